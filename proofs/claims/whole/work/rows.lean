section
-- ===== PART A: goes FIRST, ahead of the names: the tables' words, and 'selects' of the private methods out of them =====
/-- a private method of a class that the tables say can be made, by its rows of tables_1 -/
def lw_okq (q : MethodName × Nat) : Prop := (q.1.cls ≠ "java/lang/invoke/MethodHandle" ∧ q.1.cls ≠ "java/lang/invoke/VarHandle") ∧ Cond.instantiable q.1.cls q.2 ∈ tables_1 ∧ Cond.privateMethod q.1 ∈ tables_1 ∧ Cond.instanceMethod q.1 ∈ tables_1
theorem lw_p0 : lw_okq (⟨"NoBetweens$Text", "splitsIntoTokens", "()V"⟩, 10) := ⟨⟨by decide +kernel, by decide +kernel⟩, List.mem_of_getElem? (i := 21) (by decide +kernel), List.mem_of_getElem? (i := 270) (by decide +kernel), List.mem_of_getElem? (i := 271) (by decide +kernel)⟩
theorem lw_p1 : lw_okq (⟨"NoBetweens$Text", "startsToken", "(I)Z"⟩, 10) := ⟨⟨by decide +kernel, by decide +kernel⟩, List.mem_of_getElem? (i := 21) (by decide +kernel), List.mem_of_getElem? (i := 274) (by decide +kernel), List.mem_of_getElem? (i := 275) (by decide +kernel)⟩
theorem lw_p2 : lw_okq (⟨"NoBetweens$Text", "isDigit", "(I)Z"⟩, 10) := ⟨⟨by decide +kernel, by decide +kernel⟩, List.mem_of_getElem? (i := 21) (by decide +kernel), List.mem_of_getElem? (i := 278) (by decide +kernel), List.mem_of_getElem? (i := 279) (by decide +kernel)⟩
theorem lw_p3 : lw_okq (⟨"NoBetweens$Text", "tokenFrom", "(I)I"⟩, 10) := ⟨⟨by decide +kernel, by decide +kernel⟩, List.mem_of_getElem? (i := 21) (by decide +kernel), List.mem_of_getElem? (i := 282) (by decide +kernel), List.mem_of_getElem? (i := 283) (by decide +kernel)⟩
theorem lw_p4 : lw_okq (⟨"NoBetweens$Text", "numberFrom", "(I)I"⟩, 10) := ⟨⟨by decide +kernel, by decide +kernel⟩, List.mem_of_getElem? (i := 21) (by decide +kernel), List.mem_of_getElem? (i := 286) (by decide +kernel), List.mem_of_getElem? (i := 287) (by decide +kernel)⟩
theorem lw_p5 : lw_okq (⟨"NoBetweens$Text", "readsItem", "()V"⟩, 10) := ⟨⟨by decide +kernel, by decide +kernel⟩, List.mem_of_getElem? (i := 21) (by decide +kernel), List.mem_of_getElem? (i := 294) (by decide +kernel), List.mem_of_getElem? (i := 295) (by decide +kernel)⟩
theorem lw_p6 : lw_okq (⟨"NoBetweens$Text", "mayBegin", "(I)Z"⟩, 10) := ⟨⟨by decide +kernel, by decide +kernel⟩, List.mem_of_getElem? (i := 21) (by decide +kernel), List.mem_of_getElem? (i := 298) (by decide +kernel), List.mem_of_getElem? (i := 299) (by decide +kernel)⟩
theorem lw_p7 : lw_okq (⟨"NoBetweens$Text", "readsScale", "()V"⟩, 10) := ⟨⟨by decide +kernel, by decide +kernel⟩, List.mem_of_getElem? (i := 21) (by decide +kernel), List.mem_of_getElem? (i := 302) (by decide +kernel), List.mem_of_getElem? (i := 303) (by decide +kernel)⟩
theorem lw_p8 : lw_okq (⟨"NoBetweens$Text", "takesNumber", "(II)I"⟩, 10) := ⟨⟨by decide +kernel, by decide +kernel⟩, List.mem_of_getElem? (i := 21) (by decide +kernel), List.mem_of_getElem? (i := 306) (by decide +kernel), List.mem_of_getElem? (i := 307) (by decide +kernel)⟩
theorem lw_p9 : lw_okq (⟨"NoBetweens$Text", "takes", "(Z)V"⟩, 10) := ⟨⟨by decide +kernel, by decide +kernel⟩, List.mem_of_getElem? (i := 21) (by decide +kernel), List.mem_of_getElem? (i := 311) (by decide +kernel), List.mem_of_getElem? (i := 312) (by decide +kernel)⟩
theorem lw_p10 : lw_okq (⟨"NoBetweens$Text", "readsLife", "()V"⟩, 10) := ⟨⟨by decide +kernel, by decide +kernel⟩, List.mem_of_getElem? (i := 21) (by decide +kernel), List.mem_of_getElem? (i := 315) (by decide +kernel), List.mem_of_getElem? (i := 316) (by decide +kernel)⟩
theorem lw_p11 : lw_okq (⟨"NoBetweens$Text", "takesSemicolon", "()V"⟩, 10) := ⟨⟨by decide +kernel, by decide +kernel⟩, List.mem_of_getElem? (i := 21) (by decide +kernel), List.mem_of_getElem? (i := 322) (by decide +kernel), List.mem_of_getElem? (i := 323) (by decide +kernel)⟩
theorem lw_p12 : lw_okq (⟨"NoBetweens", "endBehind", "(III)I"⟩, 11) := ⟨⟨by decide +kernel, by decide +kernel⟩, List.mem_of_getElem? (i := 13) (by decide +kernel), List.mem_of_getElem? (i := 355) (by decide +kernel), List.mem_of_getElem? (i := 356) (by decide +kernel)⟩
theorem lw_p13 : lw_okq (⟨"NoBetweens", "valueBehind", "(III)I"⟩, 11) := ⟨⟨by decide +kernel, by decide +kernel⟩, List.mem_of_getElem? (i := 13) (by decide +kernel), List.mem_of_getElem? (i := 359) (by decide +kernel), List.mem_of_getElem? (i := 360) (by decide +kernel)⟩
theorem lw_p14 : lw_okq (⟨"NoBetweens", "endOf", "(II)I"⟩, 11) := ⟨⟨by decide +kernel, by decide +kernel⟩, List.mem_of_getElem? (i := 13) (by decide +kernel), List.mem_of_getElem? (i := 372) (by decide +kernel), List.mem_of_getElem? (i := 373) (by decide +kernel)⟩
theorem lw_p15 : lw_okq (⟨"NoBetweens", "goByOneYear", "()V"⟩, 11) := ⟨⟨by decide +kernel, by decide +kernel⟩, List.mem_of_getElem? (i := 13) (by decide +kernel), List.mem_of_getElem? (i := 401) (by decide +kernel), List.mem_of_getElem? (i := 402) (by decide +kernel)⟩
def lw_privs_1 : List (MethodName × Nat) := [(⟨"NoBetweens$Text", "splitsIntoTokens", "()V"⟩, 10), (⟨"NoBetweens$Text", "startsToken", "(I)Z"⟩, 10), (⟨"NoBetweens$Text", "isDigit", "(I)Z"⟩, 10), (⟨"NoBetweens$Text", "tokenFrom", "(I)I"⟩, 10), (⟨"NoBetweens$Text", "numberFrom", "(I)I"⟩, 10), (⟨"NoBetweens$Text", "readsItem", "()V"⟩, 10), (⟨"NoBetweens$Text", "mayBegin", "(I)Z"⟩, 10), (⟨"NoBetweens$Text", "readsScale", "()V"⟩, 10), (⟨"NoBetweens$Text", "takesNumber", "(II)I"⟩, 10), (⟨"NoBetweens$Text", "takes", "(Z)V"⟩, 10), (⟨"NoBetweens$Text", "readsLife", "()V"⟩, 10), (⟨"NoBetweens$Text", "takesSemicolon", "()V"⟩, 10), (⟨"NoBetweens", "endBehind", "(III)I"⟩, 11), (⟨"NoBetweens", "valueBehind", "(III)I"⟩, 11), (⟨"NoBetweens", "endOf", "(II)I"⟩, 11), (⟨"NoBetweens", "goByOneYear", "()V"⟩, 11)]
theorem lw_r1 : ∀ q ∈ lw_privs_1, lw_okq q := List.forall_mem_cons.mpr ⟨lw_p0, List.forall_mem_cons.mpr ⟨lw_p1, List.forall_mem_cons.mpr ⟨lw_p2, List.forall_mem_cons.mpr ⟨lw_p3, List.forall_mem_cons.mpr ⟨lw_p4, List.forall_mem_cons.mpr ⟨lw_p5, List.forall_mem_cons.mpr ⟨lw_p6, List.forall_mem_cons.mpr ⟨lw_p7, List.forall_mem_cons.mpr ⟨lw_p8, List.forall_mem_cons.mpr ⟨lw_p9, List.forall_mem_cons.mpr ⟨lw_p10, List.forall_mem_cons.mpr ⟨lw_p11, List.forall_mem_cons.mpr ⟨lw_p12, List.forall_mem_cons.mpr ⟨lw_p13, List.forall_mem_cons.mpr ⟨lw_p14, List.forall_mem_cons.mpr ⟨lw_p15, fun _ h => absurd h List.not_mem_nil⟩⟩⟩⟩⟩⟩⟩⟩⟩⟩⟩⟩⟩⟩⟩⟩
theorem lw_p16 : lw_okq (⟨"NoBetweens", "canBeLaw", "(III)Z"⟩, 11) := ⟨⟨by decide +kernel, by decide +kernel⟩, List.mem_of_getElem? (i := 13) (by decide +kernel), List.mem_of_getElem? (i := 413) (by decide +kernel), List.mem_of_getElem? (i := 414) (by decide +kernel)⟩
theorem lw_p17 : lw_okq (⟨"NoBetweens", "unlawfulLives", "()I"⟩, 11) := ⟨⟨by decide +kernel, by decide +kernel⟩, List.mem_of_getElem? (i := 13) (by decide +kernel), List.mem_of_getElem? (i := 417) (by decide +kernel), List.mem_of_getElem? (i := 418) (by decide +kernel)⟩
theorem lw_p18 : lw_okq (⟨"NoBetweens", "unlawfulScale", "(II)I"⟩, 11) := ⟨⟨by decide +kernel, by decide +kernel⟩, List.mem_of_getElem? (i := 13) (by decide +kernel), List.mem_of_getElem? (i := 421) (by decide +kernel), List.mem_of_getElem? (i := 422) (by decide +kernel)⟩
theorem lw_p19 : lw_okq (⟨"NoBetweens", "inTheDrawer", "()I"⟩, 11) := ⟨⟨by decide +kernel, by decide +kernel⟩, List.mem_of_getElem? (i := 13) (by decide +kernel), List.mem_of_getElem? (i := 443) (by decide +kernel), List.mem_of_getElem? (i := 444) (by decide +kernel)⟩
theorem lw_p20 : lw_okq (⟨"NoBetweens", "scalesAt", "(II)I"⟩, 11) := ⟨⟨by decide +kernel, by decide +kernel⟩, List.mem_of_getElem? (i := 13) (by decide +kernel), List.mem_of_getElem? (i := 447) (by decide +kernel), List.mem_of_getElem? (i := 448) (by decide +kernel)⟩
theorem lw_p21 : lw_okq (⟨"NoBetweens", "unlawfulYears", "(III)I"⟩, 11) := ⟨⟨by decide +kernel, by decide +kernel⟩, List.mem_of_getElem? (i := 13) (by decide +kernel), List.mem_of_getElem? (i := 464) (by decide +kernel), List.mem_of_getElem? (i := 465) (by decide +kernel)⟩
theorem lw_p22 : lw_okq (⟨"NoBetweens", "isUnlawfulBy", "(IIIII)Z"⟩, 11) := ⟨⟨by decide +kernel, by decide +kernel⟩, List.mem_of_getElem? (i := 13) (by decide +kernel), List.mem_of_getElem? (i := 468) (by decide +kernel), List.mem_of_getElem? (i := 469) (by decide +kernel)⟩
theorem lw_p23 : lw_okq (⟨"NoBetweens", "endChangesByJump", "(II)I"⟩, 11) := ⟨⟨by decide +kernel, by decide +kernel⟩, List.mem_of_getElem? (i := 13) (by decide +kernel), List.mem_of_getElem? (i := 476) (by decide +kernel), List.mem_of_getElem? (i := 477) (by decide +kernel)⟩
theorem lw_p24 : lw_okq (⟨"NoBetweens", "lawfulOrders", "(II)I"⟩, 11) := ⟨⟨by decide +kernel, by decide +kernel⟩, List.mem_of_getElem? (i := 13) (by decide +kernel), List.mem_of_getElem? (i := 496) (by decide +kernel), List.mem_of_getElem? (i := 497) (by decide +kernel)⟩
theorem lw_p25 : lw_okq (⟨"NoBetweens", "staysLawful", "(II)Z"⟩, 11) := ⟨⟨by decide +kernel, by decide +kernel⟩, List.mem_of_getElem? (i := 13) (by decide +kernel), List.mem_of_getElem? (i := 504) (by decide +kernel), List.mem_of_getElem? (i := 505) (by decide +kernel)⟩
theorem lw_p26 : lw_okq (⟨"NoBetweens", "isUnlawfulMeanwhile", "()Z"⟩, 11) := ⟨⟨by decide +kernel, by decide +kernel⟩, List.mem_of_getElem? (i := 13) (by decide +kernel), List.mem_of_getElem? (i := 508) (by decide +kernel), List.mem_of_getElem? (i := 509) (by decide +kernel)⟩
theorem lw_p27 : lw_okq (⟨"NoBetweens$Agenda", "lastRising", "(I)I"⟩, 6) := ⟨⟨by decide +kernel, by decide +kernel⟩, List.mem_of_getElem? (i := 158) (by decide +kernel), List.mem_of_getElem? (i := 521) (by decide +kernel), List.mem_of_getElem? (i := 522) (by decide +kernel)⟩
theorem lw_p28 : lw_okq (⟨"NoBetweens$Agenda", "lastAbove", "(II)I"⟩, 6) := ⟨⟨by decide +kernel, by decide +kernel⟩, List.mem_of_getElem? (i := 158) (by decide +kernel), List.mem_of_getElem? (i := 525) (by decide +kernel), List.mem_of_getElem? (i := 526) (by decide +kernel)⟩
theorem lw_p29 : lw_okq (⟨"NoBetweens$Agenda", "swaps", "(II)V"⟩, 6) := ⟨⟨by decide +kernel, by decide +kernel⟩, List.mem_of_getElem? (i := 158) (by decide +kernel), List.mem_of_getElem? (i := 529) (by decide +kernel), List.mem_of_getElem? (i := 530) (by decide +kernel)⟩
theorem lw_p30 : lw_okq (⟨"NoBetweens", "countJumpsTo", "(II)V"⟩, 11) := ⟨⟨by decide +kernel, by decide +kernel⟩, List.mem_of_getElem? (i := 13) (by decide +kernel), List.mem_of_getElem? (i := 541) (by decide +kernel), List.mem_of_getElem? (i := 542) (by decide +kernel)⟩
theorem lw_p31 : lw_okq (⟨"NoBetweens", "reachFrom", "(II)V"⟩, 11) := ⟨⟨by decide +kernel, by decide +kernel⟩, List.mem_of_getElem? (i := 13) (by decide +kernel), List.mem_of_getElem? (i := 545) (by decide +kernel), List.mem_of_getElem? (i := 546) (by decide +kernel)⟩
def lw_privs_2 : List (MethodName × Nat) := [(⟨"NoBetweens", "canBeLaw", "(III)Z"⟩, 11), (⟨"NoBetweens", "unlawfulLives", "()I"⟩, 11), (⟨"NoBetweens", "unlawfulScale", "(II)I"⟩, 11), (⟨"NoBetweens", "inTheDrawer", "()I"⟩, 11), (⟨"NoBetweens", "scalesAt", "(II)I"⟩, 11), (⟨"NoBetweens", "unlawfulYears", "(III)I"⟩, 11), (⟨"NoBetweens", "isUnlawfulBy", "(IIIII)Z"⟩, 11), (⟨"NoBetweens", "endChangesByJump", "(II)I"⟩, 11), (⟨"NoBetweens", "lawfulOrders", "(II)I"⟩, 11), (⟨"NoBetweens", "staysLawful", "(II)Z"⟩, 11), (⟨"NoBetweens", "isUnlawfulMeanwhile", "()Z"⟩, 11), (⟨"NoBetweens$Agenda", "lastRising", "(I)I"⟩, 6), (⟨"NoBetweens$Agenda", "lastAbove", "(II)I"⟩, 6), (⟨"NoBetweens$Agenda", "swaps", "(II)V"⟩, 6), (⟨"NoBetweens", "countJumpsTo", "(II)V"⟩, 11), (⟨"NoBetweens", "reachFrom", "(II)V"⟩, 11)]
theorem lw_r2 : ∀ q ∈ lw_privs_2, lw_okq q := List.forall_mem_cons.mpr ⟨lw_p16, List.forall_mem_cons.mpr ⟨lw_p17, List.forall_mem_cons.mpr ⟨lw_p18, List.forall_mem_cons.mpr ⟨lw_p19, List.forall_mem_cons.mpr ⟨lw_p20, List.forall_mem_cons.mpr ⟨lw_p21, List.forall_mem_cons.mpr ⟨lw_p22, List.forall_mem_cons.mpr ⟨lw_p23, List.forall_mem_cons.mpr ⟨lw_p24, List.forall_mem_cons.mpr ⟨lw_p25, List.forall_mem_cons.mpr ⟨lw_p26, List.forall_mem_cons.mpr ⟨lw_p27, List.forall_mem_cons.mpr ⟨lw_p28, List.forall_mem_cons.mpr ⟨lw_p29, List.forall_mem_cons.mpr ⟨lw_p30, List.forall_mem_cons.mpr ⟨lw_p31, fun _ h => absurd h List.not_mem_nil⟩⟩⟩⟩⟩⟩⟩⟩⟩⟩⟩⟩⟩⟩⟩⟩
theorem lw_p32 : lw_okq (⟨"NoBetweens", "canJump", "(III)Z"⟩, 11) := ⟨⟨by decide +kernel, by decide +kernel⟩, List.mem_of_getElem? (i := 13) (by decide +kernel), List.mem_of_getElem? (i := 549) (by decide +kernel), List.mem_of_getElem? (i := 550) (by decide +kernel)⟩
theorem lw_p33 : lw_okq (⟨"NoBetweens", "firstPlaceOnTheWay", "(II)I"⟩, 11) := ⟨⟨by decide +kernel, by decide +kernel⟩, List.mem_of_getElem? (i := 13) (by decide +kernel), List.mem_of_getElem? (i := 556) (by decide +kernel), List.mem_of_getElem? (i := 557) (by decide +kernel)⟩
theorem lw_p34 : lw_okq (⟨"NoBetweens", "fewestPartsOf", "(II)I"⟩, 11) := ⟨⟨by decide +kernel, by decide +kernel⟩, List.mem_of_getElem? (i := 13) (by decide +kernel), List.mem_of_getElem? (i := 564) (by decide +kernel), List.mem_of_getElem? (i := 565) (by decide +kernel)⟩
theorem lw_p35 : lw_okq (⟨"NoBetweens", "greatestPart", "(II)I"⟩, 11) := ⟨⟨by decide +kernel, by decide +kernel⟩, List.mem_of_getElem? (i := 13) (by decide +kernel), List.mem_of_getElem? (i := 568) (by decide +kernel), List.mem_of_getElem? (i := 569) (by decide +kernel)⟩
theorem lw_p36 : lw_okq (⟨"NoBetweens", "agreesWithBooks", "(III)Z"⟩, 11) := ⟨⟨by decide +kernel, by decide +kernel⟩, List.mem_of_getElem? (i := 13) (by decide +kernel), List.mem_of_getElem? (i := 588) (by decide +kernel), List.mem_of_getElem? (i := 589) (by decide +kernel)⟩
theorem lw_p37 : lw_okq (⟨"NoBetweens", "endInYear", "(IIII)I"⟩, 11) := ⟨⟨by decide +kernel, by decide +kernel⟩, List.mem_of_getElem? (i := 13) (by decide +kernel), List.mem_of_getElem? (i := 592) (by decide +kernel), List.mem_of_getElem? (i := 593) (by decide +kernel)⟩
theorem lw_p38 : lw_okq (⟨"NoBetweens", "areOpposed", "(II)Z"⟩, 11) := ⟨⟨by decide +kernel, by decide +kernel⟩, List.mem_of_getElem? (i := 13) (by decide +kernel), List.mem_of_getElem? (i := 604) (by decide +kernel), List.mem_of_getElem? (i := 605) (by decide +kernel)⟩
theorem lw_p39 : lw_okq (⟨"NoBetweens", "rateAsLife", "(I)I"⟩, 11) := ⟨⟨by decide +kernel, by decide +kernel⟩, List.mem_of_getElem? (i := 13) (by decide +kernel), List.mem_of_getElem? (i := 612) (by decide +kernel), List.mem_of_getElem? (i := 613) (by decide +kernel)⟩
theorem lw_p40 : lw_okq (⟨"NoBetweens", "rateAsChild", "(I)I"⟩, 11) := ⟨⟨by decide +kernel, by decide +kernel⟩, List.mem_of_getElem? (i := 13) (by decide +kernel), List.mem_of_getElem? (i := 616) (by decide +kernel), List.mem_of_getElem? (i := 617) (by decide +kernel)⟩
theorem lw_p41 : lw_okq (⟨"NoBetweens", "rateAsFiance", "(I)I"⟩, 11) := ⟨⟨by decide +kernel, by decide +kernel⟩, List.mem_of_getElem? (i := 13) (by decide +kernel), List.mem_of_getElem? (i := 621) (by decide +kernel), List.mem_of_getElem? (i := 622) (by decide +kernel)⟩
theorem lw_p42 : lw_okq (⟨"NoBetweens", "rateAsThirdSon", "(I)I"⟩, 11) := ⟨⟨by decide +kernel, by decide +kernel⟩, List.mem_of_getElem? (i := 13) (by decide +kernel), List.mem_of_getElem? (i := 626) (by decide +kernel), List.mem_of_getElem? (i := 627) (by decide +kernel)⟩
theorem lw_p43 : lw_okq (⟨"NoBetweens", "rateAsWidow", "(I)I"⟩, 11) := ⟨⟨by decide +kernel, by decide +kernel⟩, List.mem_of_getElem? (i := 13) (by decide +kernel), List.mem_of_getElem? (i := 631) (by decide +kernel), List.mem_of_getElem? (i := 632) (by decide +kernel)⟩
theorem lw_p44 : lw_okq (⟨"NoBetweens", "rateAsSmuggler", "(I)I"⟩, 11) := ⟨⟨by decide +kernel, by decide +kernel⟩, List.mem_of_getElem? (i := 13) (by decide +kernel), List.mem_of_getElem? (i := 636) (by decide +kernel), List.mem_of_getElem? (i := 637) (by decide +kernel)⟩
theorem lw_p45 : lw_okq (⟨"NoBetweensModel", "advances", "()V"⟩, 39) := ⟨⟨by decide +kernel, by decide +kernel⟩, List.mem_of_getElem? (i := 657) (by decide +kernel), List.mem_of_getElem? (i := 796) (by decide +kernel), List.mem_of_getElem? (i := 797) (by decide +kernel)⟩
theorem lw_p46 : lw_okq (⟨"NoBetweensModel", "letterAt", "(I)I"⟩, 39) := ⟨⟨by decide +kernel, by decide +kernel⟩, List.mem_of_getElem? (i := 657) (by decide +kernel), List.mem_of_getElem? (i := 800) (by decide +kernel), List.mem_of_getElem? (i := 801) (by decide +kernel)⟩
theorem lw_p47 : lw_okq (⟨"NoBetweensModel", "isWell", "()Z"⟩, 39) := ⟨⟨by decide +kernel, by decide +kernel⟩, List.mem_of_getElem? (i := 657) (by decide +kernel), List.mem_of_getElem? (i := 804) (by decide +kernel), List.mem_of_getElem? (i := 805) (by decide +kernel)⟩
def lw_privs_3 : List (MethodName × Nat) := [(⟨"NoBetweens", "canJump", "(III)Z"⟩, 11), (⟨"NoBetweens", "firstPlaceOnTheWay", "(II)I"⟩, 11), (⟨"NoBetweens", "fewestPartsOf", "(II)I"⟩, 11), (⟨"NoBetweens", "greatestPart", "(II)I"⟩, 11), (⟨"NoBetweens", "agreesWithBooks", "(III)Z"⟩, 11), (⟨"NoBetweens", "endInYear", "(IIII)I"⟩, 11), (⟨"NoBetweens", "areOpposed", "(II)Z"⟩, 11), (⟨"NoBetweens", "rateAsLife", "(I)I"⟩, 11), (⟨"NoBetweens", "rateAsChild", "(I)I"⟩, 11), (⟨"NoBetweens", "rateAsFiance", "(I)I"⟩, 11), (⟨"NoBetweens", "rateAsThirdSon", "(I)I"⟩, 11), (⟨"NoBetweens", "rateAsWidow", "(I)I"⟩, 11), (⟨"NoBetweens", "rateAsSmuggler", "(I)I"⟩, 11), (⟨"NoBetweensModel", "advances", "()V"⟩, 39), (⟨"NoBetweensModel", "letterAt", "(I)I"⟩, 39), (⟨"NoBetweensModel", "isWell", "()Z"⟩, 39)]
theorem lw_r3 : ∀ q ∈ lw_privs_3, lw_okq q := List.forall_mem_cons.mpr ⟨lw_p32, List.forall_mem_cons.mpr ⟨lw_p33, List.forall_mem_cons.mpr ⟨lw_p34, List.forall_mem_cons.mpr ⟨lw_p35, List.forall_mem_cons.mpr ⟨lw_p36, List.forall_mem_cons.mpr ⟨lw_p37, List.forall_mem_cons.mpr ⟨lw_p38, List.forall_mem_cons.mpr ⟨lw_p39, List.forall_mem_cons.mpr ⟨lw_p40, List.forall_mem_cons.mpr ⟨lw_p41, List.forall_mem_cons.mpr ⟨lw_p42, List.forall_mem_cons.mpr ⟨lw_p43, List.forall_mem_cons.mpr ⟨lw_p44, List.forall_mem_cons.mpr ⟨lw_p45, List.forall_mem_cons.mpr ⟨lw_p46, List.forall_mem_cons.mpr ⟨lw_p47, fun _ h => absurd h List.not_mem_nil⟩⟩⟩⟩⟩⟩⟩⟩⟩⟩⟩⟩⟩⟩⟩⟩
theorem lw_p48 : lw_okq (⟨"NoBetweensModel", "mayBegin", "()Z"⟩, 39) := ⟨⟨by decide +kernel, by decide +kernel⟩, List.mem_of_getElem? (i := 657) (by decide +kernel), List.mem_of_getElem? (i := 808) (by decide +kernel), List.mem_of_getElem? (i := 809) (by decide +kernel)⟩
theorem lw_p49 : lw_okq (⟨"NoBetweensModel", "takes", "(Z)I"⟩, 39) := ⟨⟨by decide +kernel, by decide +kernel⟩, List.mem_of_getElem? (i := 657) (by decide +kernel), List.mem_of_getElem? (i := 812) (by decide +kernel), List.mem_of_getElem? (i := 813) (by decide +kernel)⟩
theorem lw_p50 : lw_okq (⟨"NoBetweensModel", "readsItem", "(I)V"⟩, 39) := ⟨⟨by decide +kernel, by decide +kernel⟩, List.mem_of_getElem? (i := 657) (by decide +kernel), List.mem_of_getElem? (i := 816) (by decide +kernel), List.mem_of_getElem? (i := 817) (by decide +kernel)⟩
theorem lw_p51 : lw_okq (⟨"NoBetweensModel", "number", "(II)I"⟩, 39) := ⟨⟨by decide +kernel, by decide +kernel⟩, List.mem_of_getElem? (i := 657) (by decide +kernel), List.mem_of_getElem? (i := 820) (by decide +kernel), List.mem_of_getElem? (i := 821) (by decide +kernel)⟩
theorem lw_p52 : lw_okq (⟨"NoBetweensModel", "settles", "()V"⟩, 39) := ⟨⟨by decide +kernel, by decide +kernel⟩, List.mem_of_getElem? (i := 657) (by decide +kernel), List.mem_of_getElem? (i := 824) (by decide +kernel), List.mem_of_getElem? (i := 825) (by decide +kernel)⟩
theorem lw_p53 : lw_okq (⟨"NoBetweensModel", "isScale", "(I)Z"⟩, 39) := ⟨⟨by decide +kernel, by decide +kernel⟩, List.mem_of_getElem? (i := 657) (by decide +kernel), List.mem_of_getElem? (i := 832) (by decide +kernel), List.mem_of_getElem? (i := 833) (by decide +kernel)⟩
theorem lw_p54 : lw_okq (⟨"NoBetweensModel", "isLife", "(I)Z"⟩, 39) := ⟨⟨by decide +kernel, by decide +kernel⟩, List.mem_of_getElem? (i := 657) (by decide +kernel), List.mem_of_getElem? (i := 840) (by decide +kernel), List.mem_of_getElem? (i := 841) (by decide +kernel)⟩
theorem lw_p55 : lw_okq (⟨"NoBetweensModel", "endIn", "([III)I"⟩, 39) := ⟨⟨by decide +kernel, by decide +kernel⟩, List.mem_of_getElem? (i := 657) (by decide +kernel), List.mem_of_getElem? (i := 844) (by decide +kernel), List.mem_of_getElem? (i := 845) (by decide +kernel)⟩
theorem lw_p56 : lw_okq (⟨"NoBetweensModel", "endOf", "([III)I"⟩, 39) := ⟨⟨by decide +kernel, by decide +kernel⟩, List.mem_of_getElem? (i := 657) (by decide +kernel), List.mem_of_getElem? (i := 848) (by decide +kernel), List.mem_of_getElem? (i := 849) (by decide +kernel)⟩
theorem lw_p57 : lw_okq (⟨"NoBetweensModel", "isPlace", "(I)Z"⟩, 39) := ⟨⟨by decide +kernel, by decide +kernel⟩, List.mem_of_getElem? (i := 657) (by decide +kernel), List.mem_of_getElem? (i := 863) (by decide +kernel), List.mem_of_getElem? (i := 864) (by decide +kernel)⟩
theorem lw_p58 : lw_okq (⟨"NoBetweensModel", "notes", "()V"⟩, 39) := ⟨⟨by decide +kernel, by decide +kernel⟩, List.mem_of_getElem? (i := 657) (by decide +kernel), List.mem_of_getElem? (i := 871) (by decide +kernel), List.mem_of_getElem? (i := 872) (by decide +kernel)⟩
theorem lw_p59 : lw_okq (⟨"NoBetweensModel", "goes", "([I)V"⟩, 39) := ⟨⟨by decide +kernel, by decide +kernel⟩, List.mem_of_getElem? (i := 657) (by decide +kernel), List.mem_of_getElem? (i := 875) (by decide +kernel), List.mem_of_getElem? (i := 876) (by decide +kernel)⟩
theorem lw_p60 : lw_okq (⟨"NoBetweensModel", "isLaw", "(III)Z"⟩, 39) := ⟨⟨by decide +kernel, by decide +kernel⟩, List.mem_of_getElem? (i := 657) (by decide +kernel), List.mem_of_getElem? (i := 890) (by decide +kernel), List.mem_of_getElem? (i := 891) (by decide +kernel)⟩
theorem lw_p61 : lw_okq (⟨"NoBetweensModel", "unlawful", "([I)I"⟩, 39) := ⟨⟨by decide +kernel, by decide +kernel⟩, List.mem_of_getElem? (i := 657) (by decide +kernel), List.mem_of_getElem? (i := 894) (by decide +kernel), List.mem_of_getElem? (i := 895) (by decide +kernel)⟩
theorem lw_p62 : lw_okq (⟨"NoBetweensModel", "unlawfulOn", "([II)I"⟩, 39) := ⟨⟨by decide +kernel, by decide +kernel⟩, List.mem_of_getElem? (i := 657) (by decide +kernel), List.mem_of_getElem? (i := 898) (by decide +kernel), List.mem_of_getElem? (i := 899) (by decide +kernel)⟩
theorem lw_p63 : lw_okq (⟨"NoBetweensModel", "inDrawer", "()I"⟩, 39) := ⟨⟨by decide +kernel, by decide +kernel⟩, List.mem_of_getElem? (i := 657) (by decide +kernel), List.mem_of_getElem? (i := 913) (by decide +kernel), List.mem_of_getElem? (i := 914) (by decide +kernel)⟩
def lw_privs_4 : List (MethodName × Nat) := [(⟨"NoBetweensModel", "mayBegin", "()Z"⟩, 39), (⟨"NoBetweensModel", "takes", "(Z)I"⟩, 39), (⟨"NoBetweensModel", "readsItem", "(I)V"⟩, 39), (⟨"NoBetweensModel", "number", "(II)I"⟩, 39), (⟨"NoBetweensModel", "settles", "()V"⟩, 39), (⟨"NoBetweensModel", "isScale", "(I)Z"⟩, 39), (⟨"NoBetweensModel", "isLife", "(I)Z"⟩, 39), (⟨"NoBetweensModel", "endIn", "([III)I"⟩, 39), (⟨"NoBetweensModel", "endOf", "([III)I"⟩, 39), (⟨"NoBetweensModel", "isPlace", "(I)Z"⟩, 39), (⟨"NoBetweensModel", "notes", "()V"⟩, 39), (⟨"NoBetweensModel", "goes", "([I)V"⟩, 39), (⟨"NoBetweensModel", "isLaw", "(III)Z"⟩, 39), (⟨"NoBetweensModel", "unlawful", "([I)I"⟩, 39), (⟨"NoBetweensModel", "unlawfulOn", "([II)I"⟩, 39), (⟨"NoBetweensModel", "inDrawer", "()I"⟩, 39)]
theorem lw_r4 : ∀ q ∈ lw_privs_4, lw_okq q := List.forall_mem_cons.mpr ⟨lw_p48, List.forall_mem_cons.mpr ⟨lw_p49, List.forall_mem_cons.mpr ⟨lw_p50, List.forall_mem_cons.mpr ⟨lw_p51, List.forall_mem_cons.mpr ⟨lw_p52, List.forall_mem_cons.mpr ⟨lw_p53, List.forall_mem_cons.mpr ⟨lw_p54, List.forall_mem_cons.mpr ⟨lw_p55, List.forall_mem_cons.mpr ⟨lw_p56, List.forall_mem_cons.mpr ⟨lw_p57, List.forall_mem_cons.mpr ⟨lw_p58, List.forall_mem_cons.mpr ⟨lw_p59, List.forall_mem_cons.mpr ⟨lw_p60, List.forall_mem_cons.mpr ⟨lw_p61, List.forall_mem_cons.mpr ⟨lw_p62, List.forall_mem_cons.mpr ⟨lw_p63, fun _ h => absurd h List.not_mem_nil⟩⟩⟩⟩⟩⟩⟩⟩⟩⟩⟩⟩⟩⟩⟩⟩
theorem lw_p64 : lw_okq (⟨"NoBetweensModel", "countEnds", "(II)I"⟩, 39) := ⟨⟨by decide +kernel, by decide +kernel⟩, List.mem_of_getElem? (i := 657) (by decide +kernel), List.mem_of_getElem? (i := 917) (by decide +kernel), List.mem_of_getElem? (i := 918) (by decide +kernel)⟩
theorem lw_p65 : lw_okq (⟨"NoBetweensModel", "asNow", "()V"⟩, 39) := ⟨⟨by decide +kernel, by decide +kernel⟩, List.mem_of_getElem? (i := 657) (by decide +kernel), List.mem_of_getElem? (i := 925) (by decide +kernel), List.mem_of_getElem? (i := 926) (by decide +kernel)⟩
theorem lw_p66 : lw_okq (⟨"NoBetweensModel", "unlawfulYears", "()I"⟩, 39) := ⟨⟨by decide +kernel, by decide +kernel⟩, List.mem_of_getElem? (i := 657) (by decide +kernel), List.mem_of_getElem? (i := 938) (by decide +kernel), List.mem_of_getElem? (i := 939) (by decide +kernel)⟩
theorem lw_p67 : lw_okq (⟨"NoBetweensModel", "jumpsOn", "(II)I"⟩, 39) := ⟨⟨by decide +kernel, by decide +kernel⟩, List.mem_of_getElem? (i := 657) (by decide +kernel), List.mem_of_getElem? (i := 946) (by decide +kernel), List.mem_of_getElem? (i := 947) (by decide +kernel)⟩
theorem lw_p68 : lw_okq (⟨"NoBetweensModel", "ordersOf", "(II)I"⟩, 39) := ⟨⟨by decide +kernel, by decide +kernel⟩, List.mem_of_getElem? (i := 657) (by decide +kernel), List.mem_of_getElem? (i := 962) (by decide +kernel), List.mem_of_getElem? (i := 963) (by decide +kernel)⟩
theorem lw_p69 : lw_okq (⟨"NoBetweensModel", "isOrder", "(IIII)Z"⟩, 39) := ⟨⟨by decide +kernel, by decide +kernel⟩, List.mem_of_getElem? (i := 657) (by decide +kernel), List.mem_of_getElem? (i := 966) (by decide +kernel), List.mem_of_getElem? (i := 967) (by decide +kernel)⟩
theorem lw_p70 : lw_okq (⟨"NoBetweensModel", "measures", "(II)V"⟩, 39) := ⟨⟨by decide +kernel, by decide +kernel⟩, List.mem_of_getElem? (i := 657) (by decide +kernel), List.mem_of_getElem? (i := 978) (by decide +kernel), List.mem_of_getElem? (i := 979) (by decide +kernel)⟩
theorem lw_p71 : lw_okq (⟨"NoBetweensModel", "canJump", "(III)Z"⟩, 39) := ⟨⟨by decide +kernel, by decide +kernel⟩, List.mem_of_getElem? (i := 657) (by decide +kernel), List.mem_of_getElem? (i := 982) (by decide +kernel), List.mem_of_getElem? (i := 983) (by decide +kernel)⟩
theorem lw_p72 : lw_okq (⟨"NoBetweensModel", "shares", "(II)V"⟩, 39) := ⟨⟨by decide +kernel, by decide +kernel⟩, List.mem_of_getElem? (i := 657) (by decide +kernel), List.mem_of_getElem? (i := 990) (by decide +kernel), List.mem_of_getElem? (i := 991) (by decide +kernel)⟩
theorem lw_p73 : lw_okq (⟨"NoBetweensModel", "isPart", "(II)Z"⟩, 39) := ⟨⟨by decide +kernel, by decide +kernel⟩, List.mem_of_getElem? (i := 657) (by decide +kernel), List.mem_of_getElem? (i := 994) (by decide +kernel), List.mem_of_getElem? (i := 995) (by decide +kernel)⟩
theorem lw_p74 : lw_okq (⟨"NoBetweensModel", "isAsBooked", "(III)Z"⟩, 39) := ⟨⟨by decide +kernel, by decide +kernel⟩, List.mem_of_getElem? (i := 657) (by decide +kernel), List.mem_of_getElem? (i := 1010) (by decide +kernel), List.mem_of_getElem? (i := 1011) (by decide +kernel)⟩
theorem lw_p75 : lw_okq (⟨"NoBetweensModel", "endBehind", "(IIII)I"⟩, 39) := ⟨⟨by decide +kernel, by decide +kernel⟩, List.mem_of_getElem? (i := 657) (by decide +kernel), List.mem_of_getElem? (i := 1014) (by decide +kernel), List.mem_of_getElem? (i := 1015) (by decide +kernel)⟩
theorem lw_p76 : lw_okq (⟨"NoBetweensModel", "isClash", "(II)Z"⟩, 39) := ⟨⟨by decide +kernel, by decide +kernel⟩, List.mem_of_getElem? (i := 657) (by decide +kernel), List.mem_of_getElem? (i := 1026) (by decide +kernel), List.mem_of_getElem? (i := 1027) (by decide +kernel)⟩
def lw_privs_5 : List (MethodName × Nat) := [(⟨"NoBetweensModel", "countEnds", "(II)I"⟩, 39), (⟨"NoBetweensModel", "asNow", "()V"⟩, 39), (⟨"NoBetweensModel", "unlawfulYears", "()I"⟩, 39), (⟨"NoBetweensModel", "jumpsOn", "(II)I"⟩, 39), (⟨"NoBetweensModel", "ordersOf", "(II)I"⟩, 39), (⟨"NoBetweensModel", "isOrder", "(IIII)Z"⟩, 39), (⟨"NoBetweensModel", "measures", "(II)V"⟩, 39), (⟨"NoBetweensModel", "canJump", "(III)Z"⟩, 39), (⟨"NoBetweensModel", "shares", "(II)V"⟩, 39), (⟨"NoBetweensModel", "isPart", "(II)Z"⟩, 39), (⟨"NoBetweensModel", "isAsBooked", "(III)Z"⟩, 39), (⟨"NoBetweensModel", "endBehind", "(IIII)I"⟩, 39), (⟨"NoBetweensModel", "isClash", "(II)Z"⟩, 39)]
theorem lw_r5 : ∀ q ∈ lw_privs_5, lw_okq q := List.forall_mem_cons.mpr ⟨lw_p64, List.forall_mem_cons.mpr ⟨lw_p65, List.forall_mem_cons.mpr ⟨lw_p66, List.forall_mem_cons.mpr ⟨lw_p67, List.forall_mem_cons.mpr ⟨lw_p68, List.forall_mem_cons.mpr ⟨lw_p69, List.forall_mem_cons.mpr ⟨lw_p70, List.forall_mem_cons.mpr ⟨lw_p71, List.forall_mem_cons.mpr ⟨lw_p72, List.forall_mem_cons.mpr ⟨lw_p73, List.forall_mem_cons.mpr ⟨lw_p74, List.forall_mem_cons.mpr ⟨lw_p75, List.forall_mem_cons.mpr ⟨lw_p76, fun _ h => absurd h List.not_mem_nil⟩⟩⟩⟩⟩⟩⟩⟩⟩⟩⟩⟩⟩
def lw_privs : List (MethodName × Nat) := lw_privs_1 ++ (lw_privs_2 ++ (lw_privs_3 ++ (lw_privs_4 ++ (lw_privs_5))))
def lw_tbl : List Cond := k2_sels lw_privs ++ tables_1
theorem lw_privs_ok : ∀ q ∈ lw_privs, lw_okq q := by
  show ∀ q ∈ lw_privs_1 ++ (lw_privs_2 ++ (lw_privs_3 ++ (lw_privs_4 ++ (lw_privs_5)))), lw_okq q
  exact List.forall_mem_append.mpr ⟨lw_r1, List.forall_mem_append.mpr ⟨lw_r2, List.forall_mem_append.mpr ⟨lw_r3, List.forall_mem_append.mpr ⟨lw_r4, lw_r5⟩⟩⟩⟩
-- ===== end of PART A; then your names; then what follows =====
/-! ===== BEGIN words of one list among another's, by their places ===== -/
theorem goodIn_r {big : List Cond} (ws : List Cond) (ps : List Nat) (hp : ws = ps.filterMap (fun i => big[i]?)) (h : ws.all goodWord = true) : GoodIn big ws := by
  intro w hw
  have h1 := List.all_eq_true.mp h w hw
  rw [hp] at hw
  obtain ⟨i, -, hi⟩ := List.mem_filterMap.mp hw
  have hm : w ∈ big := by first | exact List.mem_of_getElem? hi | exact List.getElem?_mem hi
  exact ⟨hm, good_of_word h1⟩
theorem goodIn_app {big a b : List Cond} (ha : GoodIn big a) (hb : GoodIn big b) : GoodIn big (a ++ b) := fun w h => (List.mem_append.mp h).elim (ha w) (hb w)
theorem goodIn_ca {big a b : List Cond} {c : Cond} (ha : GoodIn big (c :: a)) (hb : GoodIn big b) : GoodIn big (c :: (a ++ b)) := fun w h => (List.mem_cons.mp h).elim (fun e => ha w (List.mem_cons.mpr (Or.inl e))) (fun h => (List.mem_append.mp h).elim (fun h => ha w (List.mem_cons.mpr (Or.inr h))) (hb w))
theorem goodIn_sub {big ws : List Cond} (hm : ∀ w ∈ ws, w ∈ big) (h : ws.all goodWord = true) : GoodIn big ws := fun w hw => ⟨hm w hw, good_of_word (List.all_eq_true.mp h w hw)⟩
/-! ===== END ===== -/

/-! ===== BEGIN printed: names, fields, word lists, decode rows ===== -/
def RX0 : String := "NoBetweens$Agenda"
def TX0 : u_T := fun k => match k with
  | 0 => ("NoBetweens$Agenda", "size", "I", false)
  | 1 => ("NoBetweens$Agenda", "scales", "[I", true)
  | 2 => ("NoBetweens$Agenda", "bys", "[I", true)
  | 3 => ("NoBetweens$Agenda", "order", "[I", true)
  | 4 => ("NoBetweens$Agenda", "firstOrder", "[I", true)
  | _ => ("NoBetweens$Agenda", "values", "[I", true)
def tyX0 : Nat → FieldType := fun k => match k with
  | 0 => .int
  | 1 => .array .int
  | 2 => .array .int
  | 3 => .array .int
  | 4 => .array .int
  | _ => .array .int
abbrev wsX00 : List Cond := u_ws RX0 TX0 6
theorem nmX0 : ∀ a, a < 6 → ∀ b, b < 6 → a ≠ b → (TX0 a).2.1 ≠ (TX0 b).2.1 := by decide +kernel
theorem tyX0_ok : ∀ k, k < 6 → parseFieldDescriptor (TX0 k).2.2.1 = some (tyX0 k) := by decide +kernel
abbrev cX0_init : ByteArray := prog_2_method_1_code
def yX0_init : MethodName := ⟨RX0, "<init>", "()V"⟩
abbrev cX0_adds : ByteArray := prog_2_method_2_code
def yX0_adds : MethodName := ⟨RX0, "adds", "(II)V"⟩
abbrev cX0_keepsAsFirst : ByteArray := prog_2_method_3_code
def yX0_keepsAsFirst : MethodName := ⟨RX0, "keepsAsFirst", "()V"⟩
abbrev cX0_startsOrders : ByteArray := prog_2_method_4_code
def yX0_startsOrders : MethodName := ⟨RX0, "startsOrders", "(I)I"⟩
abbrev cX0_goesToNextOrder : ByteArray := prog_2_method_5_code
def yX0_goesToNextOrder : MethodName := ⟨RX0, "goesToNextOrder", "(I)Z"⟩
abbrev cX0_lastRising : ByteArray := prog_2_method_6_code
def yX0_lastRising : MethodName := ⟨RX0, "lastRising", "(I)I"⟩
abbrev cX0_lastAbove : ByteArray := prog_2_method_7_code
def yX0_lastAbove : MethodName := ⟨RX0, "lastAbove", "(II)I"⟩
abbrev cX0_swaps : ByteArray := prog_2_method_8_code
def yX0_swaps : MethodName := ⟨RX0, "swaps", "(II)V"⟩
def RX1 : String := "NoBetweens$Land"
def TX1 : u_T := fun k => match k with
  | 0 => ("NoBetweens$Land", "scales", "I", false)
  | 1 => ("NoBetweens$Land", "lives", "I", false)
  | 2 => ("NoBetweens$Land", "places", "I", false)
  | 3 => ("NoBetweens$Land", "drawer", "I", false)
  | 4 => ("NoBetweens$Land", "ranges", "[I", true)
  | 5 => ("NoBetweens$Land", "steps", "[I", true)
  | _ => ("NoBetweens$Land", "spots", "[I", true)
def tyX1 : Nat → FieldType := fun k => match k with
  | 0 => .int
  | 1 => .int
  | 2 => .int
  | 3 => .int
  | 4 => .array .int
  | 5 => .array .int
  | _ => .array .int
abbrev wsX10 : List Cond := u_ws RX1 TX1 7
theorem nmX1 : ∀ a, a < 7 → ∀ b, b < 7 → a ≠ b → (TX1 a).2.1 ≠ (TX1 b).2.1 := by decide +kernel
theorem tyX1_ok : ∀ k, k < 7 → parseFieldDescriptor (TX1 k).2.2.1 = some (tyX1 k) := by decide +kernel
abbrev cX1_init : ByteArray := prog_3_method_1_code
def yX1_init : MethodName := ⟨RX1, "<init>", "()V"⟩
abbrev cX1_empties : ByteArray := prog_3_method_2_code
def yX1_empties : MethodName := ⟨RX1, "empties", "()V"⟩
abbrev cX1_becomes : ByteArray := prog_3_method_3_code
def yX1_becomes : MethodName := ⟨RX1, "becomes", "(LNoBetweens$Land;)V"⟩
abbrev cX1_hasScale : ByteArray := prog_3_method_4_code
def yX1_hasScale : MethodName := ⟨RX1, "hasScale", "(I)Z"⟩
abbrev cX1_hasLife : ByteArray := prog_3_method_5_code
def yX1_hasLife : MethodName := ⟨RX1, "hasLife", "(I)Z"⟩
abbrev cX1_hasPlace : ByteArray := prog_3_method_6_code
def yX1_hasPlace : MethodName := ⟨RX1, "hasPlace", "(I)Z"⟩
def RX2 : String := "NoBetweens$Moment"
def TX2 : u_T := fun k => match k with
  | 0 => ("NoBetweens$Moment", "year", "I", false)
  | 1 => ("NoBetweens$Moment", "jumps", "I", false)
  | 2 => ("NoBetweens$Moment", "values", "[I", true)
  | 3 => ("NoBetweens$Moment", "laws", "[I", true)
  | _ => ("NoBetweens$Moment", "marks", "[I", true)
def tyX2 : Nat → FieldType := fun k => match k with
  | 0 => .int
  | 1 => .int
  | 2 => .array .int
  | 3 => .array .int
  | _ => .array .int
abbrev wsX20 : List Cond := u_ws RX2 TX2 5
theorem nmX2 : ∀ a, a < 5 → ∀ b, b < 5 → a ≠ b → (TX2 a).2.1 ≠ (TX2 b).2.1 := by decide +kernel
theorem tyX2_ok : ∀ k, k < 5 → parseFieldDescriptor (TX2 k).2.2.1 = some (tyX2 k) := by decide +kernel
abbrev cX2_init : ByteArray := prog_4_method_1_code
def yX2_init : MethodName := ⟨RX2, "<init>", "()V"⟩
abbrev cX2_becomes : ByteArray := prog_4_method_2_code
def yX2_becomes : MethodName := ⟨RX2, "becomes", "(LNoBetweens$Moment;)V"⟩
def RX3 : String := "NoBetweens$Past"
def TX3 : u_T := fun k => match k with
  | 0 => ("NoBetweens$Past", "known", "I", false)
  | 1 => ("NoBetweens$Past", "next", "I", false)
  | _ => ("NoBetweens$Past", "ring", "[LNoBetweens$Moment;", true)
def tyX3 : Nat → FieldType := fun k => match k with
  | 0 => .int
  | 1 => .int
  | _ => .array (.object "NoBetweens$Moment")
abbrev wsX30 : List Cond := u_ws RX3 TX3 3
theorem nmX3 : ∀ a, a < 3 → ∀ b, b < 3 → a ≠ b → (TX3 a).2.1 ≠ (TX3 b).2.1 := by decide +kernel
theorem tyX3_ok : ∀ k, k < 3 → parseFieldDescriptor (TX3 k).2.2.1 = some (tyX3 k) := by decide +kernel
abbrev cX3_init : ByteArray := prog_5_method_1_code
def yX3_init : MethodName := ⟨RX3, "<init>", "()V"⟩
abbrev cX3_remembers : ByteArray := prog_5_method_2_code
def yX3_remembers : MethodName := ⟨RX3, "remembers", "(LNoBetweens$Moment;)V"⟩
abbrev cX3_givesBack : ByteArray := prog_5_method_3_code
def yX3_givesBack : MethodName := ⟨RX3, "givesBack", "(LNoBetweens$Moment;)V"⟩
def RX4 : String := "NoBetweens$Register"
def TX4 : u_T := fun k => match k with
  | 0 => ("NoBetweens$Register", "size", "I", false)
  | 1 => ("NoBetweens$Register", "scales", "[I", true)
  | 2 => ("NoBetweens$Register", "years", "[I", true)
  | _ => ("NoBetweens$Register", "ends", "[I", true)
def tyX4 : Nat → FieldType := fun k => match k with
  | 0 => .int
  | 1 => .array .int
  | 2 => .array .int
  | _ => .array .int
abbrev wsX40 : List Cond := u_ws RX4 TX4 4
theorem nmX4 : ∀ a, a < 4 → ∀ b, b < 4 → a ≠ b → (TX4 a).2.1 ≠ (TX4 b).2.1 := by decide +kernel
theorem tyX4_ok : ∀ k, k < 4 → parseFieldDescriptor (TX4 k).2.2.1 = some (tyX4 k) := by decide +kernel
abbrev cX4_init : ByteArray := prog_6_method_1_code
def yX4_init : MethodName := ⟨RX4, "<init>", "()V"⟩
abbrev cX4_adds : ByteArray := prog_6_method_2_code
def yX4_adds : MethodName := ⟨RX4, "adds", "(III)V"⟩
def RX5 : String := "NoBetweens$Text"
def TX5 : u_T := fun k => match k with
  | 0 => ("NoBetweens$Text", "length", "I", false)
  | 1 => ("NoBetweens$Text", "land", "LNoBetweens$Land;", true)
  | 2 => ("NoBetweens$Text", "moment", "LNoBetweens$Moment;", true)
  | 3 => ("NoBetweens$Text", "letters", "[I", true)
  | 4 => ("NoBetweens$Text", "tokens", "[I", true)
  | 5 => ("NoBetweens$Text", "starts", "[I", true)
  | 6 => ("NoBetweens$Text", "next", "I", false)
  | 7 => ("NoBetweens$Text", "items", "I", false)
  | 8 => ("NoBetweens$Text", "fault", "I", false)
  | _ => ("NoBetweens$Text", "drawerTold", "Z", false)
def tyX5 : Nat → FieldType := fun k => match k with
  | 0 => .int
  | 1 => .object "NoBetweens$Land"
  | 2 => .object "NoBetweens$Moment"
  | 3 => .array .int
  | 4 => .array .int
  | 5 => .array .int
  | 6 => .int
  | 7 => .int
  | 8 => .int
  | _ => .boolean
abbrev wsX50 : List Cond := u_ws RX5 TX5 10
theorem nmX5 : ∀ a, a < 10 → ∀ b, b < 10 → a ≠ b → (TX5 a).2.1 ≠ (TX5 b).2.1 := by decide +kernel
theorem tyX5_ok : ∀ k, k < 10 → parseFieldDescriptor (TX5 k).2.2.1 = some (tyX5 k) := by decide +kernel
abbrev cX5_init : ByteArray := prog_7_method_1_code
def yX5_init : MethodName := ⟨RX5, "<init>", "()V"⟩
abbrev cX5_adds : ByteArray := prog_7_method_2_code
def yX5_adds : MethodName := ⟨RX5, "adds", "(I)V"⟩
abbrev cX5_reads : ByteArray := prog_7_method_3_code
def yX5_reads : MethodName := ⟨RX5, "reads", "()I"⟩
abbrev cX5_splitsIntoTokens : ByteArray := prog_7_method_4_code
def yX5_splitsIntoTokens : MethodName := ⟨RX5, "splitsIntoTokens", "()V"⟩
abbrev cX5_startsToken : ByteArray := prog_7_method_5_code
def yX5_startsToken : MethodName := ⟨RX5, "startsToken", "(I)Z"⟩
abbrev cX5_tokenFrom : ByteArray := prog_7_method_6_code
def yX5_tokenFrom : MethodName := ⟨RX5, "tokenFrom", "(I)I"⟩
abbrev cX5_numberFrom : ByteArray := prog_7_method_7_code
def yX5_numberFrom : MethodName := ⟨RX5, "numberFrom", "(I)I"⟩
abbrev cX5_isDigit : ByteArray := prog_7_method_8_code
def yX5_isDigit : MethodName := ⟨RX5, "isDigit", "(I)Z"⟩
abbrev cX5_readsItem : ByteArray := prog_7_method_9_code
def yX5_readsItem : MethodName := ⟨RX5, "readsItem", "()V"⟩
abbrev cX5_mayBegin : ByteArray := prog_7_method_10_code
def yX5_mayBegin : MethodName := ⟨RX5, "mayBegin", "(I)Z"⟩
abbrev cX5_readsScale : ByteArray := prog_7_method_11_code
def yX5_readsScale : MethodName := ⟨RX5, "readsScale", "()V"⟩
abbrev cX5_readsLife : ByteArray := prog_7_method_12_code
def yX5_readsLife : MethodName := ⟨RX5, "readsLife", "()V"⟩
abbrev cX5_takesNumber : ByteArray := prog_7_method_13_code
def yX5_takesNumber : MethodName := ⟨RX5, "takesNumber", "(II)I"⟩
abbrev cX5_takesSemicolon : ByteArray := prog_7_method_14_code
def yX5_takesSemicolon : MethodName := ⟨RX5, "takesSemicolon", "()V"⟩
abbrev cX5_takes : ByteArray := prog_7_method_15_code
def yX5_takes : MethodName := ⟨RX5, "takes", "(Z)V"⟩
def RX6 : String := "NoBetweens"
def TX6 : u_T := fun k => match k with
  | 0 => ("NoBetweens", "text", "LNoBetweens$Text;", true)
  | 1 => ("NoBetweens", "told", "LNoBetweens$Land;", true)
  | 2 => ("NoBetweens", "present", "LNoBetweens$Moment;", true)
  | 3 => ("NoBetweens", "past", "LNoBetweens$Past;", true)
  | 4 => ("NoBetweens", "images", "[LNoBetweens$Moment;", true)
  | 5 => ("NoBetweens", "kept", "[Z", true)
  | 6 => ("NoBetweens", "agenda", "LNoBetweens$Agenda;", true)
  | 7 => ("NoBetweens", "register", "LNoBetweens$Register;", true)
  | 8 => ("NoBetweens", "jumpsToGo", "[I", true)
  | 9 => ("NoBetweens", "fewestParts", "[I", true)
  | _ => ("NoBetweens", "traced", "J", false)
def tyX6 : Nat → FieldType := fun k => match k with
  | 0 => .object "NoBetweens$Text"
  | 1 => .object "NoBetweens$Land"
  | 2 => .object "NoBetweens$Moment"
  | 3 => .object "NoBetweens$Past"
  | 4 => .array (.object "NoBetweens$Moment")
  | 5 => .array .boolean
  | 6 => .object "NoBetweens$Agenda"
  | 7 => .object "NoBetweens$Register"
  | 8 => .array .int
  | 9 => .array .int
  | _ => .long
abbrev wsX60 : List Cond := u_ws RX6 TX6 11
theorem nmX6 : ∀ a, a < 11 → ∀ b, b < 11 → a ≠ b → (TX6 a).2.1 ≠ (TX6 b).2.1 := by decide +kernel
theorem tyX6_ok : ∀ k, k < 11 → parseFieldDescriptor (TX6 k).2.2.1 = some (tyX6 k) := by decide +kernel
abbrev cX6_init : ByteArray := prog_1_method_1_code
def yX6_init : MethodName := ⟨RX6, "<init>", "()V"⟩
abbrev cX6_type : ByteArray := prog_1_method_2_code
def yX6_type : MethodName := ⟨RX6, "type", "(I)I"⟩
abbrev cX6_clear : ByteArray := prog_1_method_3_code
def yX6_clear : MethodName := ⟨RX6, "clear", "()I"⟩
abbrev cX6_land : ByteArray := prog_1_method_4_code
def yX6_land : MethodName := ⟨RX6, "land", "()I"⟩
abbrev cX6_scale : ByteArray := prog_1_method_5_code
def yX6_scale : MethodName := ⟨RX6, "scale", "(II)I"⟩
abbrev cX6_life : ByteArray := prog_1_method_6_code
def yX6_life : MethodName := ⟨RX6, "life", "(III)I"⟩
abbrev cX6_end : ByteArray := prog_1_method_7_code
def yX6_end : MethodName := ⟨RX6, "end", "(II)I"⟩
abbrev cX6_place : ByteArray := prog_1_method_8_code
def yX6_place : MethodName := ⟨RX6, "place", "(I)I"⟩
abbrev cX6_passes : ByteArray := prog_1_method_9_code
def yX6_passes : MethodName := ⟨RX6, "passes", "(I)I"⟩
abbrev cX6_changes : ByteArray := prog_1_method_10_code
def yX6_changes : MethodName := ⟨RX6, "changes", "(III)I"⟩
abbrev cX6_law : ByteArray := prog_1_method_11_code
def yX6_law : MethodName := ⟨RX6, "law", "(III)I"⟩
abbrev cX6_undo : ByteArray := prog_1_method_12_code
def yX6_undo : MethodName := ⟨RX6, "undo", "()I"⟩
abbrev cX6_now : ByteArray := prog_1_method_13_code
def yX6_now : MethodName := ⟨RX6, "now", "(I)I"⟩
abbrev cX6_behind : ByteArray := prog_1_method_14_code
def yX6_behind : MethodName := ⟨RX6, "behind", "(III)I"⟩
abbrev cX6_first : ByteArray := prog_1_method_15_code
def yX6_first : MethodName := ⟨RX6, "first", "(II)I"⟩
abbrev cX6_freed : ByteArray := prog_1_method_16_code
def yX6_freed : MethodName := ⟨RX6, "freed", "(III)I"⟩
abbrev cX6_bestJump : ByteArray := prog_1_method_17_code
def yX6_bestJump : MethodName := ⟨RX6, "bestJump", "(II)I"⟩
abbrev cX6_plans : ByteArray := prog_1_method_18_code
def yX6_plans : MethodName := ⟨RX6, "plans", "(II)I"⟩
abbrev cX6_drop : ByteArray := prog_1_method_19_code
def yX6_drop : MethodName := ⟨RX6, "drop", "()I"⟩
abbrev cX6_orders : ByteArray := prog_1_method_20_code
def yX6_orders : MethodName := ⟨RX6, "orders", "(II)I"⟩
abbrev cX6_bars : ByteArray := prog_1_method_21_code
def yX6_bars : MethodName := ⟨RX6, "bars", "(I)I"⟩
abbrev cX6_trip : ByteArray := prog_1_method_22_code
def yX6_trip : MethodName := ⟨RX6, "trip", "(IIII)I"⟩
abbrev cX6_parts : ByteArray := prog_1_method_23_code
def yX6_parts : MethodName := ⟨RX6, "parts", "(III)I"⟩
abbrev cX6_books : ByteArray := prog_1_method_24_code
def yX6_books : MethodName := ⟨RX6, "books", "(III)I"⟩
abbrev cX6_burn : ByteArray := prog_1_method_25_code
def yX6_burn : MethodName := ⟨RX6, "burn", "()I"⟩
abbrev cX6_fits : ByteArray := prog_1_method_26_code
def yX6_fits : MethodName := ⟨RX6, "fits", "(I)I"⟩
abbrev cX6_sure : ByteArray := prog_1_method_27_code
def yX6_sure : MethodName := ⟨RX6, "sure", "(II)I"⟩
abbrev cX6_clash : ByteArray := prog_1_method_28_code
def yX6_clash : MethodName := ⟨RX6, "clash", "()I"⟩
abbrev cX6_rate : ByteArray := prog_1_method_29_code
def yX6_rate : MethodName := ⟨RX6, "rate", "(II)I"⟩
abbrev cX6_keep : ByteArray := prog_1_method_30_code
def yX6_keep : MethodName := ⟨RX6, "keep", "(I)I"⟩
abbrev cX6_back : ByteArray := prog_1_method_31_code
def yX6_back : MethodName := ⟨RX6, "back", "(I)I"⟩
abbrev cX6_count : ByteArray := prog_1_method_32_code
def yX6_count : MethodName := ⟨RX6, "count", "(I)I"⟩
abbrev cX6_trace : ByteArray := prog_1_method_33_code
def yX6_trace : MethodName := ⟨RX6, "trace", "()J"⟩
abbrev cX6_within : ByteArray := prog_1_method_34_code
def yX6_within : MethodName := ⟨RX6, "within", "(III)Z"⟩
abbrev cX6_moved : ByteArray := prog_1_method_35_code
def yX6_moved : MethodName := ⟨RX6, "moved", "(III)I"⟩
abbrev cX6_cell : ByteArray := prog_1_method_36_code
def yX6_cell : MethodName := ⟨RX6, "cell", "(II)I"⟩
abbrev cX6_endBy : ByteArray := prog_1_method_37_code
def yX6_endBy : MethodName := ⟨RX6, "endBy", "(IIII)I"⟩
abbrev cX6_endOf : ByteArray := prog_1_method_38_code
def yX6_endOf : MethodName := ⟨RX6, "endOf", "(II)I"⟩
abbrev cX6_canBeLaw : ByteArray := prog_1_method_39_code
def yX6_canBeLaw : MethodName := ⟨RX6, "canBeLaw", "(III)Z"⟩
abbrev cX6_valueBehind : ByteArray := prog_1_method_40_code
def yX6_valueBehind : MethodName := ⟨RX6, "valueBehind", "(III)I"⟩
abbrev cX6_endBehind : ByteArray := prog_1_method_41_code
def yX6_endBehind : MethodName := ⟨RX6, "endBehind", "(III)I"⟩
abbrev cX6_unlawfulScale : ByteArray := prog_1_method_42_code
def yX6_unlawfulScale : MethodName := ⟨RX6, "unlawfulScale", "(II)I"⟩
abbrev cX6_unlawfulLives : ByteArray := prog_1_method_43_code
def yX6_unlawfulLives : MethodName := ⟨RX6, "unlawfulLives", "()I"⟩
abbrev cX6_scalesAt : ByteArray := prog_1_method_44_code
def yX6_scalesAt : MethodName := ⟨RX6, "scalesAt", "(II)I"⟩
abbrev cX6_inTheDrawer : ByteArray := prog_1_method_45_code
def yX6_inTheDrawer : MethodName := ⟨RX6, "inTheDrawer", "()I"⟩
abbrev cX6_goByOneYear : ByteArray := prog_1_method_46_code
def yX6_goByOneYear : MethodName := ⟨RX6, "goByOneYear", "()V"⟩
abbrev cX6_unlawfulYears : ByteArray := prog_1_method_47_code
def yX6_unlawfulYears : MethodName := ⟨RX6, "unlawfulYears", "(III)I"⟩
abbrev cX6_isUnlawfulBy : ByteArray := prog_1_method_48_code
def yX6_isUnlawfulBy : MethodName := ⟨RX6, "isUnlawfulBy", "(IIIII)Z"⟩
abbrev cX6_endChangesByJump : ByteArray := prog_1_method_49_code
def yX6_endChangesByJump : MethodName := ⟨RX6, "endChangesByJump", "(II)I"⟩
abbrev cX6_areOpposed : ByteArray := prog_1_method_50_code
def yX6_areOpposed : MethodName := ⟨RX6, "areOpposed", "(II)Z"⟩
abbrev cX6_lawfulOrders : ByteArray := prog_1_method_51_code
def yX6_lawfulOrders : MethodName := ⟨RX6, "lawfulOrders", "(II)I"⟩
abbrev cX6_staysLawful : ByteArray := prog_1_method_52_code
def yX6_staysLawful : MethodName := ⟨RX6, "staysLawful", "(II)Z"⟩
abbrev cX6_isUnlawfulMeanwhile : ByteArray := prog_1_method_53_code
def yX6_isUnlawfulMeanwhile : MethodName := ⟨RX6, "isUnlawfulMeanwhile", "()Z"⟩
abbrev cX6_canJump : ByteArray := prog_1_method_54_code
def yX6_canJump : MethodName := ⟨RX6, "canJump", "(III)Z"⟩
abbrev cX6_countJumpsTo : ByteArray := prog_1_method_55_code
def yX6_countJumpsTo : MethodName := ⟨RX6, "countJumpsTo", "(II)V"⟩
abbrev cX6_reachFrom : ByteArray := prog_1_method_56_code
def yX6_reachFrom : MethodName := ⟨RX6, "reachFrom", "(II)V"⟩
abbrev cX6_firstPlaceOnTheWay : ByteArray := prog_1_method_57_code
def yX6_firstPlaceOnTheWay : MethodName := ⟨RX6, "firstPlaceOnTheWay", "(II)I"⟩
abbrev cX6_fewestPartsOf : ByteArray := prog_1_method_58_code
def yX6_fewestPartsOf : MethodName := ⟨RX6, "fewestPartsOf", "(II)I"⟩
abbrev cX6_greatestPart : ByteArray := prog_1_method_59_code
def yX6_greatestPart : MethodName := ⟨RX6, "greatestPart", "(II)I"⟩
abbrev cX6_endInYear : ByteArray := prog_1_method_60_code
def yX6_endInYear : MethodName := ⟨RX6, "endInYear", "(IIII)I"⟩
abbrev cX6_agreesWithBooks : ByteArray := prog_1_method_61_code
def yX6_agreesWithBooks : MethodName := ⟨RX6, "agreesWithBooks", "(III)Z"⟩
abbrev cX6_rateAsLife : ByteArray := prog_1_method_62_code
def yX6_rateAsLife : MethodName := ⟨RX6, "rateAsLife", "(I)I"⟩
abbrev cX6_rateAsChild : ByteArray := prog_1_method_63_code
def yX6_rateAsChild : MethodName := ⟨RX6, "rateAsChild", "(I)I"⟩
abbrev cX6_rateAsFiance : ByteArray := prog_1_method_64_code
def yX6_rateAsFiance : MethodName := ⟨RX6, "rateAsFiance", "(I)I"⟩
abbrev cX6_rateAsThirdSon : ByteArray := prog_1_method_65_code
def yX6_rateAsThirdSon : MethodName := ⟨RX6, "rateAsThirdSon", "(I)I"⟩
abbrev cX6_rateAsWidow : ByteArray := prog_1_method_66_code
def yX6_rateAsWidow : MethodName := ⟨RX6, "rateAsWidow", "(I)I"⟩
abbrev cX6_rateAsSmuggler : ByteArray := prog_1_method_67_code
def yX6_rateAsSmuggler : MethodName := ⟨RX6, "rateAsSmuggler", "(I)I"⟩
def RX7 : String := "NoBetweensModel"
def TX7 : u_T := fun k => match k with
  | 0 => ("NoBetweensModel", "thrown", "I", false)
  | 1 => ("NoBetweensModel", "trace", "J", false)
  | 2 => ("NoBetweensModel", "text", "[I", true)
  | 3 => ("NoBetweensModel", "typed", "I", false)
  | 4 => ("NoBetweensModel", "next", "I", false)
  | 5 => ("NoBetweensModel", "token", "I", false)
  | 6 => ("NoBetweensModel", "place", "I", false)
  | 7 => ("NoBetweensModel", "value", "I", false)
  | 8 => ("NoBetweensModel", "fault", "I", false)
  | 9 => ("NoBetweensModel", "range", "[I", true)
  | 10 => ("NoBetweensModel", "laws", "[I", true)
  | 11 => ("NoBetweensModel", "begin", "[I", true)
  | 12 => ("NoBetweensModel", "step", "[I", true)
  | 13 => ("NoBetweensModel", "places", "[I", true)
  | 14 => ("NoBetweensModel", "scales", "I", false)
  | 15 => ("NoBetweensModel", "lives", "I", false)
  | 16 => ("NoBetweensModel", "placeMany", "I", false)
  | 17 => ("NoBetweensModel", "drawer", "I", false)
  | 18 => ("NoBetweensModel", "draftScales", "I", false)
  | 19 => ("NoBetweensModel", "draftLives", "I", false)
  | 20 => ("NoBetweensModel", "draftPlaces", "I", false)
  | 21 => ("NoBetweensModel", "draftDrawer", "I", false)
  | 22 => ("NoBetweensModel", "s", "[I", true)
  | 23 => ("NoBetweensModel", "w", "[I", true)
  | 24 => ("NoBetweensModel", "kept", "[I", true)
  | 25 => ("NoBetweensModel", "isKept", "[Z", true)
  | 26 => ("NoBetweensModel", "undos", "[I", true)
  | 27 => ("NoBetweensModel", "undoMany", "I", false)
  | 28 => ("NoBetweensModel", "planScale", "[I", true)
  | 29 => ("NoBetweensModel", "planBy", "[I", true)
  | 30 => ("NoBetweensModel", "planMany", "I", false)
  | 31 => ("NoBetweensModel", "bookScale", "[I", true)
  | 32 => ("NoBetweensModel", "bookYear", "[I", true)
  | 33 => ("NoBetweensModel", "bookEnd", "[I", true)
  | 34 => ("NoBetweensModel", "bookMany", "I", false)
  | 35 => ("NoBetweensModel", "row", "[I", true)
  | 36 => ("NoBetweensModel", "firstRow", "[I", true)
  | 37 => ("NoBetweensModel", "far", "[I", true)
  | _ => ("NoBetweensModel", "fewest", "[I", true)
def tyX7 : Nat → FieldType := fun k => match k with
  | 0 => .int
  | 1 => .long
  | 2 => .array .int
  | 3 => .int
  | 4 => .int
  | 5 => .int
  | 6 => .int
  | 7 => .int
  | 8 => .int
  | 9 => .array .int
  | 10 => .array .int
  | 11 => .array .int
  | 12 => .array .int
  | 13 => .array .int
  | 14 => .int
  | 15 => .int
  | 16 => .int
  | 17 => .int
  | 18 => .int
  | 19 => .int
  | 20 => .int
  | 21 => .int
  | 22 => .array .int
  | 23 => .array .int
  | 24 => .array .int
  | 25 => .array .boolean
  | 26 => .array .int
  | 27 => .int
  | 28 => .array .int
  | 29 => .array .int
  | 30 => .int
  | 31 => .array .int
  | 32 => .array .int
  | 33 => .array .int
  | 34 => .int
  | 35 => .array .int
  | 36 => .array .int
  | 37 => .array .int
  | _ => .array .int
abbrev wsX70 : List Cond := u_ws RX7 TX7 39
theorem nmX7 : ∀ a, a < 39 → ∀ b, b < 39 → a ≠ b → (TX7 a).2.1 ≠ (TX7 b).2.1 := by decide +kernel
theorem tyX7_ok : ∀ k, k < 39 → parseFieldDescriptor (TX7 k).2.2.1 = some (tyX7 k) := by decide +kernel
abbrev cX7_init : ByteArray := prog_9_method_1_code
def yX7_init : MethodName := ⟨RX7, "<init>", "()V"⟩
abbrev cX7_in : ByteArray := prog_9_method_3_code
def yX7_in : MethodName := ⟨RX7, "in", "(III)Z"⟩
abbrev cX7_type : ByteArray := prog_9_method_4_code
def yX7_type : MethodName := ⟨RX7, "type", "(I)I"⟩
abbrev cX7_clear : ByteArray := prog_9_method_5_code
def yX7_clear : MethodName := ⟨RX7, "clear", "()I"⟩
abbrev cX7_letterAt : ByteArray := prog_9_method_6_code
def yX7_letterAt : MethodName := ⟨RX7, "letterAt", "(I)I"⟩
abbrev cX7_advances : ByteArray := prog_9_method_7_code
def yX7_advances : MethodName := ⟨RX7, "advances", "()V"⟩
abbrev cX7_isWell : ByteArray := prog_9_method_8_code
def yX7_isWell : MethodName := ⟨RX7, "isWell", "()Z"⟩
abbrev cX7_takes : ByteArray := prog_9_method_9_code
def yX7_takes : MethodName := ⟨RX7, "takes", "(Z)I"⟩
abbrev cX7_number : ByteArray := prog_9_method_10_code
def yX7_number : MethodName := ⟨RX7, "number", "(II)I"⟩
abbrev cX7_mayBegin : ByteArray := prog_9_method_11_code
def yX7_mayBegin : MethodName := ⟨RX7, "mayBegin", "()Z"⟩
abbrev cX7_readsItem : ByteArray := prog_9_method_12_code
def yX7_readsItem : MethodName := ⟨RX7, "readsItem", "(I)V"⟩
abbrev cX7_land : ByteArray := prog_9_method_13_code
def yX7_land : MethodName := ⟨RX7, "land", "()I"⟩
abbrev cX7_settles : ByteArray := prog_9_method_14_code
def yX7_settles : MethodName := ⟨RX7, "settles", "()V"⟩
abbrev cX7_isScale : ByteArray := prog_9_method_15_code
def yX7_isScale : MethodName := ⟨RX7, "isScale", "(I)Z"⟩
abbrev cX7_isLife : ByteArray := prog_9_method_16_code
def yX7_isLife : MethodName := ⟨RX7, "isLife", "(I)Z"⟩
abbrev cX7_isPlace : ByteArray := prog_9_method_17_code
def yX7_isPlace : MethodName := ⟨RX7, "isPlace", "(I)Z"⟩
abbrev cX7_scale : ByteArray := prog_9_method_18_code
def yX7_scale : MethodName := ⟨RX7, "scale", "(II)I"⟩
abbrev cX7_endBy : ByteArray := prog_9_method_19_code
def yX7_endBy : MethodName := ⟨RX7, "endBy", "(IIII)I"⟩
abbrev cX7_endOf : ByteArray := prog_9_method_20_code
def yX7_endOf : MethodName := ⟨RX7, "endOf", "([III)I"⟩
abbrev cX7_endIn : ByteArray := prog_9_method_21_code
def yX7_endIn : MethodName := ⟨RX7, "endIn", "([III)I"⟩
abbrev cX7_life : ByteArray := prog_9_method_22_code
def yX7_life : MethodName := ⟨RX7, "life", "(III)I"⟩
abbrev cX7_end : ByteArray := prog_9_method_23_code
def yX7_end : MethodName := ⟨RX7, "end", "(II)I"⟩
abbrev cX7_place : ByteArray := prog_9_method_24_code
def yX7_place : MethodName := ⟨RX7, "place", "(I)I"⟩
abbrev cX7_held : ByteArray := prog_9_method_25_code
def yX7_held : MethodName := ⟨RX7, "held", "(II)I"⟩
abbrev cX7_goes : ByteArray := prog_9_method_26_code
def yX7_goes : MethodName := ⟨RX7, "goes", "([I)V"⟩
abbrev cX7_notes : ByteArray := prog_9_method_27_code
def yX7_notes : MethodName := ⟨RX7, "notes", "()V"⟩
abbrev cX7_passes : ByteArray := prog_9_method_28_code
def yX7_passes : MethodName := ⟨RX7, "passes", "(I)I"⟩
abbrev cX7_changes : ByteArray := prog_9_method_29_code
def yX7_changes : MethodName := ⟨RX7, "changes", "(III)I"⟩
abbrev cX7_isLaw : ByteArray := prog_9_method_30_code
def yX7_isLaw : MethodName := ⟨RX7, "isLaw", "(III)Z"⟩
abbrev cX7_unlawfulOn : ByteArray := prog_9_method_31_code
def yX7_unlawfulOn : MethodName := ⟨RX7, "unlawfulOn", "([II)I"⟩
abbrev cX7_unlawful : ByteArray := prog_9_method_32_code
def yX7_unlawful : MethodName := ⟨RX7, "unlawful", "([I)I"⟩
abbrev cX7_ones : ByteArray := prog_9_method_33_code
def yX7_ones : MethodName := ⟨RX7, "ones", "(I)I"⟩
abbrev cX7_law : ByteArray := prog_9_method_34_code
def yX7_law : MethodName := ⟨RX7, "law", "(III)I"⟩
abbrev cX7_undo : ByteArray := prog_9_method_35_code
def yX7_undo : MethodName := ⟨RX7, "undo", "()I"⟩
abbrev cX7_countEnds : ByteArray := prog_9_method_36_code
def yX7_countEnds : MethodName := ⟨RX7, "countEnds", "(II)I"⟩
abbrev cX7_inDrawer : ByteArray := prog_9_method_37_code
def yX7_inDrawer : MethodName := ⟨RX7, "inDrawer", "()I"⟩
abbrev cX7_now : ByteArray := prog_9_method_38_code
def yX7_now : MethodName := ⟨RX7, "now", "(I)I"⟩
abbrev cX7_asNow : ByteArray := prog_9_method_39_code
def yX7_asNow : MethodName := ⟨RX7, "asNow", "()V"⟩
abbrev cX7_behind : ByteArray := prog_9_method_40_code
def yX7_behind : MethodName := ⟨RX7, "behind", "(III)I"⟩
abbrev cX7_first : ByteArray := prog_9_method_41_code
def yX7_first : MethodName := ⟨RX7, "first", "(II)I"⟩
abbrev cX7_unlawfulYears : ByteArray := prog_9_method_42_code
def yX7_unlawfulYears : MethodName := ⟨RX7, "unlawfulYears", "()I"⟩
abbrev cX7_freed : ByteArray := prog_9_method_43_code
def yX7_freed : MethodName := ⟨RX7, "freed", "(III)I"⟩
abbrev cX7_jumpsOn : ByteArray := prog_9_method_44_code
def yX7_jumpsOn : MethodName := ⟨RX7, "jumpsOn", "(II)I"⟩
abbrev cX7_bestJump : ByteArray := prog_9_method_45_code
def yX7_bestJump : MethodName := ⟨RX7, "bestJump", "(II)I"⟩
abbrev cX7_plans : ByteArray := prog_9_method_46_code
def yX7_plans : MethodName := ⟨RX7, "plans", "(II)I"⟩
abbrev cX7_drop : ByteArray := prog_9_method_47_code
def yX7_drop : MethodName := ⟨RX7, "drop", "()I"⟩
abbrev cX7_isOrder : ByteArray := prog_9_method_48_code
def yX7_isOrder : MethodName := ⟨RX7, "isOrder", "(IIII)Z"⟩
abbrev cX7_ordersOf : ByteArray := prog_9_method_49_code
def yX7_ordersOf : MethodName := ⟨RX7, "ordersOf", "(II)I"⟩
abbrev cX7_orders : ByteArray := prog_9_method_50_code
def yX7_orders : MethodName := ⟨RX7, "orders", "(II)I"⟩
abbrev cX7_bars : ByteArray := prog_9_method_51_code
def yX7_bars : MethodName := ⟨RX7, "bars", "(I)I"⟩
abbrev cX7_canJump : ByteArray := prog_9_method_52_code
def yX7_canJump : MethodName := ⟨RX7, "canJump", "(III)Z"⟩
abbrev cX7_measures : ByteArray := prog_9_method_53_code
def yX7_measures : MethodName := ⟨RX7, "measures", "(II)V"⟩
abbrev cX7_trip : ByteArray := prog_9_method_54_code
def yX7_trip : MethodName := ⟨RX7, "trip", "(IIII)I"⟩
abbrev cX7_isPart : ByteArray := prog_9_method_55_code
def yX7_isPart : MethodName := ⟨RX7, "isPart", "(II)Z"⟩
abbrev cX7_shares : ByteArray := prog_9_method_56_code
def yX7_shares : MethodName := ⟨RX7, "shares", "(II)V"⟩
abbrev cX7_parts : ByteArray := prog_9_method_57_code
def yX7_parts : MethodName := ⟨RX7, "parts", "(III)I"⟩
abbrev cX7_books : ByteArray := prog_9_method_58_code
def yX7_books : MethodName := ⟨RX7, "books", "(III)I"⟩
abbrev cX7_burn : ByteArray := prog_9_method_59_code
def yX7_burn : MethodName := ⟨RX7, "burn", "()I"⟩
abbrev cX7_endBehind : ByteArray := prog_9_method_60_code
def yX7_endBehind : MethodName := ⟨RX7, "endBehind", "(IIII)I"⟩
abbrev cX7_isAsBooked : ByteArray := prog_9_method_61_code
def yX7_isAsBooked : MethodName := ⟨RX7, "isAsBooked", "(III)Z"⟩
abbrev cX7_fits : ByteArray := prog_9_method_62_code
def yX7_fits : MethodName := ⟨RX7, "fits", "(I)I"⟩
abbrev cX7_sure : ByteArray := prog_9_method_63_code
def yX7_sure : MethodName := ⟨RX7, "sure", "(II)I"⟩
abbrev cX7_isClash : ByteArray := prog_9_method_64_code
def yX7_isClash : MethodName := ⟨RX7, "isClash", "(II)Z"⟩
abbrev cX7_clash : ByteArray := prog_9_method_65_code
def yX7_clash : MethodName := ⟨RX7, "clash", "()I"⟩
abbrev cX7_rate : ByteArray := prog_9_method_66_code
def yX7_rate : MethodName := ⟨RX7, "rate", "(II)I"⟩
abbrev cX7_keep : ByteArray := prog_9_method_67_code
def yX7_keep : MethodName := ⟨RX7, "keep", "(I)I"⟩
abbrev cX7_back : ByteArray := prog_9_method_68_code
def yX7_back : MethodName := ⟨RX7, "back", "(I)I"⟩
abbrev cX7_count : ByteArray := prog_9_method_69_code
def yX7_count : MethodName := ⟨RX7, "count", "(I)I"⟩
abbrev cX7_trace : ByteArray := prog_9_method_70_code
def yX7_trace : MethodName := ⟨RX7, "trace", "()J"⟩
def RJ6 : String := "java/lang/Integer"
def TJ6 : u_T := fun k => match k with
  | _ => ("", "", "", false)
def tyJ6 : Nat → FieldType := fun k => match k with
  | _ => .int
abbrev wsJ60 : List Cond := u_ws RJ6 TJ6 0
theorem nmJ6 : ∀ a, a < 0 → ∀ b, b < 0 → a ≠ b → (TJ6 a).2.1 ≠ (TJ6 b).2.1 := by decide +kernel
theorem tyJ6_ok : ∀ k, k < 0 → parseFieldDescriptor (TJ6 k).2.2.1 = some (tyJ6 k) := by decide +kernel
abbrev cJ6_bitCount_0f7a4 : ByteArray := prog_10_method_49_code
def yJ6_bitCount_0f7a4 : MethodName := ⟨RJ6, "bitCount", "(I)I"⟩
def RJ9 : String := "java/lang/Math"
def TJ9 : u_T := fun k => match k with
  | _ => ("", "", "", false)
def tyJ9 : Nat → FieldType := fun k => match k with
  | _ => .int
abbrev wsJ90 : List Cond := u_ws RJ9 TJ9 0
theorem nmJ9 : ∀ a, a < 0 → ∀ b, b < 0 → a ≠ b → (TJ9 a).2.1 ≠ (TJ9 b).2.1 := by decide +kernel
theorem tyJ9_ok : ∀ k, k < 0 → parseFieldDescriptor (TJ9 k).2.2.1 = some (tyJ9 k) := by decide +kernel
abbrev cJ9_abs_0f7a4 : ByteArray := prog_11_method_59_code
def yJ9_abs_0f7a4 : MethodName := ⟨RJ9, "abs", "(I)I"⟩
abbrev cJ9_max_7cf53 : ByteArray := prog_11_method_65_code
def yJ9_max_7cf53 : MethodName := ⟨RJ9, "max", "(II)I"⟩
abbrev cJ9_min_7cf53 : ByteArray := prog_11_method_69_code
def yJ9_min_7cf53 : MethodName := ⟨RJ9, "min", "(II)I"⟩
def RJ10 : String := "java/lang/System"
def TJ10 : u_T := fun k => match k with
  | _ => ("", "", "", false)
def tyJ10 : Nat → FieldType := fun k => match k with
  | _ => .int
abbrev wsJ100 : List Cond := u_ws RJ10 TJ10 0
theorem nmJ10 : ∀ a, a < 0 → ∀ b, b < 0 → a ≠ b → (TJ10 a).2.1 ≠ (TJ10 b).2.1 := by decide +kernel
theorem tyJ10_ok : ∀ k, k < 0 → parseFieldDescriptor (TJ10 k).2.2.1 = some (tyJ10 k) := by decide +kernel
def RL : String := "NoBetweensLaw"
abbrev cL_law : ByteArray := code
def yL_law : MethodName := ⟨RL, "law", "([I)Z"⟩
set_option maxRecDepth 20000 in
abbrev vwCl : List vw_C := [(RX0, TX0, 6), (RX1, TX1, 7), (RX2, TX2, 5), (RX3, TX3, 3), (RX4, TX4, 4), (RX5, TX5, 10), (RX6, TX6, 11), (RX7, TX7, 39)]
/-- the words that every method here asks for: the good ones of the tables -/
def BIG : List Cond := lw_tbl.filter goodWord
theorem big_in {w : Cond} (i : Nat) (h : lw_tbl[i]? = some w) (hg : goodWord w = true) : w ∈ BIG := List.mem_filter.mpr ⟨List.mem_of_getElem? h, hg⟩
theorem big_sub {w : Cond} (h : w ∈ BIG) : w ∈ lw_tbl := (List.mem_filter.mp h).1
theorem big_good {w : Cond} (h : w ∈ BIG) : goodWord w = true := (List.mem_filter.mp h).2
theorem big_list (ws : List Cond) (ps : List Nat) (hp : ws = ps.filterMap (fun i => lw_tbl[i]?)) (h : ws.all goodWord = true) : ∀ w ∈ ws, w ∈ BIG := by
  intro w hw
  have h1 := List.all_eq_true.mp h w hw
  rw [hp] at hw
  obtain ⟨i, -, hi⟩ := List.mem_filterMap.mp hw
  exact big_in i hi h1
end
section
theorem sl_X5_splitsIntoTokens : Cond.selects RX5 yX5_splitsIntoTokens yX5_splitsIntoTokens ∈ BIG := big_in 0 (by decide +kernel) rfl
theorem sl_X5_startsToken : Cond.selects RX5 yX5_startsToken yX5_startsToken ∈ BIG := big_in 1 (by decide +kernel) rfl
theorem sl_X5_isDigit : Cond.selects RX5 yX5_isDigit yX5_isDigit ∈ BIG := big_in 2 (by decide +kernel) rfl
theorem sl_X5_tokenFrom : Cond.selects RX5 yX5_tokenFrom yX5_tokenFrom ∈ BIG := big_in 3 (by decide +kernel) rfl
theorem sl_X5_numberFrom : Cond.selects RX5 yX5_numberFrom yX5_numberFrom ∈ BIG := big_in 4 (by decide +kernel) rfl
theorem sl_X5_readsItem : Cond.selects RX5 yX5_readsItem yX5_readsItem ∈ BIG := big_in 5 (by decide +kernel) rfl
theorem sl_X5_mayBegin : Cond.selects RX5 yX5_mayBegin yX5_mayBegin ∈ BIG := big_in 6 (by decide +kernel) rfl
theorem sl_X5_readsScale : Cond.selects RX5 yX5_readsScale yX5_readsScale ∈ BIG := big_in 7 (by decide +kernel) rfl
theorem sl_X5_takesNumber : Cond.selects RX5 yX5_takesNumber yX5_takesNumber ∈ BIG := big_in 8 (by decide +kernel) rfl
theorem sl_X5_takes : Cond.selects RX5 yX5_takes yX5_takes ∈ BIG := big_in 9 (by decide +kernel) rfl
theorem sl_X5_readsLife : Cond.selects RX5 yX5_readsLife yX5_readsLife ∈ BIG := big_in 10 (by decide +kernel) rfl
theorem sl_X5_takesSemicolon : Cond.selects RX5 yX5_takesSemicolon yX5_takesSemicolon ∈ BIG := big_in 11 (by decide +kernel) rfl
theorem sl_X6_endBehind : Cond.selects RX6 yX6_endBehind yX6_endBehind ∈ BIG := big_in 12 (by decide +kernel) rfl
theorem sl_X6_valueBehind : Cond.selects RX6 yX6_valueBehind yX6_valueBehind ∈ BIG := big_in 13 (by decide +kernel) rfl
theorem sl_X6_endOf : Cond.selects RX6 yX6_endOf yX6_endOf ∈ BIG := big_in 14 (by decide +kernel) rfl
theorem sl_X6_goByOneYear : Cond.selects RX6 yX6_goByOneYear yX6_goByOneYear ∈ BIG := big_in 15 (by decide +kernel) rfl
theorem sl_X6_canBeLaw : Cond.selects RX6 yX6_canBeLaw yX6_canBeLaw ∈ BIG := big_in 16 (by decide +kernel) rfl
theorem sl_X6_unlawfulLives : Cond.selects RX6 yX6_unlawfulLives yX6_unlawfulLives ∈ BIG := big_in 17 (by decide +kernel) rfl
theorem sl_X6_unlawfulScale : Cond.selects RX6 yX6_unlawfulScale yX6_unlawfulScale ∈ BIG := big_in 18 (by decide +kernel) rfl
theorem sl_X6_inTheDrawer : Cond.selects RX6 yX6_inTheDrawer yX6_inTheDrawer ∈ BIG := big_in 19 (by decide +kernel) rfl
theorem sl_X6_scalesAt : Cond.selects RX6 yX6_scalesAt yX6_scalesAt ∈ BIG := big_in 20 (by decide +kernel) rfl
theorem sl_X6_unlawfulYears : Cond.selects RX6 yX6_unlawfulYears yX6_unlawfulYears ∈ BIG := big_in 21 (by decide +kernel) rfl
theorem sl_X6_isUnlawfulBy : Cond.selects RX6 yX6_isUnlawfulBy yX6_isUnlawfulBy ∈ BIG := big_in 22 (by decide +kernel) rfl
theorem sl_X6_endChangesByJump : Cond.selects RX6 yX6_endChangesByJump yX6_endChangesByJump ∈ BIG := big_in 23 (by decide +kernel) rfl
theorem sl_X6_lawfulOrders : Cond.selects RX6 yX6_lawfulOrders yX6_lawfulOrders ∈ BIG := big_in 24 (by decide +kernel) rfl
theorem sl_X6_staysLawful : Cond.selects RX6 yX6_staysLawful yX6_staysLawful ∈ BIG := big_in 25 (by decide +kernel) rfl
theorem sl_X6_isUnlawfulMeanwhile : Cond.selects RX6 yX6_isUnlawfulMeanwhile yX6_isUnlawfulMeanwhile ∈ BIG := big_in 26 (by decide +kernel) rfl
theorem sl_X0_lastRising : Cond.selects RX0 yX0_lastRising yX0_lastRising ∈ BIG := big_in 27 (by decide +kernel) rfl
theorem sl_X0_lastAbove : Cond.selects RX0 yX0_lastAbove yX0_lastAbove ∈ BIG := big_in 28 (by decide +kernel) rfl
theorem sl_X0_swaps : Cond.selects RX0 yX0_swaps yX0_swaps ∈ BIG := big_in 29 (by decide +kernel) rfl
theorem sl_X6_countJumpsTo : Cond.selects RX6 yX6_countJumpsTo yX6_countJumpsTo ∈ BIG := big_in 30 (by decide +kernel) rfl
theorem sl_X6_reachFrom : Cond.selects RX6 yX6_reachFrom yX6_reachFrom ∈ BIG := big_in 31 (by decide +kernel) rfl
theorem sl_X6_canJump : Cond.selects RX6 yX6_canJump yX6_canJump ∈ BIG := big_in 32 (by decide +kernel) rfl
theorem sl_X6_firstPlaceOnTheWay : Cond.selects RX6 yX6_firstPlaceOnTheWay yX6_firstPlaceOnTheWay ∈ BIG := big_in 33 (by decide +kernel) rfl
theorem sl_X6_fewestPartsOf : Cond.selects RX6 yX6_fewestPartsOf yX6_fewestPartsOf ∈ BIG := big_in 34 (by decide +kernel) rfl
theorem sl_X6_greatestPart : Cond.selects RX6 yX6_greatestPart yX6_greatestPart ∈ BIG := big_in 35 (by decide +kernel) rfl
theorem sl_X6_agreesWithBooks : Cond.selects RX6 yX6_agreesWithBooks yX6_agreesWithBooks ∈ BIG := big_in 36 (by decide +kernel) rfl
theorem sl_X6_endInYear : Cond.selects RX6 yX6_endInYear yX6_endInYear ∈ BIG := big_in 37 (by decide +kernel) rfl
theorem sl_X6_areOpposed : Cond.selects RX6 yX6_areOpposed yX6_areOpposed ∈ BIG := big_in 38 (by decide +kernel) rfl
theorem sl_X6_rateAsLife : Cond.selects RX6 yX6_rateAsLife yX6_rateAsLife ∈ BIG := big_in 39 (by decide +kernel) rfl
theorem sl_X6_rateAsChild : Cond.selects RX6 yX6_rateAsChild yX6_rateAsChild ∈ BIG := big_in 40 (by decide +kernel) rfl
theorem sl_X6_rateAsFiance : Cond.selects RX6 yX6_rateAsFiance yX6_rateAsFiance ∈ BIG := big_in 41 (by decide +kernel) rfl
theorem sl_X6_rateAsThirdSon : Cond.selects RX6 yX6_rateAsThirdSon yX6_rateAsThirdSon ∈ BIG := big_in 42 (by decide +kernel) rfl
theorem sl_X6_rateAsWidow : Cond.selects RX6 yX6_rateAsWidow yX6_rateAsWidow ∈ BIG := big_in 43 (by decide +kernel) rfl
theorem sl_X6_rateAsSmuggler : Cond.selects RX6 yX6_rateAsSmuggler yX6_rateAsSmuggler ∈ BIG := big_in 44 (by decide +kernel) rfl
theorem sl_X7_advances : Cond.selects RX7 yX7_advances yX7_advances ∈ BIG := big_in 45 (by decide +kernel) rfl
theorem sl_X7_letterAt : Cond.selects RX7 yX7_letterAt yX7_letterAt ∈ BIG := big_in 46 (by decide +kernel) rfl
theorem sl_X7_isWell : Cond.selects RX7 yX7_isWell yX7_isWell ∈ BIG := big_in 47 (by decide +kernel) rfl
theorem sl_X7_mayBegin : Cond.selects RX7 yX7_mayBegin yX7_mayBegin ∈ BIG := big_in 48 (by decide +kernel) rfl
theorem sl_X7_takes : Cond.selects RX7 yX7_takes yX7_takes ∈ BIG := big_in 49 (by decide +kernel) rfl
theorem sl_X7_readsItem : Cond.selects RX7 yX7_readsItem yX7_readsItem ∈ BIG := big_in 50 (by decide +kernel) rfl
theorem sl_X7_number : Cond.selects RX7 yX7_number yX7_number ∈ BIG := big_in 51 (by decide +kernel) rfl
theorem sl_X7_settles : Cond.selects RX7 yX7_settles yX7_settles ∈ BIG := big_in 52 (by decide +kernel) rfl
theorem sl_X7_isScale : Cond.selects RX7 yX7_isScale yX7_isScale ∈ BIG := big_in 53 (by decide +kernel) rfl
theorem sl_X7_isLife : Cond.selects RX7 yX7_isLife yX7_isLife ∈ BIG := big_in 54 (by decide +kernel) rfl
theorem sl_X7_endIn : Cond.selects RX7 yX7_endIn yX7_endIn ∈ BIG := big_in 55 (by decide +kernel) rfl
theorem sl_X7_endOf : Cond.selects RX7 yX7_endOf yX7_endOf ∈ BIG := big_in 56 (by decide +kernel) rfl
theorem sl_X7_isPlace : Cond.selects RX7 yX7_isPlace yX7_isPlace ∈ BIG := big_in 57 (by decide +kernel) rfl
theorem sl_X7_notes : Cond.selects RX7 yX7_notes yX7_notes ∈ BIG := big_in 58 (by decide +kernel) rfl
theorem sl_X7_goes : Cond.selects RX7 yX7_goes yX7_goes ∈ BIG := big_in 59 (by decide +kernel) rfl
theorem sl_X7_isLaw : Cond.selects RX7 yX7_isLaw yX7_isLaw ∈ BIG := big_in 60 (by decide +kernel) rfl
theorem sl_X7_unlawful : Cond.selects RX7 yX7_unlawful yX7_unlawful ∈ BIG := big_in 61 (by decide +kernel) rfl
theorem sl_X7_unlawfulOn : Cond.selects RX7 yX7_unlawfulOn yX7_unlawfulOn ∈ BIG := big_in 62 (by decide +kernel) rfl
theorem sl_X7_inDrawer : Cond.selects RX7 yX7_inDrawer yX7_inDrawer ∈ BIG := big_in 63 (by decide +kernel) rfl
theorem sl_X7_countEnds : Cond.selects RX7 yX7_countEnds yX7_countEnds ∈ BIG := big_in 64 (by decide +kernel) rfl
theorem sl_X7_asNow : Cond.selects RX7 yX7_asNow yX7_asNow ∈ BIG := big_in 65 (by decide +kernel) rfl
theorem sl_X7_unlawfulYears : Cond.selects RX7 yX7_unlawfulYears yX7_unlawfulYears ∈ BIG := big_in 66 (by decide +kernel) rfl
theorem sl_X7_jumpsOn : Cond.selects RX7 yX7_jumpsOn yX7_jumpsOn ∈ BIG := big_in 67 (by decide +kernel) rfl
theorem sl_X7_ordersOf : Cond.selects RX7 yX7_ordersOf yX7_ordersOf ∈ BIG := big_in 68 (by decide +kernel) rfl
theorem sl_X7_isOrder : Cond.selects RX7 yX7_isOrder yX7_isOrder ∈ BIG := big_in 69 (by decide +kernel) rfl
theorem sl_X7_measures : Cond.selects RX7 yX7_measures yX7_measures ∈ BIG := big_in 70 (by decide +kernel) rfl
theorem sl_X7_canJump : Cond.selects RX7 yX7_canJump yX7_canJump ∈ BIG := big_in 71 (by decide +kernel) rfl
theorem sl_X7_shares : Cond.selects RX7 yX7_shares yX7_shares ∈ BIG := big_in 72 (by decide +kernel) rfl
theorem sl_X7_isPart : Cond.selects RX7 yX7_isPart yX7_isPart ∈ BIG := big_in 73 (by decide +kernel) rfl
theorem sl_X7_isAsBooked : Cond.selects RX7 yX7_isAsBooked yX7_isAsBooked ∈ BIG := big_in 74 (by decide +kernel) rfl
theorem sl_X7_endBehind : Cond.selects RX7 yX7_endBehind yX7_endBehind ∈ BIG := big_in 75 (by decide +kernel) rfl
theorem sl_X7_isClash : Cond.selects RX7 yX7_isClash yX7_isClash ∈ BIG := big_in 76 (by decide +kernel) rfl
theorem ini_L : Cond.initialized RL ∈ BIG := big_in 77 (by decide +kernel) rfl
theorem ini_X6 : Cond.initialized RX6 ∈ BIG := big_in 78 (by decide +kernel) rfl
theorem ini_X5 : Cond.initialized RX5 ∈ BIG := big_in 79 (by decide +kernel) rfl
theorem ini_X1 : Cond.initialized RX1 ∈ BIG := big_in 80 (by decide +kernel) rfl
theorem ini_X2 : Cond.initialized RX2 ∈ BIG := big_in 81 (by decide +kernel) rfl
theorem ini_X3 : Cond.initialized RX3 ∈ BIG := big_in 82 (by decide +kernel) rfl
theorem ini_X0 : Cond.initialized RX0 ∈ BIG := big_in 83 (by decide +kernel) rfl
theorem ini_X4 : Cond.initialized RX4 ∈ BIG := big_in 84 (by decide +kernel) rfl
theorem ini_X7 : Cond.initialized RX7 ∈ BIG := big_in 85 (by decide +kernel) rfl
theorem ini_J10 : Cond.initialized RJ10 ∈ BIG := big_in 86 (by decide +kernel) rfl
theorem ini_J9 : Cond.initialized RJ9 ∈ BIG := big_in 87 (by decide +kernel) rfl
theorem ini_J6 : Cond.initialized RJ6 ∈ BIG := big_in 88 (by decide +kernel) rfl
theorem cl_L_7 : Cond.classLink RL 7 RX6 ∈ BIG := big_in 89 (by decide +kernel) rfl
theorem inst_X6 : Cond.instantiable RX6 11 ∈ BIG := big_in 90 (by decide +kernel) rfl
theorem ml_L_9 : Cond.methodLink RL 9 yX6_init ∈ BIG := big_in 91 (by decide +kernel) rfl
theorem im_X6_init : Cond.instanceMethod yX6_init ∈ BIG := big_in 92 (by decide +kernel) rfl
theorem cd_X6_init : Cond.code yX6_init cX6_init 2 none ∈ BIG := big_in 93 (by decide +kernel) rfl
theorem ml_X6_1 : Cond.methodLink RX6 1 ⟨"java/lang/Object", "<init>", "()V"⟩ ∈ BIG := big_in 94 (by decide +kernel) rfl
theorem cl_X6_7 : Cond.classLink RX6 7 RX5 ∈ BIG := big_in 97 (by decide +kernel) rfl
theorem inst_X5 : Cond.instantiable RX5 10 ∈ BIG := big_in 98 (by decide +kernel) rfl
theorem im_X5_init : Cond.instanceMethod yX5_init ∈ BIG := big_in 100 (by decide +kernel) rfl
theorem cd_X5_init : Cond.code yX5_init cX5_init 1 none ∈ BIG := big_in 101 (by decide +kernel) rfl
theorem ml_X5_3 : Cond.methodLink RX5 3 ⟨"java/lang/Object", "<init>", "()V"⟩ ∈ BIG := big_in 102 (by decide +kernel) rfl
theorem cl_X5_15 : Cond.classLink RX5 15 RX1 ∈ BIG := big_in 103 (by decide +kernel) rfl
theorem inst_X1 : Cond.instantiable RX1 7 ∈ BIG := big_in 104 (by decide +kernel) rfl
theorem im_X1_init : Cond.instanceMethod yX1_init ∈ BIG := big_in 106 (by decide +kernel) rfl
theorem cd_X1_init : Cond.code yX1_init cX1_init 1 none ∈ BIG := big_in 107 (by decide +kernel) rfl
theorem ml_X1_3 : Cond.methodLink RX1 3 ⟨"java/lang/Object", "<init>", "()V"⟩ ∈ BIG := big_in 108 (by decide +kernel) rfl
theorem fl_X1_9 : Cond.fieldLink RX1 9 "NoBetweens$Land" "scales" "I" ∈ BIG := big_in 109 (by decide +kernel) rfl
theorem fl_X5_103 : Cond.fieldLink RX5 103 "NoBetweens$Land" "scales" "I" ∈ BIG := big_in 110 (by decide +kernel) rfl
theorem fl_X6_222 : Cond.fieldLink RX6 222 "NoBetweens$Land" "scales" "I" ∈ BIG := big_in 111 (by decide +kernel) rfl
theorem fl_X1_15 : Cond.fieldLink RX1 15 "NoBetweens$Land" "lives" "I" ∈ BIG := big_in 112 (by decide +kernel) rfl
theorem fl_X5_100 : Cond.fieldLink RX5 100 "NoBetweens$Land" "lives" "I" ∈ BIG := big_in 113 (by decide +kernel) rfl
theorem fl_X6_247 : Cond.fieldLink RX6 247 "NoBetweens$Land" "lives" "I" ∈ BIG := big_in 114 (by decide +kernel) rfl
theorem fl_X1_18 : Cond.fieldLink RX1 18 "NoBetweens$Land" "places" "I" ∈ BIG := big_in 115 (by decide +kernel) rfl
theorem fl_X5_94 : Cond.fieldLink RX5 94 "NoBetweens$Land" "places" "I" ∈ BIG := big_in 116 (by decide +kernel) rfl
theorem fl_X6_250 : Cond.fieldLink RX6 250 "NoBetweens$Land" "places" "I" ∈ BIG := big_in 117 (by decide +kernel) rfl
theorem fl_X1_21 : Cond.fieldLink RX1 21 "NoBetweens$Land" "drawer" "I" ∈ BIG := big_in 118 (by decide +kernel) rfl
theorem fl_X5_88 : Cond.fieldLink RX5 88 "NoBetweens$Land" "drawer" "I" ∈ BIG := big_in 119 (by decide +kernel) rfl
theorem fl_X6_175 : Cond.fieldLink RX6 175 "NoBetweens$Land" "drawer" "I" ∈ BIG := big_in 120 (by decide +kernel) rfl
theorem fl_X1_24 : Cond.fieldLink RX1 24 "NoBetweens$Land" "ranges" "[I" ∈ BIG := big_in 121 (by decide +kernel) rfl
theorem fl_X6_113 : Cond.fieldLink RX6 113 "NoBetweens$Land" "ranges" "[I" ∈ BIG := big_in 122 (by decide +kernel) rfl
theorem fl_X5_109 : Cond.fieldLink RX5 109 "NoBetweens$Land" "ranges" "[I" ∈ BIG := big_in 123 (by decide +kernel) rfl
theorem fl_X1_28 : Cond.fieldLink RX1 28 "NoBetweens$Land" "steps" "[I" ∈ BIG := big_in 124 (by decide +kernel) rfl
theorem fl_X6_129 : Cond.fieldLink RX6 129 "NoBetweens$Land" "steps" "[I" ∈ BIG := big_in 125 (by decide +kernel) rfl
theorem fl_X5_121 : Cond.fieldLink RX5 121 "NoBetweens$Land" "steps" "[I" ∈ BIG := big_in 126 (by decide +kernel) rfl
theorem fl_X1_31 : Cond.fieldLink RX1 31 "NoBetweens$Land" "spots" "[I" ∈ BIG := big_in 127 (by decide +kernel) rfl
theorem fl_X6_142 : Cond.fieldLink RX6 142 "NoBetweens$Land" "spots" "[I" ∈ BIG := big_in 128 (by decide +kernel) rfl
theorem fl_X5_91 : Cond.fieldLink RX5 91 "NoBetweens$Land" "spots" "[I" ∈ BIG := big_in 129 (by decide +kernel) rfl
theorem ac_int : Cond.arrayClass .int ∈ BIG := big_in 145 (by decide +kernel) rfl
theorem cl_X5_22 : Cond.classLink RX5 22 RX2 ∈ BIG := big_in 146 (by decide +kernel) rfl
theorem inst_X2 : Cond.instantiable RX2 5 ∈ BIG := big_in 147 (by decide +kernel) rfl
theorem im_X2_init : Cond.instanceMethod yX2_init ∈ BIG := big_in 149 (by decide +kernel) rfl
theorem cd_X2_init : Cond.code yX2_init cX2_init 1 none ∈ BIG := big_in 150 (by decide +kernel) rfl
theorem ml_X2_3 : Cond.methodLink RX2 3 ⟨"java/lang/Object", "<init>", "()V"⟩ ∈ BIG := big_in 151 (by decide +kernel) rfl
theorem fl_X2_9 : Cond.fieldLink RX2 9 "NoBetweens$Moment" "year" "I" ∈ BIG := big_in 152 (by decide +kernel) rfl
theorem fl_X6_145 : Cond.fieldLink RX6 145 "NoBetweens$Moment" "year" "I" ∈ BIG := big_in 153 (by decide +kernel) rfl
theorem fl_X2_15 : Cond.fieldLink RX2 15 "NoBetweens$Moment" "jumps" "I" ∈ BIG := big_in 154 (by decide +kernel) rfl
theorem fl_X6_178 : Cond.fieldLink RX6 178 "NoBetweens$Moment" "jumps" "I" ∈ BIG := big_in 155 (by decide +kernel) rfl
theorem fl_X2_18 : Cond.fieldLink RX2 18 "NoBetweens$Moment" "values" "[I" ∈ BIG := big_in 156 (by decide +kernel) rfl
theorem fl_X6_122 : Cond.fieldLink RX6 122 "NoBetweens$Moment" "values" "[I" ∈ BIG := big_in 157 (by decide +kernel) rfl
theorem fl_X5_118 : Cond.fieldLink RX5 118 "NoBetweens$Moment" "values" "[I" ∈ BIG := big_in 158 (by decide +kernel) rfl
theorem fl_X2_22 : Cond.fieldLink RX2 22 "NoBetweens$Moment" "laws" "[I" ∈ BIG := big_in 159 (by decide +kernel) rfl
theorem fl_X6_110 : Cond.fieldLink RX6 110 "NoBetweens$Moment" "laws" "[I" ∈ BIG := big_in 160 (by decide +kernel) rfl
theorem fl_X5_106 : Cond.fieldLink RX5 106 "NoBetweens$Moment" "laws" "[I" ∈ BIG := big_in 161 (by decide +kernel) rfl
theorem fl_X2_25 : Cond.fieldLink RX2 25 "NoBetweens$Moment" "marks" "[I" ∈ BIG := big_in 162 (by decide +kernel) rfl
theorem fl_X6_116 : Cond.fieldLink RX6 116 "NoBetweens$Moment" "marks" "[I" ∈ BIG := big_in 163 (by decide +kernel) rfl
theorem fl_X5_112 : Cond.fieldLink RX5 112 "NoBetweens$Moment" "marks" "[I" ∈ BIG := big_in 164 (by decide +kernel) rfl
theorem fl_X5_9 : Cond.fieldLink RX5 9 "NoBetweens$Text" "length" "I" ∈ BIG := big_in 176 (by decide +kernel) rfl
theorem fl_X6_74 : Cond.fieldLink RX6 74 "NoBetweens$Text" "length" "I" ∈ BIG := big_in 177 (by decide +kernel) rfl
theorem fl_X5_18 : Cond.fieldLink RX5 18 "NoBetweens$Text" "land" "LNoBetweens$Land;" ∈ BIG := big_in 178 (by decide +kernel) rfl
theorem fl_X6_86 : Cond.fieldLink RX6 86 "NoBetweens$Text" "land" "LNoBetweens$Land;" ∈ BIG := big_in 179 (by decide +kernel) rfl
theorem fl_X5_25 : Cond.fieldLink RX5 25 "NoBetweens$Text" "moment" "LNoBetweens$Moment;" ∈ BIG := big_in 180 (by decide +kernel) rfl
theorem fl_X6_93 : Cond.fieldLink RX6 93 "NoBetweens$Text" "moment" "LNoBetweens$Moment;" ∈ BIG := big_in 181 (by decide +kernel) rfl
theorem fl_X5_29 : Cond.fieldLink RX5 29 "NoBetweens$Text" "letters" "[I" ∈ BIG := big_in 182 (by decide +kernel) rfl
theorem fl_X5_33 : Cond.fieldLink RX5 33 "NoBetweens$Text" "tokens" "[I" ∈ BIG := big_in 183 (by decide +kernel) rfl
theorem fl_X5_36 : Cond.fieldLink RX5 36 "NoBetweens$Text" "starts" "[I" ∈ BIG := big_in 184 (by decide +kernel) rfl
theorem fl_X5_39 : Cond.fieldLink RX5 39 "NoBetweens$Text" "next" "I" ∈ BIG := big_in 185 (by decide +kernel) rfl
theorem fl_X5_42 : Cond.fieldLink RX5 42 "NoBetweens$Text" "items" "I" ∈ BIG := big_in 186 (by decide +kernel) rfl
theorem fl_X5_45 : Cond.fieldLink RX5 45 "NoBetweens$Text" "fault" "I" ∈ BIG := big_in 187 (by decide +kernel) rfl
theorem fl_X5_48 : Cond.fieldLink RX5 48 "NoBetweens$Text" "drawerTold" "Z" ∈ BIG := big_in 188 (by decide +kernel) rfl
theorem cl_X6_16 : Cond.classLink RX6 16 RX1 ∈ BIG := big_in 210 (by decide +kernel) rfl
theorem cl_X6_23 : Cond.classLink RX6 23 RX2 ∈ BIG := big_in 212 (by decide +kernel) rfl
theorem cl_X6_30 : Cond.classLink RX6 30 RX3 ∈ BIG := big_in 214 (by decide +kernel) rfl
theorem inst_X3 : Cond.instantiable RX3 3 ∈ BIG := big_in 215 (by decide +kernel) rfl
theorem ml_X6_32 : Cond.methodLink RX6 32 yX3_init ∈ BIG := big_in 216 (by decide +kernel) rfl
theorem im_X3_init : Cond.instanceMethod yX3_init ∈ BIG := big_in 217 (by decide +kernel) rfl
theorem cd_X3_init : Cond.code yX3_init cX3_init 2 none ∈ BIG := big_in 218 (by decide +kernel) rfl
theorem ml_X3_3 : Cond.methodLink RX3 3 ⟨"java/lang/Object", "<init>", "()V"⟩ ∈ BIG := big_in 219 (by decide +kernel) rfl
theorem cl_X3_18 : Cond.classLink RX3 18 RX2 ∈ BIG := big_in 220 (by decide +kernel) rfl
theorem fl_X3_9 : Cond.fieldLink RX3 9 "NoBetweens$Past" "known" "I" ∈ BIG := big_in 223 (by decide +kernel) rfl
theorem fl_X6_99 : Cond.fieldLink RX6 99 "NoBetweens$Past" "known" "I" ∈ BIG := big_in 224 (by decide +kernel) rfl
theorem fl_X3_15 : Cond.fieldLink RX3 15 "NoBetweens$Past" "next" "I" ∈ BIG := big_in 225 (by decide +kernel) rfl
theorem fl_X3_20 : Cond.fieldLink RX3 20 "NoBetweens$Past" "ring" "[LNoBetweens$Moment;" ∈ BIG := big_in 226 (by decide +kernel) rfl
theorem cl_X6_45 : Cond.classLink RX6 45 RX0 ∈ BIG := big_in 234 (by decide +kernel) rfl
theorem inst_X0 : Cond.instantiable RX0 6 ∈ BIG := big_in 235 (by decide +kernel) rfl
theorem im_X0_init : Cond.instanceMethod yX0_init ∈ BIG := big_in 237 (by decide +kernel) rfl
theorem cd_X0_init : Cond.code yX0_init cX0_init 1 none ∈ BIG := big_in 238 (by decide +kernel) rfl
theorem ml_X0_3 : Cond.methodLink RX0 3 ⟨"java/lang/Object", "<init>", "()V"⟩ ∈ BIG := big_in 239 (by decide +kernel) rfl
theorem fl_X0_9 : Cond.fieldLink RX0 9 "NoBetweens$Agenda" "size" "I" ∈ BIG := big_in 240 (by decide +kernel) rfl
theorem fl_X6_102 : Cond.fieldLink RX6 102 "NoBetweens$Agenda" "size" "I" ∈ BIG := big_in 241 (by decide +kernel) rfl
theorem fl_X0_15 : Cond.fieldLink RX0 15 "NoBetweens$Agenda" "scales" "[I" ∈ BIG := big_in 242 (by decide +kernel) rfl
theorem fl_X6_290 : Cond.fieldLink RX6 290 "NoBetweens$Agenda" "scales" "[I" ∈ BIG := big_in 243 (by decide +kernel) rfl
theorem fl_X0_19 : Cond.fieldLink RX0 19 "NoBetweens$Agenda" "bys" "[I" ∈ BIG := big_in 244 (by decide +kernel) rfl
theorem fl_X6_292 : Cond.fieldLink RX6 292 "NoBetweens$Agenda" "bys" "[I" ∈ BIG := big_in 245 (by decide +kernel) rfl
theorem fl_X0_22 : Cond.fieldLink RX0 22 "NoBetweens$Agenda" "order" "[I" ∈ BIG := big_in 246 (by decide +kernel) rfl
theorem fl_X6_287 : Cond.fieldLink RX6 287 "NoBetweens$Agenda" "order" "[I" ∈ BIG := big_in 247 (by decide +kernel) rfl
theorem fl_X0_25 : Cond.fieldLink RX0 25 "NoBetweens$Agenda" "firstOrder" "[I" ∈ BIG := big_in 248 (by decide +kernel) rfl
theorem fl_X6_197 : Cond.fieldLink RX6 197 "NoBetweens$Agenda" "firstOrder" "[I" ∈ BIG := big_in 249 (by decide +kernel) rfl
theorem fl_X0_28 : Cond.fieldLink RX0 28 "NoBetweens$Agenda" "values" "[I" ∈ BIG := big_in 250 (by decide +kernel) rfl
theorem fl_X6_286 : Cond.fieldLink RX6 286 "NoBetweens$Agenda" "values" "[I" ∈ BIG := big_in 251 (by decide +kernel) rfl
theorem ac_boolean : Cond.arrayClass .boolean ∈ BIG := big_in 265 (by decide +kernel) rfl
theorem cl_X6_52 : Cond.classLink RX6 52 RX4 ∈ BIG := big_in 266 (by decide +kernel) rfl
theorem inst_X4 : Cond.instantiable RX4 4 ∈ BIG := big_in 267 (by decide +kernel) rfl
theorem im_X4_init : Cond.instanceMethod yX4_init ∈ BIG := big_in 269 (by decide +kernel) rfl
theorem cd_X4_init : Cond.code yX4_init cX4_init 1 none ∈ BIG := big_in 270 (by decide +kernel) rfl
theorem ml_X4_3 : Cond.methodLink RX4 3 ⟨"java/lang/Object", "<init>", "()V"⟩ ∈ BIG := big_in 271 (by decide +kernel) rfl
theorem fl_X4_9 : Cond.fieldLink RX4 9 "NoBetweens$Register" "size" "I" ∈ BIG := big_in 272 (by decide +kernel) rfl
theorem fl_X6_105 : Cond.fieldLink RX6 105 "NoBetweens$Register" "size" "I" ∈ BIG := big_in 273 (by decide +kernel) rfl
theorem fl_X4_15 : Cond.fieldLink RX4 15 "NoBetweens$Register" "scales" "[I" ∈ BIG := big_in 274 (by decide +kernel) rfl
theorem fl_X6_308 : Cond.fieldLink RX6 308 "NoBetweens$Register" "scales" "[I" ∈ BIG := big_in 275 (by decide +kernel) rfl
theorem fl_X4_19 : Cond.fieldLink RX4 19 "NoBetweens$Register" "years" "[I" ∈ BIG := big_in 276 (by decide +kernel) rfl
theorem fl_X6_309 : Cond.fieldLink RX6 309 "NoBetweens$Register" "years" "[I" ∈ BIG := big_in 277 (by decide +kernel) rfl
theorem fl_X4_22 : Cond.fieldLink RX4 22 "NoBetweens$Register" "ends" "[I" ∈ BIG := big_in 278 (by decide +kernel) rfl
theorem fl_X6_312 : Cond.fieldLink RX6 312 "NoBetweens$Register" "ends" "[I" ∈ BIG := big_in 279 (by decide +kernel) rfl
theorem fl_X6_10 : Cond.fieldLink RX6 10 "NoBetweens" "text" "LNoBetweens$Text;" ∈ BIG := big_in 289 (by decide +kernel) rfl
theorem fl_X6_19 : Cond.fieldLink RX6 19 "NoBetweens" "told" "LNoBetweens$Land;" ∈ BIG := big_in 290 (by decide +kernel) rfl
theorem fl_X6_26 : Cond.fieldLink RX6 26 "NoBetweens" "present" "LNoBetweens$Moment;" ∈ BIG := big_in 291 (by decide +kernel) rfl
theorem fl_X6_33 : Cond.fieldLink RX6 33 "NoBetweens" "past" "LNoBetweens$Past;" ∈ BIG := big_in 292 (by decide +kernel) rfl
theorem fl_X6_37 : Cond.fieldLink RX6 37 "NoBetweens" "images" "[LNoBetweens$Moment;" ∈ BIG := big_in 293 (by decide +kernel) rfl
theorem fl_X6_41 : Cond.fieldLink RX6 41 "NoBetweens" "kept" "[Z" ∈ BIG := big_in 294 (by decide +kernel) rfl
theorem fl_X6_48 : Cond.fieldLink RX6 48 "NoBetweens" "agenda" "LNoBetweens$Agenda;" ∈ BIG := big_in 295 (by decide +kernel) rfl
theorem fl_X6_55 : Cond.fieldLink RX6 55 "NoBetweens" "register" "LNoBetweens$Register;" ∈ BIG := big_in 296 (by decide +kernel) rfl
theorem fl_X6_59 : Cond.fieldLink RX6 59 "NoBetweens" "jumpsToGo" "[I" ∈ BIG := big_in 297 (by decide +kernel) rfl
theorem fl_X6_63 : Cond.fieldLink RX6 63 "NoBetweens" "fewestParts" "[I" ∈ BIG := big_in 298 (by decide +kernel) rfl
theorem fl_X6_66 : Cond.fieldLink RX6 66 "NoBetweens" "traced" "J" ∈ BIG := big_in 299 (by decide +kernel) rfl
theorem ml_L_13 : Cond.methodLink RL 13 yX6_type ∈ BIG := big_in 323 (by decide +kernel) rfl
theorem im_X6_type : Cond.instanceMethod yX6_type ∈ BIG := big_in 324 (by decide +kernel) rfl
theorem sl_X6_type : Cond.selects RX6 yX6_type yX6_type ∈ BIG := big_in 325 (by decide +kernel) rfl
theorem cd_X6_type : Cond.code yX6_type cX6_type 2 (some .int) ∈ BIG := big_in 326 (by decide +kernel) rfl
theorem ml_X6_70 : Cond.methodLink RX6 70 yX6_within ∈ BIG := big_in 327 (by decide +kernel) rfl
theorem st_X6_within : Cond.static yX6_within ∈ BIG := big_in 328 (by decide +kernel) rfl
theorem cd_X6_within : Cond.code yX6_within cX6_within 3 (some .boolean) ∈ BIG := big_in 329 (by decide +kernel) rfl
theorem ml_X6_78 : Cond.methodLink RX6 78 yX5_adds ∈ BIG := big_in 330 (by decide +kernel) rfl
theorem im_X5_adds : Cond.instanceMethod yX5_adds ∈ BIG := big_in 331 (by decide +kernel) rfl
theorem sl_X5_adds : Cond.selects RX5 yX5_adds yX5_adds ∈ BIG := big_in 332 (by decide +kernel) rfl
theorem cd_X5_adds : Cond.code yX5_adds cX5_adds 2 none ∈ BIG := big_in 333 (by decide +kernel) rfl
theorem ml_L_18 : Cond.methodLink RL 18 yX6_clear ∈ BIG := big_in 334 (by decide +kernel) rfl
theorem im_X6_clear : Cond.instanceMethod yX6_clear ∈ BIG := big_in 335 (by decide +kernel) rfl
theorem sl_X6_clear : Cond.selects RX6 yX6_clear yX6_clear ∈ BIG := big_in 336 (by decide +kernel) rfl
theorem cd_X6_clear : Cond.code yX6_clear cX6_clear 2 (some .int) ∈ BIG := big_in 337 (by decide +kernel) rfl
theorem ml_L_23 : Cond.methodLink RL 23 yX6_land ∈ BIG := big_in 338 (by decide +kernel) rfl
theorem im_X6_land : Cond.instanceMethod yX6_land ∈ BIG := big_in 339 (by decide +kernel) rfl
theorem sl_X6_land : Cond.selects RX6 yX6_land yX6_land ∈ BIG := big_in 340 (by decide +kernel) rfl
theorem cd_X6_land : Cond.code yX6_land cX6_land 3 (some .int) ∈ BIG := big_in 341 (by decide +kernel) rfl
theorem ml_X6_82 : Cond.methodLink RX6 82 yX5_reads ∈ BIG := big_in 342 (by decide +kernel) rfl
theorem im_X5_reads : Cond.instanceMethod yX5_reads ∈ BIG := big_in 343 (by decide +kernel) rfl
theorem sl_X5_reads : Cond.selects RX5 yX5_reads yX5_reads ∈ BIG := big_in 344 (by decide +kernel) rfl
theorem cd_X5_reads : Cond.code yX5_reads cX5_reads 2 (some .int) ∈ BIG := big_in 345 (by decide +kernel) rfl
theorem ml_X5_52 : Cond.methodLink RX5 52 yX5_splitsIntoTokens ∈ BIG := big_in 346 (by decide +kernel) rfl
theorem im_X5_splitsIntoTokens : Cond.instanceMethod yX5_splitsIntoTokens ∈ BIG := big_in 348 (by decide +kernel) rfl
theorem cd_X5_splitsIntoTokens : Cond.code yX5_splitsIntoTokens cX5_splitsIntoTokens 3 none ∈ BIG := big_in 349 (by decide +kernel) rfl
theorem ml_X5_61 : Cond.methodLink RX5 61 yX5_startsToken ∈ BIG := big_in 350 (by decide +kernel) rfl
theorem im_X5_startsToken : Cond.instanceMethod yX5_startsToken ∈ BIG := big_in 352 (by decide +kernel) rfl
theorem cd_X5_startsToken : Cond.code yX5_startsToken cX5_startsToken 3 (some .boolean) ∈ BIG := big_in 353 (by decide +kernel) rfl
theorem ml_X5_69 : Cond.methodLink RX5 69 yX5_isDigit ∈ BIG := big_in 354 (by decide +kernel) rfl
theorem im_X5_isDigit : Cond.instanceMethod yX5_isDigit ∈ BIG := big_in 356 (by decide +kernel) rfl
theorem cd_X5_isDigit : Cond.code yX5_isDigit cX5_isDigit 2 (some .boolean) ∈ BIG := big_in 357 (by decide +kernel) rfl
theorem ml_X5_65 : Cond.methodLink RX5 65 yX5_tokenFrom ∈ BIG := big_in 358 (by decide +kernel) rfl
theorem im_X5_tokenFrom : Cond.instanceMethod yX5_tokenFrom ∈ BIG := big_in 360 (by decide +kernel) rfl
theorem cd_X5_tokenFrom : Cond.code yX5_tokenFrom cX5_tokenFrom 4 (some .int) ∈ BIG := big_in 361 (by decide +kernel) rfl
theorem ml_X5_72 : Cond.methodLink RX5 72 yX5_numberFrom ∈ BIG := big_in 362 (by decide +kernel) rfl
theorem im_X5_numberFrom : Cond.instanceMethod yX5_numberFrom ∈ BIG := big_in 364 (by decide +kernel) rfl
theorem cd_X5_numberFrom : Cond.code yX5_numberFrom cX5_numberFrom 3 (some .int) ∈ BIG := big_in 365 (by decide +kernel) rfl
theorem ml_X5_55 : Cond.methodLink RX5 55 yX1_empties ∈ BIG := big_in 366 (by decide +kernel) rfl
theorem im_X1_empties : Cond.instanceMethod yX1_empties ∈ BIG := big_in 367 (by decide +kernel) rfl
theorem sl_X1_empties : Cond.selects RX1 yX1_empties yX1_empties ∈ BIG := big_in 368 (by decide +kernel) rfl
theorem cd_X1_empties : Cond.code yX1_empties cX1_empties 1 none ∈ BIG := big_in 369 (by decide +kernel) rfl
theorem ml_X5_58 : Cond.methodLink RX5 58 yX5_readsItem ∈ BIG := big_in 370 (by decide +kernel) rfl
theorem im_X5_readsItem : Cond.instanceMethod yX5_readsItem ∈ BIG := big_in 372 (by decide +kernel) rfl
theorem cd_X5_readsItem : Cond.code yX5_readsItem cX5_readsItem 2 none ∈ BIG := big_in 373 (by decide +kernel) rfl
theorem ml_X5_75 : Cond.methodLink RX5 75 yX5_mayBegin ∈ BIG := big_in 374 (by decide +kernel) rfl
theorem im_X5_mayBegin : Cond.instanceMethod yX5_mayBegin ∈ BIG := big_in 376 (by decide +kernel) rfl
theorem cd_X5_mayBegin : Cond.code yX5_mayBegin cX5_mayBegin 2 (some .boolean) ∈ BIG := big_in 377 (by decide +kernel) rfl
theorem ml_X5_78 : Cond.methodLink RX5 78 yX5_readsScale ∈ BIG := big_in 378 (by decide +kernel) rfl
theorem im_X5_readsScale : Cond.instanceMethod yX5_readsScale ∈ BIG := big_in 380 (by decide +kernel) rfl
theorem cd_X5_readsScale : Cond.code yX5_readsScale cX5_readsScale 2 none ∈ BIG := big_in 381 (by decide +kernel) rfl
theorem ml_X5_84 : Cond.methodLink RX5 84 yX5_takesNumber ∈ BIG := big_in 382 (by decide +kernel) rfl
theorem im_X5_takesNumber : Cond.instanceMethod yX5_takesNumber ∈ BIG := big_in 384 (by decide +kernel) rfl
theorem cd_X5_takesNumber : Cond.code yX5_takesNumber cX5_takesNumber 4 (some .int) ∈ BIG := big_in 385 (by decide +kernel) rfl
theorem ml_X5_128 : Cond.methodLink RX5 128 yX5_takes ∈ BIG := big_in 387 (by decide +kernel) rfl
theorem im_X5_takes : Cond.instanceMethod yX5_takes ∈ BIG := big_in 389 (by decide +kernel) rfl
theorem cd_X5_takes : Cond.code yX5_takes cX5_takes 2 none ∈ BIG := big_in 390 (by decide +kernel) rfl
theorem ml_X5_81 : Cond.methodLink RX5 81 yX5_readsLife ∈ BIG := big_in 391 (by decide +kernel) rfl
theorem im_X5_readsLife : Cond.instanceMethod yX5_readsLife ∈ BIG := big_in 393 (by decide +kernel) rfl
theorem cd_X5_readsLife : Cond.code yX5_readsLife cX5_readsLife 3 none ∈ BIG := big_in 394 (by decide +kernel) rfl
theorem st_X6_cell : Cond.static yX6_cell ∈ BIG := big_in 396 (by decide +kernel) rfl
theorem cd_X6_cell : Cond.code yX6_cell cX6_cell 2 (some .int) ∈ BIG := big_in 397 (by decide +kernel) rfl
theorem ml_X5_97 : Cond.methodLink RX5 97 yX5_takesSemicolon ∈ BIG := big_in 398 (by decide +kernel) rfl
theorem im_X5_takesSemicolon : Cond.instanceMethod yX5_takesSemicolon ∈ BIG := big_in 400 (by decide +kernel) rfl
theorem cd_X5_takesSemicolon : Cond.code yX5_takesSemicolon cX5_takesSemicolon 1 none ∈ BIG := big_in 401 (by decide +kernel) rfl
theorem ml_X6_89 : Cond.methodLink RX6 89 yX1_becomes ∈ BIG := big_in 402 (by decide +kernel) rfl
theorem im_X1_becomes : Cond.instanceMethod yX1_becomes ∈ BIG := big_in 403 (by decide +kernel) rfl
theorem sl_X1_becomes : Cond.selects RX1 yX1_becomes yX1_becomes ∈ BIG := big_in 404 (by decide +kernel) rfl
theorem cd_X1_becomes : Cond.code yX1_becomes cX1_becomes 2 none ∈ BIG := big_in 405 (by decide +kernel) rfl
theorem ml_X1_34 : Cond.methodLink RX1 34 arraycopyName ∈ BIG := big_in 406 (by decide +kernel) rfl
theorem st_arraycopy : Cond.static arraycopyName ∈ BIG := big_in 407 (by decide +kernel) rfl
theorem nat_arraycopy : Cond.native arraycopyName ∈ BIG := big_in 408 (by decide +kernel) rfl
theorem ml_X6_96 : Cond.methodLink RX6 96 yX2_becomes ∈ BIG := big_in 409 (by decide +kernel) rfl
theorem im_X2_becomes : Cond.instanceMethod yX2_becomes ∈ BIG := big_in 410 (by decide +kernel) rfl
theorem sl_X2_becomes : Cond.selects RX2 yX2_becomes yX2_becomes ∈ BIG := big_in 411 (by decide +kernel) rfl
theorem cd_X2_becomes : Cond.code yX2_becomes cX2_becomes 2 none ∈ BIG := big_in 412 (by decide +kernel) rfl
theorem ml_X2_28 : Cond.methodLink RX2 28 arraycopyName ∈ BIG := big_in 413 (by decide +kernel) rfl
theorem ml_L_27 : Cond.methodLink RL 27 yX6_scale ∈ BIG := big_in 414 (by decide +kernel) rfl
theorem im_X6_scale : Cond.instanceMethod yX6_scale ∈ BIG := big_in 415 (by decide +kernel) rfl
theorem sl_X6_scale : Cond.selects RX6 yX6_scale yX6_scale ∈ BIG := big_in 416 (by decide +kernel) rfl
theorem cd_X6_scale : Cond.code yX6_scale cX6_scale 3 (some .int) ∈ BIG := big_in 417 (by decide +kernel) rfl
theorem ml_X6_106 : Cond.methodLink RX6 106 yX1_hasScale ∈ BIG := big_in 418 (by decide +kernel) rfl
theorem im_X1_hasScale : Cond.instanceMethod yX1_hasScale ∈ BIG := big_in 419 (by decide +kernel) rfl
theorem sl_X1_hasScale : Cond.selects RX1 yX1_hasScale yX1_hasScale ∈ BIG := big_in 420 (by decide +kernel) rfl
theorem cd_X1_hasScale : Cond.code yX1_hasScale cX1_hasScale 2 (some .boolean) ∈ BIG := big_in 421 (by decide +kernel) rfl
theorem ml_L_32 : Cond.methodLink RL 32 yX6_life ∈ BIG := big_in 422 (by decide +kernel) rfl
theorem im_X6_life : Cond.instanceMethod yX6_life ∈ BIG := big_in 423 (by decide +kernel) rfl
theorem sl_X6_life : Cond.selects RX6 yX6_life yX6_life ∈ BIG := big_in 424 (by decide +kernel) rfl
theorem cd_X6_life : Cond.code yX6_life cX6_life 4 (some .int) ∈ BIG := big_in 425 (by decide +kernel) rfl
theorem ml_X6_119 : Cond.methodLink RX6 119 yX1_hasLife ∈ BIG := big_in 426 (by decide +kernel) rfl
theorem im_X1_hasLife : Cond.instanceMethod yX1_hasLife ∈ BIG := big_in 427 (by decide +kernel) rfl
theorem sl_X1_hasLife : Cond.selects RX1 yX1_hasLife yX1_hasLife ∈ BIG := big_in 428 (by decide +kernel) rfl
theorem cd_X1_hasLife : Cond.code yX1_hasLife cX1_hasLife 2 (some .boolean) ∈ BIG := big_in 429 (by decide +kernel) rfl
theorem ml_X6_125 : Cond.methodLink RX6 125 yX6_cell ∈ BIG := big_in 430 (by decide +kernel) rfl
theorem ml_X6_132 : Cond.methodLink RX6 132 yX6_endBehind ∈ BIG := big_in 431 (by decide +kernel) rfl
theorem im_X6_endBehind : Cond.instanceMethod yX6_endBehind ∈ BIG := big_in 433 (by decide +kernel) rfl
theorem cd_X6_endBehind : Cond.code yX6_endBehind cX6_endBehind 4 (some .int) ∈ BIG := big_in 434 (by decide +kernel) rfl
theorem ml_X6_264 : Cond.methodLink RX6 264 yX6_valueBehind ∈ BIG := big_in 435 (by decide +kernel) rfl
theorem im_X6_valueBehind : Cond.instanceMethod yX6_valueBehind ∈ BIG := big_in 437 (by decide +kernel) rfl
theorem cd_X6_valueBehind : Cond.code yX6_valueBehind cX6_valueBehind 5 (some .int) ∈ BIG := big_in 438 (by decide +kernel) rfl
theorem ml_X6_154 : Cond.methodLink RX6 154 yX6_moved ∈ BIG := big_in 439 (by decide +kernel) rfl
theorem st_X6_moved : Cond.static yX6_moved ∈ BIG := big_in 440 (by decide +kernel) rfl
theorem cd_X6_moved : Cond.code yX6_moved cX6_moved 3 (some .int) ∈ BIG := big_in 441 (by decide +kernel) rfl
theorem ml_X6_253 : Cond.methodLink RX6 253 ⟨"java/lang/Math", "min", "(II)I"⟩ ∈ BIG := big_in 442 (by decide +kernel) rfl
theorem st_J9_min_7cf53 : Cond.static yJ9_min_7cf53 ∈ BIG := big_in 443 (by decide +kernel) rfl
theorem cd_J9_min_7cf53 : Cond.code yJ9_min_7cf53 cJ9_min_7cf53 2 (some .int) ∈ BIG := big_in 444 (by decide +kernel) rfl
theorem ml_X6_258 : Cond.methodLink RX6 258 ⟨"java/lang/Math", "max", "(II)I"⟩ ∈ BIG := big_in 445 (by decide +kernel) rfl
theorem st_J9_max_7cf53 : Cond.static yJ9_max_7cf53 ∈ BIG := big_in 446 (by decide +kernel) rfl
theorem cd_J9_max_7cf53 : Cond.code yJ9_max_7cf53 cJ9_max_7cf53 2 (some .int) ∈ BIG := big_in 447 (by decide +kernel) rfl
theorem ml_X6_136 : Cond.methodLink RX6 136 yX6_endOf ∈ BIG := big_in 448 (by decide +kernel) rfl
theorem im_X6_endOf : Cond.instanceMethod yX6_endOf ∈ BIG := big_in 450 (by decide +kernel) rfl
theorem cd_X6_endOf : Cond.code yX6_endOf cX6_endOf 3 (some .int) ∈ BIG := big_in 451 (by decide +kernel) rfl
theorem ml_X6_261 : Cond.methodLink RX6 261 yX6_endBy ∈ BIG := big_in 452 (by decide +kernel) rfl
theorem st_X6_endBy : Cond.static yX6_endBy ∈ BIG := big_in 453 (by decide +kernel) rfl
theorem cd_X6_endBy : Cond.code yX6_endBy cX6_endBy 5 (some .int) ∈ BIG := big_in 454 (by decide +kernel) rfl
theorem ml_L_37 : Cond.methodLink RL 37 yX6_end ∈ BIG := big_in 455 (by decide +kernel) rfl
theorem im_X6_end : Cond.instanceMethod yX6_end ∈ BIG := big_in 456 (by decide +kernel) rfl
theorem sl_X6_end : Cond.selects RX6 yX6_end yX6_end ∈ BIG := big_in 457 (by decide +kernel) rfl
theorem cd_X6_end : Cond.code yX6_end cX6_end 3 (some .int) ∈ BIG := big_in 458 (by decide +kernel) rfl
theorem ml_L_41 : Cond.methodLink RL 41 yX6_place ∈ BIG := big_in 459 (by decide +kernel) rfl
theorem im_X6_place : Cond.instanceMethod yX6_place ∈ BIG := big_in 460 (by decide +kernel) rfl
theorem sl_X6_place : Cond.selects RX6 yX6_place yX6_place ∈ BIG := big_in 461 (by decide +kernel) rfl
theorem cd_X6_place : Cond.code yX6_place cX6_place 2 (some .int) ∈ BIG := big_in 462 (by decide +kernel) rfl
theorem ml_X6_139 : Cond.methodLink RX6 139 yX1_hasPlace ∈ BIG := big_in 463 (by decide +kernel) rfl
theorem im_X1_hasPlace : Cond.instanceMethod yX1_hasPlace ∈ BIG := big_in 464 (by decide +kernel) rfl
theorem sl_X1_hasPlace : Cond.selects RX1 yX1_hasPlace yX1_hasPlace ∈ BIG := big_in 465 (by decide +kernel) rfl
theorem cd_X1_hasPlace : Cond.code yX1_hasPlace cX1_hasPlace 2 (some .boolean) ∈ BIG := big_in 466 (by decide +kernel) rfl
theorem ml_L_45 : Cond.methodLink RL 45 yX6_passes ∈ BIG := big_in 467 (by decide +kernel) rfl
theorem im_X6_passes : Cond.instanceMethod yX6_passes ∈ BIG := big_in 468 (by decide +kernel) rfl
theorem sl_X6_passes : Cond.selects RX6 yX6_passes yX6_passes ∈ BIG := big_in 469 (by decide +kernel) rfl
theorem cd_X6_passes : Cond.code yX6_passes cX6_passes 3 (some .int) ∈ BIG := big_in 470 (by decide +kernel) rfl
theorem ml_X6_148 : Cond.methodLink RX6 148 yX3_remembers ∈ BIG := big_in 471 (by decide +kernel) rfl
theorem im_X3_remembers : Cond.instanceMethod yX3_remembers ∈ BIG := big_in 472 (by decide +kernel) rfl
theorem sl_X3_remembers : Cond.selects RX3 yX3_remembers yX3_remembers ∈ BIG := big_in 473 (by decide +kernel) rfl
theorem cd_X3_remembers : Cond.code yX3_remembers cX3_remembers 2 none ∈ BIG := big_in 474 (by decide +kernel) rfl
theorem ml_X3_25 : Cond.methodLink RX3 25 yX2_becomes ∈ BIG := big_in 475 (by decide +kernel) rfl
theorem ml_X3_29 : Cond.methodLink RX3 29 ⟨"java/lang/Math", "min", "(II)I"⟩ ∈ BIG := big_in 476 (by decide +kernel) rfl
theorem ml_X6_151 : Cond.methodLink RX6 151 yX6_goByOneYear ∈ BIG := big_in 477 (by decide +kernel) rfl
theorem im_X6_goByOneYear : Cond.instanceMethod yX6_goByOneYear ∈ BIG := big_in 479 (by decide +kernel) rfl
theorem cd_X6_goByOneYear : Cond.code yX6_goByOneYear cX6_goByOneYear 3 none ∈ BIG := big_in 480 (by decide +kernel) rfl
theorem ml_L_49 : Cond.methodLink RL 49 yX6_changes ∈ BIG := big_in 481 (by decide +kernel) rfl
theorem im_X6_changes : Cond.instanceMethod yX6_changes ∈ BIG := big_in 482 (by decide +kernel) rfl
theorem sl_X6_changes : Cond.selects RX6 yX6_changes yX6_changes ∈ BIG := big_in 483 (by decide +kernel) rfl
theorem cd_X6_changes : Cond.code yX6_changes cX6_changes 5 (some .int) ∈ BIG := big_in 484 (by decide +kernel) rfl
theorem ml_L_53 : Cond.methodLink RL 53 yX6_law ∈ BIG := big_in 485 (by decide +kernel) rfl
theorem im_X6_law : Cond.instanceMethod yX6_law ∈ BIG := big_in 486 (by decide +kernel) rfl
theorem sl_X6_law : Cond.selects RX6 yX6_law yX6_law ∈ BIG := big_in 487 (by decide +kernel) rfl
theorem cd_X6_law : Cond.code yX6_law cX6_law 4 (some .int) ∈ BIG := big_in 488 (by decide +kernel) rfl
theorem ml_X6_157 : Cond.methodLink RX6 157 yX6_canBeLaw ∈ BIG := big_in 489 (by decide +kernel) rfl
theorem im_X6_canBeLaw : Cond.instanceMethod yX6_canBeLaw ∈ BIG := big_in 491 (by decide +kernel) rfl
theorem cd_X6_canBeLaw : Cond.code yX6_canBeLaw cX6_canBeLaw 4 (some .boolean) ∈ BIG := big_in 492 (by decide +kernel) rfl
theorem ml_X6_160 : Cond.methodLink RX6 160 yX6_unlawfulLives ∈ BIG := big_in 493 (by decide +kernel) rfl
theorem im_X6_unlawfulLives : Cond.instanceMethod yX6_unlawfulLives ∈ BIG := big_in 495 (by decide +kernel) rfl
theorem cd_X6_unlawfulLives : Cond.code yX6_unlawfulLives cX6_unlawfulLives 3 (some .int) ∈ BIG := big_in 496 (by decide +kernel) rfl
theorem ml_X6_181 : Cond.methodLink RX6 181 yX6_unlawfulScale ∈ BIG := big_in 497 (by decide +kernel) rfl
theorem im_X6_unlawfulScale : Cond.instanceMethod yX6_unlawfulScale ∈ BIG := big_in 499 (by decide +kernel) rfl
theorem cd_X6_unlawfulScale : Cond.code yX6_unlawfulScale cX6_unlawfulScale 4 (some .int) ∈ BIG := big_in 500 (by decide +kernel) rfl
theorem ml_X6_163 : Cond.methodLink RX6 163 yJ6_bitCount_0f7a4 ∈ BIG := big_in 501 (by decide +kernel) rfl
theorem st_J6_bitCount_0f7a4 : Cond.static yJ6_bitCount_0f7a4 ∈ BIG := big_in 502 (by decide +kernel) rfl
theorem cd_J6_bitCount_0f7a4 : Cond.code yJ6_bitCount_0f7a4 cJ6_bitCount_0f7a4 1 (some .int) ∈ BIG := big_in 503 (by decide +kernel) rfl
theorem ct_J6_265 : Cond.constant RJ6 265 (1431655765) ∈ BIG := big_in 504 (by decide +kernel) rfl
theorem ct_J6_266 : Cond.constant RJ6 266 (858993459) ∈ BIG := big_in 505 (by decide +kernel) rfl
theorem ct_J6_267 : Cond.constant RJ6 267 (252645135) ∈ BIG := big_in 506 (by decide +kernel) rfl
theorem ml_L_57 : Cond.methodLink RL 57 yX6_undo ∈ BIG := big_in 507 (by decide +kernel) rfl
theorem im_X6_undo : Cond.instanceMethod yX6_undo ∈ BIG := big_in 508 (by decide +kernel) rfl
theorem sl_X6_undo : Cond.selects RX6 yX6_undo yX6_undo ∈ BIG := big_in 509 (by decide +kernel) rfl
theorem cd_X6_undo : Cond.code yX6_undo cX6_undo 1 (some .int) ∈ BIG := big_in 510 (by decide +kernel) rfl
theorem ml_X6_169 : Cond.methodLink RX6 169 yX3_givesBack ∈ BIG := big_in 511 (by decide +kernel) rfl
theorem im_X3_givesBack : Cond.instanceMethod yX3_givesBack ∈ BIG := big_in 512 (by decide +kernel) rfl
theorem sl_X3_givesBack : Cond.selects RX3 yX3_givesBack yX3_givesBack ∈ BIG := big_in 513 (by decide +kernel) rfl
theorem cd_X3_givesBack : Cond.code yX3_givesBack cX3_givesBack 2 none ∈ BIG := big_in 514 (by decide +kernel) rfl
theorem ml_L_61 : Cond.methodLink RL 61 yX6_now ∈ BIG := big_in 515 (by decide +kernel) rfl
theorem im_X6_now : Cond.instanceMethod yX6_now ∈ BIG := big_in 516 (by decide +kernel) rfl
theorem sl_X6_now : Cond.selects RX6 yX6_now yX6_now ∈ BIG := big_in 517 (by decide +kernel) rfl
theorem cd_X6_now : Cond.code yX6_now cX6_now 2 (some .int) ∈ BIG := big_in 518 (by decide +kernel) rfl
theorem ml_X6_172 : Cond.methodLink RX6 172 yX6_inTheDrawer ∈ BIG := big_in 519 (by decide +kernel) rfl
theorem im_X6_inTheDrawer : Cond.instanceMethod yX6_inTheDrawer ∈ BIG := big_in 521 (by decide +kernel) rfl
theorem cd_X6_inTheDrawer : Cond.code yX6_inTheDrawer cX6_inTheDrawer 3 (some .int) ∈ BIG := big_in 522 (by decide +kernel) rfl
theorem ml_X6_267 : Cond.methodLink RX6 267 yX6_scalesAt ∈ BIG := big_in 523 (by decide +kernel) rfl
theorem im_X6_scalesAt : Cond.instanceMethod yX6_scalesAt ∈ BIG := big_in 525 (by decide +kernel) rfl
theorem cd_X6_scalesAt : Cond.code yX6_scalesAt cX6_scalesAt 5 (some .int) ∈ BIG := big_in 526 (by decide +kernel) rfl
theorem ml_L_65 : Cond.methodLink RL 65 yX6_behind ∈ BIG := big_in 527 (by decide +kernel) rfl
theorem im_X6_behind : Cond.instanceMethod yX6_behind ∈ BIG := big_in 528 (by decide +kernel) rfl
theorem sl_X6_behind : Cond.selects RX6 yX6_behind yX6_behind ∈ BIG := big_in 529 (by decide +kernel) rfl
theorem cd_X6_behind : Cond.code yX6_behind cX6_behind 4 (some .int) ∈ BIG := big_in 530 (by decide +kernel) rfl
theorem ml_L_69 : Cond.methodLink RL 69 yX6_first ∈ BIG := big_in 531 (by decide +kernel) rfl
theorem im_X6_first : Cond.instanceMethod yX6_first ∈ BIG := big_in 532 (by decide +kernel) rfl
theorem sl_X6_first : Cond.selects RX6 yX6_first yX6_first ∈ BIG := big_in 533 (by decide +kernel) rfl
theorem cd_X6_first : Cond.code yX6_first cX6_first 5 (some .int) ∈ BIG := big_in 534 (by decide +kernel) rfl
theorem ml_L_73 : Cond.methodLink RL 73 yX6_freed ∈ BIG := big_in 535 (by decide +kernel) rfl
theorem im_X6_freed : Cond.instanceMethod yX6_freed ∈ BIG := big_in 536 (by decide +kernel) rfl
theorem sl_X6_freed : Cond.selects RX6 yX6_freed yX6_freed ∈ BIG := big_in 537 (by decide +kernel) rfl
theorem cd_X6_freed : Cond.code yX6_freed cX6_freed 4 (some .int) ∈ BIG := big_in 538 (by decide +kernel) rfl
theorem ct_X6_184 : Cond.constant RX6 184 (-1000000) ∈ BIG := big_in 539 (by decide +kernel) rfl
theorem ml_X6_185 : Cond.methodLink RX6 185 yX6_unlawfulYears ∈ BIG := big_in 540 (by decide +kernel) rfl
theorem im_X6_unlawfulYears : Cond.instanceMethod yX6_unlawfulYears ∈ BIG := big_in 542 (by decide +kernel) rfl
theorem cd_X6_unlawfulYears : Cond.code yX6_unlawfulYears cX6_unlawfulYears 7 (some .int) ∈ BIG := big_in 543 (by decide +kernel) rfl
theorem ml_X6_270 : Cond.methodLink RX6 270 yX6_isUnlawfulBy ∈ BIG := big_in 544 (by decide +kernel) rfl
theorem im_X6_isUnlawfulBy : Cond.instanceMethod yX6_isUnlawfulBy ∈ BIG := big_in 546 (by decide +kernel) rfl
theorem cd_X6_isUnlawfulBy : Cond.code yX6_isUnlawfulBy cX6_isUnlawfulBy 9 (some .boolean) ∈ BIG := big_in 547 (by decide +kernel) rfl
theorem ml_L_77 : Cond.methodLink RL 77 yX6_bestJump ∈ BIG := big_in 548 (by decide +kernel) rfl
theorem im_X6_bestJump : Cond.instanceMethod yX6_bestJump ∈ BIG := big_in 549 (by decide +kernel) rfl
theorem sl_X6_bestJump : Cond.selects RX6 yX6_bestJump yX6_bestJump ∈ BIG := big_in 550 (by decide +kernel) rfl
theorem cd_X6_bestJump : Cond.code yX6_bestJump cX6_bestJump 7 (some .int) ∈ BIG := big_in 551 (by decide +kernel) rfl
theorem ml_X6_188 : Cond.methodLink RX6 188 yX6_endChangesByJump ∈ BIG := big_in 552 (by decide +kernel) rfl
theorem im_X6_endChangesByJump : Cond.instanceMethod yX6_endChangesByJump ∈ BIG := big_in 554 (by decide +kernel) rfl
theorem cd_X6_endChangesByJump : Cond.code yX6_endChangesByJump cX6_endChangesByJump 6 (some .int) ∈ BIG := big_in 555 (by decide +kernel) rfl
theorem ml_L_81 : Cond.methodLink RL 81 yX6_plans ∈ BIG := big_in 556 (by decide +kernel) rfl
theorem im_X6_plans : Cond.instanceMethod yX6_plans ∈ BIG := big_in 557 (by decide +kernel) rfl
theorem sl_X6_plans : Cond.selects RX6 yX6_plans yX6_plans ∈ BIG := big_in 558 (by decide +kernel) rfl
theorem cd_X6_plans : Cond.code yX6_plans cX6_plans 3 (some .int) ∈ BIG := big_in 559 (by decide +kernel) rfl
theorem ml_X6_191 : Cond.methodLink RX6 191 yX0_adds ∈ BIG := big_in 560 (by decide +kernel) rfl
theorem im_X0_adds : Cond.instanceMethod yX0_adds ∈ BIG := big_in 561 (by decide +kernel) rfl
theorem sl_X0_adds : Cond.selects RX0 yX0_adds yX0_adds ∈ BIG := big_in 562 (by decide +kernel) rfl
theorem cd_X0_adds : Cond.code yX0_adds cX0_adds 3 none ∈ BIG := big_in 563 (by decide +kernel) rfl
theorem ml_L_85 : Cond.methodLink RL 85 yX6_drop ∈ BIG := big_in 564 (by decide +kernel) rfl
theorem im_X6_drop : Cond.instanceMethod yX6_drop ∈ BIG := big_in 565 (by decide +kernel) rfl
theorem sl_X6_drop : Cond.selects RX6 yX6_drop yX6_drop ∈ BIG := big_in 566 (by decide +kernel) rfl
theorem cd_X6_drop : Cond.code yX6_drop cX6_drop 2 (some .int) ∈ BIG := big_in 567 (by decide +kernel) rfl
theorem ml_L_89 : Cond.methodLink RL 89 yX6_orders ∈ BIG := big_in 568 (by decide +kernel) rfl
theorem im_X6_orders : Cond.instanceMethod yX6_orders ∈ BIG := big_in 569 (by decide +kernel) rfl
theorem sl_X6_orders : Cond.selects RX6 yX6_orders yX6_orders ∈ BIG := big_in 570 (by decide +kernel) rfl
theorem cd_X6_orders : Cond.code yX6_orders cX6_orders 4 (some .int) ∈ BIG := big_in 571 (by decide +kernel) rfl
theorem ml_X6_194 : Cond.methodLink RX6 194 yX6_lawfulOrders ∈ BIG := big_in 572 (by decide +kernel) rfl
theorem im_X6_lawfulOrders : Cond.instanceMethod yX6_lawfulOrders ∈ BIG := big_in 574 (by decide +kernel) rfl
theorem cd_X6_lawfulOrders : Cond.code yX6_lawfulOrders cX6_lawfulOrders 7 (some .int) ∈ BIG := big_in 575 (by decide +kernel) rfl
theorem ml_X6_274 : Cond.methodLink RX6 274 yX0_startsOrders ∈ BIG := big_in 576 (by decide +kernel) rfl
theorem im_X0_startsOrders : Cond.instanceMethod yX0_startsOrders ∈ BIG := big_in 577 (by decide +kernel) rfl
theorem sl_X0_startsOrders : Cond.selects RX0 yX0_startsOrders yX0_startsOrders ∈ BIG := big_in 578 (by decide +kernel) rfl
theorem cd_X0_startsOrders : Cond.code yX0_startsOrders cX0_startsOrders 4 (some .int) ∈ BIG := big_in 579 (by decide +kernel) rfl
theorem ml_X6_277 : Cond.methodLink RX6 277 yX6_staysLawful ∈ BIG := big_in 580 (by decide +kernel) rfl
theorem im_X6_staysLawful : Cond.instanceMethod yX6_staysLawful ∈ BIG := big_in 582 (by decide +kernel) rfl
theorem cd_X6_staysLawful : Cond.code yX6_staysLawful cX6_staysLawful 6 (some .boolean) ∈ BIG := big_in 583 (by decide +kernel) rfl
theorem ml_X6_295 : Cond.methodLink RX6 295 yX6_isUnlawfulMeanwhile ∈ BIG := big_in 584 (by decide +kernel) rfl
theorem im_X6_isUnlawfulMeanwhile : Cond.instanceMethod yX6_isUnlawfulMeanwhile ∈ BIG := big_in 586 (by decide +kernel) rfl
theorem cd_X6_isUnlawfulMeanwhile : Cond.code yX6_isUnlawfulMeanwhile cX6_isUnlawfulMeanwhile 2 (some .boolean) ∈ BIG := big_in 587 (by decide +kernel) rfl
theorem ml_X6_280 : Cond.methodLink RX6 280 yX0_keepsAsFirst ∈ BIG := big_in 588 (by decide +kernel) rfl
theorem im_X0_keepsAsFirst : Cond.instanceMethod yX0_keepsAsFirst ∈ BIG := big_in 589 (by decide +kernel) rfl
theorem sl_X0_keepsAsFirst : Cond.selects RX0 yX0_keepsAsFirst yX0_keepsAsFirst ∈ BIG := big_in 590 (by decide +kernel) rfl
theorem cd_X0_keepsAsFirst : Cond.code yX0_keepsAsFirst cX0_keepsAsFirst 1 none ∈ BIG := big_in 591 (by decide +kernel) rfl
theorem ml_X0_31 : Cond.methodLink RX0 31 arraycopyName ∈ BIG := big_in 592 (by decide +kernel) rfl
theorem ml_X6_283 : Cond.methodLink RX6 283 yX0_goesToNextOrder ∈ BIG := big_in 593 (by decide +kernel) rfl
theorem im_X0_goesToNextOrder : Cond.instanceMethod yX0_goesToNextOrder ∈ BIG := big_in 594 (by decide +kernel) rfl
theorem sl_X0_goesToNextOrder : Cond.selects RX0 yX0_goesToNextOrder yX0_goesToNextOrder ∈ BIG := big_in 595 (by decide +kernel) rfl
theorem cd_X0_goesToNextOrder : Cond.code yX0_goesToNextOrder cX0_goesToNextOrder 5 (some .boolean) ∈ BIG := big_in 596 (by decide +kernel) rfl
theorem ml_X0_37 : Cond.methodLink RX0 37 yX0_lastRising ∈ BIG := big_in 597 (by decide +kernel) rfl
theorem im_X0_lastRising : Cond.instanceMethod yX0_lastRising ∈ BIG := big_in 599 (by decide +kernel) rfl
theorem cd_X0_lastRising : Cond.code yX0_lastRising cX0_lastRising 3 (some .int) ∈ BIG := big_in 600 (by decide +kernel) rfl
theorem ml_X0_41 : Cond.methodLink RX0 41 yX0_lastAbove ∈ BIG := big_in 601 (by decide +kernel) rfl
theorem im_X0_lastAbove : Cond.instanceMethod yX0_lastAbove ∈ BIG := big_in 603 (by decide +kernel) rfl
theorem cd_X0_lastAbove : Cond.code yX0_lastAbove cX0_lastAbove 4 (some .int) ∈ BIG := big_in 604 (by decide +kernel) rfl
theorem ml_X0_45 : Cond.methodLink RX0 45 yX0_swaps ∈ BIG := big_in 605 (by decide +kernel) rfl
theorem im_X0_swaps : Cond.instanceMethod yX0_swaps ∈ BIG := big_in 607 (by decide +kernel) rfl
theorem cd_X0_swaps : Cond.code yX0_swaps cX0_swaps 4 none ∈ BIG := big_in 608 (by decide +kernel) rfl
theorem ml_L_93 : Cond.methodLink RL 93 yX6_bars ∈ BIG := big_in 609 (by decide +kernel) rfl
theorem im_X6_bars : Cond.instanceMethod yX6_bars ∈ BIG := big_in 610 (by decide +kernel) rfl
theorem sl_X6_bars : Cond.selects RX6 yX6_bars yX6_bars ∈ BIG := big_in 611 (by decide +kernel) rfl
theorem cd_X6_bars : Cond.code yX6_bars cX6_bars 3 (some .int) ∈ BIG := big_in 612 (by decide +kernel) rfl
theorem ml_L_97 : Cond.methodLink RL 97 yX6_trip ∈ BIG := big_in 613 (by decide +kernel) rfl
theorem im_X6_trip : Cond.instanceMethod yX6_trip ∈ BIG := big_in 614 (by decide +kernel) rfl
theorem sl_X6_trip : Cond.selects RX6 yX6_trip yX6_trip ∈ BIG := big_in 615 (by decide +kernel) rfl
theorem cd_X6_trip : Cond.code yX6_trip cX6_trip 5 (some .int) ∈ BIG := big_in 616 (by decide +kernel) rfl
theorem ml_X6_200 : Cond.methodLink RX6 200 yX6_countJumpsTo ∈ BIG := big_in 617 (by decide +kernel) rfl
theorem im_X6_countJumpsTo : Cond.instanceMethod yX6_countJumpsTo ∈ BIG := big_in 619 (by decide +kernel) rfl
theorem cd_X6_countJumpsTo : Cond.code yX6_countJumpsTo cX6_countJumpsTo 5 none ∈ BIG := big_in 620 (by decide +kernel) rfl
theorem ml_X6_302 : Cond.methodLink RX6 302 yX6_reachFrom ∈ BIG := big_in 621 (by decide +kernel) rfl
theorem im_X6_reachFrom : Cond.instanceMethod yX6_reachFrom ∈ BIG := big_in 623 (by decide +kernel) rfl
theorem cd_X6_reachFrom : Cond.code yX6_reachFrom cX6_reachFrom 4 none ∈ BIG := big_in 624 (by decide +kernel) rfl
theorem ml_X6_305 : Cond.methodLink RX6 305 yX6_canJump ∈ BIG := big_in 625 (by decide +kernel) rfl
theorem im_X6_canJump : Cond.instanceMethod yX6_canJump ∈ BIG := big_in 627 (by decide +kernel) rfl
theorem cd_X6_canJump : Cond.code yX6_canJump cX6_canJump 5 (some .boolean) ∈ BIG := big_in 628 (by decide +kernel) rfl
theorem ml_X6_299 : Cond.methodLink RX6 299 ⟨"java/lang/Math", "abs", "(I)I"⟩ ∈ BIG := big_in 629 (by decide +kernel) rfl
theorem st_J9_abs_0f7a4 : Cond.static yJ9_abs_0f7a4 ∈ BIG := big_in 630 (by decide +kernel) rfl
theorem cd_J9_abs_0f7a4 : Cond.code yJ9_abs_0f7a4 cJ9_abs_0f7a4 1 (some .int) ∈ BIG := big_in 631 (by decide +kernel) rfl
theorem ml_X6_203 : Cond.methodLink RX6 203 yX6_firstPlaceOnTheWay ∈ BIG := big_in 632 (by decide +kernel) rfl
theorem im_X6_firstPlaceOnTheWay : Cond.instanceMethod yX6_firstPlaceOnTheWay ∈ BIG := big_in 634 (by decide +kernel) rfl
theorem cd_X6_firstPlaceOnTheWay : Cond.code yX6_firstPlaceOnTheWay cX6_firstPlaceOnTheWay 4 (some .int) ∈ BIG := big_in 635 (by decide +kernel) rfl
theorem ml_L_102 : Cond.methodLink RL 102 yX6_parts ∈ BIG := big_in 636 (by decide +kernel) rfl
theorem im_X6_parts : Cond.instanceMethod yX6_parts ∈ BIG := big_in 637 (by decide +kernel) rfl
theorem sl_X6_parts : Cond.selects RX6 yX6_parts yX6_parts ∈ BIG := big_in 638 (by decide +kernel) rfl
theorem cd_X6_parts : Cond.code yX6_parts cX6_parts 5 (some .int) ∈ BIG := big_in 639 (by decide +kernel) rfl
theorem ml_X6_206 : Cond.methodLink RX6 206 yX6_fewestPartsOf ∈ BIG := big_in 640 (by decide +kernel) rfl
theorem im_X6_fewestPartsOf : Cond.instanceMethod yX6_fewestPartsOf ∈ BIG := big_in 642 (by decide +kernel) rfl
theorem cd_X6_fewestPartsOf : Cond.code yX6_fewestPartsOf cX6_fewestPartsOf 6 (some .int) ∈ BIG := big_in 643 (by decide +kernel) rfl
theorem ml_X6_209 : Cond.methodLink RX6 209 yX6_greatestPart ∈ BIG := big_in 644 (by decide +kernel) rfl
theorem im_X6_greatestPart : Cond.instanceMethod yX6_greatestPart ∈ BIG := big_in 646 (by decide +kernel) rfl
theorem cd_X6_greatestPart : Cond.code yX6_greatestPart cX6_greatestPart 4 (some .int) ∈ BIG := big_in 647 (by decide +kernel) rfl
theorem ml_L_106 : Cond.methodLink RL 106 yX6_books ∈ BIG := big_in 648 (by decide +kernel) rfl
theorem im_X6_books : Cond.instanceMethod yX6_books ∈ BIG := big_in 649 (by decide +kernel) rfl
theorem sl_X6_books : Cond.selects RX6 yX6_books yX6_books ∈ BIG := big_in 650 (by decide +kernel) rfl
theorem cd_X6_books : Cond.code yX6_books cX6_books 4 (some .int) ∈ BIG := big_in 651 (by decide +kernel) rfl
theorem ml_X6_212 : Cond.methodLink RX6 212 yX4_adds ∈ BIG := big_in 652 (by decide +kernel) rfl
theorem im_X4_adds : Cond.instanceMethod yX4_adds ∈ BIG := big_in 653 (by decide +kernel) rfl
theorem sl_X4_adds : Cond.selects RX4 yX4_adds yX4_adds ∈ BIG := big_in 654 (by decide +kernel) rfl
theorem cd_X4_adds : Cond.code yX4_adds cX4_adds 4 none ∈ BIG := big_in 655 (by decide +kernel) rfl
theorem ml_L_110 : Cond.methodLink RL 110 yX6_burn ∈ BIG := big_in 656 (by decide +kernel) rfl
theorem im_X6_burn : Cond.instanceMethod yX6_burn ∈ BIG := big_in 657 (by decide +kernel) rfl
theorem sl_X6_burn : Cond.selects RX6 yX6_burn yX6_burn ∈ BIG := big_in 658 (by decide +kernel) rfl
theorem cd_X6_burn : Cond.code yX6_burn cX6_burn 2 (some .int) ∈ BIG := big_in 659 (by decide +kernel) rfl
theorem ml_L_114 : Cond.methodLink RL 114 yX6_fits ∈ BIG := big_in 660 (by decide +kernel) rfl
theorem im_X6_fits : Cond.instanceMethod yX6_fits ∈ BIG := big_in 661 (by decide +kernel) rfl
theorem sl_X6_fits : Cond.selects RX6 yX6_fits yX6_fits ∈ BIG := big_in 662 (by decide +kernel) rfl
theorem cd_X6_fits : Cond.code yX6_fits cX6_fits 5 (some .int) ∈ BIG := big_in 663 (by decide +kernel) rfl
theorem ml_X6_215 : Cond.methodLink RX6 215 yX6_agreesWithBooks ∈ BIG := big_in 664 (by decide +kernel) rfl
theorem im_X6_agreesWithBooks : Cond.instanceMethod yX6_agreesWithBooks ∈ BIG := big_in 666 (by decide +kernel) rfl
theorem cd_X6_agreesWithBooks : Cond.code yX6_agreesWithBooks cX6_agreesWithBooks 5 (some .boolean) ∈ BIG := big_in 667 (by decide +kernel) rfl
theorem ml_X6_218 : Cond.methodLink RX6 218 yX6_endInYear ∈ BIG := big_in 668 (by decide +kernel) rfl
theorem im_X6_endInYear : Cond.instanceMethod yX6_endInYear ∈ BIG := big_in 670 (by decide +kernel) rfl
theorem cd_X6_endInYear : Cond.code yX6_endInYear cX6_endInYear 5 (some .int) ∈ BIG := big_in 671 (by decide +kernel) rfl
theorem ml_L_118 : Cond.methodLink RL 118 yX6_sure ∈ BIG := big_in 672 (by decide +kernel) rfl
theorem im_X6_sure : Cond.instanceMethod yX6_sure ∈ BIG := big_in 673 (by decide +kernel) rfl
theorem sl_X6_sure : Cond.selects RX6 yX6_sure yX6_sure ∈ BIG := big_in 674 (by decide +kernel) rfl
theorem cd_X6_sure : Cond.code yX6_sure cX6_sure 7 (some .int) ∈ BIG := big_in 675 (by decide +kernel) rfl
theorem ml_L_122 : Cond.methodLink RL 122 yX6_clash ∈ BIG := big_in 676 (by decide +kernel) rfl
theorem im_X6_clash : Cond.instanceMethod yX6_clash ∈ BIG := big_in 677 (by decide +kernel) rfl
theorem sl_X6_clash : Cond.selects RX6 yX6_clash yX6_clash ∈ BIG := big_in 678 (by decide +kernel) rfl
theorem cd_X6_clash : Cond.code yX6_clash cX6_clash 3 (some .int) ∈ BIG := big_in 679 (by decide +kernel) rfl
theorem ml_X6_225 : Cond.methodLink RX6 225 yX6_areOpposed ∈ BIG := big_in 680 (by decide +kernel) rfl
theorem im_X6_areOpposed : Cond.instanceMethod yX6_areOpposed ∈ BIG := big_in 682 (by decide +kernel) rfl
theorem cd_X6_areOpposed : Cond.code yX6_areOpposed cX6_areOpposed 6 (some .boolean) ∈ BIG := big_in 683 (by decide +kernel) rfl
theorem ml_L_126 : Cond.methodLink RL 126 yX6_rate ∈ BIG := big_in 684 (by decide +kernel) rfl
theorem im_X6_rate : Cond.instanceMethod yX6_rate ∈ BIG := big_in 685 (by decide +kernel) rfl
theorem sl_X6_rate : Cond.selects RX6 yX6_rate yX6_rate ∈ BIG := big_in 686 (by decide +kernel) rfl
theorem cd_X6_rate : Cond.code yX6_rate cX6_rate 3 (some .int) ∈ BIG := big_in 687 (by decide +kernel) rfl
theorem ml_X6_229 : Cond.methodLink RX6 229 yX6_rateAsLife ∈ BIG := big_in 688 (by decide +kernel) rfl
theorem im_X6_rateAsLife : Cond.instanceMethod yX6_rateAsLife ∈ BIG := big_in 690 (by decide +kernel) rfl
theorem cd_X6_rateAsLife : Cond.code yX6_rateAsLife cX6_rateAsLife 4 (some .int) ∈ BIG := big_in 691 (by decide +kernel) rfl
theorem ml_X6_232 : Cond.methodLink RX6 232 yX6_rateAsChild ∈ BIG := big_in 692 (by decide +kernel) rfl
theorem im_X6_rateAsChild : Cond.instanceMethod yX6_rateAsChild ∈ BIG := big_in 694 (by decide +kernel) rfl
theorem cd_X6_rateAsChild : Cond.code yX6_rateAsChild cX6_rateAsChild 2 (some .int) ∈ BIG := big_in 695 (by decide +kernel) rfl
theorem ct_X6_315 : Cond.constantLong RX6 315 (10) ∈ BIG := big_in 696 (by decide +kernel) rfl
theorem ml_X6_235 : Cond.methodLink RX6 235 yX6_rateAsFiance ∈ BIG := big_in 697 (by decide +kernel) rfl
theorem im_X6_rateAsFiance : Cond.instanceMethod yX6_rateAsFiance ∈ BIG := big_in 699 (by decide +kernel) rfl
theorem cd_X6_rateAsFiance : Cond.code yX6_rateAsFiance cX6_rateAsFiance 2 (some .int) ∈ BIG := big_in 700 (by decide +kernel) rfl
theorem ct_X6_317 : Cond.constantLong RX6 317 (100) ∈ BIG := big_in 701 (by decide +kernel) rfl
theorem ml_X6_238 : Cond.methodLink RX6 238 yX6_rateAsThirdSon ∈ BIG := big_in 702 (by decide +kernel) rfl
theorem im_X6_rateAsThirdSon : Cond.instanceMethod yX6_rateAsThirdSon ∈ BIG := big_in 704 (by decide +kernel) rfl
theorem cd_X6_rateAsThirdSon : Cond.code yX6_rateAsThirdSon cX6_rateAsThirdSon 2 (some .int) ∈ BIG := big_in 705 (by decide +kernel) rfl
theorem ct_X6_319 : Cond.constantLong RX6 319 (1000) ∈ BIG := big_in 706 (by decide +kernel) rfl
theorem ml_X6_241 : Cond.methodLink RX6 241 yX6_rateAsWidow ∈ BIG := big_in 707 (by decide +kernel) rfl
theorem im_X6_rateAsWidow : Cond.instanceMethod yX6_rateAsWidow ∈ BIG := big_in 709 (by decide +kernel) rfl
theorem cd_X6_rateAsWidow : Cond.code yX6_rateAsWidow cX6_rateAsWidow 2 (some .int) ∈ BIG := big_in 710 (by decide +kernel) rfl
theorem ct_X6_321 : Cond.constantLong RX6 321 (10000) ∈ BIG := big_in 711 (by decide +kernel) rfl
theorem ml_X6_244 : Cond.methodLink RX6 244 yX6_rateAsSmuggler ∈ BIG := big_in 712 (by decide +kernel) rfl
theorem im_X6_rateAsSmuggler : Cond.instanceMethod yX6_rateAsSmuggler ∈ BIG := big_in 714 (by decide +kernel) rfl
theorem cd_X6_rateAsSmuggler : Cond.code yX6_rateAsSmuggler cX6_rateAsSmuggler 2 (some .int) ∈ BIG := big_in 715 (by decide +kernel) rfl
theorem ct_X6_323 : Cond.constantLong RX6 323 (100000) ∈ BIG := big_in 716 (by decide +kernel) rfl
theorem ml_L_130 : Cond.methodLink RL 130 yX6_keep ∈ BIG := big_in 717 (by decide +kernel) rfl
theorem im_X6_keep : Cond.instanceMethod yX6_keep ∈ BIG := big_in 718 (by decide +kernel) rfl
theorem sl_X6_keep : Cond.selects RX6 yX6_keep yX6_keep ∈ BIG := big_in 719 (by decide +kernel) rfl
theorem cd_X6_keep : Cond.code yX6_keep cX6_keep 2 (some .int) ∈ BIG := big_in 720 (by decide +kernel) rfl
theorem ml_L_134 : Cond.methodLink RL 134 yX6_back ∈ BIG := big_in 721 (by decide +kernel) rfl
theorem im_X6_back : Cond.instanceMethod yX6_back ∈ BIG := big_in 722 (by decide +kernel) rfl
theorem sl_X6_back : Cond.selects RX6 yX6_back yX6_back ∈ BIG := big_in 723 (by decide +kernel) rfl
theorem cd_X6_back : Cond.code yX6_back cX6_back 2 (some .int) ∈ BIG := big_in 724 (by decide +kernel) rfl
theorem ml_L_138 : Cond.methodLink RL 138 yX6_count ∈ BIG := big_in 725 (by decide +kernel) rfl
theorem im_X6_count : Cond.instanceMethod yX6_count ∈ BIG := big_in 726 (by decide +kernel) rfl
theorem sl_X6_count : Cond.selects RX6 yX6_count yX6_count ∈ BIG := big_in 727 (by decide +kernel) rfl
theorem cd_X6_count : Cond.code yX6_count cX6_count 2 (some .int) ∈ BIG := big_in 728 (by decide +kernel) rfl
theorem ml_L_142 : Cond.methodLink RL 142 yX6_trace ∈ BIG := big_in 729 (by decide +kernel) rfl
theorem im_X6_trace : Cond.instanceMethod yX6_trace ∈ BIG := big_in 730 (by decide +kernel) rfl
theorem sl_X6_trace : Cond.selects RX6 yX6_trace yX6_trace ∈ BIG := big_in 731 (by decide +kernel) rfl
theorem cd_X6_trace : Cond.code yX6_trace cX6_trace 1 (some .long) ∈ BIG := big_in 732 (by decide +kernel) rfl
theorem cl_L_10 : Cond.classLink RL 10 RX7 ∈ BIG := big_in 733 (by decide +kernel) rfl
theorem inst_X7 : Cond.instantiable RX7 39 ∈ BIG := big_in 734 (by decide +kernel) rfl
theorem ml_L_12 : Cond.methodLink RL 12 yX7_init ∈ BIG := big_in 735 (by decide +kernel) rfl
theorem im_X7_init : Cond.instanceMethod yX7_init ∈ BIG := big_in 736 (by decide +kernel) rfl
theorem cd_X7_init : Cond.code yX7_init cX7_init 1 none ∈ BIG := big_in 737 (by decide +kernel) rfl
theorem ml_X7_1 : Cond.methodLink RX7 1 ⟨"java/lang/Object", "<init>", "()V"⟩ ∈ BIG := big_in 738 (by decide +kernel) rfl
theorem fl_X7_75 : Cond.fieldLink RX7 75 "NoBetweensModel" "thrown" "I" ∈ BIG := big_in 739 (by decide +kernel) rfl
theorem fl_X7_251 : Cond.fieldLink RX7 251 "NoBetweensModel" "trace" "J" ∈ BIG := big_in 740 (by decide +kernel) rfl
theorem fl_X7_7 : Cond.fieldLink RX7 7 "NoBetweensModel" "text" "[I" ∈ BIG := big_in 741 (by decide +kernel) rfl
theorem fl_X7_82 : Cond.fieldLink RX7 82 "NoBetweensModel" "typed" "I" ∈ BIG := big_in 742 (by decide +kernel) rfl
theorem fl_X7_85 : Cond.fieldLink RX7 85 "NoBetweensModel" "next" "I" ∈ BIG := big_in 743 (by decide +kernel) rfl
theorem fl_X7_95 : Cond.fieldLink RX7 95 "NoBetweensModel" "token" "I" ∈ BIG := big_in 744 (by decide +kernel) rfl
theorem fl_X7_92 : Cond.fieldLink RX7 92 "NoBetweensModel" "place" "I" ∈ BIG := big_in 745 (by decide +kernel) rfl
theorem fl_X7_98 : Cond.fieldLink RX7 98 "NoBetweensModel" "value" "I" ∈ BIG := big_in 746 (by decide +kernel) rfl
theorem fl_X7_101 : Cond.fieldLink RX7 101 "NoBetweensModel" "fault" "I" ∈ BIG := big_in 747 (by decide +kernel) rfl
theorem fl_X7_13 : Cond.fieldLink RX7 13 "NoBetweensModel" "range" "[I" ∈ BIG := big_in 748 (by decide +kernel) rfl
theorem fl_X7_16 : Cond.fieldLink RX7 16 "NoBetweensModel" "laws" "[I" ∈ BIG := big_in 749 (by decide +kernel) rfl
theorem fl_X7_19 : Cond.fieldLink RX7 19 "NoBetweensModel" "begin" "[I" ∈ BIG := big_in 750 (by decide +kernel) rfl
theorem fl_X7_22 : Cond.fieldLink RX7 22 "NoBetweensModel" "step" "[I" ∈ BIG := big_in 751 (by decide +kernel) rfl
theorem fl_X7_25 : Cond.fieldLink RX7 25 "NoBetweensModel" "places" "[I" ∈ BIG := big_in 752 (by decide +kernel) rfl
theorem fl_X7_141 : Cond.fieldLink RX7 141 "NoBetweensModel" "scales" "I" ∈ BIG := big_in 753 (by decide +kernel) rfl
theorem fl_X7_144 : Cond.fieldLink RX7 144 "NoBetweensModel" "lives" "I" ∈ BIG := big_in 754 (by decide +kernel) rfl
theorem fl_X7_147 : Cond.fieldLink RX7 147 "NoBetweensModel" "placeMany" "I" ∈ BIG := big_in 755 (by decide +kernel) rfl
theorem fl_X7_71 : Cond.fieldLink RX7 71 "NoBetweensModel" "drawer" "I" ∈ BIG := big_in 756 (by decide +kernel) rfl
theorem fl_X7_115 : Cond.fieldLink RX7 115 "NoBetweensModel" "draftScales" "I" ∈ BIG := big_in 757 (by decide +kernel) rfl
theorem fl_X7_118 : Cond.fieldLink RX7 118 "NoBetweensModel" "draftLives" "I" ∈ BIG := big_in 758 (by decide +kernel) rfl
theorem fl_X7_121 : Cond.fieldLink RX7 121 "NoBetweensModel" "draftPlaces" "I" ∈ BIG := big_in 759 (by decide +kernel) rfl
theorem fl_X7_124 : Cond.fieldLink RX7 124 "NoBetweensModel" "draftDrawer" "I" ∈ BIG := big_in 760 (by decide +kernel) rfl
theorem fl_X7_28 : Cond.fieldLink RX7 28 "NoBetweensModel" "s" "[I" ∈ BIG := big_in 761 (by decide +kernel) rfl
theorem fl_X7_31 : Cond.fieldLink RX7 31 "NoBetweensModel" "w" "[I" ∈ BIG := big_in 762 (by decide +kernel) rfl
theorem fl_X7_34 : Cond.fieldLink RX7 34 "NoBetweensModel" "kept" "[I" ∈ BIG := big_in 763 (by decide +kernel) rfl
theorem fl_X7_37 : Cond.fieldLink RX7 37 "NoBetweensModel" "isKept" "[Z" ∈ BIG := big_in 764 (by decide +kernel) rfl
theorem fl_X7_41 : Cond.fieldLink RX7 41 "NoBetweensModel" "undos" "[I" ∈ BIG := big_in 765 (by decide +kernel) rfl
theorem fl_X7_150 : Cond.fieldLink RX7 150 "NoBetweensModel" "undoMany" "I" ∈ BIG := big_in 766 (by decide +kernel) rfl
theorem fl_X7_44 : Cond.fieldLink RX7 44 "NoBetweensModel" "planScale" "[I" ∈ BIG := big_in 767 (by decide +kernel) rfl
theorem fl_X7_47 : Cond.fieldLink RX7 47 "NoBetweensModel" "planBy" "[I" ∈ BIG := big_in 768 (by decide +kernel) rfl
theorem fl_X7_153 : Cond.fieldLink RX7 153 "NoBetweensModel" "planMany" "I" ∈ BIG := big_in 769 (by decide +kernel) rfl
theorem fl_X7_50 : Cond.fieldLink RX7 50 "NoBetweensModel" "bookScale" "[I" ∈ BIG := big_in 770 (by decide +kernel) rfl
theorem fl_X7_53 : Cond.fieldLink RX7 53 "NoBetweensModel" "bookYear" "[I" ∈ BIG := big_in 771 (by decide +kernel) rfl
theorem fl_X7_56 : Cond.fieldLink RX7 56 "NoBetweensModel" "bookEnd" "[I" ∈ BIG := big_in 772 (by decide +kernel) rfl
theorem fl_X7_156 : Cond.fieldLink RX7 156 "NoBetweensModel" "bookMany" "I" ∈ BIG := big_in 773 (by decide +kernel) rfl
theorem fl_X7_59 : Cond.fieldLink RX7 59 "NoBetweensModel" "row" "[I" ∈ BIG := big_in 774 (by decide +kernel) rfl
theorem fl_X7_62 : Cond.fieldLink RX7 62 "NoBetweensModel" "firstRow" "[I" ∈ BIG := big_in 775 (by decide +kernel) rfl
theorem fl_X7_65 : Cond.fieldLink RX7 65 "NoBetweensModel" "far" "[I" ∈ BIG := big_in 776 (by decide +kernel) rfl
theorem fl_X7_68 : Cond.fieldLink RX7 68 "NoBetweensModel" "fewest" "[I" ∈ BIG := big_in 777 (by decide +kernel) rfl
theorem ml_L_17 : Cond.methodLink RL 17 yX7_type ∈ BIG := big_in 857 (by decide +kernel) rfl
theorem im_X7_type : Cond.instanceMethod yX7_type ∈ BIG := big_in 858 (by decide +kernel) rfl
theorem sl_X7_type : Cond.selects RX7 yX7_type yX7_type ∈ BIG := big_in 859 (by decide +kernel) rfl
theorem cd_X7_type : Cond.code yX7_type cX7_type 2 (some .int) ∈ BIG := big_in 860 (by decide +kernel) rfl
theorem ml_X7_78 : Cond.methodLink RX7 78 yX7_in ∈ BIG := big_in 861 (by decide +kernel) rfl
theorem st_X7_in : Cond.static yX7_in ∈ BIG := big_in 862 (by decide +kernel) rfl
theorem cd_X7_in : Cond.code yX7_in cX7_in 3 (some .boolean) ∈ BIG := big_in 863 (by decide +kernel) rfl
theorem ml_L_22 : Cond.methodLink RL 22 yX7_clear ∈ BIG := big_in 864 (by decide +kernel) rfl
theorem im_X7_clear : Cond.instanceMethod yX7_clear ∈ BIG := big_in 865 (by decide +kernel) rfl
theorem sl_X7_clear : Cond.selects RX7 yX7_clear yX7_clear ∈ BIG := big_in 866 (by decide +kernel) rfl
theorem cd_X7_clear : Cond.code yX7_clear cX7_clear 2 (some .int) ∈ BIG := big_in 867 (by decide +kernel) rfl
theorem ml_L_26 : Cond.methodLink RL 26 yX7_land ∈ BIG := big_in 868 (by decide +kernel) rfl
theorem im_X7_land : Cond.instanceMethod yX7_land ∈ BIG := big_in 869 (by decide +kernel) rfl
theorem sl_X7_land : Cond.selects RX7 yX7_land yX7_land ∈ BIG := big_in 870 (by decide +kernel) rfl
theorem cd_X7_land : Cond.code yX7_land cX7_land 3 (some .int) ∈ BIG := big_in 871 (by decide +kernel) rfl
theorem ml_X7_108 : Cond.methodLink RX7 108 yX7_advances ∈ BIG := big_in 872 (by decide +kernel) rfl
theorem im_X7_advances : Cond.instanceMethod yX7_advances ∈ BIG := big_in 874 (by decide +kernel) rfl
theorem cd_X7_advances : Cond.code yX7_advances cX7_advances 2 none ∈ BIG := big_in 875 (by decide +kernel) rfl
theorem ml_X7_88 : Cond.methodLink RX7 88 yX7_letterAt ∈ BIG := big_in 876 (by decide +kernel) rfl
theorem im_X7_letterAt : Cond.instanceMethod yX7_letterAt ∈ BIG := big_in 878 (by decide +kernel) rfl
theorem cd_X7_letterAt : Cond.code yX7_letterAt cX7_letterAt 2 (some .int) ∈ BIG := big_in 879 (by decide +kernel) rfl
theorem ml_X7_104 : Cond.methodLink RX7 104 yX7_isWell ∈ BIG := big_in 880 (by decide +kernel) rfl
theorem im_X7_isWell : Cond.instanceMethod yX7_isWell ∈ BIG := big_in 882 (by decide +kernel) rfl
theorem cd_X7_isWell : Cond.code yX7_isWell cX7_isWell 1 (some .boolean) ∈ BIG := big_in 883 (by decide +kernel) rfl
theorem ml_X7_131 : Cond.methodLink RX7 131 yX7_mayBegin ∈ BIG := big_in 884 (by decide +kernel) rfl
theorem im_X7_mayBegin : Cond.instanceMethod yX7_mayBegin ∈ BIG := big_in 886 (by decide +kernel) rfl
theorem cd_X7_mayBegin : Cond.code yX7_mayBegin cX7_mayBegin 1 (some .boolean) ∈ BIG := big_in 887 (by decide +kernel) rfl
theorem ml_X7_111 : Cond.methodLink RX7 111 yX7_takes ∈ BIG := big_in 888 (by decide +kernel) rfl
theorem im_X7_takes : Cond.instanceMethod yX7_takes ∈ BIG := big_in 890 (by decide +kernel) rfl
theorem cd_X7_takes : Cond.code yX7_takes cX7_takes 3 (some .int) ∈ BIG := big_in 891 (by decide +kernel) rfl
theorem ml_X7_134 : Cond.methodLink RX7 134 yX7_readsItem ∈ BIG := big_in 892 (by decide +kernel) rfl
theorem im_X7_readsItem : Cond.instanceMethod yX7_readsItem ∈ BIG := big_in 894 (by decide +kernel) rfl
theorem cd_X7_readsItem : Cond.code yX7_readsItem cX7_readsItem 3 none ∈ BIG := big_in 895 (by decide +kernel) rfl
theorem ml_X7_127 : Cond.methodLink RX7 127 yX7_number ∈ BIG := big_in 896 (by decide +kernel) rfl
theorem im_X7_number : Cond.instanceMethod yX7_number ∈ BIG := big_in 898 (by decide +kernel) rfl
theorem cd_X7_number : Cond.code yX7_number cX7_number 3 (some .int) ∈ BIG := big_in 899 (by decide +kernel) rfl
theorem ml_X7_138 : Cond.methodLink RX7 138 yX7_settles ∈ BIG := big_in 900 (by decide +kernel) rfl
theorem im_X7_settles : Cond.instanceMethod yX7_settles ∈ BIG := big_in 902 (by decide +kernel) rfl
theorem cd_X7_settles : Cond.code yX7_settles cX7_settles 2 none ∈ BIG := big_in 903 (by decide +kernel) rfl
theorem ml_L_31 : Cond.methodLink RL 31 yX7_scale ∈ BIG := big_in 904 (by decide +kernel) rfl
theorem im_X7_scale : Cond.instanceMethod yX7_scale ∈ BIG := big_in 905 (by decide +kernel) rfl
theorem sl_X7_scale : Cond.selects RX7 yX7_scale yX7_scale ∈ BIG := big_in 906 (by decide +kernel) rfl
theorem cd_X7_scale : Cond.code yX7_scale cX7_scale 3 (some .int) ∈ BIG := big_in 907 (by decide +kernel) rfl
theorem ml_X7_159 : Cond.methodLink RX7 159 yX7_isScale ∈ BIG := big_in 908 (by decide +kernel) rfl
theorem im_X7_isScale : Cond.instanceMethod yX7_isScale ∈ BIG := big_in 910 (by decide +kernel) rfl
theorem cd_X7_isScale : Cond.code yX7_isScale cX7_isScale 2 (some .boolean) ∈ BIG := big_in 911 (by decide +kernel) rfl
theorem ml_L_36 : Cond.methodLink RL 36 yX7_life ∈ BIG := big_in 912 (by decide +kernel) rfl
theorem im_X7_life : Cond.instanceMethod yX7_life ∈ BIG := big_in 913 (by decide +kernel) rfl
theorem sl_X7_life : Cond.selects RX7 yX7_life yX7_life ∈ BIG := big_in 914 (by decide +kernel) rfl
theorem cd_X7_life : Cond.code yX7_life cX7_life 4 (some .int) ∈ BIG := big_in 915 (by decide +kernel) rfl
theorem ml_X7_171 : Cond.methodLink RX7 171 yX7_isLife ∈ BIG := big_in 916 (by decide +kernel) rfl
theorem im_X7_isLife : Cond.instanceMethod yX7_isLife ∈ BIG := big_in 918 (by decide +kernel) rfl
theorem cd_X7_isLife : Cond.code yX7_isLife cX7_isLife 2 (some .boolean) ∈ BIG := big_in 919 (by decide +kernel) rfl
theorem ml_X7_174 : Cond.methodLink RX7 174 yX7_endIn ∈ BIG := big_in 920 (by decide +kernel) rfl
theorem im_X7_endIn : Cond.instanceMethod yX7_endIn ∈ BIG := big_in 922 (by decide +kernel) rfl
theorem cd_X7_endIn : Cond.code yX7_endIn cX7_endIn 4 (some .int) ∈ BIG := big_in 923 (by decide +kernel) rfl
theorem ml_X7_167 : Cond.methodLink RX7 167 yX7_endOf ∈ BIG := big_in 924 (by decide +kernel) rfl
theorem im_X7_endOf : Cond.instanceMethod yX7_endOf ∈ BIG := big_in 926 (by decide +kernel) rfl
theorem cd_X7_endOf : Cond.code yX7_endOf cX7_endOf 4 (some .int) ∈ BIG := big_in 927 (by decide +kernel) rfl
theorem ml_X7_163 : Cond.methodLink RX7 163 yX7_endBy ∈ BIG := big_in 928 (by decide +kernel) rfl
theorem st_X7_endBy : Cond.static yX7_endBy ∈ BIG := big_in 929 (by decide +kernel) rfl
theorem cd_X7_endBy : Cond.code yX7_endBy cX7_endBy 4 (some .int) ∈ BIG := big_in 930 (by decide +kernel) rfl
theorem ml_L_40 : Cond.methodLink RL 40 yX7_end ∈ BIG := big_in 931 (by decide +kernel) rfl
theorem im_X7_end : Cond.instanceMethod yX7_end ∈ BIG := big_in 932 (by decide +kernel) rfl
theorem sl_X7_end : Cond.selects RX7 yX7_end yX7_end ∈ BIG := big_in 933 (by decide +kernel) rfl
theorem cd_X7_end : Cond.code yX7_end cX7_end 3 (some .int) ∈ BIG := big_in 934 (by decide +kernel) rfl
theorem ml_L_44 : Cond.methodLink RL 44 yX7_place ∈ BIG := big_in 935 (by decide +kernel) rfl
theorem im_X7_place : Cond.instanceMethod yX7_place ∈ BIG := big_in 936 (by decide +kernel) rfl
theorem sl_X7_place : Cond.selects RX7 yX7_place yX7_place ∈ BIG := big_in 937 (by decide +kernel) rfl
theorem cd_X7_place : Cond.code yX7_place cX7_place 2 (some .int) ∈ BIG := big_in 938 (by decide +kernel) rfl
theorem ml_X7_177 : Cond.methodLink RX7 177 yX7_isPlace ∈ BIG := big_in 939 (by decide +kernel) rfl
theorem im_X7_isPlace : Cond.instanceMethod yX7_isPlace ∈ BIG := big_in 941 (by decide +kernel) rfl
theorem cd_X7_isPlace : Cond.code yX7_isPlace cX7_isPlace 2 (some .boolean) ∈ BIG := big_in 942 (by decide +kernel) rfl
theorem ml_L_48 : Cond.methodLink RL 48 yX7_passes ∈ BIG := big_in 943 (by decide +kernel) rfl
theorem im_X7_passes : Cond.instanceMethod yX7_passes ∈ BIG := big_in 944 (by decide +kernel) rfl
theorem sl_X7_passes : Cond.selects RX7 yX7_passes yX7_passes ∈ BIG := big_in 945 (by decide +kernel) rfl
theorem cd_X7_passes : Cond.code yX7_passes cX7_passes 3 (some .int) ∈ BIG := big_in 946 (by decide +kernel) rfl
theorem ml_X7_183 : Cond.methodLink RX7 183 yX7_notes ∈ BIG := big_in 947 (by decide +kernel) rfl
theorem im_X7_notes : Cond.instanceMethod yX7_notes ∈ BIG := big_in 949 (by decide +kernel) rfl
theorem cd_X7_notes : Cond.code yX7_notes cX7_notes 2 none ∈ BIG := big_in 950 (by decide +kernel) rfl
theorem ml_X7_186 : Cond.methodLink RX7 186 yX7_goes ∈ BIG := big_in 951 (by decide +kernel) rfl
theorem im_X7_goes : Cond.instanceMethod yX7_goes ∈ BIG := big_in 953 (by decide +kernel) rfl
theorem cd_X7_goes : Cond.code yX7_goes cX7_goes 6 none ∈ BIG := big_in 954 (by decide +kernel) rfl
theorem ml_X7_180 : Cond.methodLink RX7 180 yX7_held ∈ BIG := big_in 955 (by decide +kernel) rfl
theorem st_X7_held : Cond.static yX7_held ∈ BIG := big_in 956 (by decide +kernel) rfl
theorem cd_X7_held : Cond.code yX7_held cX7_held 2 (some .int) ∈ BIG := big_in 957 (by decide +kernel) rfl
theorem ml_L_52 : Cond.methodLink RL 52 yX7_changes ∈ BIG := big_in 958 (by decide +kernel) rfl
theorem im_X7_changes : Cond.instanceMethod yX7_changes ∈ BIG := big_in 959 (by decide +kernel) rfl
theorem sl_X7_changes : Cond.selects RX7 yX7_changes yX7_changes ∈ BIG := big_in 960 (by decide +kernel) rfl
theorem cd_X7_changes : Cond.code yX7_changes cX7_changes 5 (some .int) ∈ BIG := big_in 961 (by decide +kernel) rfl
theorem ml_L_56 : Cond.methodLink RL 56 yX7_law ∈ BIG := big_in 962 (by decide +kernel) rfl
theorem im_X7_law : Cond.instanceMethod yX7_law ∈ BIG := big_in 963 (by decide +kernel) rfl
theorem sl_X7_law : Cond.selects RX7 yX7_law yX7_law ∈ BIG := big_in 964 (by decide +kernel) rfl
theorem cd_X7_law : Cond.code yX7_law cX7_law 4 (some .int) ∈ BIG := big_in 965 (by decide +kernel) rfl
theorem ml_X7_194 : Cond.methodLink RX7 194 yX7_isLaw ∈ BIG := big_in 966 (by decide +kernel) rfl
theorem im_X7_isLaw : Cond.instanceMethod yX7_isLaw ∈ BIG := big_in 968 (by decide +kernel) rfl
theorem cd_X7_isLaw : Cond.code yX7_isLaw cX7_isLaw 4 (some .boolean) ∈ BIG := big_in 969 (by decide +kernel) rfl
theorem ml_X7_197 : Cond.methodLink RX7 197 yX7_unlawful ∈ BIG := big_in 970 (by decide +kernel) rfl
theorem im_X7_unlawful : Cond.instanceMethod yX7_unlawful ∈ BIG := big_in 972 (by decide +kernel) rfl
theorem cd_X7_unlawful : Cond.code yX7_unlawful cX7_unlawful 4 (some .int) ∈ BIG := big_in 973 (by decide +kernel) rfl
theorem ml_X7_190 : Cond.methodLink RX7 190 yX7_unlawfulOn ∈ BIG := big_in 974 (by decide +kernel) rfl
theorem im_X7_unlawfulOn : Cond.instanceMethod yX7_unlawfulOn ∈ BIG := big_in 976 (by decide +kernel) rfl
theorem cd_X7_unlawfulOn : Cond.code yX7_unlawfulOn cX7_unlawfulOn 4 (some .int) ∈ BIG := big_in 977 (by decide +kernel) rfl
theorem ml_X7_201 : Cond.methodLink RX7 201 yX7_ones ∈ BIG := big_in 978 (by decide +kernel) rfl
theorem st_X7_ones : Cond.static yX7_ones ∈ BIG := big_in 979 (by decide +kernel) rfl
theorem cd_X7_ones : Cond.code yX7_ones cX7_ones 3 (some .int) ∈ BIG := big_in 980 (by decide +kernel) rfl
theorem ml_L_60 : Cond.methodLink RL 60 yX7_undo ∈ BIG := big_in 981 (by decide +kernel) rfl
theorem im_X7_undo : Cond.instanceMethod yX7_undo ∈ BIG := big_in 982 (by decide +kernel) rfl
theorem sl_X7_undo : Cond.selects RX7 yX7_undo yX7_undo ∈ BIG := big_in 983 (by decide +kernel) rfl
theorem cd_X7_undo : Cond.code yX7_undo cX7_undo 2 (some .int) ∈ BIG := big_in 984 (by decide +kernel) rfl
theorem ml_L_64 : Cond.methodLink RL 64 yX7_now ∈ BIG := big_in 985 (by decide +kernel) rfl
theorem im_X7_now : Cond.instanceMethod yX7_now ∈ BIG := big_in 986 (by decide +kernel) rfl
theorem sl_X7_now : Cond.selects RX7 yX7_now yX7_now ∈ BIG := big_in 987 (by decide +kernel) rfl
theorem cd_X7_now : Cond.code yX7_now cX7_now 2 (some .int) ∈ BIG := big_in 988 (by decide +kernel) rfl
theorem ml_X7_207 : Cond.methodLink RX7 207 yX7_inDrawer ∈ BIG := big_in 989 (by decide +kernel) rfl
theorem im_X7_inDrawer : Cond.instanceMethod yX7_inDrawer ∈ BIG := big_in 991 (by decide +kernel) rfl
theorem cd_X7_inDrawer : Cond.code yX7_inDrawer cX7_inDrawer 3 (some .int) ∈ BIG := big_in 992 (by decide +kernel) rfl
theorem ml_X7_204 : Cond.methodLink RX7 204 yX7_countEnds ∈ BIG := big_in 993 (by decide +kernel) rfl
theorem im_X7_countEnds : Cond.instanceMethod yX7_countEnds ∈ BIG := big_in 995 (by decide +kernel) rfl
theorem cd_X7_countEnds : Cond.code yX7_countEnds cX7_countEnds 5 (some .int) ∈ BIG := big_in 996 (by decide +kernel) rfl
theorem ml_L_68 : Cond.methodLink RL 68 yX7_behind ∈ BIG := big_in 997 (by decide +kernel) rfl
theorem im_X7_behind : Cond.instanceMethod yX7_behind ∈ BIG := big_in 998 (by decide +kernel) rfl
theorem sl_X7_behind : Cond.selects RX7 yX7_behind yX7_behind ∈ BIG := big_in 999 (by decide +kernel) rfl
theorem cd_X7_behind : Cond.code yX7_behind cX7_behind 5 (some .int) ∈ BIG := big_in 1000 (by decide +kernel) rfl
theorem ml_X7_211 : Cond.methodLink RX7 211 yX7_asNow ∈ BIG := big_in 1001 (by decide +kernel) rfl
theorem im_X7_asNow : Cond.instanceMethod yX7_asNow ∈ BIG := big_in 1003 (by decide +kernel) rfl
theorem cd_X7_asNow : Cond.code yX7_asNow cX7_asNow 2 none ∈ BIG := big_in 1004 (by decide +kernel) rfl
theorem ml_L_72 : Cond.methodLink RL 72 yX7_first ∈ BIG := big_in 1005 (by decide +kernel) rfl
theorem im_X7_first : Cond.instanceMethod yX7_first ∈ BIG := big_in 1006 (by decide +kernel) rfl
theorem sl_X7_first : Cond.selects RX7 yX7_first yX7_first ∈ BIG := big_in 1007 (by decide +kernel) rfl
theorem cd_X7_first : Cond.code yX7_first cX7_first 5 (some .int) ∈ BIG := big_in 1008 (by decide +kernel) rfl
theorem ml_L_76 : Cond.methodLink RL 76 yX7_freed ∈ BIG := big_in 1009 (by decide +kernel) rfl
theorem im_X7_freed : Cond.instanceMethod yX7_freed ∈ BIG := big_in 1010 (by decide +kernel) rfl
theorem sl_X7_freed : Cond.selects RX7 yX7_freed yX7_freed ∈ BIG := big_in 1011 (by decide +kernel) rfl
theorem cd_X7_freed : Cond.code yX7_freed cX7_freed 5 (some .int) ∈ BIG := big_in 1012 (by decide +kernel) rfl
theorem ct_X7_214 : Cond.constant RX7 214 (-1000000) ∈ BIG := big_in 1013 (by decide +kernel) rfl
theorem ml_X7_215 : Cond.methodLink RX7 215 yX7_unlawfulYears ∈ BIG := big_in 1014 (by decide +kernel) rfl
theorem im_X7_unlawfulYears : Cond.instanceMethod yX7_unlawfulYears ∈ BIG := big_in 1016 (by decide +kernel) rfl
theorem cd_X7_unlawfulYears : Cond.code yX7_unlawfulYears cX7_unlawfulYears 3 (some .int) ∈ BIG := big_in 1017 (by decide +kernel) rfl
theorem ml_L_80 : Cond.methodLink RL 80 yX7_bestJump ∈ BIG := big_in 1018 (by decide +kernel) rfl
theorem im_X7_bestJump : Cond.instanceMethod yX7_bestJump ∈ BIG := big_in 1019 (by decide +kernel) rfl
theorem sl_X7_bestJump : Cond.selects RX7 yX7_bestJump yX7_bestJump ∈ BIG := big_in 1020 (by decide +kernel) rfl
theorem cd_X7_bestJump : Cond.code yX7_bestJump cX7_bestJump 7 (some .int) ∈ BIG := big_in 1021 (by decide +kernel) rfl
theorem ml_X7_218 : Cond.methodLink RX7 218 yX7_jumpsOn ∈ BIG := big_in 1022 (by decide +kernel) rfl
theorem im_X7_jumpsOn : Cond.instanceMethod yX7_jumpsOn ∈ BIG := big_in 1024 (by decide +kernel) rfl
theorem cd_X7_jumpsOn : Cond.code yX7_jumpsOn cX7_jumpsOn 8 (some .int) ∈ BIG := big_in 1025 (by decide +kernel) rfl
theorem ml_L_84 : Cond.methodLink RL 84 yX7_plans ∈ BIG := big_in 1026 (by decide +kernel) rfl
theorem im_X7_plans : Cond.instanceMethod yX7_plans ∈ BIG := big_in 1027 (by decide +kernel) rfl
theorem sl_X7_plans : Cond.selects RX7 yX7_plans yX7_plans ∈ BIG := big_in 1028 (by decide +kernel) rfl
theorem cd_X7_plans : Cond.code yX7_plans cX7_plans 3 (some .int) ∈ BIG := big_in 1029 (by decide +kernel) rfl
theorem ml_L_88 : Cond.methodLink RL 88 yX7_drop ∈ BIG := big_in 1030 (by decide +kernel) rfl
theorem im_X7_drop : Cond.instanceMethod yX7_drop ∈ BIG := big_in 1031 (by decide +kernel) rfl
theorem sl_X7_drop : Cond.selects RX7 yX7_drop yX7_drop ∈ BIG := big_in 1032 (by decide +kernel) rfl
theorem cd_X7_drop : Cond.code yX7_drop cX7_drop 2 (some .int) ∈ BIG := big_in 1033 (by decide +kernel) rfl
theorem ml_L_92 : Cond.methodLink RL 92 yX7_orders ∈ BIG := big_in 1034 (by decide +kernel) rfl
theorem im_X7_orders : Cond.instanceMethod yX7_orders ∈ BIG := big_in 1035 (by decide +kernel) rfl
theorem sl_X7_orders : Cond.selects RX7 yX7_orders yX7_orders ∈ BIG := big_in 1036 (by decide +kernel) rfl
theorem cd_X7_orders : Cond.code yX7_orders cX7_orders 4 (some .int) ∈ BIG := big_in 1037 (by decide +kernel) rfl
theorem ml_X7_225 : Cond.methodLink RX7 225 yX7_ordersOf ∈ BIG := big_in 1038 (by decide +kernel) rfl
theorem im_X7_ordersOf : Cond.instanceMethod yX7_ordersOf ∈ BIG := big_in 1040 (by decide +kernel) rfl
theorem cd_X7_ordersOf : Cond.code yX7_ordersOf cX7_ordersOf 8 (some .int) ∈ BIG := big_in 1041 (by decide +kernel) rfl
theorem ml_X7_221 : Cond.methodLink RX7 221 yX7_isOrder ∈ BIG := big_in 1042 (by decide +kernel) rfl
theorem im_X7_isOrder : Cond.instanceMethod yX7_isOrder ∈ BIG := big_in 1044 (by decide +kernel) rfl
theorem cd_X7_isOrder : Cond.code yX7_isOrder cX7_isOrder 10 (some .boolean) ∈ BIG := big_in 1045 (by decide +kernel) rfl
theorem ml_L_96 : Cond.methodLink RL 96 yX7_bars ∈ BIG := big_in 1046 (by decide +kernel) rfl
theorem im_X7_bars : Cond.instanceMethod yX7_bars ∈ BIG := big_in 1047 (by decide +kernel) rfl
theorem sl_X7_bars : Cond.selects RX7 yX7_bars yX7_bars ∈ BIG := big_in 1048 (by decide +kernel) rfl
theorem cd_X7_bars : Cond.code yX7_bars cX7_bars 3 (some .int) ∈ BIG := big_in 1049 (by decide +kernel) rfl
theorem ml_L_101 : Cond.methodLink RL 101 yX7_trip ∈ BIG := big_in 1050 (by decide +kernel) rfl
theorem im_X7_trip : Cond.instanceMethod yX7_trip ∈ BIG := big_in 1051 (by decide +kernel) rfl
theorem sl_X7_trip : Cond.selects RX7 yX7_trip yX7_trip ∈ BIG := big_in 1052 (by decide +kernel) rfl
theorem cd_X7_trip : Cond.code yX7_trip cX7_trip 6 (some .int) ∈ BIG := big_in 1053 (by decide +kernel) rfl
theorem ml_X7_231 : Cond.methodLink RX7 231 yX7_measures ∈ BIG := big_in 1054 (by decide +kernel) rfl
theorem im_X7_measures : Cond.instanceMethod yX7_measures ∈ BIG := big_in 1056 (by decide +kernel) rfl
theorem cd_X7_measures : Cond.code yX7_measures cX7_measures 6 none ∈ BIG := big_in 1057 (by decide +kernel) rfl
theorem ml_X7_228 : Cond.methodLink RX7 228 yX7_canJump ∈ BIG := big_in 1058 (by decide +kernel) rfl
theorem im_X7_canJump : Cond.instanceMethod yX7_canJump ∈ BIG := big_in 1060 (by decide +kernel) rfl
theorem cd_X7_canJump : Cond.code yX7_canJump cX7_canJump 5 (some .boolean) ∈ BIG := big_in 1061 (by decide +kernel) rfl
theorem ml_L_105 : Cond.methodLink RL 105 yX7_parts ∈ BIG := big_in 1062 (by decide +kernel) rfl
theorem im_X7_parts : Cond.instanceMethod yX7_parts ∈ BIG := big_in 1063 (by decide +kernel) rfl
theorem sl_X7_parts : Cond.selects RX7 yX7_parts yX7_parts ∈ BIG := big_in 1064 (by decide +kernel) rfl
theorem cd_X7_parts : Cond.code yX7_parts cX7_parts 6 (some .int) ∈ BIG := big_in 1065 (by decide +kernel) rfl
theorem ml_X7_239 : Cond.methodLink RX7 239 yX7_shares ∈ BIG := big_in 1066 (by decide +kernel) rfl
theorem im_X7_shares : Cond.instanceMethod yX7_shares ∈ BIG := big_in 1068 (by decide +kernel) rfl
theorem cd_X7_shares : Cond.code yX7_shares cX7_shares 6 none ∈ BIG := big_in 1069 (by decide +kernel) rfl
theorem ml_X7_235 : Cond.methodLink RX7 235 yX7_isPart ∈ BIG := big_in 1070 (by decide +kernel) rfl
theorem im_X7_isPart : Cond.instanceMethod yX7_isPart ∈ BIG := big_in 1072 (by decide +kernel) rfl
theorem cd_X7_isPart : Cond.code yX7_isPart cX7_isPart 3 (some .boolean) ∈ BIG := big_in 1073 (by decide +kernel) rfl
theorem ml_L_109 : Cond.methodLink RL 109 yX7_books ∈ BIG := big_in 1074 (by decide +kernel) rfl
theorem im_X7_books : Cond.instanceMethod yX7_books ∈ BIG := big_in 1075 (by decide +kernel) rfl
theorem sl_X7_books : Cond.selects RX7 yX7_books yX7_books ∈ BIG := big_in 1076 (by decide +kernel) rfl
theorem cd_X7_books : Cond.code yX7_books cX7_books 4 (some .int) ∈ BIG := big_in 1077 (by decide +kernel) rfl
theorem ml_L_113 : Cond.methodLink RL 113 yX7_burn ∈ BIG := big_in 1078 (by decide +kernel) rfl
theorem im_X7_burn : Cond.instanceMethod yX7_burn ∈ BIG := big_in 1079 (by decide +kernel) rfl
theorem sl_X7_burn : Cond.selects RX7 yX7_burn yX7_burn ∈ BIG := big_in 1080 (by decide +kernel) rfl
theorem cd_X7_burn : Cond.code yX7_burn cX7_burn 2 (some .int) ∈ BIG := big_in 1081 (by decide +kernel) rfl
theorem ml_L_117 : Cond.methodLink RL 117 yX7_fits ∈ BIG := big_in 1082 (by decide +kernel) rfl
theorem im_X7_fits : Cond.instanceMethod yX7_fits ∈ BIG := big_in 1083 (by decide +kernel) rfl
theorem sl_X7_fits : Cond.selects RX7 yX7_fits yX7_fits ∈ BIG := big_in 1084 (by decide +kernel) rfl
theorem cd_X7_fits : Cond.code yX7_fits cX7_fits 5 (some .int) ∈ BIG := big_in 1085 (by decide +kernel) rfl
theorem ml_X7_245 : Cond.methodLink RX7 245 yX7_isAsBooked ∈ BIG := big_in 1086 (by decide +kernel) rfl
theorem im_X7_isAsBooked : Cond.instanceMethod yX7_isAsBooked ∈ BIG := big_in 1088 (by decide +kernel) rfl
theorem cd_X7_isAsBooked : Cond.code yX7_isAsBooked cX7_isAsBooked 6 (some .boolean) ∈ BIG := big_in 1089 (by decide +kernel) rfl
theorem ml_X7_242 : Cond.methodLink RX7 242 yX7_endBehind ∈ BIG := big_in 1090 (by decide +kernel) rfl
theorem im_X7_endBehind : Cond.instanceMethod yX7_endBehind ∈ BIG := big_in 1092 (by decide +kernel) rfl
theorem cd_X7_endBehind : Cond.code yX7_endBehind cX7_endBehind 7 (some .int) ∈ BIG := big_in 1093 (by decide +kernel) rfl
theorem ml_L_121 : Cond.methodLink RL 121 yX7_sure ∈ BIG := big_in 1094 (by decide +kernel) rfl
theorem im_X7_sure : Cond.instanceMethod yX7_sure ∈ BIG := big_in 1095 (by decide +kernel) rfl
theorem sl_X7_sure : Cond.selects RX7 yX7_sure yX7_sure ∈ BIG := big_in 1096 (by decide +kernel) rfl
theorem cd_X7_sure : Cond.code yX7_sure cX7_sure 7 (some .int) ∈ BIG := big_in 1097 (by decide +kernel) rfl
theorem ml_L_125 : Cond.methodLink RL 125 yX7_clash ∈ BIG := big_in 1098 (by decide +kernel) rfl
theorem im_X7_clash : Cond.instanceMethod yX7_clash ∈ BIG := big_in 1099 (by decide +kernel) rfl
theorem sl_X7_clash : Cond.selects RX7 yX7_clash yX7_clash ∈ BIG := big_in 1100 (by decide +kernel) rfl
theorem cd_X7_clash : Cond.code yX7_clash cX7_clash 3 (some .int) ∈ BIG := big_in 1101 (by decide +kernel) rfl
theorem ml_X7_248 : Cond.methodLink RX7 248 yX7_isClash ∈ BIG := big_in 1102 (by decide +kernel) rfl
theorem im_X7_isClash : Cond.instanceMethod yX7_isClash ∈ BIG := big_in 1104 (by decide +kernel) rfl
theorem cd_X7_isClash : Cond.code yX7_isClash cX7_isClash 7 (some .boolean) ∈ BIG := big_in 1105 (by decide +kernel) rfl
theorem ml_L_129 : Cond.methodLink RL 129 yX7_rate ∈ BIG := big_in 1106 (by decide +kernel) rfl
theorem im_X7_rate : Cond.instanceMethod yX7_rate ∈ BIG := big_in 1107 (by decide +kernel) rfl
theorem sl_X7_rate : Cond.selects RX7 yX7_rate yX7_rate ∈ BIG := big_in 1108 (by decide +kernel) rfl
theorem cd_X7_rate : Cond.code yX7_rate cX7_rate 6 (some .int) ∈ BIG := big_in 1109 (by decide +kernel) rfl
theorem ct_X7_255 : Cond.constantLong RX7 255 (11) ∈ BIG := big_in 1110 (by decide +kernel) rfl
theorem ct_X7_257 : Cond.constantLong RX7 257 (101) ∈ BIG := big_in 1111 (by decide +kernel) rfl
theorem ct_X7_259 : Cond.constantLong RX7 259 (1011) ∈ BIG := big_in 1112 (by decide +kernel) rfl
theorem ct_X7_261 : Cond.constantLong RX7 261 (10101) ∈ BIG := big_in 1113 (by decide +kernel) rfl
theorem ct_X7_263 : Cond.constantLong RX7 263 (100001) ∈ BIG := big_in 1114 (by decide +kernel) rfl
theorem ml_L_133 : Cond.methodLink RL 133 yX7_keep ∈ BIG := big_in 1115 (by decide +kernel) rfl
theorem im_X7_keep : Cond.instanceMethod yX7_keep ∈ BIG := big_in 1116 (by decide +kernel) rfl
theorem sl_X7_keep : Cond.selects RX7 yX7_keep yX7_keep ∈ BIG := big_in 1117 (by decide +kernel) rfl
theorem cd_X7_keep : Cond.code yX7_keep cX7_keep 3 (some .int) ∈ BIG := big_in 1118 (by decide +kernel) rfl
theorem ml_L_137 : Cond.methodLink RL 137 yX7_back ∈ BIG := big_in 1119 (by decide +kernel) rfl
theorem im_X7_back : Cond.instanceMethod yX7_back ∈ BIG := big_in 1120 (by decide +kernel) rfl
theorem sl_X7_back : Cond.selects RX7 yX7_back yX7_back ∈ BIG := big_in 1121 (by decide +kernel) rfl
theorem cd_X7_back : Cond.code yX7_back cX7_back 3 (some .int) ∈ BIG := big_in 1122 (by decide +kernel) rfl
theorem ml_L_141 : Cond.methodLink RL 141 yX7_count ∈ BIG := big_in 1123 (by decide +kernel) rfl
theorem im_X7_count : Cond.instanceMethod yX7_count ∈ BIG := big_in 1124 (by decide +kernel) rfl
theorem sl_X7_count : Cond.selects RX7 yX7_count yX7_count ∈ BIG := big_in 1125 (by decide +kernel) rfl
theorem cd_X7_count : Cond.code yX7_count cX7_count 2 (some .int) ∈ BIG := big_in 1126 (by decide +kernel) rfl
theorem ml_L_146 : Cond.methodLink RL 146 yX7_trace ∈ BIG := big_in 1127 (by decide +kernel) rfl
theorem im_X7_trace : Cond.instanceMethod yX7_trace ∈ BIG := big_in 1128 (by decide +kernel) rfl
theorem sl_X7_trace : Cond.selects RX7 yX7_trace yX7_trace ∈ BIG := big_in 1129 (by decide +kernel) rfl
theorem cd_X7_trace : Cond.code yX7_trace cX7_trace 1 (some .long) ∈ BIG := big_in 1130 (by decide +kernel) rfl
theorem lay_X0 : ∀ w ∈ u_ws RX0 TX0 6, w ∈ BIG := big_list _ [252, 254, 256, 258, 260, 262] (by decide +kernel) (by decide +kernel)
theorem lay_X1 : ∀ w ∈ u_ws RX1 TX1 7, w ∈ BIG := big_list _ [130, 132, 134, 136, 138, 140, 142] (by decide +kernel) (by decide +kernel)
theorem lay_X2 : ∀ w ∈ u_ws RX2 TX2 5, w ∈ BIG := big_list _ [165, 167, 169, 171, 173] (by decide +kernel) (by decide +kernel)
theorem lay_X3 : ∀ w ∈ u_ws RX3 TX3 3, w ∈ BIG := big_list _ [227, 229, 231] (by decide +kernel) (by decide +kernel)
theorem lay_X4 : ∀ w ∈ u_ws RX4 TX4 4, w ∈ BIG := big_list _ [280, 282, 284, 286] (by decide +kernel) (by decide +kernel)
theorem lay_X5 : ∀ w ∈ u_ws RX5 TX5 10, w ∈ BIG := big_list _ [189, 191, 193, 195, 197, 199, 201, 203, 205, 207] (by decide +kernel) (by decide +kernel)
theorem lay_X6 : ∀ w ∈ u_ws RX6 TX6 11, w ∈ BIG := big_list _ [300, 302, 304, 306, 308, 310, 312, 314, 316, 318, 320] (by decide +kernel) (by decide +kernel)
theorem lay_X7 : ∀ w ∈ u_ws RX7 TX7 39, w ∈ BIG := big_list _ [778, 780, 782, 784, 786, 788, 790, 792, 794, 796, 798, 800, 802, 804, 806, 808, 810, 812, 814, 816, 818, 820, 822, 824, 826, 828, 830, 832, 834, 836, 838, 840, 842, 844, 846, 848, 850, 852, 854] (by decide +kernel) (by decide +kernel)
/-- the links of one nest -/
def nestW : List Cond := [Cond.methodLinkNest RX6 9 yX5_init RX6, Cond.methodLinkNest RX5 17 yX1_init RX6, Cond.methodLinkNest RX5 24 yX2_init RX6, Cond.methodLinkNest RX6 18 yX1_init RX6, Cond.methodLinkNest RX6 25 yX2_init RX6, Cond.methodLinkNest RX3 24 yX2_init RX6, Cond.methodLinkNest RX6 47 yX0_init RX6, Cond.methodLinkNest RX6 54 yX4_init RX6, Cond.methodLinkNest RX5 124 yX6_within RX6, Cond.methodLinkNest RX5 115 yX6_cell RX6]
theorem nestW_in : ∀ w ∈ nestW, w ∈ lw_tbl := by
  have h : nestW = [99, 105, 148, 211, 213, 222, 236, 268, 386, 395].filterMap (fun i => lw_tbl[i]?) := by decide +kernel
  intro w hw
  rw [h] at hw
  obtain ⟨i, -, hi⟩ := List.mem_filterMap.mp hw
  exact List.mem_of_getElem? hi
end
section
theorem dX0_init_0 : decode cX0_init 0 = .ok (.aload_n 0, 1) := by decide +kernel
theorem dX0_init_1 : decode cX0_init 1 = .ok (.invokespecial 3, 3) := by decide +kernel
theorem dX0_init_4 : decode cX0_init 4 = .ok (.aload_n 0, 1) := by decide +kernel
theorem dX0_init_5 : decode cX0_init 5 = .ok (.iconst 0, 1) := by decide +kernel
theorem dX0_init_6 : decode cX0_init 6 = .ok (.putfield 9, 3) := by decide +kernel
theorem dX0_init_9 : decode cX0_init 9 = .ok (.aload_n 0, 1) := by decide +kernel
theorem dX0_init_10 : decode cX0_init 10 = .ok (.iconst 5, 1) := by decide +kernel
theorem dX0_init_11 : decode cX0_init 11 = .ok (.newarray .int, 2) := by decide +kernel
theorem dX0_init_13 : decode cX0_init 13 = .ok (.putfield 15, 3) := by decide +kernel
theorem dX0_init_16 : decode cX0_init 16 = .ok (.aload_n 0, 1) := by decide +kernel
theorem dX0_init_17 : decode cX0_init 17 = .ok (.iconst 5, 1) := by decide +kernel
theorem dX0_init_18 : decode cX0_init 18 = .ok (.newarray .int, 2) := by decide +kernel
theorem dX0_init_20 : decode cX0_init 20 = .ok (.putfield 19, 3) := by decide +kernel
theorem dX0_init_23 : decode cX0_init 23 = .ok (.aload_n 0, 1) := by decide +kernel
theorem dX0_init_24 : decode cX0_init 24 = .ok (.iconst 5, 1) := by decide +kernel
theorem dX0_init_25 : decode cX0_init 25 = .ok (.newarray .int, 2) := by decide +kernel
theorem dX0_init_27 : decode cX0_init 27 = .ok (.putfield 22, 3) := by decide +kernel
theorem dX0_init_30 : decode cX0_init 30 = .ok (.aload_n 0, 1) := by decide +kernel
theorem dX0_init_31 : decode cX0_init 31 = .ok (.iconst 5, 1) := by decide +kernel
theorem dX0_init_32 : decode cX0_init 32 = .ok (.newarray .int, 2) := by decide +kernel
theorem dX0_init_34 : decode cX0_init 34 = .ok (.putfield 25, 3) := by decide +kernel
theorem dX0_init_37 : decode cX0_init 37 = .ok (.aload_n 0, 1) := by decide +kernel
theorem dX0_init_38 : decode cX0_init 38 = .ok (.iconst 4, 1) := by decide +kernel
theorem dX0_init_39 : decode cX0_init 39 = .ok (.newarray .int, 2) := by decide +kernel
theorem dX0_init_41 : decode cX0_init 41 = .ok (.putfield 28, 3) := by decide +kernel
theorem dX0_init_44 : decode cX0_init 44 = .ok (.return_, 1) := by decide +kernel
theorem dX0_adds_0 : decode cX0_adds 0 = .ok (.aload_n 0, 1) := by decide +kernel
theorem dX0_adds_1 : decode cX0_adds 1 = .ok (.getfield 15, 3) := by decide +kernel
theorem dX0_adds_4 : decode cX0_adds 4 = .ok (.aload_n 0, 1) := by decide +kernel
theorem dX0_adds_5 : decode cX0_adds 5 = .ok (.getfield 9, 3) := by decide +kernel
theorem dX0_adds_8 : decode cX0_adds 8 = .ok (.iload_n 1, 1) := by decide +kernel
theorem dX0_adds_9 : decode cX0_adds 9 = .ok (.iastore, 1) := by decide +kernel
theorem dX0_adds_10 : decode cX0_adds 10 = .ok (.aload_n 0, 1) := by decide +kernel
theorem dX0_adds_11 : decode cX0_adds 11 = .ok (.getfield 19, 3) := by decide +kernel
theorem dX0_adds_14 : decode cX0_adds 14 = .ok (.aload_n 0, 1) := by decide +kernel
theorem dX0_adds_15 : decode cX0_adds 15 = .ok (.getfield 9, 3) := by decide +kernel
theorem dX0_adds_18 : decode cX0_adds 18 = .ok (.iload_n 2, 1) := by decide +kernel
theorem dX0_adds_19 : decode cX0_adds 19 = .ok (.iastore, 1) := by decide +kernel
theorem dX0_adds_20 : decode cX0_adds 20 = .ok (.aload_n 0, 1) := by decide +kernel
theorem dX0_adds_21 : decode cX0_adds 21 = .ok (.dup, 1) := by decide +kernel
theorem dX0_adds_22 : decode cX0_adds 22 = .ok (.getfield 9, 3) := by decide +kernel
theorem dX0_adds_25 : decode cX0_adds 25 = .ok (.iconst 1, 1) := by decide +kernel
theorem dX0_adds_26 : decode cX0_adds 26 = .ok (.iadd, 1) := by decide +kernel
theorem dX0_adds_27 : decode cX0_adds 27 = .ok (.putfield 9, 3) := by decide +kernel
theorem dX0_adds_30 : decode cX0_adds 30 = .ok (.return_, 1) := by decide +kernel
theorem dX0_keepsAsFirst_0 : decode cX0_keepsAsFirst 0 = .ok (.aload_n 0, 1) := by decide +kernel
theorem dX0_keepsAsFirst_1 : decode cX0_keepsAsFirst 1 = .ok (.getfield 22, 3) := by decide +kernel
theorem dX0_keepsAsFirst_4 : decode cX0_keepsAsFirst 4 = .ok (.iconst 0, 1) := by decide +kernel
theorem dX0_keepsAsFirst_5 : decode cX0_keepsAsFirst 5 = .ok (.aload_n 0, 1) := by decide +kernel
theorem dX0_keepsAsFirst_6 : decode cX0_keepsAsFirst 6 = .ok (.getfield 25, 3) := by decide +kernel
theorem dX0_keepsAsFirst_9 : decode cX0_keepsAsFirst 9 = .ok (.iconst 0, 1) := by decide +kernel
theorem dX0_keepsAsFirst_10 : decode cX0_keepsAsFirst 10 = .ok (.iconst 5, 1) := by decide +kernel
theorem dX0_keepsAsFirst_11 : decode cX0_keepsAsFirst 11 = .ok (.invokestatic 31, 3) := by decide +kernel
theorem dX0_keepsAsFirst_14 : decode cX0_keepsAsFirst 14 = .ok (.return_, 1) := by decide +kernel
theorem dX0_startsOrders_0 : decode cX0_startsOrders 0 = .ok (.iconst 0, 1) := by decide +kernel
theorem dX0_startsOrders_1 : decode cX0_startsOrders 1 = .ok (.istore_n 2, 1) := by decide +kernel
theorem dX0_startsOrders_2 : decode cX0_startsOrders 2 = .ok (.iconst 0, 1) := by decide +kernel
theorem dX0_startsOrders_3 : decode cX0_startsOrders 3 = .ok (.istore_n 3, 1) := by decide +kernel
theorem dX0_startsOrders_4 : decode cX0_startsOrders 4 = .ok (.iload_n 3, 1) := by decide +kernel
theorem dX0_startsOrders_5 : decode cX0_startsOrders 5 = .ok (.aload_n 0, 1) := by decide +kernel
theorem dX0_startsOrders_6 : decode cX0_startsOrders 6 = .ok (.getfield 9, 3) := by decide +kernel
theorem dX0_startsOrders_9 : decode cX0_startsOrders 9 = .ok (.if_icmp .ge 24, 3) := by decide +kernel
theorem dX0_startsOrders_12 : decode cX0_startsOrders 12 = .ok (.iload_n 3, 1) := by decide +kernel
theorem dX0_startsOrders_13 : decode cX0_startsOrders 13 = .ok (.iload_n 1, 1) := by decide +kernel
theorem dX0_startsOrders_14 : decode cX0_startsOrders 14 = .ok (.if_icmp .eq 13, 3) := by decide +kernel
theorem dX0_startsOrders_17 : decode cX0_startsOrders 17 = .ok (.aload_n 0, 1) := by decide +kernel
theorem dX0_startsOrders_18 : decode cX0_startsOrders 18 = .ok (.getfield 22, 3) := by decide +kernel
theorem dX0_startsOrders_21 : decode cX0_startsOrders 21 = .ok (.iload_n 2, 1) := by decide +kernel
theorem dX0_startsOrders_22 : decode cX0_startsOrders 22 = .ok (.iload_n 3, 1) := by decide +kernel
theorem dX0_startsOrders_23 : decode cX0_startsOrders 23 = .ok (.iastore, 1) := by decide +kernel
theorem dX0_startsOrders_24 : decode cX0_startsOrders 24 = .ok (.iinc 2 1, 3) := by decide +kernel
theorem dX0_startsOrders_27 : decode cX0_startsOrders 27 = .ok (.iinc 3 1, 3) := by decide +kernel
theorem dX0_startsOrders_30 : decode cX0_startsOrders 30 = .ok (.goto (-26), 3) := by decide +kernel
theorem dX0_startsOrders_33 : decode cX0_startsOrders 33 = .ok (.iload_n 2, 1) := by decide +kernel
theorem dX0_startsOrders_34 : decode cX0_startsOrders 34 = .ok (.ireturn, 1) := by decide +kernel
theorem dX0_goesToNextOrder_0 : decode cX0_goesToNextOrder 0 = .ok (.aload_n 0, 1) := by decide +kernel
theorem dX0_goesToNextOrder_1 : decode cX0_goesToNextOrder 1 = .ok (.iload_n 1, 1) := by decide +kernel
theorem dX0_goesToNextOrder_2 : decode cX0_goesToNextOrder 2 = .ok (.invokevirtual 37, 3) := by decide +kernel
theorem dX0_goesToNextOrder_5 : decode cX0_goesToNextOrder 5 = .ok (.istore_n 2, 1) := by decide +kernel
theorem dX0_goesToNextOrder_6 : decode cX0_goesToNextOrder 6 = .ok (.iload_n 2, 1) := by decide +kernel
theorem dX0_goesToNextOrder_7 : decode cX0_goesToNextOrder 7 = .ok (.ifCond .ge 5, 3) := by decide +kernel
theorem dX0_goesToNextOrder_10 : decode cX0_goesToNextOrder 10 = .ok (.iconst 0, 1) := by decide +kernel
theorem dX0_goesToNextOrder_11 : decode cX0_goesToNextOrder 11 = .ok (.ireturn, 1) := by decide +kernel
theorem dX0_goesToNextOrder_12 : decode cX0_goesToNextOrder 12 = .ok (.aload_n 0, 1) := by decide +kernel
theorem dX0_goesToNextOrder_13 : decode cX0_goesToNextOrder 13 = .ok (.iload_n 2, 1) := by decide +kernel
theorem dX0_goesToNextOrder_14 : decode cX0_goesToNextOrder 14 = .ok (.aload_n 0, 1) := by decide +kernel
theorem dX0_goesToNextOrder_15 : decode cX0_goesToNextOrder 15 = .ok (.iload_n 2, 1) := by decide +kernel
theorem dX0_goesToNextOrder_16 : decode cX0_goesToNextOrder 16 = .ok (.iload_n 1, 1) := by decide +kernel
theorem dX0_goesToNextOrder_17 : decode cX0_goesToNextOrder 17 = .ok (.invokevirtual 41, 3) := by decide +kernel
theorem dX0_goesToNextOrder_20 : decode cX0_goesToNextOrder 20 = .ok (.invokevirtual 45, 3) := by decide +kernel
theorem dX0_goesToNextOrder_23 : decode cX0_goesToNextOrder 23 = .ok (.iload_n 2, 1) := by decide +kernel
theorem dX0_goesToNextOrder_24 : decode cX0_goesToNextOrder 24 = .ok (.iconst 1, 1) := by decide +kernel
theorem dX0_goesToNextOrder_25 : decode cX0_goesToNextOrder 25 = .ok (.iadd, 1) := by decide +kernel
theorem dX0_goesToNextOrder_26 : decode cX0_goesToNextOrder 26 = .ok (.istore_n 3, 1) := by decide +kernel
theorem dX0_goesToNextOrder_27 : decode cX0_goesToNextOrder 27 = .ok (.iload_n 1, 1) := by decide +kernel
theorem dX0_goesToNextOrder_28 : decode cX0_goesToNextOrder 28 = .ok (.iconst 1, 1) := by decide +kernel
theorem dX0_goesToNextOrder_29 : decode cX0_goesToNextOrder 29 = .ok (.isub, 1) := by decide +kernel
theorem dX0_goesToNextOrder_30 : decode cX0_goesToNextOrder 30 = .ok (.istore 4, 2) := by decide +kernel
theorem dX0_goesToNextOrder_32 : decode cX0_goesToNextOrder 32 = .ok (.iload_n 3, 1) := by decide +kernel
theorem dX0_goesToNextOrder_33 : decode cX0_goesToNextOrder 33 = .ok (.iload 4, 2) := by decide +kernel
theorem dX0_goesToNextOrder_35 : decode cX0_goesToNextOrder 35 = .ok (.if_icmp .ge 19, 3) := by decide +kernel
theorem dX0_goesToNextOrder_38 : decode cX0_goesToNextOrder 38 = .ok (.aload_n 0, 1) := by decide +kernel
theorem dX0_goesToNextOrder_39 : decode cX0_goesToNextOrder 39 = .ok (.iload_n 3, 1) := by decide +kernel
theorem dX0_goesToNextOrder_40 : decode cX0_goesToNextOrder 40 = .ok (.iload 4, 2) := by decide +kernel
theorem dX0_goesToNextOrder_42 : decode cX0_goesToNextOrder 42 = .ok (.invokevirtual 45, 3) := by decide +kernel
theorem dX0_goesToNextOrder_45 : decode cX0_goesToNextOrder 45 = .ok (.iinc 3 1, 3) := by decide +kernel
theorem dX0_goesToNextOrder_48 : decode cX0_goesToNextOrder 48 = .ok (.iinc 4 (-1), 3) := by decide +kernel
theorem dX0_goesToNextOrder_51 : decode cX0_goesToNextOrder 51 = .ok (.goto (-19), 3) := by decide +kernel
theorem dX0_goesToNextOrder_54 : decode cX0_goesToNextOrder 54 = .ok (.iconst 1, 1) := by decide +kernel
theorem dX0_goesToNextOrder_55 : decode cX0_goesToNextOrder 55 = .ok (.ireturn, 1) := by decide +kernel
theorem dX0_lastRising_0 : decode cX0_lastRising 0 = .ok (.iload_n 1, 1) := by decide +kernel
theorem dX0_lastRising_1 : decode cX0_lastRising 1 = .ok (.iconst 2, 1) := by decide +kernel
theorem dX0_lastRising_2 : decode cX0_lastRising 2 = .ok (.isub, 1) := by decide +kernel
theorem dX0_lastRising_3 : decode cX0_lastRising 3 = .ok (.istore_n 2, 1) := by decide +kernel
theorem dX0_lastRising_4 : decode cX0_lastRising 4 = .ok (.iload_n 2, 1) := by decide +kernel
theorem dX0_lastRising_5 : decode cX0_lastRising 5 = .ok (.ifCond .lt 28, 3) := by decide +kernel
theorem dX0_lastRising_8 : decode cX0_lastRising 8 = .ok (.aload_n 0, 1) := by decide +kernel
theorem dX0_lastRising_9 : decode cX0_lastRising 9 = .ok (.getfield 22, 3) := by decide +kernel
theorem dX0_lastRising_12 : decode cX0_lastRising 12 = .ok (.iload_n 2, 1) := by decide +kernel
theorem dX0_lastRising_13 : decode cX0_lastRising 13 = .ok (.iaload, 1) := by decide +kernel
theorem dX0_lastRising_14 : decode cX0_lastRising 14 = .ok (.aload_n 0, 1) := by decide +kernel
theorem dX0_lastRising_15 : decode cX0_lastRising 15 = .ok (.getfield 22, 3) := by decide +kernel
theorem dX0_lastRising_18 : decode cX0_lastRising 18 = .ok (.iload_n 2, 1) := by decide +kernel
theorem dX0_lastRising_19 : decode cX0_lastRising 19 = .ok (.iconst 1, 1) := by decide +kernel
theorem dX0_lastRising_20 : decode cX0_lastRising 20 = .ok (.iadd, 1) := by decide +kernel
theorem dX0_lastRising_21 : decode cX0_lastRising 21 = .ok (.iaload, 1) := by decide +kernel
theorem dX0_lastRising_22 : decode cX0_lastRising 22 = .ok (.if_icmp .ge 5, 3) := by decide +kernel
theorem dX0_lastRising_25 : decode cX0_lastRising 25 = .ok (.iload_n 2, 1) := by decide +kernel
theorem dX0_lastRising_26 : decode cX0_lastRising 26 = .ok (.ireturn, 1) := by decide +kernel
theorem dX0_lastRising_27 : decode cX0_lastRising 27 = .ok (.iinc 2 (-1), 3) := by decide +kernel
theorem dX0_lastRising_30 : decode cX0_lastRising 30 = .ok (.goto (-26), 3) := by decide +kernel
theorem dX0_lastRising_33 : decode cX0_lastRising 33 = .ok (.iconst (-1), 1) := by decide +kernel
theorem dX0_lastRising_34 : decode cX0_lastRising 34 = .ok (.ireturn, 1) := by decide +kernel
theorem dX0_lastAbove_0 : decode cX0_lastAbove 0 = .ok (.iload_n 2, 1) := by decide +kernel
theorem dX0_lastAbove_1 : decode cX0_lastAbove 1 = .ok (.iconst 1, 1) := by decide +kernel
theorem dX0_lastAbove_2 : decode cX0_lastAbove 2 = .ok (.isub, 1) := by decide +kernel
theorem dX0_lastAbove_3 : decode cX0_lastAbove 3 = .ok (.istore_n 3, 1) := by decide +kernel
theorem dX0_lastAbove_4 : decode cX0_lastAbove 4 = .ok (.iload_n 3, 1) := by decide +kernel
theorem dX0_lastAbove_5 : decode cX0_lastAbove 5 = .ok (.iload_n 1, 1) := by decide +kernel
theorem dX0_lastAbove_6 : decode cX0_lastAbove 6 = .ok (.if_icmp .le 26, 3) := by decide +kernel
theorem dX0_lastAbove_9 : decode cX0_lastAbove 9 = .ok (.aload_n 0, 1) := by decide +kernel
theorem dX0_lastAbove_10 : decode cX0_lastAbove 10 = .ok (.getfield 22, 3) := by decide +kernel
theorem dX0_lastAbove_13 : decode cX0_lastAbove 13 = .ok (.iload_n 3, 1) := by decide +kernel
theorem dX0_lastAbove_14 : decode cX0_lastAbove 14 = .ok (.iaload, 1) := by decide +kernel
theorem dX0_lastAbove_15 : decode cX0_lastAbove 15 = .ok (.aload_n 0, 1) := by decide +kernel
theorem dX0_lastAbove_16 : decode cX0_lastAbove 16 = .ok (.getfield 22, 3) := by decide +kernel
theorem dX0_lastAbove_19 : decode cX0_lastAbove 19 = .ok (.iload_n 1, 1) := by decide +kernel
theorem dX0_lastAbove_20 : decode cX0_lastAbove 20 = .ok (.iaload, 1) := by decide +kernel
theorem dX0_lastAbove_21 : decode cX0_lastAbove 21 = .ok (.if_icmp .le 5, 3) := by decide +kernel
theorem dX0_lastAbove_24 : decode cX0_lastAbove 24 = .ok (.iload_n 3, 1) := by decide +kernel
theorem dX0_lastAbove_25 : decode cX0_lastAbove 25 = .ok (.ireturn, 1) := by decide +kernel
theorem dX0_lastAbove_26 : decode cX0_lastAbove 26 = .ok (.iinc 3 (-1), 3) := by decide +kernel
theorem dX0_lastAbove_29 : decode cX0_lastAbove 29 = .ok (.goto (-25), 3) := by decide +kernel
theorem dX0_lastAbove_32 : decode cX0_lastAbove 32 = .ok (.iload_n 1, 1) := by decide +kernel
theorem dX0_lastAbove_33 : decode cX0_lastAbove 33 = .ok (.ireturn, 1) := by decide +kernel
theorem dX0_swaps_0 : decode cX0_swaps 0 = .ok (.aload_n 0, 1) := by decide +kernel
theorem dX0_swaps_1 : decode cX0_swaps 1 = .ok (.getfield 22, 3) := by decide +kernel
theorem dX0_swaps_4 : decode cX0_swaps 4 = .ok (.iload_n 1, 1) := by decide +kernel
theorem dX0_swaps_5 : decode cX0_swaps 5 = .ok (.iaload, 1) := by decide +kernel
theorem dX0_swaps_6 : decode cX0_swaps 6 = .ok (.istore_n 3, 1) := by decide +kernel
theorem dX0_swaps_7 : decode cX0_swaps 7 = .ok (.aload_n 0, 1) := by decide +kernel
theorem dX0_swaps_8 : decode cX0_swaps 8 = .ok (.getfield 22, 3) := by decide +kernel
theorem dX0_swaps_11 : decode cX0_swaps 11 = .ok (.iload_n 1, 1) := by decide +kernel
theorem dX0_swaps_12 : decode cX0_swaps 12 = .ok (.aload_n 0, 1) := by decide +kernel
theorem dX0_swaps_13 : decode cX0_swaps 13 = .ok (.getfield 22, 3) := by decide +kernel
theorem dX0_swaps_16 : decode cX0_swaps 16 = .ok (.iload_n 2, 1) := by decide +kernel
theorem dX0_swaps_17 : decode cX0_swaps 17 = .ok (.iaload, 1) := by decide +kernel
theorem dX0_swaps_18 : decode cX0_swaps 18 = .ok (.iastore, 1) := by decide +kernel
theorem dX0_swaps_19 : decode cX0_swaps 19 = .ok (.aload_n 0, 1) := by decide +kernel
theorem dX0_swaps_20 : decode cX0_swaps 20 = .ok (.getfield 22, 3) := by decide +kernel
theorem dX0_swaps_23 : decode cX0_swaps 23 = .ok (.iload_n 2, 1) := by decide +kernel
theorem dX0_swaps_24 : decode cX0_swaps 24 = .ok (.iload_n 3, 1) := by decide +kernel
theorem dX0_swaps_25 : decode cX0_swaps 25 = .ok (.iastore, 1) := by decide +kernel
theorem dX0_swaps_26 : decode cX0_swaps 26 = .ok (.return_, 1) := by decide +kernel
theorem dX1_init_0 : decode cX1_init 0 = .ok (.aload_n 0, 1) := by decide +kernel
theorem dX1_init_1 : decode cX1_init 1 = .ok (.invokespecial 3, 3) := by decide +kernel
theorem dX1_init_4 : decode cX1_init 4 = .ok (.aload_n 0, 1) := by decide +kernel
theorem dX1_init_5 : decode cX1_init 5 = .ok (.iconst 0, 1) := by decide +kernel
theorem dX1_init_6 : decode cX1_init 6 = .ok (.putfield 9, 3) := by decide +kernel
theorem dX1_init_9 : decode cX1_init 9 = .ok (.aload_n 0, 1) := by decide +kernel
theorem dX1_init_10 : decode cX1_init 10 = .ok (.iconst 0, 1) := by decide +kernel
theorem dX1_init_11 : decode cX1_init 11 = .ok (.putfield 15, 3) := by decide +kernel
theorem dX1_init_14 : decode cX1_init 14 = .ok (.aload_n 0, 1) := by decide +kernel
theorem dX1_init_15 : decode cX1_init 15 = .ok (.iconst 0, 1) := by decide +kernel
theorem dX1_init_16 : decode cX1_init 16 = .ok (.putfield 18, 3) := by decide +kernel
theorem dX1_init_19 : decode cX1_init 19 = .ok (.aload_n 0, 1) := by decide +kernel
theorem dX1_init_20 : decode cX1_init 20 = .ok (.iconst 2, 1) := by decide +kernel
theorem dX1_init_21 : decode cX1_init 21 = .ok (.putfield 21, 3) := by decide +kernel
theorem dX1_init_24 : decode cX1_init 24 = .ok (.aload_n 0, 1) := by decide +kernel
theorem dX1_init_25 : decode cX1_init 25 = .ok (.iconst 4, 1) := by decide +kernel
theorem dX1_init_26 : decode cX1_init 26 = .ok (.newarray .int, 2) := by decide +kernel
theorem dX1_init_28 : decode cX1_init 28 = .ok (.putfield 24, 3) := by decide +kernel
theorem dX1_init_31 : decode cX1_init 31 = .ok (.aload_n 0, 1) := by decide +kernel
theorem dX1_init_32 : decode cX1_init 32 = .ok (.bipush 16, 2) := by decide +kernel
theorem dX1_init_34 : decode cX1_init 34 = .ok (.newarray .int, 2) := by decide +kernel
theorem dX1_init_36 : decode cX1_init 36 = .ok (.putfield 28, 3) := by decide +kernel
theorem dX1_init_39 : decode cX1_init 39 = .ok (.aload_n 0, 1) := by decide +kernel
theorem dX1_init_40 : decode cX1_init 40 = .ok (.bipush 8, 2) := by decide +kernel
theorem dX1_init_42 : decode cX1_init 42 = .ok (.newarray .int, 2) := by decide +kernel
theorem dX1_init_44 : decode cX1_init 44 = .ok (.putfield 31, 3) := by decide +kernel
theorem dX1_init_47 : decode cX1_init 47 = .ok (.return_, 1) := by decide +kernel
theorem dX1_empties_0 : decode cX1_empties 0 = .ok (.aload_n 0, 1) := by decide +kernel
theorem dX1_empties_1 : decode cX1_empties 1 = .ok (.iconst 0, 1) := by decide +kernel
theorem dX1_empties_2 : decode cX1_empties 2 = .ok (.putfield 9, 3) := by decide +kernel
theorem dX1_empties_5 : decode cX1_empties 5 = .ok (.aload_n 0, 1) := by decide +kernel
theorem dX1_empties_6 : decode cX1_empties 6 = .ok (.iconst 0, 1) := by decide +kernel
theorem dX1_empties_7 : decode cX1_empties 7 = .ok (.putfield 15, 3) := by decide +kernel
theorem dX1_empties_10 : decode cX1_empties 10 = .ok (.aload_n 0, 1) := by decide +kernel
theorem dX1_empties_11 : decode cX1_empties 11 = .ok (.iconst 0, 1) := by decide +kernel
theorem dX1_empties_12 : decode cX1_empties 12 = .ok (.putfield 18, 3) := by decide +kernel
theorem dX1_empties_15 : decode cX1_empties 15 = .ok (.aload_n 0, 1) := by decide +kernel
theorem dX1_empties_16 : decode cX1_empties 16 = .ok (.iconst 2, 1) := by decide +kernel
theorem dX1_empties_17 : decode cX1_empties 17 = .ok (.putfield 21, 3) := by decide +kernel
theorem dX1_empties_20 : decode cX1_empties 20 = .ok (.return_, 1) := by decide +kernel
theorem dX1_becomes_0 : decode cX1_becomes 0 = .ok (.aload_n 0, 1) := by decide +kernel
theorem dX1_becomes_1 : decode cX1_becomes 1 = .ok (.aload_n 1, 1) := by decide +kernel
theorem dX1_becomes_2 : decode cX1_becomes 2 = .ok (.getfield 9, 3) := by decide +kernel
theorem dX1_becomes_5 : decode cX1_becomes 5 = .ok (.putfield 9, 3) := by decide +kernel
theorem dX1_becomes_8 : decode cX1_becomes 8 = .ok (.aload_n 0, 1) := by decide +kernel
theorem dX1_becomes_9 : decode cX1_becomes 9 = .ok (.aload_n 1, 1) := by decide +kernel
theorem dX1_becomes_10 : decode cX1_becomes 10 = .ok (.getfield 15, 3) := by decide +kernel
theorem dX1_becomes_13 : decode cX1_becomes 13 = .ok (.putfield 15, 3) := by decide +kernel
theorem dX1_becomes_16 : decode cX1_becomes 16 = .ok (.aload_n 0, 1) := by decide +kernel
theorem dX1_becomes_17 : decode cX1_becomes 17 = .ok (.aload_n 1, 1) := by decide +kernel
theorem dX1_becomes_18 : decode cX1_becomes 18 = .ok (.getfield 18, 3) := by decide +kernel
theorem dX1_becomes_21 : decode cX1_becomes 21 = .ok (.putfield 18, 3) := by decide +kernel
theorem dX1_becomes_24 : decode cX1_becomes 24 = .ok (.aload_n 0, 1) := by decide +kernel
theorem dX1_becomes_25 : decode cX1_becomes 25 = .ok (.aload_n 1, 1) := by decide +kernel
theorem dX1_becomes_26 : decode cX1_becomes 26 = .ok (.getfield 21, 3) := by decide +kernel
theorem dX1_becomes_29 : decode cX1_becomes 29 = .ok (.putfield 21, 3) := by decide +kernel
theorem dX1_becomes_32 : decode cX1_becomes 32 = .ok (.aload_n 1, 1) := by decide +kernel
theorem dX1_becomes_33 : decode cX1_becomes 33 = .ok (.getfield 24, 3) := by decide +kernel
theorem dX1_becomes_36 : decode cX1_becomes 36 = .ok (.iconst 0, 1) := by decide +kernel
theorem dX1_becomes_37 : decode cX1_becomes 37 = .ok (.aload_n 0, 1) := by decide +kernel
theorem dX1_becomes_38 : decode cX1_becomes 38 = .ok (.getfield 24, 3) := by decide +kernel
theorem dX1_becomes_41 : decode cX1_becomes 41 = .ok (.iconst 0, 1) := by decide +kernel
theorem dX1_becomes_42 : decode cX1_becomes 42 = .ok (.iconst 4, 1) := by decide +kernel
theorem dX1_becomes_43 : decode cX1_becomes 43 = .ok (.invokestatic 34, 3) := by decide +kernel
theorem dX1_becomes_46 : decode cX1_becomes 46 = .ok (.aload_n 1, 1) := by decide +kernel
theorem dX1_becomes_47 : decode cX1_becomes 47 = .ok (.getfield 28, 3) := by decide +kernel
theorem dX1_becomes_50 : decode cX1_becomes 50 = .ok (.iconst 0, 1) := by decide +kernel
theorem dX1_becomes_51 : decode cX1_becomes 51 = .ok (.aload_n 0, 1) := by decide +kernel
theorem dX1_becomes_52 : decode cX1_becomes 52 = .ok (.getfield 28, 3) := by decide +kernel
theorem dX1_becomes_55 : decode cX1_becomes 55 = .ok (.iconst 0, 1) := by decide +kernel
theorem dX1_becomes_56 : decode cX1_becomes 56 = .ok (.bipush 16, 2) := by decide +kernel
theorem dX1_becomes_58 : decode cX1_becomes 58 = .ok (.invokestatic 34, 3) := by decide +kernel
theorem dX1_becomes_61 : decode cX1_becomes 61 = .ok (.aload_n 1, 1) := by decide +kernel
theorem dX1_becomes_62 : decode cX1_becomes 62 = .ok (.getfield 31, 3) := by decide +kernel
theorem dX1_becomes_65 : decode cX1_becomes 65 = .ok (.iconst 0, 1) := by decide +kernel
theorem dX1_becomes_66 : decode cX1_becomes 66 = .ok (.aload_n 0, 1) := by decide +kernel
theorem dX1_becomes_67 : decode cX1_becomes 67 = .ok (.getfield 31, 3) := by decide +kernel
theorem dX1_becomes_70 : decode cX1_becomes 70 = .ok (.iconst 0, 1) := by decide +kernel
theorem dX1_becomes_71 : decode cX1_becomes 71 = .ok (.bipush 8, 2) := by decide +kernel
theorem dX1_becomes_73 : decode cX1_becomes 73 = .ok (.invokestatic 34, 3) := by decide +kernel
theorem dX1_becomes_76 : decode cX1_becomes 76 = .ok (.return_, 1) := by decide +kernel
theorem dX1_hasScale_0 : decode cX1_hasScale 0 = .ok (.iload_n 1, 1) := by decide +kernel
theorem dX1_hasScale_1 : decode cX1_hasScale 1 = .ok (.ifCond .lt 15, 3) := by decide +kernel
theorem dX1_hasScale_4 : decode cX1_hasScale 4 = .ok (.iload_n 1, 1) := by decide +kernel
theorem dX1_hasScale_5 : decode cX1_hasScale 5 = .ok (.aload_n 0, 1) := by decide +kernel
theorem dX1_hasScale_6 : decode cX1_hasScale 6 = .ok (.getfield 9, 3) := by decide +kernel
theorem dX1_hasScale_9 : decode cX1_hasScale 9 = .ok (.if_icmp .ge 7, 3) := by decide +kernel
theorem dX1_hasScale_12 : decode cX1_hasScale 12 = .ok (.iconst 1, 1) := by decide +kernel
theorem dX1_hasScale_13 : decode cX1_hasScale 13 = .ok (.goto 4, 3) := by decide +kernel
theorem dX1_hasScale_16 : decode cX1_hasScale 16 = .ok (.iconst 0, 1) := by decide +kernel
theorem dX1_hasScale_17 : decode cX1_hasScale 17 = .ok (.ireturn, 1) := by decide +kernel
theorem dX1_hasLife_0 : decode cX1_hasLife 0 = .ok (.iload_n 1, 1) := by decide +kernel
theorem dX1_hasLife_1 : decode cX1_hasLife 1 = .ok (.ifCond .lt 15, 3) := by decide +kernel
theorem dX1_hasLife_4 : decode cX1_hasLife 4 = .ok (.iload_n 1, 1) := by decide +kernel
theorem dX1_hasLife_5 : decode cX1_hasLife 5 = .ok (.aload_n 0, 1) := by decide +kernel
theorem dX1_hasLife_6 : decode cX1_hasLife 6 = .ok (.getfield 15, 3) := by decide +kernel
theorem dX1_hasLife_9 : decode cX1_hasLife 9 = .ok (.if_icmp .ge 7, 3) := by decide +kernel
theorem dX1_hasLife_12 : decode cX1_hasLife 12 = .ok (.iconst 1, 1) := by decide +kernel
theorem dX1_hasLife_13 : decode cX1_hasLife 13 = .ok (.goto 4, 3) := by decide +kernel
theorem dX1_hasLife_16 : decode cX1_hasLife 16 = .ok (.iconst 0, 1) := by decide +kernel
theorem dX1_hasLife_17 : decode cX1_hasLife 17 = .ok (.ireturn, 1) := by decide +kernel
theorem dX1_hasPlace_0 : decode cX1_hasPlace 0 = .ok (.iload_n 1, 1) := by decide +kernel
theorem dX1_hasPlace_1 : decode cX1_hasPlace 1 = .ok (.ifCond .lt 15, 3) := by decide +kernel
theorem dX1_hasPlace_4 : decode cX1_hasPlace 4 = .ok (.iload_n 1, 1) := by decide +kernel
theorem dX1_hasPlace_5 : decode cX1_hasPlace 5 = .ok (.aload_n 0, 1) := by decide +kernel
theorem dX1_hasPlace_6 : decode cX1_hasPlace 6 = .ok (.getfield 18, 3) := by decide +kernel
theorem dX1_hasPlace_9 : decode cX1_hasPlace 9 = .ok (.if_icmp .ge 7, 3) := by decide +kernel
theorem dX1_hasPlace_12 : decode cX1_hasPlace 12 = .ok (.iconst 1, 1) := by decide +kernel
theorem dX1_hasPlace_13 : decode cX1_hasPlace 13 = .ok (.goto 4, 3) := by decide +kernel
theorem dX1_hasPlace_16 : decode cX1_hasPlace 16 = .ok (.iconst 0, 1) := by decide +kernel
theorem dX1_hasPlace_17 : decode cX1_hasPlace 17 = .ok (.ireturn, 1) := by decide +kernel
theorem dX2_init_0 : decode cX2_init 0 = .ok (.aload_n 0, 1) := by decide +kernel
theorem dX2_init_1 : decode cX2_init 1 = .ok (.invokespecial 3, 3) := by decide +kernel
theorem dX2_init_4 : decode cX2_init 4 = .ok (.aload_n 0, 1) := by decide +kernel
theorem dX2_init_5 : decode cX2_init 5 = .ok (.iconst 0, 1) := by decide +kernel
theorem dX2_init_6 : decode cX2_init 6 = .ok (.putfield 9, 3) := by decide +kernel
theorem dX2_init_9 : decode cX2_init 9 = .ok (.aload_n 0, 1) := by decide +kernel
theorem dX2_init_10 : decode cX2_init 10 = .ok (.iconst 0, 1) := by decide +kernel
theorem dX2_init_11 : decode cX2_init 11 = .ok (.putfield 15, 3) := by decide +kernel
theorem dX2_init_14 : decode cX2_init 14 = .ok (.aload_n 0, 1) := by decide +kernel
theorem dX2_init_15 : decode cX2_init 15 = .ok (.bipush 16, 2) := by decide +kernel
theorem dX2_init_17 : decode cX2_init 17 = .ok (.newarray .int, 2) := by decide +kernel
theorem dX2_init_19 : decode cX2_init 19 = .ok (.putfield 18, 3) := by decide +kernel
theorem dX2_init_22 : decode cX2_init 22 = .ok (.aload_n 0, 1) := by decide +kernel
theorem dX2_init_23 : decode cX2_init 23 = .ok (.iconst 4, 1) := by decide +kernel
theorem dX2_init_24 : decode cX2_init 24 = .ok (.newarray .int, 2) := by decide +kernel
theorem dX2_init_26 : decode cX2_init 26 = .ok (.putfield 22, 3) := by decide +kernel
theorem dX2_init_29 : decode cX2_init 29 = .ok (.aload_n 0, 1) := by decide +kernel
theorem dX2_init_30 : decode cX2_init 30 = .ok (.iconst 4, 1) := by decide +kernel
theorem dX2_init_31 : decode cX2_init 31 = .ok (.newarray .int, 2) := by decide +kernel
theorem dX2_init_33 : decode cX2_init 33 = .ok (.putfield 25, 3) := by decide +kernel
theorem dX2_init_36 : decode cX2_init 36 = .ok (.return_, 1) := by decide +kernel
theorem dX2_becomes_0 : decode cX2_becomes 0 = .ok (.aload_n 0, 1) := by decide +kernel
theorem dX2_becomes_1 : decode cX2_becomes 1 = .ok (.aload_n 1, 1) := by decide +kernel
theorem dX2_becomes_2 : decode cX2_becomes 2 = .ok (.getfield 9, 3) := by decide +kernel
theorem dX2_becomes_5 : decode cX2_becomes 5 = .ok (.putfield 9, 3) := by decide +kernel
theorem dX2_becomes_8 : decode cX2_becomes 8 = .ok (.aload_n 0, 1) := by decide +kernel
theorem dX2_becomes_9 : decode cX2_becomes 9 = .ok (.aload_n 1, 1) := by decide +kernel
theorem dX2_becomes_10 : decode cX2_becomes 10 = .ok (.getfield 15, 3) := by decide +kernel
theorem dX2_becomes_13 : decode cX2_becomes 13 = .ok (.putfield 15, 3) := by decide +kernel
theorem dX2_becomes_16 : decode cX2_becomes 16 = .ok (.aload_n 1, 1) := by decide +kernel
theorem dX2_becomes_17 : decode cX2_becomes 17 = .ok (.getfield 18, 3) := by decide +kernel
theorem dX2_becomes_20 : decode cX2_becomes 20 = .ok (.iconst 0, 1) := by decide +kernel
theorem dX2_becomes_21 : decode cX2_becomes 21 = .ok (.aload_n 0, 1) := by decide +kernel
theorem dX2_becomes_22 : decode cX2_becomes 22 = .ok (.getfield 18, 3) := by decide +kernel
theorem dX2_becomes_25 : decode cX2_becomes 25 = .ok (.iconst 0, 1) := by decide +kernel
theorem dX2_becomes_26 : decode cX2_becomes 26 = .ok (.bipush 16, 2) := by decide +kernel
theorem dX2_becomes_28 : decode cX2_becomes 28 = .ok (.invokestatic 28, 3) := by decide +kernel
theorem dX2_becomes_31 : decode cX2_becomes 31 = .ok (.aload_n 1, 1) := by decide +kernel
theorem dX2_becomes_32 : decode cX2_becomes 32 = .ok (.getfield 22, 3) := by decide +kernel
theorem dX2_becomes_35 : decode cX2_becomes 35 = .ok (.iconst 0, 1) := by decide +kernel
theorem dX2_becomes_36 : decode cX2_becomes 36 = .ok (.aload_n 0, 1) := by decide +kernel
theorem dX2_becomes_37 : decode cX2_becomes 37 = .ok (.getfield 22, 3) := by decide +kernel
theorem dX2_becomes_40 : decode cX2_becomes 40 = .ok (.iconst 0, 1) := by decide +kernel
theorem dX2_becomes_41 : decode cX2_becomes 41 = .ok (.iconst 4, 1) := by decide +kernel
theorem dX2_becomes_42 : decode cX2_becomes 42 = .ok (.invokestatic 28, 3) := by decide +kernel
theorem dX2_becomes_45 : decode cX2_becomes 45 = .ok (.aload_n 1, 1) := by decide +kernel
theorem dX2_becomes_46 : decode cX2_becomes 46 = .ok (.getfield 25, 3) := by decide +kernel
theorem dX2_becomes_49 : decode cX2_becomes 49 = .ok (.iconst 0, 1) := by decide +kernel
theorem dX2_becomes_50 : decode cX2_becomes 50 = .ok (.aload_n 0, 1) := by decide +kernel
theorem dX2_becomes_51 : decode cX2_becomes 51 = .ok (.getfield 25, 3) := by decide +kernel
theorem dX2_becomes_54 : decode cX2_becomes 54 = .ok (.iconst 0, 1) := by decide +kernel
theorem dX2_becomes_55 : decode cX2_becomes 55 = .ok (.iconst 4, 1) := by decide +kernel
theorem dX2_becomes_56 : decode cX2_becomes 56 = .ok (.invokestatic 28, 3) := by decide +kernel
theorem dX2_becomes_59 : decode cX2_becomes 59 = .ok (.return_, 1) := by decide +kernel
theorem dX3_init_0 : decode cX3_init 0 = .ok (.aload_n 0, 1) := by decide +kernel
theorem dX3_init_1 : decode cX3_init 1 = .ok (.invokespecial 3, 3) := by decide +kernel
theorem dX3_init_4 : decode cX3_init 4 = .ok (.aload_n 0, 1) := by decide +kernel
theorem dX3_init_5 : decode cX3_init 5 = .ok (.iconst 0, 1) := by decide +kernel
theorem dX3_init_6 : decode cX3_init 6 = .ok (.putfield 9, 3) := by decide +kernel
theorem dX3_init_9 : decode cX3_init 9 = .ok (.aload_n 0, 1) := by decide +kernel
theorem dX3_init_10 : decode cX3_init 10 = .ok (.iconst 0, 1) := by decide +kernel
theorem dX3_init_11 : decode cX3_init 11 = .ok (.putfield 15, 3) := by decide +kernel
theorem dX3_init_14 : decode cX3_init 14 = .ok (.aload_n 0, 1) := by decide +kernel
theorem dX3_init_15 : decode cX3_init 15 = .ok (.bipush 10, 2) := by decide +kernel
theorem dX3_init_17 : decode cX3_init 17 = .ok (.anewarray 18, 3) := by decide +kernel
theorem dX3_init_20 : decode cX3_init 20 = .ok (.putfield 20, 3) := by decide +kernel
theorem dX3_init_23 : decode cX3_init 23 = .ok (.iconst 0, 1) := by decide +kernel
theorem dX3_init_24 : decode cX3_init 24 = .ok (.istore_n 1, 1) := by decide +kernel
theorem dX3_init_25 : decode cX3_init 25 = .ok (.iload_n 1, 1) := by decide +kernel
theorem dX3_init_26 : decode cX3_init 26 = .ok (.bipush 10, 2) := by decide +kernel
theorem dX3_init_28 : decode cX3_init 28 = .ok (.if_icmp .ge 22, 3) := by decide +kernel
theorem dX3_init_31 : decode cX3_init 31 = .ok (.aload_n 0, 1) := by decide +kernel
theorem dX3_init_32 : decode cX3_init 32 = .ok (.getfield 20, 3) := by decide +kernel
theorem dX3_init_35 : decode cX3_init 35 = .ok (.iload_n 1, 1) := by decide +kernel
theorem dX3_init_36 : decode cX3_init 36 = .ok (.new 18, 3) := by decide +kernel
theorem dX3_init_39 : decode cX3_init 39 = .ok (.dup, 1) := by decide +kernel
theorem dX3_init_40 : decode cX3_init 40 = .ok (.invokespecial 24, 3) := by decide +kernel
theorem dX3_init_43 : decode cX3_init 43 = .ok (.aastore, 1) := by decide +kernel
theorem dX3_init_44 : decode cX3_init 44 = .ok (.iinc 1 1, 3) := by decide +kernel
theorem dX3_init_47 : decode cX3_init 47 = .ok (.goto (-22), 3) := by decide +kernel
theorem dX3_init_50 : decode cX3_init 50 = .ok (.return_, 1) := by decide +kernel
theorem dX3_remembers_0 : decode cX3_remembers 0 = .ok (.aload_n 0, 1) := by decide +kernel
theorem dX3_remembers_1 : decode cX3_remembers 1 = .ok (.getfield 20, 3) := by decide +kernel
theorem dX3_remembers_4 : decode cX3_remembers 4 = .ok (.aload_n 0, 1) := by decide +kernel
theorem dX3_remembers_5 : decode cX3_remembers 5 = .ok (.getfield 15, 3) := by decide +kernel
theorem dX3_remembers_8 : decode cX3_remembers 8 = .ok (.aaload, 1) := by decide +kernel
theorem dX3_remembers_9 : decode cX3_remembers 9 = .ok (.aload_n 1, 1) := by decide +kernel
theorem dX3_remembers_10 : decode cX3_remembers 10 = .ok (.invokevirtual 25, 3) := by decide +kernel
theorem dX3_remembers_13 : decode cX3_remembers 13 = .ok (.aload_n 0, 1) := by decide +kernel
theorem dX3_remembers_14 : decode cX3_remembers 14 = .ok (.aload_n 0, 1) := by decide +kernel
theorem dX3_remembers_15 : decode cX3_remembers 15 = .ok (.getfield 15, 3) := by decide +kernel
theorem dX3_remembers_18 : decode cX3_remembers 18 = .ok (.iconst 1, 1) := by decide +kernel
theorem dX3_remembers_19 : decode cX3_remembers 19 = .ok (.iadd, 1) := by decide +kernel
theorem dX3_remembers_20 : decode cX3_remembers 20 = .ok (.bipush 10, 2) := by decide +kernel
theorem dX3_remembers_22 : decode cX3_remembers 22 = .ok (.irem, 1) := by decide +kernel
theorem dX3_remembers_23 : decode cX3_remembers 23 = .ok (.putfield 15, 3) := by decide +kernel
theorem dX3_remembers_26 : decode cX3_remembers 26 = .ok (.aload_n 0, 1) := by decide +kernel
theorem dX3_remembers_27 : decode cX3_remembers 27 = .ok (.bipush 10, 2) := by decide +kernel
theorem dX3_remembers_29 : decode cX3_remembers 29 = .ok (.aload_n 0, 1) := by decide +kernel
theorem dX3_remembers_30 : decode cX3_remembers 30 = .ok (.getfield 9, 3) := by decide +kernel
theorem dX3_remembers_33 : decode cX3_remembers 33 = .ok (.iconst 1, 1) := by decide +kernel
theorem dX3_remembers_34 : decode cX3_remembers 34 = .ok (.iadd, 1) := by decide +kernel
theorem dX3_remembers_35 : decode cX3_remembers 35 = .ok (.invokestatic 29, 3) := by decide +kernel
theorem dX3_remembers_38 : decode cX3_remembers 38 = .ok (.putfield 9, 3) := by decide +kernel
theorem dX3_remembers_41 : decode cX3_remembers 41 = .ok (.return_, 1) := by decide +kernel
theorem dX3_givesBack_0 : decode cX3_givesBack 0 = .ok (.aload_n 0, 1) := by decide +kernel
theorem dX3_givesBack_1 : decode cX3_givesBack 1 = .ok (.aload_n 0, 1) := by decide +kernel
theorem dX3_givesBack_2 : decode cX3_givesBack 2 = .ok (.getfield 15, 3) := by decide +kernel
theorem dX3_givesBack_5 : decode cX3_givesBack 5 = .ok (.bipush 10, 2) := by decide +kernel
theorem dX3_givesBack_7 : decode cX3_givesBack 7 = .ok (.iadd, 1) := by decide +kernel
theorem dX3_givesBack_8 : decode cX3_givesBack 8 = .ok (.iconst 1, 1) := by decide +kernel
theorem dX3_givesBack_9 : decode cX3_givesBack 9 = .ok (.isub, 1) := by decide +kernel
theorem dX3_givesBack_10 : decode cX3_givesBack 10 = .ok (.bipush 10, 2) := by decide +kernel
theorem dX3_givesBack_12 : decode cX3_givesBack 12 = .ok (.irem, 1) := by decide +kernel
theorem dX3_givesBack_13 : decode cX3_givesBack 13 = .ok (.putfield 15, 3) := by decide +kernel
theorem dX3_givesBack_16 : decode cX3_givesBack 16 = .ok (.aload_n 0, 1) := by decide +kernel
theorem dX3_givesBack_17 : decode cX3_givesBack 17 = .ok (.dup, 1) := by decide +kernel
theorem dX3_givesBack_18 : decode cX3_givesBack 18 = .ok (.getfield 9, 3) := by decide +kernel
theorem dX3_givesBack_21 : decode cX3_givesBack 21 = .ok (.iconst 1, 1) := by decide +kernel
theorem dX3_givesBack_22 : decode cX3_givesBack 22 = .ok (.isub, 1) := by decide +kernel
theorem dX3_givesBack_23 : decode cX3_givesBack 23 = .ok (.putfield 9, 3) := by decide +kernel
theorem dX3_givesBack_26 : decode cX3_givesBack 26 = .ok (.aload_n 1, 1) := by decide +kernel
theorem dX3_givesBack_27 : decode cX3_givesBack 27 = .ok (.aload_n 0, 1) := by decide +kernel
theorem dX3_givesBack_28 : decode cX3_givesBack 28 = .ok (.getfield 20, 3) := by decide +kernel
theorem dX3_givesBack_31 : decode cX3_givesBack 31 = .ok (.aload_n 0, 1) := by decide +kernel
theorem dX3_givesBack_32 : decode cX3_givesBack 32 = .ok (.getfield 15, 3) := by decide +kernel
theorem dX3_givesBack_35 : decode cX3_givesBack 35 = .ok (.aaload, 1) := by decide +kernel
theorem dX3_givesBack_36 : decode cX3_givesBack 36 = .ok (.invokevirtual 25, 3) := by decide +kernel
theorem dX3_givesBack_39 : decode cX3_givesBack 39 = .ok (.return_, 1) := by decide +kernel
theorem dX4_init_0 : decode cX4_init 0 = .ok (.aload_n 0, 1) := by decide +kernel
theorem dX4_init_1 : decode cX4_init 1 = .ok (.invokespecial 3, 3) := by decide +kernel
theorem dX4_init_4 : decode cX4_init 4 = .ok (.aload_n 0, 1) := by decide +kernel
theorem dX4_init_5 : decode cX4_init 5 = .ok (.iconst 0, 1) := by decide +kernel
theorem dX4_init_6 : decode cX4_init 6 = .ok (.putfield 9, 3) := by decide +kernel
theorem dX4_init_9 : decode cX4_init 9 = .ok (.aload_n 0, 1) := by decide +kernel
theorem dX4_init_10 : decode cX4_init 10 = .ok (.bipush 6, 2) := by decide +kernel
theorem dX4_init_12 : decode cX4_init 12 = .ok (.newarray .int, 2) := by decide +kernel
theorem dX4_init_14 : decode cX4_init 14 = .ok (.putfield 15, 3) := by decide +kernel
theorem dX4_init_17 : decode cX4_init 17 = .ok (.aload_n 0, 1) := by decide +kernel
theorem dX4_init_18 : decode cX4_init 18 = .ok (.bipush 6, 2) := by decide +kernel
theorem dX4_init_20 : decode cX4_init 20 = .ok (.newarray .int, 2) := by decide +kernel
theorem dX4_init_22 : decode cX4_init 22 = .ok (.putfield 19, 3) := by decide +kernel
theorem dX4_init_25 : decode cX4_init 25 = .ok (.aload_n 0, 1) := by decide +kernel
theorem dX4_init_26 : decode cX4_init 26 = .ok (.bipush 6, 2) := by decide +kernel
theorem dX4_init_28 : decode cX4_init 28 = .ok (.newarray .int, 2) := by decide +kernel
theorem dX4_init_30 : decode cX4_init 30 = .ok (.putfield 22, 3) := by decide +kernel
theorem dX4_init_33 : decode cX4_init 33 = .ok (.return_, 1) := by decide +kernel
theorem dX4_adds_0 : decode cX4_adds 0 = .ok (.aload_n 0, 1) := by decide +kernel
theorem dX4_adds_1 : decode cX4_adds 1 = .ok (.getfield 15, 3) := by decide +kernel
theorem dX4_adds_4 : decode cX4_adds 4 = .ok (.aload_n 0, 1) := by decide +kernel
theorem dX4_adds_5 : decode cX4_adds 5 = .ok (.getfield 9, 3) := by decide +kernel
theorem dX4_adds_8 : decode cX4_adds 8 = .ok (.iload_n 1, 1) := by decide +kernel
theorem dX4_adds_9 : decode cX4_adds 9 = .ok (.iastore, 1) := by decide +kernel
theorem dX4_adds_10 : decode cX4_adds 10 = .ok (.aload_n 0, 1) := by decide +kernel
theorem dX4_adds_11 : decode cX4_adds 11 = .ok (.getfield 19, 3) := by decide +kernel
theorem dX4_adds_14 : decode cX4_adds 14 = .ok (.aload_n 0, 1) := by decide +kernel
theorem dX4_adds_15 : decode cX4_adds 15 = .ok (.getfield 9, 3) := by decide +kernel
theorem dX4_adds_18 : decode cX4_adds 18 = .ok (.iload_n 2, 1) := by decide +kernel
theorem dX4_adds_19 : decode cX4_adds 19 = .ok (.iastore, 1) := by decide +kernel
theorem dX4_adds_20 : decode cX4_adds 20 = .ok (.aload_n 0, 1) := by decide +kernel
theorem dX4_adds_21 : decode cX4_adds 21 = .ok (.getfield 22, 3) := by decide +kernel
theorem dX4_adds_24 : decode cX4_adds 24 = .ok (.aload_n 0, 1) := by decide +kernel
theorem dX4_adds_25 : decode cX4_adds 25 = .ok (.getfield 9, 3) := by decide +kernel
theorem dX4_adds_28 : decode cX4_adds 28 = .ok (.iload_n 3, 1) := by decide +kernel
theorem dX4_adds_29 : decode cX4_adds 29 = .ok (.iastore, 1) := by decide +kernel
theorem dX4_adds_30 : decode cX4_adds 30 = .ok (.aload_n 0, 1) := by decide +kernel
theorem dX4_adds_31 : decode cX4_adds 31 = .ok (.dup, 1) := by decide +kernel
theorem dX4_adds_32 : decode cX4_adds 32 = .ok (.getfield 9, 3) := by decide +kernel
theorem dX4_adds_35 : decode cX4_adds 35 = .ok (.iconst 1, 1) := by decide +kernel
theorem dX4_adds_36 : decode cX4_adds 36 = .ok (.iadd, 1) := by decide +kernel
theorem dX4_adds_37 : decode cX4_adds 37 = .ok (.putfield 9, 3) := by decide +kernel
theorem dX4_adds_40 : decode cX4_adds 40 = .ok (.return_, 1) := by decide +kernel
theorem dX5_init_0 : decode cX5_init 0 = .ok (.aload_n 0, 1) := by decide +kernel
theorem dX5_init_1 : decode cX5_init 1 = .ok (.invokespecial 3, 3) := by decide +kernel
theorem dX5_init_4 : decode cX5_init 4 = .ok (.aload_n 0, 1) := by decide +kernel
theorem dX5_init_5 : decode cX5_init 5 = .ok (.iconst 0, 1) := by decide +kernel
theorem dX5_init_6 : decode cX5_init 6 = .ok (.putfield 9, 3) := by decide +kernel
theorem dX5_init_9 : decode cX5_init 9 = .ok (.aload_n 0, 1) := by decide +kernel
theorem dX5_init_10 : decode cX5_init 10 = .ok (.new 15, 3) := by decide +kernel
theorem dX5_init_13 : decode cX5_init 13 = .ok (.dup, 1) := by decide +kernel
theorem dX5_init_14 : decode cX5_init 14 = .ok (.invokespecial 17, 3) := by decide +kernel
theorem dX5_init_17 : decode cX5_init 17 = .ok (.putfield 18, 3) := by decide +kernel
theorem dX5_init_20 : decode cX5_init 20 = .ok (.aload_n 0, 1) := by decide +kernel
theorem dX5_init_21 : decode cX5_init 21 = .ok (.new 22, 3) := by decide +kernel
theorem dX5_init_24 : decode cX5_init 24 = .ok (.dup, 1) := by decide +kernel
theorem dX5_init_25 : decode cX5_init 25 = .ok (.invokespecial 24, 3) := by decide +kernel
theorem dX5_init_28 : decode cX5_init 28 = .ok (.putfield 25, 3) := by decide +kernel
theorem dX5_init_31 : decode cX5_init 31 = .ok (.aload_n 0, 1) := by decide +kernel
theorem dX5_init_32 : decode cX5_init 32 = .ok (.sipush 200, 3) := by decide +kernel
theorem dX5_init_35 : decode cX5_init 35 = .ok (.newarray .int, 2) := by decide +kernel
theorem dX5_init_37 : decode cX5_init 37 = .ok (.putfield 29, 3) := by decide +kernel
theorem dX5_init_40 : decode cX5_init 40 = .ok (.aload_n 0, 1) := by decide +kernel
theorem dX5_init_41 : decode cX5_init 41 = .ok (.sipush 201, 3) := by decide +kernel
theorem dX5_init_44 : decode cX5_init 44 = .ok (.newarray .int, 2) := by decide +kernel
theorem dX5_init_46 : decode cX5_init 46 = .ok (.putfield 33, 3) := by decide +kernel
theorem dX5_init_49 : decode cX5_init 49 = .ok (.aload_n 0, 1) := by decide +kernel
theorem dX5_init_50 : decode cX5_init 50 = .ok (.sipush 201, 3) := by decide +kernel
theorem dX5_init_53 : decode cX5_init 53 = .ok (.newarray .int, 2) := by decide +kernel
theorem dX5_init_55 : decode cX5_init 55 = .ok (.putfield 36, 3) := by decide +kernel
theorem dX5_init_58 : decode cX5_init 58 = .ok (.aload_n 0, 1) := by decide +kernel
theorem dX5_init_59 : decode cX5_init 59 = .ok (.iconst 0, 1) := by decide +kernel
theorem dX5_init_60 : decode cX5_init 60 = .ok (.putfield 39, 3) := by decide +kernel
theorem dX5_init_63 : decode cX5_init 63 = .ok (.aload_n 0, 1) := by decide +kernel
theorem dX5_init_64 : decode cX5_init 64 = .ok (.iconst 0, 1) := by decide +kernel
theorem dX5_init_65 : decode cX5_init 65 = .ok (.putfield 42, 3) := by decide +kernel
theorem dX5_init_68 : decode cX5_init 68 = .ok (.aload_n 0, 1) := by decide +kernel
theorem dX5_init_69 : decode cX5_init 69 = .ok (.iconst (-1), 1) := by decide +kernel
theorem dX5_init_70 : decode cX5_init 70 = .ok (.putfield 45, 3) := by decide +kernel
theorem dX5_init_73 : decode cX5_init 73 = .ok (.aload_n 0, 1) := by decide +kernel
theorem dX5_init_74 : decode cX5_init 74 = .ok (.iconst 0, 1) := by decide +kernel
theorem dX5_init_75 : decode cX5_init 75 = .ok (.putfield 48, 3) := by decide +kernel
theorem dX5_init_78 : decode cX5_init 78 = .ok (.return_, 1) := by decide +kernel
theorem dX5_adds_0 : decode cX5_adds 0 = .ok (.aload_n 0, 1) := by decide +kernel
theorem dX5_adds_1 : decode cX5_adds 1 = .ok (.getfield 29, 3) := by decide +kernel
theorem dX5_adds_4 : decode cX5_adds 4 = .ok (.aload_n 0, 1) := by decide +kernel
theorem dX5_adds_5 : decode cX5_adds 5 = .ok (.getfield 9, 3) := by decide +kernel
theorem dX5_adds_8 : decode cX5_adds 8 = .ok (.iload_n 1, 1) := by decide +kernel
theorem dX5_adds_9 : decode cX5_adds 9 = .ok (.iastore, 1) := by decide +kernel
theorem dX5_adds_10 : decode cX5_adds 10 = .ok (.aload_n 0, 1) := by decide +kernel
theorem dX5_adds_11 : decode cX5_adds 11 = .ok (.dup, 1) := by decide +kernel
theorem dX5_adds_12 : decode cX5_adds 12 = .ok (.getfield 9, 3) := by decide +kernel
theorem dX5_adds_15 : decode cX5_adds 15 = .ok (.iconst 1, 1) := by decide +kernel
theorem dX5_adds_16 : decode cX5_adds 16 = .ok (.iadd, 1) := by decide +kernel
theorem dX5_adds_17 : decode cX5_adds 17 = .ok (.putfield 9, 3) := by decide +kernel
theorem dX5_adds_20 : decode cX5_adds 20 = .ok (.return_, 1) := by decide +kernel
theorem dX5_reads_0 : decode cX5_reads 0 = .ok (.aload_n 0, 1) := by decide +kernel
theorem dX5_reads_1 : decode cX5_reads 1 = .ok (.invokevirtual 52, 3) := by decide +kernel
theorem dX5_reads_4 : decode cX5_reads 4 = .ok (.aload_n 0, 1) := by decide +kernel
theorem dX5_reads_5 : decode cX5_reads 5 = .ok (.getfield 18, 3) := by decide +kernel
theorem dX5_reads_8 : decode cX5_reads 8 = .ok (.invokevirtual 55, 3) := by decide +kernel
theorem dX5_reads_11 : decode cX5_reads 11 = .ok (.aload_n 0, 1) := by decide +kernel
theorem dX5_reads_12 : decode cX5_reads 12 = .ok (.iconst 0, 1) := by decide +kernel
theorem dX5_reads_13 : decode cX5_reads 13 = .ok (.putfield 39, 3) := by decide +kernel
theorem dX5_reads_16 : decode cX5_reads 16 = .ok (.aload_n 0, 1) := by decide +kernel
theorem dX5_reads_17 : decode cX5_reads 17 = .ok (.iconst 0, 1) := by decide +kernel
theorem dX5_reads_18 : decode cX5_reads 18 = .ok (.putfield 42, 3) := by decide +kernel
theorem dX5_reads_21 : decode cX5_reads 21 = .ok (.aload_n 0, 1) := by decide +kernel
theorem dX5_reads_22 : decode cX5_reads 22 = .ok (.iconst (-1), 1) := by decide +kernel
theorem dX5_reads_23 : decode cX5_reads 23 = .ok (.putfield 45, 3) := by decide +kernel
theorem dX5_reads_26 : decode cX5_reads 26 = .ok (.aload_n 0, 1) := by decide +kernel
theorem dX5_reads_27 : decode cX5_reads 27 = .ok (.iconst 0, 1) := by decide +kernel
theorem dX5_reads_28 : decode cX5_reads 28 = .ok (.putfield 48, 3) := by decide +kernel
theorem dX5_reads_31 : decode cX5_reads 31 = .ok (.iconst 0, 1) := by decide +kernel
theorem dX5_reads_32 : decode cX5_reads 32 = .ok (.istore_n 1, 1) := by decide +kernel
theorem dX5_reads_33 : decode cX5_reads 33 = .ok (.iload_n 1, 1) := by decide +kernel
theorem dX5_reads_34 : decode cX5_reads 34 = .ok (.sipush 200, 3) := by decide +kernel
theorem dX5_reads_37 : decode cX5_reads 37 = .ok (.if_icmp .ge 35, 3) := by decide +kernel
theorem dX5_reads_40 : decode cX5_reads 40 = .ok (.aload_n 0, 1) := by decide +kernel
theorem dX5_reads_41 : decode cX5_reads 41 = .ok (.getfield 33, 3) := by decide +kernel
theorem dX5_reads_44 : decode cX5_reads 44 = .ok (.aload_n 0, 1) := by decide +kernel
theorem dX5_reads_45 : decode cX5_reads 45 = .ok (.getfield 39, 3) := by decide +kernel
theorem dX5_reads_48 : decode cX5_reads 48 = .ok (.iaload, 1) := by decide +kernel
theorem dX5_reads_49 : decode cX5_reads 49 = .ok (.bipush (-2), 2) := by decide +kernel
theorem dX5_reads_51 : decode cX5_reads 51 = .ok (.if_icmp .eq 21, 3) := by decide +kernel
theorem dX5_reads_54 : decode cX5_reads 54 = .ok (.aload_n 0, 1) := by decide +kernel
theorem dX5_reads_55 : decode cX5_reads 55 = .ok (.getfield 45, 3) := by decide +kernel
theorem dX5_reads_58 : decode cX5_reads 58 = .ok (.iconst (-1), 1) := by decide +kernel
theorem dX5_reads_59 : decode cX5_reads 59 = .ok (.if_icmp .ne 13, 3) := by decide +kernel
theorem dX5_reads_62 : decode cX5_reads 62 = .ok (.aload_n 0, 1) := by decide +kernel
theorem dX5_reads_63 : decode cX5_reads 63 = .ok (.invokevirtual 58, 3) := by decide +kernel
theorem dX5_reads_66 : decode cX5_reads 66 = .ok (.iinc 1 1, 3) := by decide +kernel
theorem dX5_reads_69 : decode cX5_reads 69 = .ok (.goto (-36), 3) := by decide +kernel
theorem dX5_reads_72 : decode cX5_reads 72 = .ok (.aload_n 0, 1) := by decide +kernel
theorem dX5_reads_73 : decode cX5_reads 73 = .ok (.getfield 45, 3) := by decide +kernel
theorem dX5_reads_76 : decode cX5_reads 76 = .ok (.iconst (-1), 1) := by decide +kernel
theorem dX5_reads_77 : decode cX5_reads 77 = .ok (.if_icmp .ne 10, 3) := by decide +kernel
theorem dX5_reads_80 : decode cX5_reads 80 = .ok (.aload_n 0, 1) := by decide +kernel
theorem dX5_reads_81 : decode cX5_reads 81 = .ok (.getfield 42, 3) := by decide +kernel
theorem dX5_reads_84 : decode cX5_reads 84 = .ok (.goto 10, 3) := by decide +kernel
theorem dX5_reads_87 : decode cX5_reads 87 = .ok (.bipush (-10), 2) := by decide +kernel
theorem dX5_reads_89 : decode cX5_reads 89 = .ok (.aload_n 0, 1) := by decide +kernel
theorem dX5_reads_90 : decode cX5_reads 90 = .ok (.getfield 45, 3) := by decide +kernel
theorem dX5_reads_93 : decode cX5_reads 93 = .ok (.isub, 1) := by decide +kernel
theorem dX5_reads_94 : decode cX5_reads 94 = .ok (.ireturn, 1) := by decide +kernel
theorem dX5_splitsIntoTokens_0 : decode cX5_splitsIntoTokens 0 = .ok (.iconst 0, 1) := by decide +kernel
theorem dX5_splitsIntoTokens_1 : decode cX5_splitsIntoTokens 1 = .ok (.istore_n 1, 1) := by decide +kernel
theorem dX5_splitsIntoTokens_2 : decode cX5_splitsIntoTokens 2 = .ok (.iconst 0, 1) := by decide +kernel
theorem dX5_splitsIntoTokens_3 : decode cX5_splitsIntoTokens 3 = .ok (.istore_n 2, 1) := by decide +kernel
theorem dX5_splitsIntoTokens_4 : decode cX5_splitsIntoTokens 4 = .ok (.iload_n 2, 1) := by decide +kernel
theorem dX5_splitsIntoTokens_5 : decode cX5_splitsIntoTokens 5 = .ok (.aload_n 0, 1) := by decide +kernel
theorem dX5_splitsIntoTokens_6 : decode cX5_splitsIntoTokens 6 = .ok (.getfield 9, 3) := by decide +kernel
theorem dX5_splitsIntoTokens_9 : decode cX5_splitsIntoTokens 9 = .ok (.if_icmp .ge 38, 3) := by decide +kernel
theorem dX5_splitsIntoTokens_12 : decode cX5_splitsIntoTokens 12 = .ok (.aload_n 0, 1) := by decide +kernel
theorem dX5_splitsIntoTokens_13 : decode cX5_splitsIntoTokens 13 = .ok (.iload_n 2, 1) := by decide +kernel
theorem dX5_splitsIntoTokens_14 : decode cX5_splitsIntoTokens 14 = .ok (.invokevirtual 61, 3) := by decide +kernel
theorem dX5_splitsIntoTokens_17 : decode cX5_splitsIntoTokens 17 = .ok (.ifCond .eq 24, 3) := by decide +kernel
theorem dX5_splitsIntoTokens_20 : decode cX5_splitsIntoTokens 20 = .ok (.aload_n 0, 1) := by decide +kernel
theorem dX5_splitsIntoTokens_21 : decode cX5_splitsIntoTokens 21 = .ok (.getfield 33, 3) := by decide +kernel
theorem dX5_splitsIntoTokens_24 : decode cX5_splitsIntoTokens 24 = .ok (.iload_n 1, 1) := by decide +kernel
theorem dX5_splitsIntoTokens_25 : decode cX5_splitsIntoTokens 25 = .ok (.aload_n 0, 1) := by decide +kernel
theorem dX5_splitsIntoTokens_26 : decode cX5_splitsIntoTokens 26 = .ok (.iload_n 2, 1) := by decide +kernel
theorem dX5_splitsIntoTokens_27 : decode cX5_splitsIntoTokens 27 = .ok (.invokevirtual 65, 3) := by decide +kernel
theorem dX5_splitsIntoTokens_30 : decode cX5_splitsIntoTokens 30 = .ok (.iastore, 1) := by decide +kernel
theorem dX5_splitsIntoTokens_31 : decode cX5_splitsIntoTokens 31 = .ok (.aload_n 0, 1) := by decide +kernel
theorem dX5_splitsIntoTokens_32 : decode cX5_splitsIntoTokens 32 = .ok (.getfield 36, 3) := by decide +kernel
theorem dX5_splitsIntoTokens_35 : decode cX5_splitsIntoTokens 35 = .ok (.iload_n 1, 1) := by decide +kernel
theorem dX5_splitsIntoTokens_36 : decode cX5_splitsIntoTokens 36 = .ok (.iload_n 2, 1) := by decide +kernel
theorem dX5_splitsIntoTokens_37 : decode cX5_splitsIntoTokens 37 = .ok (.iastore, 1) := by decide +kernel
theorem dX5_splitsIntoTokens_38 : decode cX5_splitsIntoTokens 38 = .ok (.iinc 1 1, 3) := by decide +kernel
theorem dX5_splitsIntoTokens_41 : decode cX5_splitsIntoTokens 41 = .ok (.iinc 2 1, 3) := by decide +kernel
theorem dX5_splitsIntoTokens_44 : decode cX5_splitsIntoTokens 44 = .ok (.goto (-40), 3) := by decide +kernel
theorem dX5_splitsIntoTokens_47 : decode cX5_splitsIntoTokens 47 = .ok (.aload_n 0, 1) := by decide +kernel
theorem dX5_splitsIntoTokens_48 : decode cX5_splitsIntoTokens 48 = .ok (.getfield 33, 3) := by decide +kernel
theorem dX5_splitsIntoTokens_51 : decode cX5_splitsIntoTokens 51 = .ok (.iload_n 1, 1) := by decide +kernel
theorem dX5_splitsIntoTokens_52 : decode cX5_splitsIntoTokens 52 = .ok (.bipush (-2), 2) := by decide +kernel
theorem dX5_splitsIntoTokens_54 : decode cX5_splitsIntoTokens 54 = .ok (.iastore, 1) := by decide +kernel
theorem dX5_splitsIntoTokens_55 : decode cX5_splitsIntoTokens 55 = .ok (.aload_n 0, 1) := by decide +kernel
theorem dX5_splitsIntoTokens_56 : decode cX5_splitsIntoTokens 56 = .ok (.getfield 36, 3) := by decide +kernel
theorem dX5_splitsIntoTokens_59 : decode cX5_splitsIntoTokens 59 = .ok (.iload_n 1, 1) := by decide +kernel
theorem dX5_splitsIntoTokens_60 : decode cX5_splitsIntoTokens 60 = .ok (.aload_n 0, 1) := by decide +kernel
theorem dX5_splitsIntoTokens_61 : decode cX5_splitsIntoTokens 61 = .ok (.getfield 9, 3) := by decide +kernel
theorem dX5_splitsIntoTokens_64 : decode cX5_splitsIntoTokens 64 = .ok (.iastore, 1) := by decide +kernel
theorem dX5_splitsIntoTokens_65 : decode cX5_splitsIntoTokens 65 = .ok (.return_, 1) := by decide +kernel
theorem dX5_startsToken_0 : decode cX5_startsToken 0 = .ok (.aload_n 0, 1) := by decide +kernel
theorem dX5_startsToken_1 : decode cX5_startsToken 1 = .ok (.iload_n 1, 1) := by decide +kernel
theorem dX5_startsToken_2 : decode cX5_startsToken 2 = .ok (.invokevirtual 69, 3) := by decide +kernel
theorem dX5_startsToken_5 : decode cX5_startsToken 5 = .ok (.ifCond .eq 17, 3) := by decide +kernel
theorem dX5_startsToken_8 : decode cX5_startsToken 8 = .ok (.aload_n 0, 1) := by decide +kernel
theorem dX5_startsToken_9 : decode cX5_startsToken 9 = .ok (.iload_n 1, 1) := by decide +kernel
theorem dX5_startsToken_10 : decode cX5_startsToken 10 = .ok (.iconst 1, 1) := by decide +kernel
theorem dX5_startsToken_11 : decode cX5_startsToken 11 = .ok (.isub, 1) := by decide +kernel
theorem dX5_startsToken_12 : decode cX5_startsToken 12 = .ok (.invokevirtual 69, 3) := by decide +kernel
theorem dX5_startsToken_15 : decode cX5_startsToken 15 = .ok (.ifCond .eq 7, 3) := by decide +kernel
theorem dX5_startsToken_18 : decode cX5_startsToken 18 = .ok (.iconst 1, 1) := by decide +kernel
theorem dX5_startsToken_19 : decode cX5_startsToken 19 = .ok (.goto 4, 3) := by decide +kernel
theorem dX5_startsToken_22 : decode cX5_startsToken 22 = .ok (.iconst 0, 1) := by decide +kernel
theorem dX5_startsToken_23 : decode cX5_startsToken 23 = .ok (.istore_n 2, 1) := by decide +kernel
theorem dX5_startsToken_24 : decode cX5_startsToken 24 = .ok (.aload_n 0, 1) := by decide +kernel
theorem dX5_startsToken_25 : decode cX5_startsToken 25 = .ok (.getfield 29, 3) := by decide +kernel
theorem dX5_startsToken_28 : decode cX5_startsToken 28 = .ok (.iload_n 1, 1) := by decide +kernel
theorem dX5_startsToken_29 : decode cX5_startsToken 29 = .ok (.iaload, 1) := by decide +kernel
theorem dX5_startsToken_30 : decode cX5_startsToken 30 = .ok (.bipush 32, 2) := by decide +kernel
theorem dX5_startsToken_32 : decode cX5_startsToken 32 = .ok (.if_icmp .eq 11, 3) := by decide +kernel
theorem dX5_startsToken_35 : decode cX5_startsToken 35 = .ok (.iload_n 2, 1) := by decide +kernel
theorem dX5_startsToken_36 : decode cX5_startsToken 36 = .ok (.ifCond .ne 7, 3) := by decide +kernel
theorem dX5_startsToken_39 : decode cX5_startsToken 39 = .ok (.iconst 1, 1) := by decide +kernel
theorem dX5_startsToken_40 : decode cX5_startsToken 40 = .ok (.goto 4, 3) := by decide +kernel
theorem dX5_startsToken_43 : decode cX5_startsToken 43 = .ok (.iconst 0, 1) := by decide +kernel
theorem dX5_startsToken_44 : decode cX5_startsToken 44 = .ok (.ireturn, 1) := by decide +kernel
theorem dX5_tokenFrom_0 : decode cX5_tokenFrom 0 = .ok (.aload_n 0, 1) := by decide +kernel
theorem dX5_tokenFrom_1 : decode cX5_tokenFrom 1 = .ok (.iload_n 1, 1) := by decide +kernel
theorem dX5_tokenFrom_2 : decode cX5_tokenFrom 2 = .ok (.invokevirtual 69, 3) := by decide +kernel
theorem dX5_tokenFrom_5 : decode cX5_tokenFrom 5 = .ok (.ifCond .eq 9, 3) := by decide +kernel
theorem dX5_tokenFrom_8 : decode cX5_tokenFrom 8 = .ok (.aload_n 0, 1) := by decide +kernel
theorem dX5_tokenFrom_9 : decode cX5_tokenFrom 9 = .ok (.iload_n 1, 1) := by decide +kernel
theorem dX5_tokenFrom_10 : decode cX5_tokenFrom 10 = .ok (.invokevirtual 72, 3) := by decide +kernel
theorem dX5_tokenFrom_13 : decode cX5_tokenFrom 13 = .ok (.ireturn, 1) := by decide +kernel
theorem dX5_tokenFrom_14 : decode cX5_tokenFrom 14 = .ok (.aload_n 0, 1) := by decide +kernel
theorem dX5_tokenFrom_15 : decode cX5_tokenFrom 15 = .ok (.getfield 29, 3) := by decide +kernel
theorem dX5_tokenFrom_18 : decode cX5_tokenFrom 18 = .ok (.iload_n 1, 1) := by decide +kernel
theorem dX5_tokenFrom_19 : decode cX5_tokenFrom 19 = .ok (.iaload, 1) := by decide +kernel
theorem dX5_tokenFrom_20 : decode cX5_tokenFrom 20 = .ok (.istore_n 2, 1) := by decide +kernel
theorem dX5_tokenFrom_21 : decode cX5_tokenFrom 21 = .ok (.iload_n 2, 1) := by decide +kernel
theorem dX5_tokenFrom_22 : decode cX5_tokenFrom 22 = .ok (.bipush 115, 2) := by decide +kernel
theorem dX5_tokenFrom_24 : decode cX5_tokenFrom 24 = .ok (.if_icmp .eq 27, 3) := by decide +kernel
theorem dX5_tokenFrom_27 : decode cX5_tokenFrom 27 = .ok (.iload_n 2, 1) := by decide +kernel
theorem dX5_tokenFrom_28 : decode cX5_tokenFrom 28 = .ok (.bipush 108, 2) := by decide +kernel
theorem dX5_tokenFrom_30 : decode cX5_tokenFrom 30 = .ok (.if_icmp .eq 21, 3) := by decide +kernel
theorem dX5_tokenFrom_33 : decode cX5_tokenFrom 33 = .ok (.iload_n 2, 1) := by decide +kernel
theorem dX5_tokenFrom_34 : decode cX5_tokenFrom 34 = .ok (.bipush 100, 2) := by decide +kernel
theorem dX5_tokenFrom_36 : decode cX5_tokenFrom 36 = .ok (.if_icmp .eq 15, 3) := by decide +kernel
theorem dX5_tokenFrom_39 : decode cX5_tokenFrom 39 = .ok (.iload_n 2, 1) := by decide +kernel
theorem dX5_tokenFrom_40 : decode cX5_tokenFrom 40 = .ok (.bipush 112, 2) := by decide +kernel
theorem dX5_tokenFrom_42 : decode cX5_tokenFrom 42 = .ok (.if_icmp .eq 9, 3) := by decide +kernel
theorem dX5_tokenFrom_45 : decode cX5_tokenFrom 45 = .ok (.iload_n 2, 1) := by decide +kernel
theorem dX5_tokenFrom_46 : decode cX5_tokenFrom 46 = .ok (.bipush 59, 2) := by decide +kernel
theorem dX5_tokenFrom_48 : decode cX5_tokenFrom 48 = .ok (.if_icmp .ne 7, 3) := by decide +kernel
theorem dX5_tokenFrom_51 : decode cX5_tokenFrom 51 = .ok (.iconst 1, 1) := by decide +kernel
theorem dX5_tokenFrom_52 : decode cX5_tokenFrom 52 = .ok (.goto 4, 3) := by decide +kernel
theorem dX5_tokenFrom_55 : decode cX5_tokenFrom 55 = .ok (.iconst 0, 1) := by decide +kernel
theorem dX5_tokenFrom_56 : decode cX5_tokenFrom 56 = .ok (.istore_n 3, 1) := by decide +kernel
theorem dX5_tokenFrom_57 : decode cX5_tokenFrom 57 = .ok (.iload_n 3, 1) := by decide +kernel
theorem dX5_tokenFrom_58 : decode cX5_tokenFrom 58 = .ok (.ifCond .eq 8, 3) := by decide +kernel
theorem dX5_tokenFrom_61 : decode cX5_tokenFrom 61 = .ok (.iload_n 2, 1) := by decide +kernel
theorem dX5_tokenFrom_62 : decode cX5_tokenFrom 62 = .ok (.ineg, 1) := by decide +kernel
theorem dX5_tokenFrom_63 : decode cX5_tokenFrom 63 = .ok (.goto 4, 3) := by decide +kernel
theorem dX5_tokenFrom_66 : decode cX5_tokenFrom 66 = .ok (.iconst (-1), 1) := by decide +kernel
theorem dX5_tokenFrom_67 : decode cX5_tokenFrom 67 = .ok (.ireturn, 1) := by decide +kernel
theorem dX5_numberFrom_0 : decode cX5_numberFrom 0 = .ok (.aload_n 0, 1) := by decide +kernel
theorem dX5_numberFrom_1 : decode cX5_numberFrom 1 = .ok (.getfield 29, 3) := by decide +kernel
theorem dX5_numberFrom_4 : decode cX5_numberFrom 4 = .ok (.iload_n 1, 1) := by decide +kernel
theorem dX5_numberFrom_5 : decode cX5_numberFrom 5 = .ok (.iaload, 1) := by decide +kernel
theorem dX5_numberFrom_6 : decode cX5_numberFrom 6 = .ok (.bipush 48, 2) := by decide +kernel
theorem dX5_numberFrom_8 : decode cX5_numberFrom 8 = .ok (.isub, 1) := by decide +kernel
theorem dX5_numberFrom_9 : decode cX5_numberFrom 9 = .ok (.istore_n 2, 1) := by decide +kernel
theorem dX5_numberFrom_10 : decode cX5_numberFrom 10 = .ok (.aload_n 0, 1) := by decide +kernel
theorem dX5_numberFrom_11 : decode cX5_numberFrom 11 = .ok (.iload_n 1, 1) := by decide +kernel
theorem dX5_numberFrom_12 : decode cX5_numberFrom 12 = .ok (.iconst 1, 1) := by decide +kernel
theorem dX5_numberFrom_13 : decode cX5_numberFrom 13 = .ok (.iadd, 1) := by decide +kernel
theorem dX5_numberFrom_14 : decode cX5_numberFrom 14 = .ok (.invokevirtual 69, 3) := by decide +kernel
theorem dX5_numberFrom_17 : decode cX5_numberFrom 17 = .ok (.ifCond .ne 5, 3) := by decide +kernel
theorem dX5_numberFrom_20 : decode cX5_numberFrom 20 = .ok (.iload_n 2, 1) := by decide +kernel
theorem dX5_numberFrom_21 : decode cX5_numberFrom 21 = .ok (.ireturn, 1) := by decide +kernel
theorem dX5_numberFrom_22 : decode cX5_numberFrom 22 = .ok (.iload_n 2, 1) := by decide +kernel
theorem dX5_numberFrom_23 : decode cX5_numberFrom 23 = .ok (.ifCond .eq 13, 3) := by decide +kernel
theorem dX5_numberFrom_26 : decode cX5_numberFrom 26 = .ok (.aload_n 0, 1) := by decide +kernel
theorem dX5_numberFrom_27 : decode cX5_numberFrom 27 = .ok (.iload_n 1, 1) := by decide +kernel
theorem dX5_numberFrom_28 : decode cX5_numberFrom 28 = .ok (.iconst 2, 1) := by decide +kernel
theorem dX5_numberFrom_29 : decode cX5_numberFrom 29 = .ok (.iadd, 1) := by decide +kernel
theorem dX5_numberFrom_30 : decode cX5_numberFrom 30 = .ok (.invokevirtual 69, 3) := by decide +kernel
theorem dX5_numberFrom_33 : decode cX5_numberFrom 33 = .ok (.ifCond .eq 5, 3) := by decide +kernel
theorem dX5_numberFrom_36 : decode cX5_numberFrom 36 = .ok (.iconst (-1), 1) := by decide +kernel
theorem dX5_numberFrom_37 : decode cX5_numberFrom 37 = .ok (.ireturn, 1) := by decide +kernel
theorem dX5_numberFrom_38 : decode cX5_numberFrom 38 = .ok (.bipush 10, 2) := by decide +kernel
theorem dX5_numberFrom_40 : decode cX5_numberFrom 40 = .ok (.iload_n 2, 1) := by decide +kernel
theorem dX5_numberFrom_41 : decode cX5_numberFrom 41 = .ok (.imul, 1) := by decide +kernel
theorem dX5_numberFrom_42 : decode cX5_numberFrom 42 = .ok (.aload_n 0, 1) := by decide +kernel
theorem dX5_numberFrom_43 : decode cX5_numberFrom 43 = .ok (.getfield 29, 3) := by decide +kernel
theorem dX5_numberFrom_46 : decode cX5_numberFrom 46 = .ok (.iload_n 1, 1) := by decide +kernel
theorem dX5_numberFrom_47 : decode cX5_numberFrom 47 = .ok (.iconst 1, 1) := by decide +kernel
theorem dX5_numberFrom_48 : decode cX5_numberFrom 48 = .ok (.iadd, 1) := by decide +kernel
theorem dX5_numberFrom_49 : decode cX5_numberFrom 49 = .ok (.iaload, 1) := by decide +kernel
theorem dX5_numberFrom_50 : decode cX5_numberFrom 50 = .ok (.iadd, 1) := by decide +kernel
theorem dX5_numberFrom_51 : decode cX5_numberFrom 51 = .ok (.bipush 48, 2) := by decide +kernel
theorem dX5_numberFrom_53 : decode cX5_numberFrom 53 = .ok (.isub, 1) := by decide +kernel
theorem dX5_numberFrom_54 : decode cX5_numberFrom 54 = .ok (.ireturn, 1) := by decide +kernel
theorem dX5_isDigit_0 : decode cX5_isDigit 0 = .ok (.iload_n 1, 1) := by decide +kernel
theorem dX5_isDigit_1 : decode cX5_isDigit 1 = .ok (.ifCond .lt 37, 3) := by decide +kernel
theorem dX5_isDigit_4 : decode cX5_isDigit 4 = .ok (.iload_n 1, 1) := by decide +kernel
theorem dX5_isDigit_5 : decode cX5_isDigit 5 = .ok (.aload_n 0, 1) := by decide +kernel
theorem dX5_isDigit_6 : decode cX5_isDigit 6 = .ok (.getfield 9, 3) := by decide +kernel
theorem dX5_isDigit_9 : decode cX5_isDigit 9 = .ok (.if_icmp .ge 29, 3) := by decide +kernel
theorem dX5_isDigit_12 : decode cX5_isDigit 12 = .ok (.aload_n 0, 1) := by decide +kernel
theorem dX5_isDigit_13 : decode cX5_isDigit 13 = .ok (.getfield 29, 3) := by decide +kernel
theorem dX5_isDigit_16 : decode cX5_isDigit 16 = .ok (.iload_n 1, 1) := by decide +kernel
theorem dX5_isDigit_17 : decode cX5_isDigit 17 = .ok (.iaload, 1) := by decide +kernel
theorem dX5_isDigit_18 : decode cX5_isDigit 18 = .ok (.bipush 48, 2) := by decide +kernel
theorem dX5_isDigit_20 : decode cX5_isDigit 20 = .ok (.if_icmp .lt 18, 3) := by decide +kernel
theorem dX5_isDigit_23 : decode cX5_isDigit 23 = .ok (.aload_n 0, 1) := by decide +kernel
theorem dX5_isDigit_24 : decode cX5_isDigit 24 = .ok (.getfield 29, 3) := by decide +kernel
theorem dX5_isDigit_27 : decode cX5_isDigit 27 = .ok (.iload_n 1, 1) := by decide +kernel
theorem dX5_isDigit_28 : decode cX5_isDigit 28 = .ok (.iaload, 1) := by decide +kernel
theorem dX5_isDigit_29 : decode cX5_isDigit 29 = .ok (.bipush 57, 2) := by decide +kernel
theorem dX5_isDigit_31 : decode cX5_isDigit 31 = .ok (.if_icmp .gt 7, 3) := by decide +kernel
theorem dX5_isDigit_34 : decode cX5_isDigit 34 = .ok (.iconst 1, 1) := by decide +kernel
theorem dX5_isDigit_35 : decode cX5_isDigit 35 = .ok (.goto 4, 3) := by decide +kernel
theorem dX5_isDigit_38 : decode cX5_isDigit 38 = .ok (.iconst 0, 1) := by decide +kernel
theorem dX5_isDigit_39 : decode cX5_isDigit 39 = .ok (.ireturn, 1) := by decide +kernel
theorem dX5_readsItem_0 : decode cX5_readsItem 0 = .ok (.aload_n 0, 1) := by decide +kernel
theorem dX5_readsItem_1 : decode cX5_readsItem 1 = .ok (.getfield 33, 3) := by decide +kernel
theorem dX5_readsItem_4 : decode cX5_readsItem 4 = .ok (.aload_n 0, 1) := by decide +kernel
theorem dX5_readsItem_5 : decode cX5_readsItem 5 = .ok (.getfield 39, 3) := by decide +kernel
theorem dX5_readsItem_8 : decode cX5_readsItem 8 = .ok (.iaload, 1) := by decide +kernel
theorem dX5_readsItem_9 : decode cX5_readsItem 9 = .ok (.ineg, 1) := by decide +kernel
theorem dX5_readsItem_10 : decode cX5_readsItem 10 = .ok (.istore_n 1, 1) := by decide +kernel
theorem dX5_readsItem_11 : decode cX5_readsItem 11 = .ok (.aload_n 0, 1) := by decide +kernel
theorem dX5_readsItem_12 : decode cX5_readsItem 12 = .ok (.iload_n 1, 1) := by decide +kernel
theorem dX5_readsItem_13 : decode cX5_readsItem 13 = .ok (.invokevirtual 75, 3) := by decide +kernel
theorem dX5_readsItem_16 : decode cX5_readsItem 16 = .ok (.ifCond .ne 17, 3) := by decide +kernel
theorem dX5_readsItem_19 : decode cX5_readsItem 19 = .ok (.aload_n 0, 1) := by decide +kernel
theorem dX5_readsItem_20 : decode cX5_readsItem 20 = .ok (.aload_n 0, 1) := by decide +kernel
theorem dX5_readsItem_21 : decode cX5_readsItem 21 = .ok (.getfield 36, 3) := by decide +kernel
theorem dX5_readsItem_24 : decode cX5_readsItem 24 = .ok (.aload_n 0, 1) := by decide +kernel
theorem dX5_readsItem_25 : decode cX5_readsItem 25 = .ok (.getfield 39, 3) := by decide +kernel
theorem dX5_readsItem_28 : decode cX5_readsItem 28 = .ok (.iaload, 1) := by decide +kernel
theorem dX5_readsItem_29 : decode cX5_readsItem 29 = .ok (.putfield 45, 3) := by decide +kernel
theorem dX5_readsItem_32 : decode cX5_readsItem 32 = .ok (.return_, 1) := by decide +kernel
theorem dX5_readsItem_33 : decode cX5_readsItem 33 = .ok (.aload_n 0, 1) := by decide +kernel
theorem dX5_readsItem_34 : decode cX5_readsItem 34 = .ok (.dup, 1) := by decide +kernel
theorem dX5_readsItem_35 : decode cX5_readsItem 35 = .ok (.getfield 39, 3) := by decide +kernel
theorem dX5_readsItem_38 : decode cX5_readsItem 38 = .ok (.iconst 1, 1) := by decide +kernel
theorem dX5_readsItem_39 : decode cX5_readsItem 39 = .ok (.iadd, 1) := by decide +kernel
theorem dX5_readsItem_40 : decode cX5_readsItem 40 = .ok (.putfield 39, 3) := by decide +kernel
theorem dX5_readsItem_43 : decode cX5_readsItem 43 = .ok (.iload_n 1, 1) := by decide +kernel
theorem dX5_readsItem_44 : decode cX5_readsItem 44 = .ok (.lookupswitch 72 #[(100, 50), (108, 43), (115, 36)], 36) := by decide +kernel
theorem dX5_readsItem_80 : decode cX5_readsItem 80 = .ok (.aload_n 0, 1) := by decide +kernel
theorem dX5_readsItem_81 : decode cX5_readsItem 81 = .ok (.invokevirtual 78, 3) := by decide +kernel
theorem dX5_readsItem_84 : decode cX5_readsItem 84 = .ok (.goto 67, 3) := by decide +kernel
theorem dX5_readsItem_87 : decode cX5_readsItem 87 = .ok (.aload_n 0, 1) := by decide +kernel
theorem dX5_readsItem_88 : decode cX5_readsItem 88 = .ok (.invokevirtual 81, 3) := by decide +kernel
theorem dX5_readsItem_91 : decode cX5_readsItem 91 = .ok (.goto 60, 3) := by decide +kernel
theorem dX5_readsItem_94 : decode cX5_readsItem 94 = .ok (.aload_n 0, 1) := by decide +kernel
theorem dX5_readsItem_95 : decode cX5_readsItem 95 = .ok (.iconst 1, 1) := by decide +kernel
theorem dX5_readsItem_96 : decode cX5_readsItem 96 = .ok (.putfield 48, 3) := by decide +kernel
theorem dX5_readsItem_99 : decode cX5_readsItem 99 = .ok (.aload_n 0, 1) := by decide +kernel
theorem dX5_readsItem_100 : decode cX5_readsItem 100 = .ok (.getfield 18, 3) := by decide +kernel
theorem dX5_readsItem_103 : decode cX5_readsItem 103 = .ok (.aload_n 0, 1) := by decide +kernel
theorem dX5_readsItem_104 : decode cX5_readsItem 104 = .ok (.iconst 0, 1) := by decide +kernel
theorem dX5_readsItem_105 : decode cX5_readsItem 105 = .ok (.bipush 9, 2) := by decide +kernel
theorem dX5_readsItem_107 : decode cX5_readsItem 107 = .ok (.invokevirtual 84, 3) := by decide +kernel
theorem dX5_readsItem_110 : decode cX5_readsItem 110 = .ok (.putfield 88, 3) := by decide +kernel
theorem dX5_readsItem_113 : decode cX5_readsItem 113 = .ok (.goto 38, 3) := by decide +kernel
theorem dX5_readsItem_116 : decode cX5_readsItem 116 = .ok (.aload_n 0, 1) := by decide +kernel
theorem dX5_readsItem_117 : decode cX5_readsItem 117 = .ok (.getfield 18, 3) := by decide +kernel
theorem dX5_readsItem_120 : decode cX5_readsItem 120 = .ok (.getfield 91, 3) := by decide +kernel
theorem dX5_readsItem_123 : decode cX5_readsItem 123 = .ok (.aload_n 0, 1) := by decide +kernel
theorem dX5_readsItem_124 : decode cX5_readsItem 124 = .ok (.getfield 18, 3) := by decide +kernel
theorem dX5_readsItem_127 : decode cX5_readsItem 127 = .ok (.getfield 94, 3) := by decide +kernel
theorem dX5_readsItem_130 : decode cX5_readsItem 130 = .ok (.aload_n 0, 1) := by decide +kernel
theorem dX5_readsItem_131 : decode cX5_readsItem 131 = .ok (.iconst 0, 1) := by decide +kernel
theorem dX5_readsItem_132 : decode cX5_readsItem 132 = .ok (.bipush 60, 2) := by decide +kernel
theorem dX5_readsItem_134 : decode cX5_readsItem 134 = .ok (.invokevirtual 84, 3) := by decide +kernel
theorem dX5_readsItem_137 : decode cX5_readsItem 137 = .ok (.iastore, 1) := by decide +kernel
theorem dX5_readsItem_138 : decode cX5_readsItem 138 = .ok (.aload_n 0, 1) := by decide +kernel
theorem dX5_readsItem_139 : decode cX5_readsItem 139 = .ok (.getfield 18, 3) := by decide +kernel
theorem dX5_readsItem_142 : decode cX5_readsItem 142 = .ok (.dup, 1) := by decide +kernel
theorem dX5_readsItem_143 : decode cX5_readsItem 143 = .ok (.getfield 94, 3) := by decide +kernel
theorem dX5_readsItem_146 : decode cX5_readsItem 146 = .ok (.iconst 1, 1) := by decide +kernel
theorem dX5_readsItem_147 : decode cX5_readsItem 147 = .ok (.iadd, 1) := by decide +kernel
theorem dX5_readsItem_148 : decode cX5_readsItem 148 = .ok (.putfield 94, 3) := by decide +kernel
theorem dX5_readsItem_151 : decode cX5_readsItem 151 = .ok (.aload_n 0, 1) := by decide +kernel
theorem dX5_readsItem_152 : decode cX5_readsItem 152 = .ok (.invokevirtual 97, 3) := by decide +kernel
theorem dX5_readsItem_155 : decode cX5_readsItem 155 = .ok (.aload_n 0, 1) := by decide +kernel
theorem dX5_readsItem_156 : decode cX5_readsItem 156 = .ok (.dup, 1) := by decide +kernel
theorem dX5_readsItem_157 : decode cX5_readsItem 157 = .ok (.getfield 42, 3) := by decide +kernel
theorem dX5_readsItem_160 : decode cX5_readsItem 160 = .ok (.iconst 1, 1) := by decide +kernel
theorem dX5_readsItem_161 : decode cX5_readsItem 161 = .ok (.iadd, 1) := by decide +kernel
theorem dX5_readsItem_162 : decode cX5_readsItem 162 = .ok (.putfield 42, 3) := by decide +kernel
theorem dX5_readsItem_165 : decode cX5_readsItem 165 = .ok (.return_, 1) := by decide +kernel
theorem dX5_mayBegin_0 : decode cX5_mayBegin 0 = .ok (.iload_n 1, 1) := by decide +kernel
theorem dX5_mayBegin_1 : decode cX5_mayBegin 1 = .ok (.lookupswitch 118 #[(100, 87), (108, 70), (112, 100), (115, 43)], 43) := by decide +kernel
theorem dX5_mayBegin_44 : decode cX5_mayBegin 44 = .ok (.aload_n 0, 1) := by decide +kernel
theorem dX5_mayBegin_45 : decode cX5_mayBegin 45 = .ok (.getfield 18, 3) := by decide +kernel
theorem dX5_mayBegin_48 : decode cX5_mayBegin 48 = .ok (.getfield 100, 3) := by decide +kernel
theorem dX5_mayBegin_51 : decode cX5_mayBegin 51 = .ok (.ifCond .ne 18, 3) := by decide +kernel
theorem dX5_mayBegin_54 : decode cX5_mayBegin 54 = .ok (.aload_n 0, 1) := by decide +kernel
theorem dX5_mayBegin_55 : decode cX5_mayBegin 55 = .ok (.getfield 18, 3) := by decide +kernel
theorem dX5_mayBegin_58 : decode cX5_mayBegin 58 = .ok (.getfield 103, 3) := by decide +kernel
theorem dX5_mayBegin_61 : decode cX5_mayBegin 61 = .ok (.iconst 4, 1) := by decide +kernel
theorem dX5_mayBegin_62 : decode cX5_mayBegin 62 = .ok (.if_icmp .ge 7, 3) := by decide +kernel
theorem dX5_mayBegin_65 : decode cX5_mayBegin 65 = .ok (.iconst 1, 1) := by decide +kernel
theorem dX5_mayBegin_66 : decode cX5_mayBegin 66 = .ok (.goto 4, 3) := by decide +kernel
theorem dX5_mayBegin_69 : decode cX5_mayBegin 69 = .ok (.iconst 0, 1) := by decide +kernel
theorem dX5_mayBegin_70 : decode cX5_mayBegin 70 = .ok (.ireturn, 1) := by decide +kernel
theorem dX5_mayBegin_71 : decode cX5_mayBegin 71 = .ok (.aload_n 0, 1) := by decide +kernel
theorem dX5_mayBegin_72 : decode cX5_mayBegin 72 = .ok (.getfield 18, 3) := by decide +kernel
theorem dX5_mayBegin_75 : decode cX5_mayBegin 75 = .ok (.getfield 100, 3) := by decide +kernel
theorem dX5_mayBegin_78 : decode cX5_mayBegin 78 = .ok (.iconst 4, 1) := by decide +kernel
theorem dX5_mayBegin_79 : decode cX5_mayBegin 79 = .ok (.if_icmp .ge 7, 3) := by decide +kernel
theorem dX5_mayBegin_82 : decode cX5_mayBegin 82 = .ok (.iconst 1, 1) := by decide +kernel
theorem dX5_mayBegin_83 : decode cX5_mayBegin 83 = .ok (.goto 4, 3) := by decide +kernel
theorem dX5_mayBegin_86 : decode cX5_mayBegin 86 = .ok (.iconst 0, 1) := by decide +kernel
theorem dX5_mayBegin_87 : decode cX5_mayBegin 87 = .ok (.ireturn, 1) := by decide +kernel
theorem dX5_mayBegin_88 : decode cX5_mayBegin 88 = .ok (.aload_n 0, 1) := by decide +kernel
theorem dX5_mayBegin_89 : decode cX5_mayBegin 89 = .ok (.getfield 48, 3) := by decide +kernel
theorem dX5_mayBegin_92 : decode cX5_mayBegin 92 = .ok (.ifCond .ne 7, 3) := by decide +kernel
theorem dX5_mayBegin_95 : decode cX5_mayBegin 95 = .ok (.iconst 1, 1) := by decide +kernel
theorem dX5_mayBegin_96 : decode cX5_mayBegin 96 = .ok (.goto 4, 3) := by decide +kernel
theorem dX5_mayBegin_99 : decode cX5_mayBegin 99 = .ok (.iconst 0, 1) := by decide +kernel
theorem dX5_mayBegin_100 : decode cX5_mayBegin 100 = .ok (.ireturn, 1) := by decide +kernel
theorem dX5_mayBegin_101 : decode cX5_mayBegin 101 = .ok (.aload_n 0, 1) := by decide +kernel
theorem dX5_mayBegin_102 : decode cX5_mayBegin 102 = .ok (.getfield 18, 3) := by decide +kernel
theorem dX5_mayBegin_105 : decode cX5_mayBegin 105 = .ok (.getfield 94, 3) := by decide +kernel
theorem dX5_mayBegin_108 : decode cX5_mayBegin 108 = .ok (.bipush 8, 2) := by decide +kernel
theorem dX5_mayBegin_110 : decode cX5_mayBegin 110 = .ok (.if_icmp .ge 7, 3) := by decide +kernel
theorem dX5_mayBegin_113 : decode cX5_mayBegin 113 = .ok (.iconst 1, 1) := by decide +kernel
theorem dX5_mayBegin_114 : decode cX5_mayBegin 114 = .ok (.goto 4, 3) := by decide +kernel
theorem dX5_mayBegin_117 : decode cX5_mayBegin 117 = .ok (.iconst 0, 1) := by decide +kernel
theorem dX5_mayBegin_118 : decode cX5_mayBegin 118 = .ok (.ireturn, 1) := by decide +kernel
theorem dX5_mayBegin_119 : decode cX5_mayBegin 119 = .ok (.iconst 0, 1) := by decide +kernel
theorem dX5_mayBegin_120 : decode cX5_mayBegin 120 = .ok (.ireturn, 1) := by decide +kernel
theorem dX5_readsScale_0 : decode cX5_readsScale 0 = .ok (.aload_n 0, 1) := by decide +kernel
theorem dX5_readsScale_1 : decode cX5_readsScale 1 = .ok (.getfield 18, 3) := by decide +kernel
theorem dX5_readsScale_4 : decode cX5_readsScale 4 = .ok (.getfield 103, 3) := by decide +kernel
theorem dX5_readsScale_7 : decode cX5_readsScale 7 = .ok (.istore_n 1, 1) := by decide +kernel
theorem dX5_readsScale_8 : decode cX5_readsScale 8 = .ok (.aload_n 0, 1) := by decide +kernel
theorem dX5_readsScale_9 : decode cX5_readsScale 9 = .ok (.getfield 25, 3) := by decide +kernel
theorem dX5_readsScale_12 : decode cX5_readsScale 12 = .ok (.getfield 106, 3) := by decide +kernel
theorem dX5_readsScale_15 : decode cX5_readsScale 15 = .ok (.iload_n 1, 1) := by decide +kernel
theorem dX5_readsScale_16 : decode cX5_readsScale 16 = .ok (.aload_n 0, 1) := by decide +kernel
theorem dX5_readsScale_17 : decode cX5_readsScale 17 = .ok (.iconst 0, 1) := by decide +kernel
theorem dX5_readsScale_18 : decode cX5_readsScale 18 = .ok (.iconst 3, 1) := by decide +kernel
theorem dX5_readsScale_19 : decode cX5_readsScale 19 = .ok (.invokevirtual 84, 3) := by decide +kernel
theorem dX5_readsScale_22 : decode cX5_readsScale 22 = .ok (.iastore, 1) := by decide +kernel
theorem dX5_readsScale_23 : decode cX5_readsScale 23 = .ok (.aload_n 0, 1) := by decide +kernel
theorem dX5_readsScale_24 : decode cX5_readsScale 24 = .ok (.getfield 18, 3) := by decide +kernel
theorem dX5_readsScale_27 : decode cX5_readsScale 27 = .ok (.getfield 109, 3) := by decide +kernel
theorem dX5_readsScale_30 : decode cX5_readsScale 30 = .ok (.iload_n 1, 1) := by decide +kernel
theorem dX5_readsScale_31 : decode cX5_readsScale 31 = .ok (.aload_n 0, 1) := by decide +kernel
theorem dX5_readsScale_32 : decode cX5_readsScale 32 = .ok (.iconst 2, 1) := by decide +kernel
theorem dX5_readsScale_33 : decode cX5_readsScale 33 = .ok (.bipush 30, 2) := by decide +kernel
theorem dX5_readsScale_35 : decode cX5_readsScale 35 = .ok (.invokevirtual 84, 3) := by decide +kernel
theorem dX5_readsScale_38 : decode cX5_readsScale 38 = .ok (.iastore, 1) := by decide +kernel
theorem dX5_readsScale_39 : decode cX5_readsScale 39 = .ok (.aload_n 0, 1) := by decide +kernel
theorem dX5_readsScale_40 : decode cX5_readsScale 40 = .ok (.getfield 25, 3) := by decide +kernel
theorem dX5_readsScale_43 : decode cX5_readsScale 43 = .ok (.getfield 112, 3) := by decide +kernel
theorem dX5_readsScale_46 : decode cX5_readsScale 46 = .ok (.iload_n 1, 1) := by decide +kernel
theorem dX5_readsScale_47 : decode cX5_readsScale 47 = .ok (.aload_n 0, 1) := by decide +kernel
theorem dX5_readsScale_48 : decode cX5_readsScale 48 = .ok (.iconst 1, 1) := by decide +kernel
theorem dX5_readsScale_49 : decode cX5_readsScale 49 = .ok (.aload_n 0, 1) := by decide +kernel
theorem dX5_readsScale_50 : decode cX5_readsScale 50 = .ok (.getfield 18, 3) := by decide +kernel
theorem dX5_readsScale_53 : decode cX5_readsScale 53 = .ok (.getfield 109, 3) := by decide +kernel
theorem dX5_readsScale_56 : decode cX5_readsScale 56 = .ok (.iload_n 1, 1) := by decide +kernel
theorem dX5_readsScale_57 : decode cX5_readsScale 57 = .ok (.iaload, 1) := by decide +kernel
theorem dX5_readsScale_58 : decode cX5_readsScale 58 = .ok (.invokevirtual 84, 3) := by decide +kernel
theorem dX5_readsScale_61 : decode cX5_readsScale 61 = .ok (.iastore, 1) := by decide +kernel
theorem dX5_readsScale_62 : decode cX5_readsScale 62 = .ok (.aload_n 0, 1) := by decide +kernel
theorem dX5_readsScale_63 : decode cX5_readsScale 63 = .ok (.getfield 18, 3) := by decide +kernel
theorem dX5_readsScale_66 : decode cX5_readsScale 66 = .ok (.dup, 1) := by decide +kernel
theorem dX5_readsScale_67 : decode cX5_readsScale 67 = .ok (.getfield 103, 3) := by decide +kernel
theorem dX5_readsScale_70 : decode cX5_readsScale 70 = .ok (.iconst 1, 1) := by decide +kernel
theorem dX5_readsScale_71 : decode cX5_readsScale 71 = .ok (.iadd, 1) := by decide +kernel
theorem dX5_readsScale_72 : decode cX5_readsScale 72 = .ok (.putfield 103, 3) := by decide +kernel
theorem dX5_readsScale_75 : decode cX5_readsScale 75 = .ok (.return_, 1) := by decide +kernel
theorem dX5_readsLife_0 : decode cX5_readsLife 0 = .ok (.iconst 0, 1) := by decide +kernel
theorem dX5_readsLife_1 : decode cX5_readsLife 1 = .ok (.istore_n 1, 1) := by decide +kernel
theorem dX5_readsLife_2 : decode cX5_readsLife 2 = .ok (.iload_n 1, 1) := by decide +kernel
theorem dX5_readsLife_3 : decode cX5_readsLife 3 = .ok (.aload_n 0, 1) := by decide +kernel
theorem dX5_readsLife_4 : decode cX5_readsLife 4 = .ok (.getfield 18, 3) := by decide +kernel
theorem dX5_readsLife_7 : decode cX5_readsLife 7 = .ok (.getfield 103, 3) := by decide +kernel
theorem dX5_readsLife_10 : decode cX5_readsLife 10 = .ok (.if_icmp .ge 62, 3) := by decide +kernel
theorem dX5_readsLife_13 : decode cX5_readsLife 13 = .ok (.aload_n 0, 1) := by decide +kernel
theorem dX5_readsLife_14 : decode cX5_readsLife 14 = .ok (.getfield 18, 3) := by decide +kernel
theorem dX5_readsLife_17 : decode cX5_readsLife 17 = .ok (.getfield 100, 3) := by decide +kernel
theorem dX5_readsLife_20 : decode cX5_readsLife 20 = .ok (.iload_n 1, 1) := by decide +kernel
theorem dX5_readsLife_21 : decode cX5_readsLife 21 = .ok (.invokestatic 115, 3) := by decide +kernel
theorem dX5_readsLife_24 : decode cX5_readsLife 24 = .ok (.istore_n 2, 1) := by decide +kernel
theorem dX5_readsLife_25 : decode cX5_readsLife 25 = .ok (.aload_n 0, 1) := by decide +kernel
theorem dX5_readsLife_26 : decode cX5_readsLife 26 = .ok (.getfield 25, 3) := by decide +kernel
theorem dX5_readsLife_29 : decode cX5_readsLife 29 = .ok (.getfield 118, 3) := by decide +kernel
theorem dX5_readsLife_32 : decode cX5_readsLife 32 = .ok (.iload_n 2, 1) := by decide +kernel
theorem dX5_readsLife_33 : decode cX5_readsLife 33 = .ok (.aload_n 0, 1) := by decide +kernel
theorem dX5_readsLife_34 : decode cX5_readsLife 34 = .ok (.iconst 0, 1) := by decide +kernel
theorem dX5_readsLife_35 : decode cX5_readsLife 35 = .ok (.aload_n 0, 1) := by decide +kernel
theorem dX5_readsLife_36 : decode cX5_readsLife 36 = .ok (.getfield 18, 3) := by decide +kernel
theorem dX5_readsLife_39 : decode cX5_readsLife 39 = .ok (.getfield 109, 3) := by decide +kernel
theorem dX5_readsLife_42 : decode cX5_readsLife 42 = .ok (.iload_n 1, 1) := by decide +kernel
theorem dX5_readsLife_43 : decode cX5_readsLife 43 = .ok (.iaload, 1) := by decide +kernel
theorem dX5_readsLife_44 : decode cX5_readsLife 44 = .ok (.invokevirtual 84, 3) := by decide +kernel
theorem dX5_readsLife_47 : decode cX5_readsLife 47 = .ok (.iastore, 1) := by decide +kernel
theorem dX5_readsLife_48 : decode cX5_readsLife 48 = .ok (.aload_n 0, 1) := by decide +kernel
theorem dX5_readsLife_49 : decode cX5_readsLife 49 = .ok (.getfield 18, 3) := by decide +kernel
theorem dX5_readsLife_52 : decode cX5_readsLife 52 = .ok (.getfield 121, 3) := by decide +kernel
theorem dX5_readsLife_55 : decode cX5_readsLife 55 = .ok (.iload_n 2, 1) := by decide +kernel
theorem dX5_readsLife_56 : decode cX5_readsLife 56 = .ok (.aload_n 0, 1) := by decide +kernel
theorem dX5_readsLife_57 : decode cX5_readsLife 57 = .ok (.iconst 0, 1) := by decide +kernel
theorem dX5_readsLife_58 : decode cX5_readsLife 58 = .ok (.bipush 6, 2) := by decide +kernel
theorem dX5_readsLife_60 : decode cX5_readsLife 60 = .ok (.invokevirtual 84, 3) := by decide +kernel
theorem dX5_readsLife_63 : decode cX5_readsLife 63 = .ok (.iconst 3, 1) := by decide +kernel
theorem dX5_readsLife_64 : decode cX5_readsLife 64 = .ok (.isub, 1) := by decide +kernel
theorem dX5_readsLife_65 : decode cX5_readsLife 65 = .ok (.iastore, 1) := by decide +kernel
theorem dX5_readsLife_66 : decode cX5_readsLife 66 = .ok (.iinc 1 1, 3) := by decide +kernel
theorem dX5_readsLife_69 : decode cX5_readsLife 69 = .ok (.goto (-67), 3) := by decide +kernel
theorem dX5_readsLife_72 : decode cX5_readsLife 72 = .ok (.aload_n 0, 1) := by decide +kernel
theorem dX5_readsLife_73 : decode cX5_readsLife 73 = .ok (.getfield 18, 3) := by decide +kernel
theorem dX5_readsLife_76 : decode cX5_readsLife 76 = .ok (.dup, 1) := by decide +kernel
theorem dX5_readsLife_77 : decode cX5_readsLife 77 = .ok (.getfield 100, 3) := by decide +kernel
theorem dX5_readsLife_80 : decode cX5_readsLife 80 = .ok (.iconst 1, 1) := by decide +kernel
theorem dX5_readsLife_81 : decode cX5_readsLife 81 = .ok (.iadd, 1) := by decide +kernel
theorem dX5_readsLife_82 : decode cX5_readsLife 82 = .ok (.putfield 100, 3) := by decide +kernel
theorem dX5_readsLife_85 : decode cX5_readsLife 85 = .ok (.return_, 1) := by decide +kernel
theorem dX5_takesNumber_0 : decode cX5_takesNumber 0 = .ok (.aload_n 0, 1) := by decide +kernel
theorem dX5_takesNumber_1 : decode cX5_takesNumber 1 = .ok (.getfield 33, 3) := by decide +kernel
theorem dX5_takesNumber_4 : decode cX5_takesNumber 4 = .ok (.aload_n 0, 1) := by decide +kernel
theorem dX5_takesNumber_5 : decode cX5_takesNumber 5 = .ok (.getfield 39, 3) := by decide +kernel
theorem dX5_takesNumber_8 : decode cX5_takesNumber 8 = .ok (.iaload, 1) := by decide +kernel
theorem dX5_takesNumber_9 : decode cX5_takesNumber 9 = .ok (.istore_n 3, 1) := by decide +kernel
theorem dX5_takesNumber_10 : decode cX5_takesNumber 10 = .ok (.aload_n 0, 1) := by decide +kernel
theorem dX5_takesNumber_11 : decode cX5_takesNumber 11 = .ok (.iload_n 3, 1) := by decide +kernel
theorem dX5_takesNumber_12 : decode cX5_takesNumber 12 = .ok (.iload_n 1, 1) := by decide +kernel
theorem dX5_takesNumber_13 : decode cX5_takesNumber 13 = .ok (.iload_n 2, 1) := by decide +kernel
theorem dX5_takesNumber_14 : decode cX5_takesNumber 14 = .ok (.invokestatic 124, 3) := by decide +kernel
theorem dX5_takesNumber_17 : decode cX5_takesNumber 17 = .ok (.invokevirtual 128, 3) := by decide +kernel
theorem dX5_takesNumber_20 : decode cX5_takesNumber 20 = .ok (.aload_n 0, 1) := by decide +kernel
theorem dX5_takesNumber_21 : decode cX5_takesNumber 21 = .ok (.getfield 45, 3) := by decide +kernel
theorem dX5_takesNumber_24 : decode cX5_takesNumber 24 = .ok (.iconst (-1), 1) := by decide +kernel
theorem dX5_takesNumber_25 : decode cX5_takesNumber 25 = .ok (.if_icmp .ne 7, 3) := by decide +kernel
theorem dX5_takesNumber_28 : decode cX5_takesNumber 28 = .ok (.iload_n 3, 1) := by decide +kernel
theorem dX5_takesNumber_29 : decode cX5_takesNumber 29 = .ok (.goto 4, 3) := by decide +kernel
theorem dX5_takesNumber_32 : decode cX5_takesNumber 32 = .ok (.iload_n 1, 1) := by decide +kernel
theorem dX5_takesNumber_33 : decode cX5_takesNumber 33 = .ok (.ireturn, 1) := by decide +kernel
theorem dX5_takesSemicolon_0 : decode cX5_takesSemicolon 0 = .ok (.aload_n 0, 1) := by decide +kernel
theorem dX5_takesSemicolon_1 : decode cX5_takesSemicolon 1 = .ok (.aload_n 0, 1) := by decide +kernel
theorem dX5_takesSemicolon_2 : decode cX5_takesSemicolon 2 = .ok (.getfield 33, 3) := by decide +kernel
theorem dX5_takesSemicolon_5 : decode cX5_takesSemicolon 5 = .ok (.aload_n 0, 1) := by decide +kernel
theorem dX5_takesSemicolon_6 : decode cX5_takesSemicolon 6 = .ok (.getfield 39, 3) := by decide +kernel
theorem dX5_takesSemicolon_9 : decode cX5_takesSemicolon 9 = .ok (.iaload, 1) := by decide +kernel
theorem dX5_takesSemicolon_10 : decode cX5_takesSemicolon 10 = .ok (.bipush (-59), 2) := by decide +kernel
theorem dX5_takesSemicolon_12 : decode cX5_takesSemicolon 12 = .ok (.if_icmp .ne 7, 3) := by decide +kernel
theorem dX5_takesSemicolon_15 : decode cX5_takesSemicolon 15 = .ok (.iconst 1, 1) := by decide +kernel
theorem dX5_takesSemicolon_16 : decode cX5_takesSemicolon 16 = .ok (.goto 4, 3) := by decide +kernel
theorem dX5_takesSemicolon_19 : decode cX5_takesSemicolon 19 = .ok (.iconst 0, 1) := by decide +kernel
theorem dX5_takesSemicolon_20 : decode cX5_takesSemicolon 20 = .ok (.invokevirtual 128, 3) := by decide +kernel
theorem dX5_takesSemicolon_23 : decode cX5_takesSemicolon 23 = .ok (.return_, 1) := by decide +kernel
theorem dX5_takes_0 : decode cX5_takes 0 = .ok (.aload_n 0, 1) := by decide +kernel
theorem dX5_takes_1 : decode cX5_takes 1 = .ok (.getfield 45, 3) := by decide +kernel
theorem dX5_takes_4 : decode cX5_takes 4 = .ok (.iconst (-1), 1) := by decide +kernel
theorem dX5_takes_5 : decode cX5_takes 5 = .ok (.if_icmp .eq 4, 3) := by decide +kernel
theorem dX5_takes_8 : decode cX5_takes 8 = .ok (.return_, 1) := by decide +kernel
theorem dX5_takes_9 : decode cX5_takes 9 = .ok (.iload_n 1, 1) := by decide +kernel
theorem dX5_takes_10 : decode cX5_takes 10 = .ok (.ifCond .eq 16, 3) := by decide +kernel
theorem dX5_takes_13 : decode cX5_takes 13 = .ok (.aload_n 0, 1) := by decide +kernel
theorem dX5_takes_14 : decode cX5_takes 14 = .ok (.dup, 1) := by decide +kernel
theorem dX5_takes_15 : decode cX5_takes 15 = .ok (.getfield 39, 3) := by decide +kernel
theorem dX5_takes_18 : decode cX5_takes 18 = .ok (.iconst 1, 1) := by decide +kernel
theorem dX5_takes_19 : decode cX5_takes 19 = .ok (.iadd, 1) := by decide +kernel
theorem dX5_takes_20 : decode cX5_takes 20 = .ok (.putfield 39, 3) := by decide +kernel
theorem dX5_takes_23 : decode cX5_takes 23 = .ok (.goto 16, 3) := by decide +kernel
theorem dX5_takes_26 : decode cX5_takes 26 = .ok (.aload_n 0, 1) := by decide +kernel
theorem dX5_takes_27 : decode cX5_takes 27 = .ok (.aload_n 0, 1) := by decide +kernel
theorem dX5_takes_28 : decode cX5_takes 28 = .ok (.getfield 36, 3) := by decide +kernel
theorem dX5_takes_31 : decode cX5_takes 31 = .ok (.aload_n 0, 1) := by decide +kernel
theorem dX5_takes_32 : decode cX5_takes 32 = .ok (.getfield 39, 3) := by decide +kernel
theorem dX5_takes_35 : decode cX5_takes 35 = .ok (.iaload, 1) := by decide +kernel
theorem dX5_takes_36 : decode cX5_takes 36 = .ok (.putfield 45, 3) := by decide +kernel
theorem dX5_takes_39 : decode cX5_takes 39 = .ok (.return_, 1) := by decide +kernel
theorem dX6_init_0 : decode cX6_init 0 = .ok (.aload_n 0, 1) := by decide +kernel
theorem dX6_init_1 : decode cX6_init 1 = .ok (.invokespecial 1, 3) := by decide +kernel
theorem dX6_init_4 : decode cX6_init 4 = .ok (.aload_n 0, 1) := by decide +kernel
theorem dX6_init_5 : decode cX6_init 5 = .ok (.new 7, 3) := by decide +kernel
theorem dX6_init_8 : decode cX6_init 8 = .ok (.dup, 1) := by decide +kernel
theorem dX6_init_9 : decode cX6_init 9 = .ok (.invokespecial 9, 3) := by decide +kernel
theorem dX6_init_12 : decode cX6_init 12 = .ok (.putfield 10, 3) := by decide +kernel
theorem dX6_init_15 : decode cX6_init 15 = .ok (.aload_n 0, 1) := by decide +kernel
theorem dX6_init_16 : decode cX6_init 16 = .ok (.new 16, 3) := by decide +kernel
theorem dX6_init_19 : decode cX6_init 19 = .ok (.dup, 1) := by decide +kernel
theorem dX6_init_20 : decode cX6_init 20 = .ok (.invokespecial 18, 3) := by decide +kernel
theorem dX6_init_23 : decode cX6_init 23 = .ok (.putfield 19, 3) := by decide +kernel
theorem dX6_init_26 : decode cX6_init 26 = .ok (.aload_n 0, 1) := by decide +kernel
theorem dX6_init_27 : decode cX6_init 27 = .ok (.new 23, 3) := by decide +kernel
theorem dX6_init_30 : decode cX6_init 30 = .ok (.dup, 1) := by decide +kernel
theorem dX6_init_31 : decode cX6_init 31 = .ok (.invokespecial 25, 3) := by decide +kernel
theorem dX6_init_34 : decode cX6_init 34 = .ok (.putfield 26, 3) := by decide +kernel
theorem dX6_init_37 : decode cX6_init 37 = .ok (.aload_n 0, 1) := by decide +kernel
theorem dX6_init_38 : decode cX6_init 38 = .ok (.new 30, 3) := by decide +kernel
theorem dX6_init_41 : decode cX6_init 41 = .ok (.dup, 1) := by decide +kernel
theorem dX6_init_42 : decode cX6_init 42 = .ok (.invokespecial 32, 3) := by decide +kernel
theorem dX6_init_45 : decode cX6_init 45 = .ok (.putfield 33, 3) := by decide +kernel
theorem dX6_init_48 : decode cX6_init 48 = .ok (.aload_n 0, 1) := by decide +kernel
theorem dX6_init_49 : decode cX6_init 49 = .ok (.iconst 2, 1) := by decide +kernel
theorem dX6_init_50 : decode cX6_init 50 = .ok (.anewarray 23, 3) := by decide +kernel
theorem dX6_init_53 : decode cX6_init 53 = .ok (.putfield 37, 3) := by decide +kernel
theorem dX6_init_56 : decode cX6_init 56 = .ok (.aload_n 0, 1) := by decide +kernel
theorem dX6_init_57 : decode cX6_init 57 = .ok (.iconst 2, 1) := by decide +kernel
theorem dX6_init_58 : decode cX6_init 58 = .ok (.newarray .boolean, 2) := by decide +kernel
theorem dX6_init_60 : decode cX6_init 60 = .ok (.putfield 41, 3) := by decide +kernel
theorem dX6_init_63 : decode cX6_init 63 = .ok (.aload_n 0, 1) := by decide +kernel
theorem dX6_init_64 : decode cX6_init 64 = .ok (.new 45, 3) := by decide +kernel
theorem dX6_init_67 : decode cX6_init 67 = .ok (.dup, 1) := by decide +kernel
theorem dX6_init_68 : decode cX6_init 68 = .ok (.invokespecial 47, 3) := by decide +kernel
theorem dX6_init_71 : decode cX6_init 71 = .ok (.putfield 48, 3) := by decide +kernel
theorem dX6_init_74 : decode cX6_init 74 = .ok (.aload_n 0, 1) := by decide +kernel
theorem dX6_init_75 : decode cX6_init 75 = .ok (.new 52, 3) := by decide +kernel
theorem dX6_init_78 : decode cX6_init 78 = .ok (.dup, 1) := by decide +kernel
theorem dX6_init_79 : decode cX6_init 79 = .ok (.invokespecial 54, 3) := by decide +kernel
theorem dX6_init_82 : decode cX6_init 82 = .ok (.putfield 55, 3) := by decide +kernel
theorem dX6_init_85 : decode cX6_init 85 = .ok (.aload_n 0, 1) := by decide +kernel
theorem dX6_init_86 : decode cX6_init 86 = .ok (.bipush 8, 2) := by decide +kernel
theorem dX6_init_88 : decode cX6_init 88 = .ok (.newarray .int, 2) := by decide +kernel
theorem dX6_init_90 : decode cX6_init 90 = .ok (.putfield 59, 3) := by decide +kernel
theorem dX6_init_93 : decode cX6_init 93 = .ok (.aload_n 0, 1) := by decide +kernel
theorem dX6_init_94 : decode cX6_init 94 = .ok (.bipush 100, 2) := by decide +kernel
theorem dX6_init_96 : decode cX6_init 96 = .ok (.newarray .int, 2) := by decide +kernel
theorem dX6_init_98 : decode cX6_init 98 = .ok (.putfield 63, 3) := by decide +kernel
theorem dX6_init_101 : decode cX6_init 101 = .ok (.aload_n 0, 1) := by decide +kernel
theorem dX6_init_102 : decode cX6_init 102 = .ok (.lconst 0, 1) := by decide +kernel
theorem dX6_init_103 : decode cX6_init 103 = .ok (.putfield 66, 3) := by decide +kernel
theorem dX6_init_106 : decode cX6_init 106 = .ok (.iconst 0, 1) := by decide +kernel
theorem dX6_init_107 : decode cX6_init 107 = .ok (.istore_n 1, 1) := by decide +kernel
theorem dX6_init_108 : decode cX6_init 108 = .ok (.iload_n 1, 1) := by decide +kernel
theorem dX6_init_109 : decode cX6_init 109 = .ok (.iconst 2, 1) := by decide +kernel
theorem dX6_init_110 : decode cX6_init 110 = .ok (.if_icmp .ge 22, 3) := by decide +kernel
theorem dX6_init_113 : decode cX6_init 113 = .ok (.aload_n 0, 1) := by decide +kernel
theorem dX6_init_114 : decode cX6_init 114 = .ok (.getfield 37, 3) := by decide +kernel
theorem dX6_init_117 : decode cX6_init 117 = .ok (.iload_n 1, 1) := by decide +kernel
theorem dX6_init_118 : decode cX6_init 118 = .ok (.new 23, 3) := by decide +kernel
theorem dX6_init_121 : decode cX6_init 121 = .ok (.dup, 1) := by decide +kernel
theorem dX6_init_122 : decode cX6_init 122 = .ok (.invokespecial 25, 3) := by decide +kernel
theorem dX6_init_125 : decode cX6_init 125 = .ok (.aastore, 1) := by decide +kernel
theorem dX6_init_126 : decode cX6_init 126 = .ok (.iinc 1 1, 3) := by decide +kernel
theorem dX6_init_129 : decode cX6_init 129 = .ok (.goto (-21), 3) := by decide +kernel
theorem dX6_init_132 : decode cX6_init 132 = .ok (.return_, 1) := by decide +kernel
theorem dX6_type_0 : decode cX6_type 0 = .ok (.iload_n 1, 1) := by decide +kernel
theorem dX6_type_1 : decode cX6_type 1 = .ok (.iconst 0, 1) := by decide +kernel
theorem dX6_type_2 : decode cX6_type 2 = .ok (.sipush 255, 3) := by decide +kernel
theorem dX6_type_5 : decode cX6_type 5 = .ok (.invokestatic 70, 3) := by decide +kernel
theorem dX6_type_8 : decode cX6_type 8 = .ok (.ifCond .ne 5, 3) := by decide +kernel
theorem dX6_type_11 : decode cX6_type 11 = .ok (.iconst (-1), 1) := by decide +kernel
theorem dX6_type_12 : decode cX6_type 12 = .ok (.ireturn, 1) := by decide +kernel
theorem dX6_type_13 : decode cX6_type 13 = .ok (.aload_n 0, 1) := by decide +kernel
theorem dX6_type_14 : decode cX6_type 14 = .ok (.getfield 10, 3) := by decide +kernel
theorem dX6_type_17 : decode cX6_type 17 = .ok (.getfield 74, 3) := by decide +kernel
theorem dX6_type_20 : decode cX6_type 20 = .ok (.sipush 200, 3) := by decide +kernel
theorem dX6_type_23 : decode cX6_type 23 = .ok (.if_icmp .lt 6, 3) := by decide +kernel
theorem dX6_type_26 : decode cX6_type 26 = .ok (.bipush (-3), 2) := by decide +kernel
theorem dX6_type_28 : decode cX6_type 28 = .ok (.ireturn, 1) := by decide +kernel
theorem dX6_type_29 : decode cX6_type 29 = .ok (.aload_n 0, 1) := by decide +kernel
theorem dX6_type_30 : decode cX6_type 30 = .ok (.getfield 10, 3) := by decide +kernel
theorem dX6_type_33 : decode cX6_type 33 = .ok (.iload_n 1, 1) := by decide +kernel
theorem dX6_type_34 : decode cX6_type 34 = .ok (.invokevirtual 78, 3) := by decide +kernel
theorem dX6_type_37 : decode cX6_type 37 = .ok (.aload_n 0, 1) := by decide +kernel
theorem dX6_type_38 : decode cX6_type 38 = .ok (.getfield 10, 3) := by decide +kernel
theorem dX6_type_41 : decode cX6_type 41 = .ok (.getfield 74, 3) := by decide +kernel
theorem dX6_type_44 : decode cX6_type 44 = .ok (.ireturn, 1) := by decide +kernel
theorem dX6_clear_0 : decode cX6_clear 0 = .ok (.aload_n 0, 1) := by decide +kernel
theorem dX6_clear_1 : decode cX6_clear 1 = .ok (.getfield 10, 3) := by decide +kernel
theorem dX6_clear_4 : decode cX6_clear 4 = .ok (.getfield 74, 3) := by decide +kernel
theorem dX6_clear_7 : decode cX6_clear 7 = .ok (.istore_n 1, 1) := by decide +kernel
theorem dX6_clear_8 : decode cX6_clear 8 = .ok (.aload_n 0, 1) := by decide +kernel
theorem dX6_clear_9 : decode cX6_clear 9 = .ok (.getfield 10, 3) := by decide +kernel
theorem dX6_clear_12 : decode cX6_clear 12 = .ok (.iconst 0, 1) := by decide +kernel
theorem dX6_clear_13 : decode cX6_clear 13 = .ok (.putfield 74, 3) := by decide +kernel
theorem dX6_clear_16 : decode cX6_clear 16 = .ok (.iload_n 1, 1) := by decide +kernel
theorem dX6_clear_17 : decode cX6_clear 17 = .ok (.ireturn, 1) := by decide +kernel
theorem dX6_land_0 : decode cX6_land 0 = .ok (.aload_n 0, 1) := by decide +kernel
theorem dX6_land_1 : decode cX6_land 1 = .ok (.getfield 10, 3) := by decide +kernel
theorem dX6_land_4 : decode cX6_land 4 = .ok (.invokevirtual 82, 3) := by decide +kernel
theorem dX6_land_7 : decode cX6_land 7 = .ok (.istore_n 1, 1) := by decide +kernel
theorem dX6_land_8 : decode cX6_land 8 = .ok (.iload_n 1, 1) := by decide +kernel
theorem dX6_land_9 : decode cX6_land 9 = .ok (.ifCond .ge 5, 3) := by decide +kernel
theorem dX6_land_12 : decode cX6_land 12 = .ok (.iload_n 1, 1) := by decide +kernel
theorem dX6_land_13 : decode cX6_land 13 = .ok (.ireturn, 1) := by decide +kernel
theorem dX6_land_14 : decode cX6_land 14 = .ok (.aload_n 0, 1) := by decide +kernel
theorem dX6_land_15 : decode cX6_land 15 = .ok (.getfield 19, 3) := by decide +kernel
theorem dX6_land_18 : decode cX6_land 18 = .ok (.aload_n 0, 1) := by decide +kernel
theorem dX6_land_19 : decode cX6_land 19 = .ok (.getfield 10, 3) := by decide +kernel
theorem dX6_land_22 : decode cX6_land 22 = .ok (.getfield 86, 3) := by decide +kernel
theorem dX6_land_25 : decode cX6_land 25 = .ok (.invokevirtual 89, 3) := by decide +kernel
theorem dX6_land_28 : decode cX6_land 28 = .ok (.aload_n 0, 1) := by decide +kernel
theorem dX6_land_29 : decode cX6_land 29 = .ok (.getfield 26, 3) := by decide +kernel
theorem dX6_land_32 : decode cX6_land 32 = .ok (.aload_n 0, 1) := by decide +kernel
theorem dX6_land_33 : decode cX6_land 33 = .ok (.getfield 10, 3) := by decide +kernel
theorem dX6_land_36 : decode cX6_land 36 = .ok (.getfield 93, 3) := by decide +kernel
theorem dX6_land_39 : decode cX6_land 39 = .ok (.invokevirtual 96, 3) := by decide +kernel
theorem dX6_land_42 : decode cX6_land 42 = .ok (.aload_n 0, 1) := by decide +kernel
theorem dX6_land_43 : decode cX6_land 43 = .ok (.getfield 10, 3) := by decide +kernel
theorem dX6_land_46 : decode cX6_land 46 = .ok (.iconst 0, 1) := by decide +kernel
theorem dX6_land_47 : decode cX6_land 47 = .ok (.putfield 74, 3) := by decide +kernel
theorem dX6_land_50 : decode cX6_land 50 = .ok (.aload_n 0, 1) := by decide +kernel
theorem dX6_land_51 : decode cX6_land 51 = .ok (.getfield 33, 3) := by decide +kernel
theorem dX6_land_54 : decode cX6_land 54 = .ok (.iconst 0, 1) := by decide +kernel
theorem dX6_land_55 : decode cX6_land 55 = .ok (.putfield 99, 3) := by decide +kernel
theorem dX6_land_58 : decode cX6_land 58 = .ok (.aload_n 0, 1) := by decide +kernel
theorem dX6_land_59 : decode cX6_land 59 = .ok (.getfield 48, 3) := by decide +kernel
theorem dX6_land_62 : decode cX6_land 62 = .ok (.iconst 0, 1) := by decide +kernel
theorem dX6_land_63 : decode cX6_land 63 = .ok (.putfield 102, 3) := by decide +kernel
theorem dX6_land_66 : decode cX6_land 66 = .ok (.aload_n 0, 1) := by decide +kernel
theorem dX6_land_67 : decode cX6_land 67 = .ok (.getfield 55, 3) := by decide +kernel
theorem dX6_land_70 : decode cX6_land 70 = .ok (.iconst 0, 1) := by decide +kernel
theorem dX6_land_71 : decode cX6_land 71 = .ok (.putfield 105, 3) := by decide +kernel
theorem dX6_land_74 : decode cX6_land 74 = .ok (.iconst 0, 1) := by decide +kernel
theorem dX6_land_75 : decode cX6_land 75 = .ok (.istore_n 2, 1) := by decide +kernel
theorem dX6_land_76 : decode cX6_land 76 = .ok (.iload_n 2, 1) := by decide +kernel
theorem dX6_land_77 : decode cX6_land 77 = .ok (.iconst 2, 1) := by decide +kernel
theorem dX6_land_78 : decode cX6_land 78 = .ok (.if_icmp .ge 16, 3) := by decide +kernel
theorem dX6_land_81 : decode cX6_land 81 = .ok (.aload_n 0, 1) := by decide +kernel
theorem dX6_land_82 : decode cX6_land 82 = .ok (.getfield 41, 3) := by decide +kernel
theorem dX6_land_85 : decode cX6_land 85 = .ok (.iload_n 2, 1) := by decide +kernel
theorem dX6_land_86 : decode cX6_land 86 = .ok (.iconst 0, 1) := by decide +kernel
theorem dX6_land_87 : decode cX6_land 87 = .ok (.bastore, 1) := by decide +kernel
theorem dX6_land_88 : decode cX6_land 88 = .ok (.iinc 2 1, 3) := by decide +kernel
theorem dX6_land_91 : decode cX6_land 91 = .ok (.goto (-15), 3) := by decide +kernel
theorem dX6_land_94 : decode cX6_land 94 = .ok (.iload_n 1, 1) := by decide +kernel
theorem dX6_land_95 : decode cX6_land 95 = .ok (.ireturn, 1) := by decide +kernel
theorem dX6_scale_0 : decode cX6_scale 0 = .ok (.aload_n 0, 1) := by decide +kernel
theorem dX6_scale_1 : decode cX6_scale 1 = .ok (.getfield 19, 3) := by decide +kernel
theorem dX6_scale_4 : decode cX6_scale 4 = .ok (.iload_n 1, 1) := by decide +kernel
theorem dX6_scale_5 : decode cX6_scale 5 = .ok (.invokevirtual 106, 3) := by decide +kernel
theorem dX6_scale_8 : decode cX6_scale 8 = .ok (.ifCond .eq 12, 3) := by decide +kernel
theorem dX6_scale_11 : decode cX6_scale 11 = .ok (.iload_n 2, 1) := by decide +kernel
theorem dX6_scale_12 : decode cX6_scale 12 = .ok (.iconst 0, 1) := by decide +kernel
theorem dX6_scale_13 : decode cX6_scale 13 = .ok (.iconst 2, 1) := by decide +kernel
theorem dX6_scale_14 : decode cX6_scale 14 = .ok (.invokestatic 70, 3) := by decide +kernel
theorem dX6_scale_17 : decode cX6_scale 17 = .ok (.ifCond .ne 5, 3) := by decide +kernel
theorem dX6_scale_20 : decode cX6_scale 20 = .ok (.iconst (-1), 1) := by decide +kernel
theorem dX6_scale_21 : decode cX6_scale 21 = .ok (.ireturn, 1) := by decide +kernel
theorem dX6_scale_22 : decode cX6_scale 22 = .ok (.iload_n 2, 1) := by decide +kernel
theorem dX6_scale_23 : decode cX6_scale 23 = .ok (.ifCond .ne 13, 3) := by decide +kernel
theorem dX6_scale_26 : decode cX6_scale 26 = .ok (.aload_n 0, 1) := by decide +kernel
theorem dX6_scale_27 : decode cX6_scale 27 = .ok (.getfield 26, 3) := by decide +kernel
theorem dX6_scale_30 : decode cX6_scale 30 = .ok (.getfield 110, 3) := by decide +kernel
theorem dX6_scale_33 : decode cX6_scale 33 = .ok (.iload_n 1, 1) := by decide +kernel
theorem dX6_scale_34 : decode cX6_scale 34 = .ok (.iaload, 1) := by decide +kernel
theorem dX6_scale_35 : decode cX6_scale 35 = .ok (.ireturn, 1) := by decide +kernel
theorem dX6_scale_36 : decode cX6_scale 36 = .ok (.iload_n 2, 1) := by decide +kernel
theorem dX6_scale_37 : decode cX6_scale 37 = .ok (.iconst 1, 1) := by decide +kernel
theorem dX6_scale_38 : decode cX6_scale 38 = .ok (.if_icmp .ne 15, 3) := by decide +kernel
theorem dX6_scale_41 : decode cX6_scale 41 = .ok (.aload_n 0, 1) := by decide +kernel
theorem dX6_scale_42 : decode cX6_scale 42 = .ok (.getfield 19, 3) := by decide +kernel
theorem dX6_scale_45 : decode cX6_scale 45 = .ok (.getfield 113, 3) := by decide +kernel
theorem dX6_scale_48 : decode cX6_scale 48 = .ok (.iload_n 1, 1) := by decide +kernel
theorem dX6_scale_49 : decode cX6_scale 49 = .ok (.iaload, 1) := by decide +kernel
theorem dX6_scale_50 : decode cX6_scale 50 = .ok (.goto 12, 3) := by decide +kernel
theorem dX6_scale_53 : decode cX6_scale 53 = .ok (.aload_n 0, 1) := by decide +kernel
theorem dX6_scale_54 : decode cX6_scale 54 = .ok (.getfield 26, 3) := by decide +kernel
theorem dX6_scale_57 : decode cX6_scale 57 = .ok (.getfield 116, 3) := by decide +kernel
theorem dX6_scale_60 : decode cX6_scale 60 = .ok (.iload_n 1, 1) := by decide +kernel
theorem dX6_scale_61 : decode cX6_scale 61 = .ok (.iaload, 1) := by decide +kernel
theorem dX6_scale_62 : decode cX6_scale 62 = .ok (.ireturn, 1) := by decide +kernel
theorem dX6_life_0 : decode cX6_life 0 = .ok (.aload_n 0, 1) := by decide +kernel
theorem dX6_life_1 : decode cX6_life 1 = .ok (.getfield 19, 3) := by decide +kernel
theorem dX6_life_4 : decode cX6_life 4 = .ok (.iload_n 1, 1) := by decide +kernel
theorem dX6_life_5 : decode cX6_life 5 = .ok (.invokevirtual 119, 3) := by decide +kernel
theorem dX6_life_8 : decode cX6_life 8 = .ok (.ifCond .eq 23, 3) := by decide +kernel
theorem dX6_life_11 : decode cX6_life 11 = .ok (.aload_n 0, 1) := by decide +kernel
theorem dX6_life_12 : decode cX6_life 12 = .ok (.getfield 19, 3) := by decide +kernel
theorem dX6_life_15 : decode cX6_life 15 = .ok (.iload_n 2, 1) := by decide +kernel
theorem dX6_life_16 : decode cX6_life 16 = .ok (.invokevirtual 106, 3) := by decide +kernel
theorem dX6_life_19 : decode cX6_life 19 = .ok (.ifCond .eq 12, 3) := by decide +kernel
theorem dX6_life_22 : decode cX6_life 22 = .ok (.iload_n 3, 1) := by decide +kernel
theorem dX6_life_23 : decode cX6_life 23 = .ok (.iconst 0, 1) := by decide +kernel
theorem dX6_life_24 : decode cX6_life 24 = .ok (.iconst 2, 1) := by decide +kernel
theorem dX6_life_25 : decode cX6_life 25 = .ok (.invokestatic 70, 3) := by decide +kernel
theorem dX6_life_28 : decode cX6_life 28 = .ok (.ifCond .ne 5, 3) := by decide +kernel
theorem dX6_life_31 : decode cX6_life 31 = .ok (.iconst (-1), 1) := by decide +kernel
theorem dX6_life_32 : decode cX6_life 32 = .ok (.ireturn, 1) := by decide +kernel
theorem dX6_life_33 : decode cX6_life 33 = .ok (.iload_n 3, 1) := by decide +kernel
theorem dX6_life_34 : decode cX6_life 34 = .ok (.ifCond .ne 17, 3) := by decide +kernel
theorem dX6_life_37 : decode cX6_life 37 = .ok (.aload_n 0, 1) := by decide +kernel
theorem dX6_life_38 : decode cX6_life 38 = .ok (.getfield 26, 3) := by decide +kernel
theorem dX6_life_41 : decode cX6_life 41 = .ok (.getfield 122, 3) := by decide +kernel
theorem dX6_life_44 : decode cX6_life 44 = .ok (.iload_n 1, 1) := by decide +kernel
theorem dX6_life_45 : decode cX6_life 45 = .ok (.iload_n 2, 1) := by decide +kernel
theorem dX6_life_46 : decode cX6_life 46 = .ok (.invokestatic 125, 3) := by decide +kernel
theorem dX6_life_49 : decode cX6_life 49 = .ok (.iaload, 1) := by decide +kernel
theorem dX6_life_50 : decode cX6_life 50 = .ok (.ireturn, 1) := by decide +kernel
theorem dX6_life_51 : decode cX6_life 51 = .ok (.iload_n 3, 1) := by decide +kernel
theorem dX6_life_52 : decode cX6_life 52 = .ok (.iconst 1, 1) := by decide +kernel
theorem dX6_life_53 : decode cX6_life 53 = .ok (.if_icmp .ne 21, 3) := by decide +kernel
theorem dX6_life_56 : decode cX6_life 56 = .ok (.aload_n 0, 1) := by decide +kernel
theorem dX6_life_57 : decode cX6_life 57 = .ok (.getfield 19, 3) := by decide +kernel
theorem dX6_life_60 : decode cX6_life 60 = .ok (.getfield 129, 3) := by decide +kernel
theorem dX6_life_63 : decode cX6_life 63 = .ok (.iload_n 1, 1) := by decide +kernel
theorem dX6_life_64 : decode cX6_life 64 = .ok (.iload_n 2, 1) := by decide +kernel
theorem dX6_life_65 : decode cX6_life 65 = .ok (.invokestatic 125, 3) := by decide +kernel
theorem dX6_life_68 : decode cX6_life 68 = .ok (.iaload, 1) := by decide +kernel
theorem dX6_life_69 : decode cX6_life 69 = .ok (.iconst 3, 1) := by decide +kernel
theorem dX6_life_70 : decode cX6_life 70 = .ok (.iadd, 1) := by decide +kernel
theorem dX6_life_71 : decode cX6_life 71 = .ok (.goto 10, 3) := by decide +kernel
theorem dX6_life_74 : decode cX6_life 74 = .ok (.aload_n 0, 1) := by decide +kernel
theorem dX6_life_75 : decode cX6_life 75 = .ok (.iconst 0, 1) := by decide +kernel
theorem dX6_life_76 : decode cX6_life 76 = .ok (.iload_n 1, 1) := by decide +kernel
theorem dX6_life_77 : decode cX6_life 77 = .ok (.iload_n 2, 1) := by decide +kernel
theorem dX6_life_78 : decode cX6_life 78 = .ok (.invokevirtual 132, 3) := by decide +kernel
theorem dX6_life_81 : decode cX6_life 81 = .ok (.ireturn, 1) := by decide +kernel
theorem dX6_end_0 : decode cX6_end 0 = .ok (.aload_n 0, 1) := by decide +kernel
theorem dX6_end_1 : decode cX6_end 1 = .ok (.getfield 19, 3) := by decide +kernel
theorem dX6_end_4 : decode cX6_end 4 = .ok (.iload_n 1, 1) := by decide +kernel
theorem dX6_end_5 : decode cX6_end 5 = .ok (.invokevirtual 106, 3) := by decide +kernel
theorem dX6_end_8 : decode cX6_end 8 = .ok (.ifCond .eq 20, 3) := by decide +kernel
theorem dX6_end_11 : decode cX6_end 11 = .ok (.iload_n 2, 1) := by decide +kernel
theorem dX6_end_12 : decode cX6_end 12 = .ok (.iconst 0, 1) := by decide +kernel
theorem dX6_end_13 : decode cX6_end 13 = .ok (.aload_n 0, 1) := by decide +kernel
theorem dX6_end_14 : decode cX6_end 14 = .ok (.getfield 19, 3) := by decide +kernel
theorem dX6_end_17 : decode cX6_end 17 = .ok (.getfield 113, 3) := by decide +kernel
theorem dX6_end_20 : decode cX6_end 20 = .ok (.iload_n 1, 1) := by decide +kernel
theorem dX6_end_21 : decode cX6_end 21 = .ok (.iaload, 1) := by decide +kernel
theorem dX6_end_22 : decode cX6_end 22 = .ok (.invokestatic 70, 3) := by decide +kernel
theorem dX6_end_25 : decode cX6_end 25 = .ok (.ifCond .ne 5, 3) := by decide +kernel
theorem dX6_end_28 : decode cX6_end 28 = .ok (.iconst (-1), 1) := by decide +kernel
theorem dX6_end_29 : decode cX6_end 29 = .ok (.ireturn, 1) := by decide +kernel
theorem dX6_end_30 : decode cX6_end 30 = .ok (.aload_n 0, 1) := by decide +kernel
theorem dX6_end_31 : decode cX6_end 31 = .ok (.iload_n 1, 1) := by decide +kernel
theorem dX6_end_32 : decode cX6_end 32 = .ok (.iload_n 2, 1) := by decide +kernel
theorem dX6_end_33 : decode cX6_end 33 = .ok (.invokevirtual 136, 3) := by decide +kernel
theorem dX6_end_36 : decode cX6_end 36 = .ok (.ireturn, 1) := by decide +kernel
theorem dX6_place_0 : decode cX6_place 0 = .ok (.aload_n 0, 1) := by decide +kernel
theorem dX6_place_1 : decode cX6_place 1 = .ok (.getfield 19, 3) := by decide +kernel
theorem dX6_place_4 : decode cX6_place 4 = .ok (.iload_n 1, 1) := by decide +kernel
theorem dX6_place_5 : decode cX6_place 5 = .ok (.invokevirtual 139, 3) := by decide +kernel
theorem dX6_place_8 : decode cX6_place 8 = .ok (.ifCond .eq 15, 3) := by decide +kernel
theorem dX6_place_11 : decode cX6_place 11 = .ok (.aload_n 0, 1) := by decide +kernel
theorem dX6_place_12 : decode cX6_place 12 = .ok (.getfield 19, 3) := by decide +kernel
theorem dX6_place_15 : decode cX6_place 15 = .ok (.getfield 142, 3) := by decide +kernel
theorem dX6_place_18 : decode cX6_place 18 = .ok (.iload_n 1, 1) := by decide +kernel
theorem dX6_place_19 : decode cX6_place 19 = .ok (.iaload, 1) := by decide +kernel
theorem dX6_place_20 : decode cX6_place 20 = .ok (.goto 4, 3) := by decide +kernel
theorem dX6_place_23 : decode cX6_place 23 = .ok (.iconst (-1), 1) := by decide +kernel
theorem dX6_place_24 : decode cX6_place 24 = .ok (.ireturn, 1) := by decide +kernel
theorem dX6_passes_0 : decode cX6_passes 0 = .ok (.iload_n 1, 1) := by decide +kernel
theorem dX6_passes_1 : decode cX6_passes 1 = .ok (.iconst 1, 1) := by decide +kernel
theorem dX6_passes_2 : decode cX6_passes 2 = .ok (.bipush 30, 2) := by decide +kernel
theorem dX6_passes_4 : decode cX6_passes 4 = .ok (.invokestatic 70, 3) := by decide +kernel
theorem dX6_passes_7 : decode cX6_passes 7 = .ok (.ifCond .ne 5, 3) := by decide +kernel
theorem dX6_passes_10 : decode cX6_passes 10 = .ok (.iconst (-1), 1) := by decide +kernel
theorem dX6_passes_11 : decode cX6_passes 11 = .ok (.ireturn, 1) := by decide +kernel
theorem dX6_passes_12 : decode cX6_passes 12 = .ok (.aload_n 0, 1) := by decide +kernel
theorem dX6_passes_13 : decode cX6_passes 13 = .ok (.getfield 26, 3) := by decide +kernel
theorem dX6_passes_16 : decode cX6_passes 16 = .ok (.getfield 145, 3) := by decide +kernel
theorem dX6_passes_19 : decode cX6_passes 19 = .ok (.iload_n 1, 1) := by decide +kernel
theorem dX6_passes_20 : decode cX6_passes 20 = .ok (.iadd, 1) := by decide +kernel
theorem dX6_passes_21 : decode cX6_passes 21 = .ok (.bipush 99, 2) := by decide +kernel
theorem dX6_passes_23 : decode cX6_passes 23 = .ok (.if_icmp .le 6, 3) := by decide +kernel
theorem dX6_passes_26 : decode cX6_passes 26 = .ok (.bipush (-2), 2) := by decide +kernel
theorem dX6_passes_28 : decode cX6_passes 28 = .ok (.ireturn, 1) := by decide +kernel
theorem dX6_passes_29 : decode cX6_passes 29 = .ok (.aload_n 0, 1) := by decide +kernel
theorem dX6_passes_30 : decode cX6_passes 30 = .ok (.getfield 33, 3) := by decide +kernel
theorem dX6_passes_33 : decode cX6_passes 33 = .ok (.aload_n 0, 1) := by decide +kernel
theorem dX6_passes_34 : decode cX6_passes 34 = .ok (.getfield 26, 3) := by decide +kernel
theorem dX6_passes_37 : decode cX6_passes 37 = .ok (.invokevirtual 148, 3) := by decide +kernel
theorem dX6_passes_40 : decode cX6_passes 40 = .ok (.iconst 0, 1) := by decide +kernel
theorem dX6_passes_41 : decode cX6_passes 41 = .ok (.istore_n 2, 1) := by decide +kernel
theorem dX6_passes_42 : decode cX6_passes 42 = .ok (.iload_n 2, 1) := by decide +kernel
theorem dX6_passes_43 : decode cX6_passes 43 = .ok (.iload_n 1, 1) := by decide +kernel
theorem dX6_passes_44 : decode cX6_passes 44 = .ok (.if_icmp .ge 13, 3) := by decide +kernel
theorem dX6_passes_47 : decode cX6_passes 47 = .ok (.aload_n 0, 1) := by decide +kernel
theorem dX6_passes_48 : decode cX6_passes 48 = .ok (.invokevirtual 151, 3) := by decide +kernel
theorem dX6_passes_51 : decode cX6_passes 51 = .ok (.iinc 2 1, 3) := by decide +kernel
theorem dX6_passes_54 : decode cX6_passes 54 = .ok (.goto (-12), 3) := by decide +kernel
theorem dX6_passes_57 : decode cX6_passes 57 = .ok (.aload_n 0, 1) := by decide +kernel
theorem dX6_passes_58 : decode cX6_passes 58 = .ok (.getfield 26, 3) := by decide +kernel
theorem dX6_passes_61 : decode cX6_passes 61 = .ok (.getfield 145, 3) := by decide +kernel
theorem dX6_passes_64 : decode cX6_passes 64 = .ok (.ireturn, 1) := by decide +kernel
theorem dX6_changes_0 : decode cX6_changes 0 = .ok (.aload_n 0, 1) := by decide +kernel
theorem dX6_changes_1 : decode cX6_changes 1 = .ok (.getfield 19, 3) := by decide +kernel
theorem dX6_changes_4 : decode cX6_changes 4 = .ok (.iload_n 1, 1) := by decide +kernel
theorem dX6_changes_5 : decode cX6_changes 5 = .ok (.invokevirtual 119, 3) := by decide +kernel
theorem dX6_changes_8 : decode cX6_changes 8 = .ok (.ifCond .eq 25, 3) := by decide +kernel
theorem dX6_changes_11 : decode cX6_changes 11 = .ok (.aload_n 0, 1) := by decide +kernel
theorem dX6_changes_12 : decode cX6_changes 12 = .ok (.getfield 19, 3) := by decide +kernel
theorem dX6_changes_15 : decode cX6_changes 15 = .ok (.iload_n 2, 1) := by decide +kernel
theorem dX6_changes_16 : decode cX6_changes 16 = .ok (.invokevirtual 106, 3) := by decide +kernel
theorem dX6_changes_19 : decode cX6_changes 19 = .ok (.ifCond .eq 14, 3) := by decide +kernel
theorem dX6_changes_22 : decode cX6_changes 22 = .ok (.iload_n 3, 1) := by decide +kernel
theorem dX6_changes_23 : decode cX6_changes 23 = .ok (.bipush (-9), 2) := by decide +kernel
theorem dX6_changes_25 : decode cX6_changes 25 = .ok (.bipush 9, 2) := by decide +kernel
theorem dX6_changes_27 : decode cX6_changes 27 = .ok (.invokestatic 70, 3) := by decide +kernel
theorem dX6_changes_30 : decode cX6_changes 30 = .ok (.ifCond .ne 5, 3) := by decide +kernel
theorem dX6_changes_33 : decode cX6_changes 33 = .ok (.iconst (-1), 1) := by decide +kernel
theorem dX6_changes_34 : decode cX6_changes 34 = .ok (.ireturn, 1) := by decide +kernel
theorem dX6_changes_35 : decode cX6_changes 35 = .ok (.aload_n 0, 1) := by decide +kernel
theorem dX6_changes_36 : decode cX6_changes 36 = .ok (.getfield 33, 3) := by decide +kernel
theorem dX6_changes_39 : decode cX6_changes 39 = .ok (.aload_n 0, 1) := by decide +kernel
theorem dX6_changes_40 : decode cX6_changes 40 = .ok (.getfield 26, 3) := by decide +kernel
theorem dX6_changes_43 : decode cX6_changes 43 = .ok (.invokevirtual 148, 3) := by decide +kernel
theorem dX6_changes_46 : decode cX6_changes 46 = .ok (.iload_n 1, 1) := by decide +kernel
theorem dX6_changes_47 : decode cX6_changes 47 = .ok (.iload_n 2, 1) := by decide +kernel
theorem dX6_changes_48 : decode cX6_changes 48 = .ok (.invokestatic 125, 3) := by decide +kernel
theorem dX6_changes_51 : decode cX6_changes 51 = .ok (.istore 4, 2) := by decide +kernel
theorem dX6_changes_53 : decode cX6_changes 53 = .ok (.aload_n 0, 1) := by decide +kernel
theorem dX6_changes_54 : decode cX6_changes 54 = .ok (.getfield 26, 3) := by decide +kernel
theorem dX6_changes_57 : decode cX6_changes 57 = .ok (.getfield 122, 3) := by decide +kernel
theorem dX6_changes_60 : decode cX6_changes 60 = .ok (.iload 4, 2) := by decide +kernel
theorem dX6_changes_62 : decode cX6_changes 62 = .ok (.aload_n 0, 1) := by decide +kernel
theorem dX6_changes_63 : decode cX6_changes 63 = .ok (.getfield 26, 3) := by decide +kernel
theorem dX6_changes_66 : decode cX6_changes 66 = .ok (.getfield 122, 3) := by decide +kernel
theorem dX6_changes_69 : decode cX6_changes 69 = .ok (.iload 4, 2) := by decide +kernel
theorem dX6_changes_71 : decode cX6_changes 71 = .ok (.iaload, 1) := by decide +kernel
theorem dX6_changes_72 : decode cX6_changes 72 = .ok (.iload_n 3, 1) := by decide +kernel
theorem dX6_changes_73 : decode cX6_changes 73 = .ok (.aload_n 0, 1) := by decide +kernel
theorem dX6_changes_74 : decode cX6_changes 74 = .ok (.getfield 19, 3) := by decide +kernel
theorem dX6_changes_77 : decode cX6_changes 77 = .ok (.getfield 113, 3) := by decide +kernel
theorem dX6_changes_80 : decode cX6_changes 80 = .ok (.iload_n 2, 1) := by decide +kernel
theorem dX6_changes_81 : decode cX6_changes 81 = .ok (.iaload, 1) := by decide +kernel
theorem dX6_changes_82 : decode cX6_changes 82 = .ok (.invokestatic 154, 3) := by decide +kernel
theorem dX6_changes_85 : decode cX6_changes 85 = .ok (.iastore, 1) := by decide +kernel
theorem dX6_changes_86 : decode cX6_changes 86 = .ok (.aload_n 0, 1) := by decide +kernel
theorem dX6_changes_87 : decode cX6_changes 87 = .ok (.getfield 26, 3) := by decide +kernel
theorem dX6_changes_90 : decode cX6_changes 90 = .ok (.getfield 122, 3) := by decide +kernel
theorem dX6_changes_93 : decode cX6_changes 93 = .ok (.iload 4, 2) := by decide +kernel
theorem dX6_changes_95 : decode cX6_changes 95 = .ok (.iaload, 1) := by decide +kernel
theorem dX6_changes_96 : decode cX6_changes 96 = .ok (.ireturn, 1) := by decide +kernel
theorem dX6_law_0 : decode cX6_law 0 = .ok (.aload_n 0, 1) := by decide +kernel
theorem dX6_law_1 : decode cX6_law 1 = .ok (.iload_n 1, 1) := by decide +kernel
theorem dX6_law_2 : decode cX6_law 2 = .ok (.iload_n 2, 1) := by decide +kernel
theorem dX6_law_3 : decode cX6_law 3 = .ok (.iload_n 3, 1) := by decide +kernel
theorem dX6_law_4 : decode cX6_law 4 = .ok (.invokevirtual 157, 3) := by decide +kernel
theorem dX6_law_7 : decode cX6_law 7 = .ok (.ifCond .ne 5, 3) := by decide +kernel
theorem dX6_law_10 : decode cX6_law 10 = .ok (.iconst (-1), 1) := by decide +kernel
theorem dX6_law_11 : decode cX6_law 11 = .ok (.ireturn, 1) := by decide +kernel
theorem dX6_law_12 : decode cX6_law 12 = .ok (.aload_n 0, 1) := by decide +kernel
theorem dX6_law_13 : decode cX6_law 13 = .ok (.getfield 33, 3) := by decide +kernel
theorem dX6_law_16 : decode cX6_law 16 = .ok (.aload_n 0, 1) := by decide +kernel
theorem dX6_law_17 : decode cX6_law 17 = .ok (.getfield 26, 3) := by decide +kernel
theorem dX6_law_20 : decode cX6_law 20 = .ok (.invokevirtual 148, 3) := by decide +kernel
theorem dX6_law_23 : decode cX6_law 23 = .ok (.aload_n 0, 1) := by decide +kernel
theorem dX6_law_24 : decode cX6_law 24 = .ok (.getfield 26, 3) := by decide +kernel
theorem dX6_law_27 : decode cX6_law 27 = .ok (.getfield 110, 3) := by decide +kernel
theorem dX6_law_30 : decode cX6_law 30 = .ok (.iload_n 1, 1) := by decide +kernel
theorem dX6_law_31 : decode cX6_law 31 = .ok (.iload_n 2, 1) := by decide +kernel
theorem dX6_law_32 : decode cX6_law 32 = .ok (.iastore, 1) := by decide +kernel
theorem dX6_law_33 : decode cX6_law 33 = .ok (.aload_n 0, 1) := by decide +kernel
theorem dX6_law_34 : decode cX6_law 34 = .ok (.getfield 26, 3) := by decide +kernel
theorem dX6_law_37 : decode cX6_law 37 = .ok (.getfield 116, 3) := by decide +kernel
theorem dX6_law_40 : decode cX6_law 40 = .ok (.iload_n 1, 1) := by decide +kernel
theorem dX6_law_41 : decode cX6_law 41 = .ok (.iload_n 3, 1) := by decide +kernel
theorem dX6_law_42 : decode cX6_law 42 = .ok (.iastore, 1) := by decide +kernel
theorem dX6_law_43 : decode cX6_law 43 = .ok (.aload_n 0, 1) := by decide +kernel
theorem dX6_law_44 : decode cX6_law 44 = .ok (.invokevirtual 160, 3) := by decide +kernel
theorem dX6_law_47 : decode cX6_law 47 = .ok (.invokestatic 163, 3) := by decide +kernel
theorem dX6_law_50 : decode cX6_law 50 = .ok (.ireturn, 1) := by decide +kernel
theorem dX6_undo_0 : decode cX6_undo 0 = .ok (.aload_n 0, 1) := by decide +kernel
theorem dX6_undo_1 : decode cX6_undo 1 = .ok (.getfield 33, 3) := by decide +kernel
theorem dX6_undo_4 : decode cX6_undo 4 = .ok (.getfield 99, 3) := by decide +kernel
theorem dX6_undo_7 : decode cX6_undo 7 = .ok (.ifCond .ne 6, 3) := by decide +kernel
theorem dX6_undo_10 : decode cX6_undo 10 = .ok (.bipush (-2), 2) := by decide +kernel
theorem dX6_undo_12 : decode cX6_undo 12 = .ok (.ireturn, 1) := by decide +kernel
theorem dX6_undo_13 : decode cX6_undo 13 = .ok (.aload_n 0, 1) := by decide +kernel
theorem dX6_undo_14 : decode cX6_undo 14 = .ok (.getfield 33, 3) := by decide +kernel
theorem dX6_undo_17 : decode cX6_undo 17 = .ok (.aload_n 0, 1) := by decide +kernel
theorem dX6_undo_18 : decode cX6_undo 18 = .ok (.getfield 26, 3) := by decide +kernel
theorem dX6_undo_21 : decode cX6_undo 21 = .ok (.invokevirtual 169, 3) := by decide +kernel
theorem dX6_undo_24 : decode cX6_undo 24 = .ok (.aload_n 0, 1) := by decide +kernel
theorem dX6_undo_25 : decode cX6_undo 25 = .ok (.getfield 33, 3) := by decide +kernel
theorem dX6_undo_28 : decode cX6_undo 28 = .ok (.getfield 99, 3) := by decide +kernel
theorem dX6_undo_31 : decode cX6_undo 31 = .ok (.ireturn, 1) := by decide +kernel
theorem dX6_now_0 : decode cX6_now 0 = .ok (.iload_n 1, 1) := by decide +kernel
theorem dX6_now_1 : decode cX6_now 1 = .ok (.tableswitch 93 0 5 #[39, 47, 52, 57, 77, 85], 39) := by decide +kernel
theorem dX6_now_40 : decode cX6_now 40 = .ok (.aload_n 0, 1) := by decide +kernel
theorem dX6_now_41 : decode cX6_now 41 = .ok (.getfield 26, 3) := by decide +kernel
theorem dX6_now_44 : decode cX6_now 44 = .ok (.getfield 145, 3) := by decide +kernel
theorem dX6_now_47 : decode cX6_now 47 = .ok (.ireturn, 1) := by decide +kernel
theorem dX6_now_48 : decode cX6_now 48 = .ok (.aload_n 0, 1) := by decide +kernel
theorem dX6_now_49 : decode cX6_now 49 = .ok (.invokevirtual 160, 3) := by decide +kernel
theorem dX6_now_52 : decode cX6_now 52 = .ok (.ireturn, 1) := by decide +kernel
theorem dX6_now_53 : decode cX6_now 53 = .ok (.aload_n 0, 1) := by decide +kernel
theorem dX6_now_54 : decode cX6_now 54 = .ok (.invokevirtual 172, 3) := by decide +kernel
theorem dX6_now_57 : decode cX6_now 57 = .ok (.ireturn, 1) := by decide +kernel
theorem dX6_now_58 : decode cX6_now 58 = .ok (.aload_n 0, 1) := by decide +kernel
theorem dX6_now_59 : decode cX6_now 59 = .ok (.invokevirtual 172, 3) := by decide +kernel
theorem dX6_now_62 : decode cX6_now 62 = .ok (.aload_n 0, 1) := by decide +kernel
theorem dX6_now_63 : decode cX6_now 63 = .ok (.getfield 19, 3) := by decide +kernel
theorem dX6_now_66 : decode cX6_now 66 = .ok (.getfield 175, 3) := by decide +kernel
theorem dX6_now_69 : decode cX6_now 69 = .ok (.if_icmp .le 7, 3) := by decide +kernel
theorem dX6_now_72 : decode cX6_now 72 = .ok (.iconst 1, 1) := by decide +kernel
theorem dX6_now_73 : decode cX6_now 73 = .ok (.goto 4, 3) := by decide +kernel
theorem dX6_now_76 : decode cX6_now 76 = .ok (.iconst 0, 1) := by decide +kernel
theorem dX6_now_77 : decode cX6_now 77 = .ok (.ireturn, 1) := by decide +kernel
theorem dX6_now_78 : decode cX6_now 78 = .ok (.aload_n 0, 1) := by decide +kernel
theorem dX6_now_79 : decode cX6_now 79 = .ok (.getfield 26, 3) := by decide +kernel
theorem dX6_now_82 : decode cX6_now 82 = .ok (.getfield 178, 3) := by decide +kernel
theorem dX6_now_85 : decode cX6_now 85 = .ok (.ireturn, 1) := by decide +kernel
theorem dX6_now_86 : decode cX6_now 86 = .ok (.aload_n 0, 1) := by decide +kernel
theorem dX6_now_87 : decode cX6_now 87 = .ok (.getfield 33, 3) := by decide +kernel
theorem dX6_now_90 : decode cX6_now 90 = .ok (.getfield 99, 3) := by decide +kernel
theorem dX6_now_93 : decode cX6_now 93 = .ok (.ireturn, 1) := by decide +kernel
theorem dX6_now_94 : decode cX6_now 94 = .ok (.iconst (-1), 1) := by decide +kernel
theorem dX6_now_95 : decode cX6_now 95 = .ok (.ireturn, 1) := by decide +kernel
theorem dX6_behind_0 : decode cX6_behind 0 = .ok (.iload_n 1, 1) := by decide +kernel
theorem dX6_behind_1 : decode cX6_behind 1 = .ok (.iconst 0, 1) := by decide +kernel
theorem dX6_behind_2 : decode cX6_behind 2 = .ok (.bipush 60, 2) := by decide +kernel
theorem dX6_behind_4 : decode cX6_behind 4 = .ok (.invokestatic 70, 3) := by decide +kernel
theorem dX6_behind_7 : decode cX6_behind 7 = .ok (.ifCond .eq 25, 3) := by decide +kernel
theorem dX6_behind_10 : decode cX6_behind 10 = .ok (.aload_n 0, 1) := by decide +kernel
theorem dX6_behind_11 : decode cX6_behind 11 = .ok (.getfield 19, 3) := by decide +kernel
theorem dX6_behind_14 : decode cX6_behind 14 = .ok (.iload_n 2, 1) := by decide +kernel
theorem dX6_behind_15 : decode cX6_behind 15 = .ok (.invokevirtual 119, 3) := by decide +kernel
theorem dX6_behind_18 : decode cX6_behind 18 = .ok (.ifCond .eq 14, 3) := by decide +kernel
theorem dX6_behind_21 : decode cX6_behind 21 = .ok (.aload_n 0, 1) := by decide +kernel
theorem dX6_behind_22 : decode cX6_behind 22 = .ok (.getfield 19, 3) := by decide +kernel
theorem dX6_behind_25 : decode cX6_behind 25 = .ok (.iload_n 3, 1) := by decide +kernel
theorem dX6_behind_26 : decode cX6_behind 26 = .ok (.invokevirtual 106, 3) := by decide +kernel
theorem dX6_behind_29 : decode cX6_behind 29 = .ok (.ifCond .ne 5, 3) := by decide +kernel
theorem dX6_behind_32 : decode cX6_behind 32 = .ok (.iconst (-1), 1) := by decide +kernel
theorem dX6_behind_33 : decode cX6_behind 33 = .ok (.ireturn, 1) := by decide +kernel
theorem dX6_behind_34 : decode cX6_behind 34 = .ok (.aload_n 0, 1) := by decide +kernel
theorem dX6_behind_35 : decode cX6_behind 35 = .ok (.iload_n 1, 1) := by decide +kernel
theorem dX6_behind_36 : decode cX6_behind 36 = .ok (.iload_n 2, 1) := by decide +kernel
theorem dX6_behind_37 : decode cX6_behind 37 = .ok (.iload_n 3, 1) := by decide +kernel
theorem dX6_behind_38 : decode cX6_behind 38 = .ok (.invokevirtual 132, 3) := by decide +kernel
theorem dX6_behind_41 : decode cX6_behind 41 = .ok (.ireturn, 1) := by decide +kernel
theorem dX6_first_0 : decode cX6_first 0 = .ok (.aload_n 0, 1) := by decide +kernel
theorem dX6_first_1 : decode cX6_first 1 = .ok (.getfield 19, 3) := by decide +kernel
theorem dX6_first_4 : decode cX6_first 4 = .ok (.iload_n 1, 1) := by decide +kernel
theorem dX6_first_5 : decode cX6_first 5 = .ok (.invokevirtual 119, 3) := by decide +kernel
theorem dX6_first_8 : decode cX6_first 8 = .ok (.ifCond .eq 12, 3) := by decide +kernel
theorem dX6_first_11 : decode cX6_first 11 = .ok (.iload_n 2, 1) := by decide +kernel
theorem dX6_first_12 : decode cX6_first 12 = .ok (.iconst 0, 1) := by decide +kernel
theorem dX6_first_13 : decode cX6_first 13 = .ok (.iconst 1, 1) := by decide +kernel
theorem dX6_first_14 : decode cX6_first 14 = .ok (.invokestatic 70, 3) := by decide +kernel
theorem dX6_first_17 : decode cX6_first 17 = .ok (.ifCond .ne 5, 3) := by decide +kernel
theorem dX6_first_20 : decode cX6_first 20 = .ok (.iconst (-1), 1) := by decide +kernel
theorem dX6_first_21 : decode cX6_first 21 = .ok (.ireturn, 1) := by decide +kernel
theorem dX6_first_22 : decode cX6_first 22 = .ok (.iconst 0, 1) := by decide +kernel
theorem dX6_first_23 : decode cX6_first 23 = .ok (.istore_n 3, 1) := by decide +kernel
theorem dX6_first_24 : decode cX6_first 24 = .ok (.iload_n 3, 1) := by decide +kernel
theorem dX6_first_25 : decode cX6_first 25 = .ok (.bipush 60, 2) := by decide +kernel
theorem dX6_first_27 : decode cX6_first 27 = .ok (.if_icmp .gt 35, 3) := by decide +kernel
theorem dX6_first_30 : decode cX6_first 30 = .ok (.aload_n 0, 1) := by decide +kernel
theorem dX6_first_31 : decode cX6_first 31 = .ok (.iload_n 1, 1) := by decide +kernel
theorem dX6_first_32 : decode cX6_first 32 = .ok (.iload_n 3, 1) := by decide +kernel
theorem dX6_first_33 : decode cX6_first 33 = .ok (.invokevirtual 181, 3) := by decide +kernel
theorem dX6_first_36 : decode cX6_first 36 = .ok (.istore 4, 2) := by decide +kernel
theorem dX6_first_38 : decode cX6_first 38 = .ok (.iload 4, 2) := by decide +kernel
theorem dX6_first_40 : decode cX6_first 40 = .ok (.bipush (-9), 2) := by decide +kernel
theorem dX6_first_42 : decode cX6_first 42 = .ok (.if_icmp .eq 14, 3) := by decide +kernel
theorem dX6_first_45 : decode cX6_first 45 = .ok (.iload_n 2, 1) := by decide +kernel
theorem dX6_first_46 : decode cX6_first 46 = .ok (.ifCond .ne 7, 3) := by decide +kernel
theorem dX6_first_49 : decode cX6_first 49 = .ok (.iload_n 3, 1) := by decide +kernel
theorem dX6_first_50 : decode cX6_first 50 = .ok (.goto 5, 3) := by decide +kernel
theorem dX6_first_53 : decode cX6_first 53 = .ok (.iload 4, 2) := by decide +kernel
theorem dX6_first_55 : decode cX6_first 55 = .ok (.ireturn, 1) := by decide +kernel
theorem dX6_first_56 : decode cX6_first 56 = .ok (.iinc 3 1, 3) := by decide +kernel
theorem dX6_first_59 : decode cX6_first 59 = .ok (.goto (-35), 3) := by decide +kernel
theorem dX6_first_62 : decode cX6_first 62 = .ok (.bipush (-9), 2) := by decide +kernel
theorem dX6_first_64 : decode cX6_first 64 = .ok (.ireturn, 1) := by decide +kernel
theorem dX6_freed_0 : decode cX6_freed 0 = .ok (.aload_n 0, 1) := by decide +kernel
theorem dX6_freed_1 : decode cX6_freed 1 = .ok (.iload_n 1, 1) := by decide +kernel
theorem dX6_freed_2 : decode cX6_freed 2 = .ok (.iload_n 2, 1) := by decide +kernel
theorem dX6_freed_3 : decode cX6_freed 3 = .ok (.iload_n 3, 1) := by decide +kernel
theorem dX6_freed_4 : decode cX6_freed 4 = .ok (.invokevirtual 157, 3) := by decide +kernel
theorem dX6_freed_7 : decode cX6_freed 7 = .ok (.ifCond .ne 6, 3) := by decide +kernel
theorem dX6_freed_10 : decode cX6_freed 10 = .ok (.ldc 184, 2) := by decide +kernel
theorem dX6_freed_12 : decode cX6_freed 12 = .ok (.ireturn, 1) := by decide +kernel
theorem dX6_freed_13 : decode cX6_freed 13 = .ok (.aload_n 0, 1) := by decide +kernel
theorem dX6_freed_14 : decode cX6_freed 14 = .ok (.iload_n 1, 1) := by decide +kernel
theorem dX6_freed_15 : decode cX6_freed 15 = .ok (.aload_n 0, 1) := by decide +kernel
theorem dX6_freed_16 : decode cX6_freed 16 = .ok (.getfield 26, 3) := by decide +kernel
theorem dX6_freed_19 : decode cX6_freed 19 = .ok (.getfield 110, 3) := by decide +kernel
theorem dX6_freed_22 : decode cX6_freed 22 = .ok (.iload_n 1, 1) := by decide +kernel
theorem dX6_freed_23 : decode cX6_freed 23 = .ok (.iaload, 1) := by decide +kernel
theorem dX6_freed_24 : decode cX6_freed 24 = .ok (.aload_n 0, 1) := by decide +kernel
theorem dX6_freed_25 : decode cX6_freed 25 = .ok (.getfield 26, 3) := by decide +kernel
theorem dX6_freed_28 : decode cX6_freed 28 = .ok (.getfield 116, 3) := by decide +kernel
theorem dX6_freed_31 : decode cX6_freed 31 = .ok (.iload_n 1, 1) := by decide +kernel
theorem dX6_freed_32 : decode cX6_freed 32 = .ok (.iaload, 1) := by decide +kernel
theorem dX6_freed_33 : decode cX6_freed 33 = .ok (.invokevirtual 185, 3) := by decide +kernel
theorem dX6_freed_36 : decode cX6_freed 36 = .ok (.aload_n 0, 1) := by decide +kernel
theorem dX6_freed_37 : decode cX6_freed 37 = .ok (.iload_n 1, 1) := by decide +kernel
theorem dX6_freed_38 : decode cX6_freed 38 = .ok (.iload_n 2, 1) := by decide +kernel
theorem dX6_freed_39 : decode cX6_freed 39 = .ok (.iload_n 3, 1) := by decide +kernel
theorem dX6_freed_40 : decode cX6_freed 40 = .ok (.invokevirtual 185, 3) := by decide +kernel
theorem dX6_freed_43 : decode cX6_freed 43 = .ok (.isub, 1) := by decide +kernel
theorem dX6_freed_44 : decode cX6_freed 44 = .ok (.ireturn, 1) := by decide +kernel
theorem dX6_bestJump_0 : decode cX6_bestJump 0 = .ok (.aload_n 0, 1) := by decide +kernel
theorem dX6_bestJump_1 : decode cX6_bestJump 1 = .ok (.getfield 19, 3) := by decide +kernel
theorem dX6_bestJump_4 : decode cX6_bestJump 4 = .ok (.iload_n 1, 1) := by decide +kernel
theorem dX6_bestJump_5 : decode cX6_bestJump 5 = .ok (.invokevirtual 106, 3) := by decide +kernel
theorem dX6_bestJump_8 : decode cX6_bestJump 8 = .ok (.ifCond .eq 12, 3) := by decide +kernel
theorem dX6_bestJump_11 : decode cX6_bestJump 11 = .ok (.iload_n 2, 1) := by decide +kernel
theorem dX6_bestJump_12 : decode cX6_bestJump 12 = .ok (.iconst 0, 1) := by decide +kernel
theorem dX6_bestJump_13 : decode cX6_bestJump 13 = .ok (.iconst 1, 1) := by decide +kernel
theorem dX6_bestJump_14 : decode cX6_bestJump 14 = .ok (.invokestatic 70, 3) := by decide +kernel
theorem dX6_bestJump_17 : decode cX6_bestJump 17 = .ok (.ifCond .ne 5, 3) := by decide +kernel
theorem dX6_bestJump_20 : decode cX6_bestJump 20 = .ok (.iconst (-1), 1) := by decide +kernel
theorem dX6_bestJump_21 : decode cX6_bestJump 21 = .ok (.ireturn, 1) := by decide +kernel
theorem dX6_bestJump_22 : decode cX6_bestJump 22 = .ok (.iconst 1, 1) := by decide +kernel
theorem dX6_bestJump_23 : decode cX6_bestJump 23 = .ok (.istore_n 3, 1) := by decide +kernel
theorem dX6_bestJump_24 : decode cX6_bestJump 24 = .ok (.aload_n 0, 1) := by decide +kernel
theorem dX6_bestJump_25 : decode cX6_bestJump 25 = .ok (.iload_n 1, 1) := by decide +kernel
theorem dX6_bestJump_26 : decode cX6_bestJump 26 = .ok (.iconst 1, 1) := by decide +kernel
theorem dX6_bestJump_27 : decode cX6_bestJump 27 = .ok (.invokevirtual 188, 3) := by decide +kernel
theorem dX6_bestJump_30 : decode cX6_bestJump 30 = .ok (.istore 4, 2) := by decide +kernel
theorem dX6_bestJump_32 : decode cX6_bestJump 32 = .ok (.iconst 2, 1) := by decide +kernel
theorem dX6_bestJump_33 : decode cX6_bestJump 33 = .ok (.istore 5, 2) := by decide +kernel
theorem dX6_bestJump_35 : decode cX6_bestJump 35 = .ok (.iload 5, 2) := by decide +kernel
theorem dX6_bestJump_37 : decode cX6_bestJump 37 = .ok (.aload_n 0, 1) := by decide +kernel
theorem dX6_bestJump_38 : decode cX6_bestJump 38 = .ok (.getfield 19, 3) := by decide +kernel
theorem dX6_bestJump_41 : decode cX6_bestJump 41 = .ok (.getfield 113, 3) := by decide +kernel
theorem dX6_bestJump_44 : decode cX6_bestJump 44 = .ok (.iload_n 1, 1) := by decide +kernel
theorem dX6_bestJump_45 : decode cX6_bestJump 45 = .ok (.iaload, 1) := by decide +kernel
theorem dX6_bestJump_46 : decode cX6_bestJump 46 = .ok (.if_icmp .gt 32, 3) := by decide +kernel
theorem dX6_bestJump_49 : decode cX6_bestJump 49 = .ok (.aload_n 0, 1) := by decide +kernel
theorem dX6_bestJump_50 : decode cX6_bestJump 50 = .ok (.iload_n 1, 1) := by decide +kernel
theorem dX6_bestJump_51 : decode cX6_bestJump 51 = .ok (.iload 5, 2) := by decide +kernel
theorem dX6_bestJump_53 : decode cX6_bestJump 53 = .ok (.invokevirtual 188, 3) := by decide +kernel
theorem dX6_bestJump_56 : decode cX6_bestJump 56 = .ok (.istore 6, 2) := by decide +kernel
theorem dX6_bestJump_58 : decode cX6_bestJump 58 = .ok (.iload 6, 2) := by decide +kernel
theorem dX6_bestJump_60 : decode cX6_bestJump 60 = .ok (.iload 4, 2) := by decide +kernel
theorem dX6_bestJump_62 : decode cX6_bestJump 62 = .ok (.if_icmp .ge 10, 3) := by decide +kernel
theorem dX6_bestJump_65 : decode cX6_bestJump 65 = .ok (.iload 5, 2) := by decide +kernel
theorem dX6_bestJump_67 : decode cX6_bestJump 67 = .ok (.istore_n 3, 1) := by decide +kernel
theorem dX6_bestJump_68 : decode cX6_bestJump 68 = .ok (.iload 6, 2) := by decide +kernel
theorem dX6_bestJump_70 : decode cX6_bestJump 70 = .ok (.istore 4, 2) := by decide +kernel
theorem dX6_bestJump_72 : decode cX6_bestJump 72 = .ok (.iinc 5 1, 3) := by decide +kernel
theorem dX6_bestJump_75 : decode cX6_bestJump 75 = .ok (.goto (-40), 3) := by decide +kernel
theorem dX6_bestJump_78 : decode cX6_bestJump 78 = .ok (.iload_n 2, 1) := by decide +kernel
theorem dX6_bestJump_79 : decode cX6_bestJump 79 = .ok (.ifCond .ne 7, 3) := by decide +kernel
theorem dX6_bestJump_82 : decode cX6_bestJump 82 = .ok (.iload_n 3, 1) := by decide +kernel
theorem dX6_bestJump_83 : decode cX6_bestJump 83 = .ok (.goto 5, 3) := by decide +kernel
theorem dX6_bestJump_86 : decode cX6_bestJump 86 = .ok (.iload 4, 2) := by decide +kernel
theorem dX6_bestJump_88 : decode cX6_bestJump 88 = .ok (.ireturn, 1) := by decide +kernel
theorem dX6_plans_0 : decode cX6_plans 0 = .ok (.aload_n 0, 1) := by decide +kernel
theorem dX6_plans_1 : decode cX6_plans 1 = .ok (.getfield 19, 3) := by decide +kernel
theorem dX6_plans_4 : decode cX6_plans 4 = .ok (.iload_n 1, 1) := by decide +kernel
theorem dX6_plans_5 : decode cX6_plans 5 = .ok (.invokevirtual 106, 3) := by decide +kernel
theorem dX6_plans_8 : decode cX6_plans 8 = .ok (.ifCond .eq 14, 3) := by decide +kernel
theorem dX6_plans_11 : decode cX6_plans 11 = .ok (.iload_n 2, 1) := by decide +kernel
theorem dX6_plans_12 : decode cX6_plans 12 = .ok (.bipush (-9), 2) := by decide +kernel
theorem dX6_plans_14 : decode cX6_plans 14 = .ok (.bipush 9, 2) := by decide +kernel
theorem dX6_plans_16 : decode cX6_plans 16 = .ok (.invokestatic 70, 3) := by decide +kernel
theorem dX6_plans_19 : decode cX6_plans 19 = .ok (.ifCond .ne 5, 3) := by decide +kernel
theorem dX6_plans_22 : decode cX6_plans 22 = .ok (.iconst (-1), 1) := by decide +kernel
theorem dX6_plans_23 : decode cX6_plans 23 = .ok (.ireturn, 1) := by decide +kernel
theorem dX6_plans_24 : decode cX6_plans 24 = .ok (.aload_n 0, 1) := by decide +kernel
theorem dX6_plans_25 : decode cX6_plans 25 = .ok (.getfield 48, 3) := by decide +kernel
theorem dX6_plans_28 : decode cX6_plans 28 = .ok (.getfield 102, 3) := by decide +kernel
theorem dX6_plans_31 : decode cX6_plans 31 = .ok (.iconst 5, 1) := by decide +kernel
theorem dX6_plans_32 : decode cX6_plans 32 = .ok (.if_icmp .lt 6, 3) := by decide +kernel
theorem dX6_plans_35 : decode cX6_plans 35 = .ok (.bipush (-3), 2) := by decide +kernel
theorem dX6_plans_37 : decode cX6_plans 37 = .ok (.ireturn, 1) := by decide +kernel
theorem dX6_plans_38 : decode cX6_plans 38 = .ok (.aload_n 0, 1) := by decide +kernel
theorem dX6_plans_39 : decode cX6_plans 39 = .ok (.getfield 48, 3) := by decide +kernel
theorem dX6_plans_42 : decode cX6_plans 42 = .ok (.iload_n 1, 1) := by decide +kernel
theorem dX6_plans_43 : decode cX6_plans 43 = .ok (.iload_n 2, 1) := by decide +kernel
theorem dX6_plans_44 : decode cX6_plans 44 = .ok (.invokevirtual 191, 3) := by decide +kernel
theorem dX6_plans_47 : decode cX6_plans 47 = .ok (.aload_n 0, 1) := by decide +kernel
theorem dX6_plans_48 : decode cX6_plans 48 = .ok (.getfield 48, 3) := by decide +kernel
theorem dX6_plans_51 : decode cX6_plans 51 = .ok (.getfield 102, 3) := by decide +kernel
theorem dX6_plans_54 : decode cX6_plans 54 = .ok (.ireturn, 1) := by decide +kernel
theorem dX6_drop_0 : decode cX6_drop 0 = .ok (.aload_n 0, 1) := by decide +kernel
theorem dX6_drop_1 : decode cX6_drop 1 = .ok (.getfield 48, 3) := by decide +kernel
theorem dX6_drop_4 : decode cX6_drop 4 = .ok (.getfield 102, 3) := by decide +kernel
theorem dX6_drop_7 : decode cX6_drop 7 = .ok (.istore_n 1, 1) := by decide +kernel
theorem dX6_drop_8 : decode cX6_drop 8 = .ok (.aload_n 0, 1) := by decide +kernel
theorem dX6_drop_9 : decode cX6_drop 9 = .ok (.getfield 48, 3) := by decide +kernel
theorem dX6_drop_12 : decode cX6_drop 12 = .ok (.iconst 0, 1) := by decide +kernel
theorem dX6_drop_13 : decode cX6_drop 13 = .ok (.putfield 102, 3) := by decide +kernel
theorem dX6_drop_16 : decode cX6_drop 16 = .ok (.iload_n 1, 1) := by decide +kernel
theorem dX6_drop_17 : decode cX6_drop 17 = .ok (.ireturn, 1) := by decide +kernel
theorem dX6_orders_0 : decode cX6_orders 0 = .ok (.aload_n 0, 1) := by decide +kernel
theorem dX6_orders_1 : decode cX6_orders 1 = .ok (.getfield 19, 3) := by decide +kernel
theorem dX6_orders_4 : decode cX6_orders 4 = .ok (.iload_n 1, 1) := by decide +kernel
theorem dX6_orders_5 : decode cX6_orders 5 = .ok (.invokevirtual 119, 3) := by decide +kernel
theorem dX6_orders_8 : decode cX6_orders 8 = .ok (.ifCond .eq 8, 3) := by decide +kernel
theorem dX6_orders_11 : decode cX6_orders 11 = .ok (.iload_n 2, 1) := by decide +kernel
theorem dX6_orders_12 : decode cX6_orders 12 = .ok (.iconst (-1), 1) := by decide +kernel
theorem dX6_orders_13 : decode cX6_orders 13 = .ok (.if_icmp .ge 5, 3) := by decide +kernel
theorem dX6_orders_16 : decode cX6_orders 16 = .ok (.iconst (-1), 1) := by decide +kernel
theorem dX6_orders_17 : decode cX6_orders 17 = .ok (.ireturn, 1) := by decide +kernel
theorem dX6_orders_18 : decode cX6_orders 18 = .ok (.aload_n 0, 1) := by decide +kernel
theorem dX6_orders_19 : decode cX6_orders 19 = .ok (.iload_n 1, 1) := by decide +kernel
theorem dX6_orders_20 : decode cX6_orders 20 = .ok (.bipush (-9), 2) := by decide +kernel
theorem dX6_orders_22 : decode cX6_orders 22 = .ok (.invokevirtual 194, 3) := by decide +kernel
theorem dX6_orders_25 : decode cX6_orders 25 = .ok (.istore_n 3, 1) := by decide +kernel
theorem dX6_orders_26 : decode cX6_orders 26 = .ok (.iload_n 2, 1) := by decide +kernel
theorem dX6_orders_27 : decode cX6_orders 27 = .ok (.iconst (-1), 1) := by decide +kernel
theorem dX6_orders_28 : decode cX6_orders 28 = .ok (.if_icmp .ne 5, 3) := by decide +kernel
theorem dX6_orders_31 : decode cX6_orders 31 = .ok (.iload_n 3, 1) := by decide +kernel
theorem dX6_orders_32 : decode cX6_orders 32 = .ok (.ireturn, 1) := by decide +kernel
theorem dX6_orders_33 : decode cX6_orders 33 = .ok (.iload_n 3, 1) := by decide +kernel
theorem dX6_orders_34 : decode cX6_orders 34 = .ok (.ifCond .ne 6, 3) := by decide +kernel
theorem dX6_orders_37 : decode cX6_orders 37 = .ok (.bipush (-9), 2) := by decide +kernel
theorem dX6_orders_39 : decode cX6_orders 39 = .ok (.ireturn, 1) := by decide +kernel
theorem dX6_orders_40 : decode cX6_orders 40 = .ok (.iload_n 2, 1) := by decide +kernel
theorem dX6_orders_41 : decode cX6_orders 41 = .ok (.aload_n 0, 1) := by decide +kernel
theorem dX6_orders_42 : decode cX6_orders 42 = .ok (.getfield 48, 3) := by decide +kernel
theorem dX6_orders_45 : decode cX6_orders 45 = .ok (.getfield 102, 3) := by decide +kernel
theorem dX6_orders_48 : decode cX6_orders 48 = .ok (.if_icmp .ge 15, 3) := by decide +kernel
theorem dX6_orders_51 : decode cX6_orders 51 = .ok (.aload_n 0, 1) := by decide +kernel
theorem dX6_orders_52 : decode cX6_orders 52 = .ok (.getfield 48, 3) := by decide +kernel
theorem dX6_orders_55 : decode cX6_orders 55 = .ok (.getfield 197, 3) := by decide +kernel
theorem dX6_orders_58 : decode cX6_orders 58 = .ok (.iload_n 2, 1) := by decide +kernel
theorem dX6_orders_59 : decode cX6_orders 59 = .ok (.iaload, 1) := by decide +kernel
theorem dX6_orders_60 : decode cX6_orders 60 = .ok (.goto 5, 3) := by decide +kernel
theorem dX6_orders_63 : decode cX6_orders 63 = .ok (.bipush (-5), 2) := by decide +kernel
theorem dX6_orders_65 : decode cX6_orders 65 = .ok (.ireturn, 1) := by decide +kernel
theorem dX6_bars_0 : decode cX6_bars 0 = .ok (.aload_n 0, 1) := by decide +kernel
theorem dX6_bars_1 : decode cX6_bars 1 = .ok (.getfield 19, 3) := by decide +kernel
theorem dX6_bars_4 : decode cX6_bars 4 = .ok (.iload_n 1, 1) := by decide +kernel
theorem dX6_bars_5 : decode cX6_bars 5 = .ok (.invokevirtual 119, 3) := by decide +kernel
theorem dX6_bars_8 : decode cX6_bars 8 = .ok (.ifCond .ne 5, 3) := by decide +kernel
theorem dX6_bars_11 : decode cX6_bars 11 = .ok (.iconst (-1), 1) := by decide +kernel
theorem dX6_bars_12 : decode cX6_bars 12 = .ok (.ireturn, 1) := by decide +kernel
theorem dX6_bars_13 : decode cX6_bars 13 = .ok (.aload_n 0, 1) := by decide +kernel
theorem dX6_bars_14 : decode cX6_bars 14 = .ok (.iload_n 1, 1) := by decide +kernel
theorem dX6_bars_15 : decode cX6_bars 15 = .ok (.bipush (-9), 2) := by decide +kernel
theorem dX6_bars_17 : decode cX6_bars 17 = .ok (.invokevirtual 194, 3) := by decide +kernel
theorem dX6_bars_20 : decode cX6_bars 20 = .ok (.ifCond .le 6, 3) := by decide +kernel
theorem dX6_bars_23 : decode cX6_bars 23 = .ok (.bipush (-9), 2) := by decide +kernel
theorem dX6_bars_25 : decode cX6_bars 25 = .ok (.ireturn, 1) := by decide +kernel
theorem dX6_bars_26 : decode cX6_bars 26 = .ok (.iconst 0, 1) := by decide +kernel
theorem dX6_bars_27 : decode cX6_bars 27 = .ok (.istore_n 2, 1) := by decide +kernel
theorem dX6_bars_28 : decode cX6_bars 28 = .ok (.iload_n 2, 1) := by decide +kernel
theorem dX6_bars_29 : decode cX6_bars 29 = .ok (.aload_n 0, 1) := by decide +kernel
theorem dX6_bars_30 : decode cX6_bars 30 = .ok (.getfield 48, 3) := by decide +kernel
theorem dX6_bars_33 : decode cX6_bars 33 = .ok (.getfield 102, 3) := by decide +kernel
theorem dX6_bars_36 : decode cX6_bars 36 = .ok (.if_icmp .ge 20, 3) := by decide +kernel
theorem dX6_bars_39 : decode cX6_bars 39 = .ok (.aload_n 0, 1) := by decide +kernel
theorem dX6_bars_40 : decode cX6_bars 40 = .ok (.iload_n 1, 1) := by decide +kernel
theorem dX6_bars_41 : decode cX6_bars 41 = .ok (.iload_n 2, 1) := by decide +kernel
theorem dX6_bars_42 : decode cX6_bars 42 = .ok (.invokevirtual 194, 3) := by decide +kernel
theorem dX6_bars_45 : decode cX6_bars 45 = .ok (.ifCond .le 5, 3) := by decide +kernel
theorem dX6_bars_48 : decode cX6_bars 48 = .ok (.iload_n 2, 1) := by decide +kernel
theorem dX6_bars_49 : decode cX6_bars 49 = .ok (.ireturn, 1) := by decide +kernel
theorem dX6_bars_50 : decode cX6_bars 50 = .ok (.iinc 2 1, 3) := by decide +kernel
theorem dX6_bars_53 : decode cX6_bars 53 = .ok (.goto (-25), 3) := by decide +kernel
theorem dX6_bars_56 : decode cX6_bars 56 = .ok (.bipush (-9), 2) := by decide +kernel
theorem dX6_bars_58 : decode cX6_bars 58 = .ok (.ireturn, 1) := by decide +kernel
theorem dX6_trip_0 : decode cX6_trip 0 = .ok (.aload_n 0, 1) := by decide +kernel
theorem dX6_trip_1 : decode cX6_trip 1 = .ok (.getfield 19, 3) := by decide +kernel
theorem dX6_trip_4 : decode cX6_trip 4 = .ok (.iload_n 1, 1) := by decide +kernel
theorem dX6_trip_5 : decode cX6_trip 5 = .ok (.invokevirtual 106, 3) := by decide +kernel
theorem dX6_trip_8 : decode cX6_trip 8 = .ok (.ifCond .eq 35, 3) := by decide +kernel
theorem dX6_trip_11 : decode cX6_trip 11 = .ok (.aload_n 0, 1) := by decide +kernel
theorem dX6_trip_12 : decode cX6_trip 12 = .ok (.getfield 19, 3) := by decide +kernel
theorem dX6_trip_15 : decode cX6_trip 15 = .ok (.iload_n 2, 1) := by decide +kernel
theorem dX6_trip_16 : decode cX6_trip 16 = .ok (.invokevirtual 139, 3) := by decide +kernel
theorem dX6_trip_19 : decode cX6_trip 19 = .ok (.ifCond .eq 24, 3) := by decide +kernel
theorem dX6_trip_22 : decode cX6_trip 22 = .ok (.aload_n 0, 1) := by decide +kernel
theorem dX6_trip_23 : decode cX6_trip 23 = .ok (.getfield 19, 3) := by decide +kernel
theorem dX6_trip_26 : decode cX6_trip 26 = .ok (.iload_n 3, 1) := by decide +kernel
theorem dX6_trip_27 : decode cX6_trip 27 = .ok (.invokevirtual 139, 3) := by decide +kernel
theorem dX6_trip_30 : decode cX6_trip 30 = .ok (.ifCond .eq 13, 3) := by decide +kernel
theorem dX6_trip_33 : decode cX6_trip 33 = .ok (.iload 4, 2) := by decide +kernel
theorem dX6_trip_35 : decode cX6_trip 35 = .ok (.iconst 0, 1) := by decide +kernel
theorem dX6_trip_36 : decode cX6_trip 36 = .ok (.iconst 1, 1) := by decide +kernel
theorem dX6_trip_37 : decode cX6_trip 37 = .ok (.invokestatic 70, 3) := by decide +kernel
theorem dX6_trip_40 : decode cX6_trip 40 = .ok (.ifCond .ne 5, 3) := by decide +kernel
theorem dX6_trip_43 : decode cX6_trip 43 = .ok (.iconst (-1), 1) := by decide +kernel
theorem dX6_trip_44 : decode cX6_trip 44 = .ok (.ireturn, 1) := by decide +kernel
theorem dX6_trip_45 : decode cX6_trip 45 = .ok (.aload_n 0, 1) := by decide +kernel
theorem dX6_trip_46 : decode cX6_trip 46 = .ok (.iload_n 3, 1) := by decide +kernel
theorem dX6_trip_47 : decode cX6_trip 47 = .ok (.iload_n 1, 1) := by decide +kernel
theorem dX6_trip_48 : decode cX6_trip 48 = .ok (.invokevirtual 200, 3) := by decide +kernel
theorem dX6_trip_51 : decode cX6_trip 51 = .ok (.iload 4, 2) := by decide +kernel
theorem dX6_trip_53 : decode cX6_trip 53 = .ok (.ifCond .eq 14, 3) := by decide +kernel
theorem dX6_trip_56 : decode cX6_trip 56 = .ok (.aload_n 0, 1) := by decide +kernel
theorem dX6_trip_57 : decode cX6_trip 57 = .ok (.getfield 59, 3) := by decide +kernel
theorem dX6_trip_60 : decode cX6_trip 60 = .ok (.iload_n 2, 1) := by decide +kernel
theorem dX6_trip_61 : decode cX6_trip 61 = .ok (.iaload, 1) := by decide +kernel
theorem dX6_trip_62 : decode cX6_trip 62 = .ok (.bipush (-9), 2) := by decide +kernel
theorem dX6_trip_64 : decode cX6_trip 64 = .ok (.if_icmp .ne 10, 3) := by decide +kernel
theorem dX6_trip_67 : decode cX6_trip 67 = .ok (.aload_n 0, 1) := by decide +kernel
theorem dX6_trip_68 : decode cX6_trip 68 = .ok (.getfield 59, 3) := by decide +kernel
theorem dX6_trip_71 : decode cX6_trip 71 = .ok (.iload_n 2, 1) := by decide +kernel
theorem dX6_trip_72 : decode cX6_trip 72 = .ok (.iaload, 1) := by decide +kernel
theorem dX6_trip_73 : decode cX6_trip 73 = .ok (.ireturn, 1) := by decide +kernel
theorem dX6_trip_74 : decode cX6_trip 74 = .ok (.aload_n 0, 1) := by decide +kernel
theorem dX6_trip_75 : decode cX6_trip 75 = .ok (.iload_n 2, 1) := by decide +kernel
theorem dX6_trip_76 : decode cX6_trip 76 = .ok (.iload_n 1, 1) := by decide +kernel
theorem dX6_trip_77 : decode cX6_trip 77 = .ok (.invokevirtual 203, 3) := by decide +kernel
theorem dX6_trip_80 : decode cX6_trip 80 = .ok (.ireturn, 1) := by decide +kernel
theorem dX6_parts_0 : decode cX6_parts 0 = .ok (.aload_n 0, 1) := by decide +kernel
theorem dX6_parts_1 : decode cX6_parts 1 = .ok (.getfield 19, 3) := by decide +kernel
theorem dX6_parts_4 : decode cX6_parts 4 = .ok (.iload_n 1, 1) := by decide +kernel
theorem dX6_parts_5 : decode cX6_parts 5 = .ok (.invokevirtual 106, 3) := by decide +kernel
theorem dX6_parts_8 : decode cX6_parts 8 = .ok (.ifCond .eq 22, 3) := by decide +kernel
theorem dX6_parts_11 : decode cX6_parts 11 = .ok (.iload_n 2, 1) := by decide +kernel
theorem dX6_parts_12 : decode cX6_parts 12 = .ok (.iconst 1, 1) := by decide +kernel
theorem dX6_parts_13 : decode cX6_parts 13 = .ok (.bipush 99, 2) := by decide +kernel
theorem dX6_parts_15 : decode cX6_parts 15 = .ok (.invokestatic 70, 3) := by decide +kernel
theorem dX6_parts_18 : decode cX6_parts 18 = .ok (.ifCond .eq 12, 3) := by decide +kernel
theorem dX6_parts_21 : decode cX6_parts 21 = .ok (.iload_n 3, 1) := by decide +kernel
theorem dX6_parts_22 : decode cX6_parts 22 = .ok (.iconst 0, 1) := by decide +kernel
theorem dX6_parts_23 : decode cX6_parts 23 = .ok (.iconst 1, 1) := by decide +kernel
theorem dX6_parts_24 : decode cX6_parts 24 = .ok (.invokestatic 70, 3) := by decide +kernel
theorem dX6_parts_27 : decode cX6_parts 27 = .ok (.ifCond .ne 5, 3) := by decide +kernel
theorem dX6_parts_30 : decode cX6_parts 30 = .ok (.iconst (-1), 1) := by decide +kernel
theorem dX6_parts_31 : decode cX6_parts 31 = .ok (.ireturn, 1) := by decide +kernel
theorem dX6_parts_32 : decode cX6_parts 32 = .ok (.aload_n 0, 1) := by decide +kernel
theorem dX6_parts_33 : decode cX6_parts 33 = .ok (.getfield 63, 3) := by decide +kernel
theorem dX6_parts_36 : decode cX6_parts 36 = .ok (.iconst 0, 1) := by decide +kernel
theorem dX6_parts_37 : decode cX6_parts 37 = .ok (.iconst 0, 1) := by decide +kernel
theorem dX6_parts_38 : decode cX6_parts 38 = .ok (.iastore, 1) := by decide +kernel
theorem dX6_parts_39 : decode cX6_parts 39 = .ok (.iconst 1, 1) := by decide +kernel
theorem dX6_parts_40 : decode cX6_parts 40 = .ok (.istore 4, 2) := by decide +kernel
theorem dX6_parts_42 : decode cX6_parts 42 = .ok (.iload 4, 2) := by decide +kernel
theorem dX6_parts_44 : decode cX6_parts 44 = .ok (.iload_n 2, 1) := by decide +kernel
theorem dX6_parts_45 : decode cX6_parts 45 = .ok (.if_icmp .gt 23, 3) := by decide +kernel
theorem dX6_parts_48 : decode cX6_parts 48 = .ok (.aload_n 0, 1) := by decide +kernel
theorem dX6_parts_49 : decode cX6_parts 49 = .ok (.getfield 63, 3) := by decide +kernel
theorem dX6_parts_52 : decode cX6_parts 52 = .ok (.iload 4, 2) := by decide +kernel
theorem dX6_parts_54 : decode cX6_parts 54 = .ok (.aload_n 0, 1) := by decide +kernel
theorem dX6_parts_55 : decode cX6_parts 55 = .ok (.iload 4, 2) := by decide +kernel
theorem dX6_parts_57 : decode cX6_parts 57 = .ok (.iload_n 1, 1) := by decide +kernel
theorem dX6_parts_58 : decode cX6_parts 58 = .ok (.invokevirtual 206, 3) := by decide +kernel
theorem dX6_parts_61 : decode cX6_parts 61 = .ok (.iastore, 1) := by decide +kernel
theorem dX6_parts_62 : decode cX6_parts 62 = .ok (.iinc 4 1, 3) := by decide +kernel
theorem dX6_parts_65 : decode cX6_parts 65 = .ok (.goto (-23), 3) := by decide +kernel
theorem dX6_parts_68 : decode cX6_parts 68 = .ok (.iload_n 3, 1) := by decide +kernel
theorem dX6_parts_69 : decode cX6_parts 69 = .ok (.ifCond .eq 14, 3) := by decide +kernel
theorem dX6_parts_72 : decode cX6_parts 72 = .ok (.aload_n 0, 1) := by decide +kernel
theorem dX6_parts_73 : decode cX6_parts 73 = .ok (.getfield 63, 3) := by decide +kernel
theorem dX6_parts_76 : decode cX6_parts 76 = .ok (.iload_n 2, 1) := by decide +kernel
theorem dX6_parts_77 : decode cX6_parts 77 = .ok (.iaload, 1) := by decide +kernel
theorem dX6_parts_78 : decode cX6_parts 78 = .ok (.bipush (-9), 2) := by decide +kernel
theorem dX6_parts_80 : decode cX6_parts 80 = .ok (.if_icmp .ne 10, 3) := by decide +kernel
theorem dX6_parts_83 : decode cX6_parts 83 = .ok (.aload_n 0, 1) := by decide +kernel
theorem dX6_parts_84 : decode cX6_parts 84 = .ok (.getfield 63, 3) := by decide +kernel
theorem dX6_parts_87 : decode cX6_parts 87 = .ok (.iload_n 2, 1) := by decide +kernel
theorem dX6_parts_88 : decode cX6_parts 88 = .ok (.iaload, 1) := by decide +kernel
theorem dX6_parts_89 : decode cX6_parts 89 = .ok (.ireturn, 1) := by decide +kernel
theorem dX6_parts_90 : decode cX6_parts 90 = .ok (.aload_n 0, 1) := by decide +kernel
theorem dX6_parts_91 : decode cX6_parts 91 = .ok (.iload_n 2, 1) := by decide +kernel
theorem dX6_parts_92 : decode cX6_parts 92 = .ok (.iload_n 1, 1) := by decide +kernel
theorem dX6_parts_93 : decode cX6_parts 93 = .ok (.invokevirtual 209, 3) := by decide +kernel
theorem dX6_parts_96 : decode cX6_parts 96 = .ok (.ireturn, 1) := by decide +kernel
theorem dX6_books_0 : decode cX6_books 0 = .ok (.aload_n 0, 1) := by decide +kernel
theorem dX6_books_1 : decode cX6_books 1 = .ok (.getfield 19, 3) := by decide +kernel
theorem dX6_books_4 : decode cX6_books 4 = .ok (.iload_n 1, 1) := by decide +kernel
theorem dX6_books_5 : decode cX6_books 5 = .ok (.invokevirtual 106, 3) := by decide +kernel
theorem dX6_books_8 : decode cX6_books 8 = .ok (.ifCond .eq 22, 3) := by decide +kernel
theorem dX6_books_11 : decode cX6_books 11 = .ok (.iload_n 2, 1) := by decide +kernel
theorem dX6_books_12 : decode cX6_books 12 = .ok (.iconst 0, 1) := by decide +kernel
theorem dX6_books_13 : decode cX6_books 13 = .ok (.bipush 60, 2) := by decide +kernel
theorem dX6_books_15 : decode cX6_books 15 = .ok (.invokestatic 70, 3) := by decide +kernel
theorem dX6_books_18 : decode cX6_books 18 = .ok (.ifCond .eq 12, 3) := by decide +kernel
theorem dX6_books_21 : decode cX6_books 21 = .ok (.iload_n 3, 1) := by decide +kernel
theorem dX6_books_22 : decode cX6_books 22 = .ok (.iconst 0, 1) := by decide +kernel
theorem dX6_books_23 : decode cX6_books 23 = .ok (.iconst 3, 1) := by decide +kernel
theorem dX6_books_24 : decode cX6_books 24 = .ok (.invokestatic 70, 3) := by decide +kernel
theorem dX6_books_27 : decode cX6_books 27 = .ok (.ifCond .ne 5, 3) := by decide +kernel
theorem dX6_books_30 : decode cX6_books 30 = .ok (.iconst (-1), 1) := by decide +kernel
theorem dX6_books_31 : decode cX6_books 31 = .ok (.ireturn, 1) := by decide +kernel
theorem dX6_books_32 : decode cX6_books 32 = .ok (.aload_n 0, 1) := by decide +kernel
theorem dX6_books_33 : decode cX6_books 33 = .ok (.getfield 55, 3) := by decide +kernel
theorem dX6_books_36 : decode cX6_books 36 = .ok (.getfield 105, 3) := by decide +kernel
theorem dX6_books_39 : decode cX6_books 39 = .ok (.bipush 6, 2) := by decide +kernel
theorem dX6_books_41 : decode cX6_books 41 = .ok (.if_icmp .lt 6, 3) := by decide +kernel
theorem dX6_books_44 : decode cX6_books 44 = .ok (.bipush (-3), 2) := by decide +kernel
theorem dX6_books_46 : decode cX6_books 46 = .ok (.ireturn, 1) := by decide +kernel
theorem dX6_books_47 : decode cX6_books 47 = .ok (.aload_n 0, 1) := by decide +kernel
theorem dX6_books_48 : decode cX6_books 48 = .ok (.getfield 55, 3) := by decide +kernel
theorem dX6_books_51 : decode cX6_books 51 = .ok (.iload_n 1, 1) := by decide +kernel
theorem dX6_books_52 : decode cX6_books 52 = .ok (.iload_n 2, 1) := by decide +kernel
theorem dX6_books_53 : decode cX6_books 53 = .ok (.iload_n 3, 1) := by decide +kernel
theorem dX6_books_54 : decode cX6_books 54 = .ok (.invokevirtual 212, 3) := by decide +kernel
theorem dX6_books_57 : decode cX6_books 57 = .ok (.aload_n 0, 1) := by decide +kernel
theorem dX6_books_58 : decode cX6_books 58 = .ok (.getfield 55, 3) := by decide +kernel
theorem dX6_books_61 : decode cX6_books 61 = .ok (.getfield 105, 3) := by decide +kernel
theorem dX6_books_64 : decode cX6_books 64 = .ok (.ireturn, 1) := by decide +kernel
theorem dX6_burn_0 : decode cX6_burn 0 = .ok (.aload_n 0, 1) := by decide +kernel
theorem dX6_burn_1 : decode cX6_burn 1 = .ok (.getfield 55, 3) := by decide +kernel
theorem dX6_burn_4 : decode cX6_burn 4 = .ok (.getfield 105, 3) := by decide +kernel
theorem dX6_burn_7 : decode cX6_burn 7 = .ok (.istore_n 1, 1) := by decide +kernel
theorem dX6_burn_8 : decode cX6_burn 8 = .ok (.aload_n 0, 1) := by decide +kernel
theorem dX6_burn_9 : decode cX6_burn 9 = .ok (.getfield 55, 3) := by decide +kernel
theorem dX6_burn_12 : decode cX6_burn 12 = .ok (.iconst 0, 1) := by decide +kernel
theorem dX6_burn_13 : decode cX6_burn 13 = .ok (.putfield 105, 3) := by decide +kernel
theorem dX6_burn_16 : decode cX6_burn 16 = .ok (.iload_n 1, 1) := by decide +kernel
theorem dX6_burn_17 : decode cX6_burn 17 = .ok (.ireturn, 1) := by decide +kernel
theorem dX6_fits_0 : decode cX6_fits 0 = .ok (.aload_n 0, 1) := by decide +kernel
theorem dX6_fits_1 : decode cX6_fits 1 = .ok (.getfield 19, 3) := by decide +kernel
theorem dX6_fits_4 : decode cX6_fits 4 = .ok (.iload_n 1, 1) := by decide +kernel
theorem dX6_fits_5 : decode cX6_fits 5 = .ok (.invokevirtual 106, 3) := by decide +kernel
theorem dX6_fits_8 : decode cX6_fits 8 = .ok (.ifCond .ne 5, 3) := by decide +kernel
theorem dX6_fits_11 : decode cX6_fits 11 = .ok (.iconst (-1), 1) := by decide +kernel
theorem dX6_fits_12 : decode cX6_fits 12 = .ok (.ireturn, 1) := by decide +kernel
theorem dX6_fits_13 : decode cX6_fits 13 = .ok (.iconst 0, 1) := by decide +kernel
theorem dX6_fits_14 : decode cX6_fits 14 = .ok (.istore_n 2, 1) := by decide +kernel
theorem dX6_fits_15 : decode cX6_fits 15 = .ok (.iconst 0, 1) := by decide +kernel
theorem dX6_fits_16 : decode cX6_fits 16 = .ok (.istore_n 3, 1) := by decide +kernel
theorem dX6_fits_17 : decode cX6_fits 17 = .ok (.iload_n 3, 1) := by decide +kernel
theorem dX6_fits_18 : decode cX6_fits 18 = .ok (.aload_n 0, 1) := by decide +kernel
theorem dX6_fits_19 : decode cX6_fits 19 = .ok (.getfield 19, 3) := by decide +kernel
theorem dX6_fits_22 : decode cX6_fits 22 = .ok (.getfield 113, 3) := by decide +kernel
theorem dX6_fits_25 : decode cX6_fits 25 = .ok (.iload_n 1, 1) := by decide +kernel
theorem dX6_fits_26 : decode cX6_fits 26 = .ok (.iaload, 1) := by decide +kernel
theorem dX6_fits_27 : decode cX6_fits 27 = .ok (.if_icmp .gt 39, 3) := by decide +kernel
theorem dX6_fits_30 : decode cX6_fits 30 = .ok (.bipush (-3), 2) := by decide +kernel
theorem dX6_fits_32 : decode cX6_fits 32 = .ok (.istore 4, 2) := by decide +kernel
theorem dX6_fits_34 : decode cX6_fits 34 = .ok (.iload 4, 2) := by decide +kernel
theorem dX6_fits_36 : decode cX6_fits 36 = .ok (.iconst 3, 1) := by decide +kernel
theorem dX6_fits_37 : decode cX6_fits 37 = .ok (.if_icmp .gt 23, 3) := by decide +kernel
theorem dX6_fits_40 : decode cX6_fits 40 = .ok (.aload_n 0, 1) := by decide +kernel
theorem dX6_fits_41 : decode cX6_fits 41 = .ok (.iload_n 1, 1) := by decide +kernel
theorem dX6_fits_42 : decode cX6_fits 42 = .ok (.iload_n 3, 1) := by decide +kernel
theorem dX6_fits_43 : decode cX6_fits 43 = .ok (.iload 4, 2) := by decide +kernel
theorem dX6_fits_45 : decode cX6_fits 45 = .ok (.invokevirtual 215, 3) := by decide +kernel
theorem dX6_fits_48 : decode cX6_fits 48 = .ok (.ifCond .eq 6, 3) := by decide +kernel
theorem dX6_fits_51 : decode cX6_fits 51 = .ok (.iinc 2 1, 3) := by decide +kernel
theorem dX6_fits_54 : decode cX6_fits 54 = .ok (.iinc 4 1, 3) := by decide +kernel
theorem dX6_fits_57 : decode cX6_fits 57 = .ok (.goto (-23), 3) := by decide +kernel
theorem dX6_fits_60 : decode cX6_fits 60 = .ok (.iinc 3 1, 3) := by decide +kernel
theorem dX6_fits_63 : decode cX6_fits 63 = .ok (.goto (-46), 3) := by decide +kernel
theorem dX6_fits_66 : decode cX6_fits 66 = .ok (.iload_n 2, 1) := by decide +kernel
theorem dX6_fits_67 : decode cX6_fits 67 = .ok (.ireturn, 1) := by decide +kernel
theorem dX6_sure_0 : decode cX6_sure 0 = .ok (.aload_n 0, 1) := by decide +kernel
theorem dX6_sure_1 : decode cX6_sure 1 = .ok (.getfield 19, 3) := by decide +kernel
theorem dX6_sure_4 : decode cX6_sure 4 = .ok (.iload_n 1, 1) := by decide +kernel
theorem dX6_sure_5 : decode cX6_sure 5 = .ok (.invokevirtual 106, 3) := by decide +kernel
theorem dX6_sure_8 : decode cX6_sure 8 = .ok (.ifCond .eq 13, 3) := by decide +kernel
theorem dX6_sure_11 : decode cX6_sure 11 = .ok (.iload_n 2, 1) := by decide +kernel
theorem dX6_sure_12 : decode cX6_sure 12 = .ok (.iconst 0, 1) := by decide +kernel
theorem dX6_sure_13 : decode cX6_sure 13 = .ok (.bipush 60, 2) := by decide +kernel
theorem dX6_sure_15 : decode cX6_sure 15 = .ok (.invokestatic 70, 3) := by decide +kernel
theorem dX6_sure_18 : decode cX6_sure 18 = .ok (.ifCond .ne 5, 3) := by decide +kernel
theorem dX6_sure_21 : decode cX6_sure 21 = .ok (.iconst (-1), 1) := by decide +kernel
theorem dX6_sure_22 : decode cX6_sure 22 = .ok (.ireturn, 1) := by decide +kernel
theorem dX6_sure_23 : decode cX6_sure 23 = .ok (.bipush (-9), 2) := by decide +kernel
theorem dX6_sure_25 : decode cX6_sure 25 = .ok (.istore_n 3, 1) := by decide +kernel
theorem dX6_sure_26 : decode cX6_sure 26 = .ok (.iconst 0, 1) := by decide +kernel
theorem dX6_sure_27 : decode cX6_sure 27 = .ok (.istore 4, 2) := by decide +kernel
theorem dX6_sure_29 : decode cX6_sure 29 = .ok (.iload 4, 2) := by decide +kernel
theorem dX6_sure_31 : decode cX6_sure 31 = .ok (.aload_n 0, 1) := by decide +kernel
theorem dX6_sure_32 : decode cX6_sure 32 = .ok (.getfield 19, 3) := by decide +kernel
theorem dX6_sure_35 : decode cX6_sure 35 = .ok (.getfield 113, 3) := by decide +kernel
theorem dX6_sure_38 : decode cX6_sure 38 = .ok (.iload_n 1, 1) := by decide +kernel
theorem dX6_sure_39 : decode cX6_sure 39 = .ok (.iaload, 1) := by decide +kernel
theorem dX6_sure_40 : decode cX6_sure 40 = .ok (.if_icmp .gt 67, 3) := by decide +kernel
theorem dX6_sure_43 : decode cX6_sure 43 = .ok (.bipush (-3), 2) := by decide +kernel
theorem dX6_sure_45 : decode cX6_sure 45 = .ok (.istore 5, 2) := by decide +kernel
theorem dX6_sure_47 : decode cX6_sure 47 = .ok (.iload 5, 2) := by decide +kernel
theorem dX6_sure_49 : decode cX6_sure 49 = .ok (.iconst 3, 1) := by decide +kernel
theorem dX6_sure_50 : decode cX6_sure 50 = .ok (.if_icmp .gt 51, 3) := by decide +kernel
theorem dX6_sure_53 : decode cX6_sure 53 = .ok (.aload_n 0, 1) := by decide +kernel
theorem dX6_sure_54 : decode cX6_sure 54 = .ok (.iload_n 1, 1) := by decide +kernel
theorem dX6_sure_55 : decode cX6_sure 55 = .ok (.iload 4, 2) := by decide +kernel
theorem dX6_sure_57 : decode cX6_sure 57 = .ok (.iload 5, 2) := by decide +kernel
theorem dX6_sure_59 : decode cX6_sure 59 = .ok (.invokevirtual 215, 3) := by decide +kernel
theorem dX6_sure_62 : decode cX6_sure 62 = .ok (.ifCond .eq 33, 3) := by decide +kernel
theorem dX6_sure_65 : decode cX6_sure 65 = .ok (.aload_n 0, 1) := by decide +kernel
theorem dX6_sure_66 : decode cX6_sure 66 = .ok (.iload_n 1, 1) := by decide +kernel
theorem dX6_sure_67 : decode cX6_sure 67 = .ok (.iload_n 2, 1) := by decide +kernel
theorem dX6_sure_68 : decode cX6_sure 68 = .ok (.iload 4, 2) := by decide +kernel
theorem dX6_sure_70 : decode cX6_sure 70 = .ok (.iload 5, 2) := by decide +kernel
theorem dX6_sure_72 : decode cX6_sure 72 = .ok (.invokevirtual 218, 3) := by decide +kernel
theorem dX6_sure_75 : decode cX6_sure 75 = .ok (.istore 6, 2) := by decide +kernel
theorem dX6_sure_77 : decode cX6_sure 77 = .ok (.iload_n 3, 1) := by decide +kernel
theorem dX6_sure_78 : decode cX6_sure 78 = .ok (.bipush (-9), 2) := by decide +kernel
theorem dX6_sure_80 : decode cX6_sure 80 = .ok (.if_icmp .eq 12, 3) := by decide +kernel
theorem dX6_sure_83 : decode cX6_sure 83 = .ok (.iload_n 3, 1) := by decide +kernel
theorem dX6_sure_84 : decode cX6_sure 84 = .ok (.iload 6, 2) := by decide +kernel
theorem dX6_sure_86 : decode cX6_sure 86 = .ok (.if_icmp .eq 6, 3) := by decide +kernel
theorem dX6_sure_89 : decode cX6_sure 89 = .ok (.bipush (-5), 2) := by decide +kernel
theorem dX6_sure_91 : decode cX6_sure 91 = .ok (.ireturn, 1) := by decide +kernel
theorem dX6_sure_92 : decode cX6_sure 92 = .ok (.iload 6, 2) := by decide +kernel
theorem dX6_sure_94 : decode cX6_sure 94 = .ok (.istore_n 3, 1) := by decide +kernel
theorem dX6_sure_95 : decode cX6_sure 95 = .ok (.iinc 5 1, 3) := by decide +kernel
theorem dX6_sure_98 : decode cX6_sure 98 = .ok (.goto (-51), 3) := by decide +kernel
theorem dX6_sure_101 : decode cX6_sure 101 = .ok (.iinc 4 1, 3) := by decide +kernel
theorem dX6_sure_104 : decode cX6_sure 104 = .ok (.goto (-75), 3) := by decide +kernel
theorem dX6_sure_107 : decode cX6_sure 107 = .ok (.iload_n 3, 1) := by decide +kernel
theorem dX6_sure_108 : decode cX6_sure 108 = .ok (.ireturn, 1) := by decide +kernel
theorem dX6_clash_0 : decode cX6_clash 0 = .ok (.iconst 0, 1) := by decide +kernel
theorem dX6_clash_1 : decode cX6_clash 1 = .ok (.istore_n 1, 1) := by decide +kernel
theorem dX6_clash_2 : decode cX6_clash 2 = .ok (.iload_n 1, 1) := by decide +kernel
theorem dX6_clash_3 : decode cX6_clash 3 = .ok (.aload_n 0, 1) := by decide +kernel
theorem dX6_clash_4 : decode cX6_clash 4 = .ok (.getfield 19, 3) := by decide +kernel
theorem dX6_clash_7 : decode cX6_clash 7 = .ok (.getfield 222, 3) := by decide +kernel
theorem dX6_clash_10 : decode cX6_clash 10 = .ok (.if_icmp .ge 46, 3) := by decide +kernel
theorem dX6_clash_13 : decode cX6_clash 13 = .ok (.iload_n 1, 1) := by decide +kernel
theorem dX6_clash_14 : decode cX6_clash 14 = .ok (.iconst 1, 1) := by decide +kernel
theorem dX6_clash_15 : decode cX6_clash 15 = .ok (.iadd, 1) := by decide +kernel
theorem dX6_clash_16 : decode cX6_clash 16 = .ok (.istore_n 2, 1) := by decide +kernel
theorem dX6_clash_17 : decode cX6_clash 17 = .ok (.iload_n 2, 1) := by decide +kernel
theorem dX6_clash_18 : decode cX6_clash 18 = .ok (.aload_n 0, 1) := by decide +kernel
theorem dX6_clash_19 : decode cX6_clash 19 = .ok (.getfield 19, 3) := by decide +kernel
theorem dX6_clash_22 : decode cX6_clash 22 = .ok (.getfield 222, 3) := by decide +kernel
theorem dX6_clash_25 : decode cX6_clash 25 = .ok (.if_icmp .ge 25, 3) := by decide +kernel
theorem dX6_clash_28 : decode cX6_clash 28 = .ok (.aload_n 0, 1) := by decide +kernel
theorem dX6_clash_29 : decode cX6_clash 29 = .ok (.iload_n 1, 1) := by decide +kernel
theorem dX6_clash_30 : decode cX6_clash 30 = .ok (.iload_n 2, 1) := by decide +kernel
theorem dX6_clash_31 : decode cX6_clash 31 = .ok (.invokevirtual 225, 3) := by decide +kernel
theorem dX6_clash_34 : decode cX6_clash 34 = .ok (.ifCond .eq 10, 3) := by decide +kernel
theorem dX6_clash_37 : decode cX6_clash 37 = .ok (.bipush 10, 2) := by decide +kernel
theorem dX6_clash_39 : decode cX6_clash 39 = .ok (.iload_n 1, 1) := by decide +kernel
theorem dX6_clash_40 : decode cX6_clash 40 = .ok (.imul, 1) := by decide +kernel
theorem dX6_clash_41 : decode cX6_clash 41 = .ok (.iload_n 2, 1) := by decide +kernel
theorem dX6_clash_42 : decode cX6_clash 42 = .ok (.iadd, 1) := by decide +kernel
theorem dX6_clash_43 : decode cX6_clash 43 = .ok (.ireturn, 1) := by decide +kernel
theorem dX6_clash_44 : decode cX6_clash 44 = .ok (.iinc 2 1, 3) := by decide +kernel
theorem dX6_clash_47 : decode cX6_clash 47 = .ok (.goto (-30), 3) := by decide +kernel
theorem dX6_clash_50 : decode cX6_clash 50 = .ok (.iinc 1 1, 3) := by decide +kernel
theorem dX6_clash_53 : decode cX6_clash 53 = .ok (.goto (-51), 3) := by decide +kernel
theorem dX6_clash_56 : decode cX6_clash 56 = .ok (.bipush (-9), 2) := by decide +kernel
theorem dX6_clash_58 : decode cX6_clash 58 = .ok (.ireturn, 1) := by decide +kernel
theorem dX6_rate_0 : decode cX6_rate 0 = .ok (.aload_n 0, 1) := by decide +kernel
theorem dX6_rate_1 : decode cX6_rate 1 = .ok (.getfield 19, 3) := by decide +kernel
theorem dX6_rate_4 : decode cX6_rate 4 = .ok (.iload_n 2, 1) := by decide +kernel
theorem dX6_rate_5 : decode cX6_rate 5 = .ok (.invokevirtual 119, 3) := by decide +kernel
theorem dX6_rate_8 : decode cX6_rate 8 = .ok (.ifCond .ne 6, 3) := by decide +kernel
theorem dX6_rate_11 : decode cX6_rate 11 = .ok (.ldc 184, 2) := by decide +kernel
theorem dX6_rate_13 : decode cX6_rate 13 = .ok (.ireturn, 1) := by decide +kernel
theorem dX6_rate_14 : decode cX6_rate 14 = .ok (.iload_n 1, 1) := by decide +kernel
theorem dX6_rate_15 : decode cX6_rate 15 = .ok (.tableswitch 73 0 5 #[37, 43, 49, 55, 61, 67], 37) := by decide +kernel
theorem dX6_rate_52 : decode cX6_rate 52 = .ok (.aload_n 0, 1) := by decide +kernel
theorem dX6_rate_53 : decode cX6_rate 53 = .ok (.iload_n 2, 1) := by decide +kernel
theorem dX6_rate_54 : decode cX6_rate 54 = .ok (.invokevirtual 229, 3) := by decide +kernel
theorem dX6_rate_57 : decode cX6_rate 57 = .ok (.ireturn, 1) := by decide +kernel
theorem dX6_rate_58 : decode cX6_rate 58 = .ok (.aload_n 0, 1) := by decide +kernel
theorem dX6_rate_59 : decode cX6_rate 59 = .ok (.iload_n 2, 1) := by decide +kernel
theorem dX6_rate_60 : decode cX6_rate 60 = .ok (.invokevirtual 232, 3) := by decide +kernel
theorem dX6_rate_63 : decode cX6_rate 63 = .ok (.ireturn, 1) := by decide +kernel
theorem dX6_rate_64 : decode cX6_rate 64 = .ok (.aload_n 0, 1) := by decide +kernel
theorem dX6_rate_65 : decode cX6_rate 65 = .ok (.iload_n 2, 1) := by decide +kernel
theorem dX6_rate_66 : decode cX6_rate 66 = .ok (.invokevirtual 235, 3) := by decide +kernel
theorem dX6_rate_69 : decode cX6_rate 69 = .ok (.ireturn, 1) := by decide +kernel
theorem dX6_rate_70 : decode cX6_rate 70 = .ok (.aload_n 0, 1) := by decide +kernel
theorem dX6_rate_71 : decode cX6_rate 71 = .ok (.iload_n 2, 1) := by decide +kernel
theorem dX6_rate_72 : decode cX6_rate 72 = .ok (.invokevirtual 238, 3) := by decide +kernel
theorem dX6_rate_75 : decode cX6_rate 75 = .ok (.ireturn, 1) := by decide +kernel
theorem dX6_rate_76 : decode cX6_rate 76 = .ok (.aload_n 0, 1) := by decide +kernel
theorem dX6_rate_77 : decode cX6_rate 77 = .ok (.iload_n 2, 1) := by decide +kernel
theorem dX6_rate_78 : decode cX6_rate 78 = .ok (.invokevirtual 241, 3) := by decide +kernel
theorem dX6_rate_81 : decode cX6_rate 81 = .ok (.ireturn, 1) := by decide +kernel
theorem dX6_rate_82 : decode cX6_rate 82 = .ok (.aload_n 0, 1) := by decide +kernel
theorem dX6_rate_83 : decode cX6_rate 83 = .ok (.iload_n 2, 1) := by decide +kernel
theorem dX6_rate_84 : decode cX6_rate 84 = .ok (.invokevirtual 244, 3) := by decide +kernel
theorem dX6_rate_87 : decode cX6_rate 87 = .ok (.ireturn, 1) := by decide +kernel
theorem dX6_rate_88 : decode cX6_rate 88 = .ok (.ldc 184, 2) := by decide +kernel
theorem dX6_rate_90 : decode cX6_rate 90 = .ok (.ireturn, 1) := by decide +kernel
theorem dX6_keep_0 : decode cX6_keep 0 = .ok (.iload_n 1, 1) := by decide +kernel
theorem dX6_keep_1 : decode cX6_keep 1 = .ok (.iconst 0, 1) := by decide +kernel
theorem dX6_keep_2 : decode cX6_keep 2 = .ok (.iconst 1, 1) := by decide +kernel
theorem dX6_keep_3 : decode cX6_keep 3 = .ok (.invokestatic 70, 3) := by decide +kernel
theorem dX6_keep_6 : decode cX6_keep 6 = .ok (.ifCond .ne 5, 3) := by decide +kernel
theorem dX6_keep_9 : decode cX6_keep 9 = .ok (.iconst (-1), 1) := by decide +kernel
theorem dX6_keep_10 : decode cX6_keep 10 = .ok (.ireturn, 1) := by decide +kernel
theorem dX6_keep_11 : decode cX6_keep 11 = .ok (.aload_n 0, 1) := by decide +kernel
theorem dX6_keep_12 : decode cX6_keep 12 = .ok (.getfield 37, 3) := by decide +kernel
theorem dX6_keep_15 : decode cX6_keep 15 = .ok (.iload_n 1, 1) := by decide +kernel
theorem dX6_keep_16 : decode cX6_keep 16 = .ok (.aaload, 1) := by decide +kernel
theorem dX6_keep_17 : decode cX6_keep 17 = .ok (.aload_n 0, 1) := by decide +kernel
theorem dX6_keep_18 : decode cX6_keep 18 = .ok (.getfield 26, 3) := by decide +kernel
theorem dX6_keep_21 : decode cX6_keep 21 = .ok (.invokevirtual 96, 3) := by decide +kernel
theorem dX6_keep_24 : decode cX6_keep 24 = .ok (.aload_n 0, 1) := by decide +kernel
theorem dX6_keep_25 : decode cX6_keep 25 = .ok (.getfield 41, 3) := by decide +kernel
theorem dX6_keep_28 : decode cX6_keep 28 = .ok (.iload_n 1, 1) := by decide +kernel
theorem dX6_keep_29 : decode cX6_keep 29 = .ok (.iconst 1, 1) := by decide +kernel
theorem dX6_keep_30 : decode cX6_keep 30 = .ok (.bastore, 1) := by decide +kernel
theorem dX6_keep_31 : decode cX6_keep 31 = .ok (.aload_n 0, 1) := by decide +kernel
theorem dX6_keep_32 : decode cX6_keep 32 = .ok (.getfield 26, 3) := by decide +kernel
theorem dX6_keep_35 : decode cX6_keep 35 = .ok (.getfield 145, 3) := by decide +kernel
theorem dX6_keep_38 : decode cX6_keep 38 = .ok (.ireturn, 1) := by decide +kernel
theorem dX6_back_0 : decode cX6_back 0 = .ok (.iload_n 1, 1) := by decide +kernel
theorem dX6_back_1 : decode cX6_back 1 = .ok (.iconst 0, 1) := by decide +kernel
theorem dX6_back_2 : decode cX6_back 2 = .ok (.iconst 1, 1) := by decide +kernel
theorem dX6_back_3 : decode cX6_back 3 = .ok (.invokestatic 70, 3) := by decide +kernel
theorem dX6_back_6 : decode cX6_back 6 = .ok (.ifCond .ne 5, 3) := by decide +kernel
theorem dX6_back_9 : decode cX6_back 9 = .ok (.iconst (-1), 1) := by decide +kernel
theorem dX6_back_10 : decode cX6_back 10 = .ok (.ireturn, 1) := by decide +kernel
theorem dX6_back_11 : decode cX6_back 11 = .ok (.aload_n 0, 1) := by decide +kernel
theorem dX6_back_12 : decode cX6_back 12 = .ok (.getfield 41, 3) := by decide +kernel
theorem dX6_back_15 : decode cX6_back 15 = .ok (.iload_n 1, 1) := by decide +kernel
theorem dX6_back_16 : decode cX6_back 16 = .ok (.baload, 1) := by decide +kernel
theorem dX6_back_17 : decode cX6_back 17 = .ok (.ifCond .ne 6, 3) := by decide +kernel
theorem dX6_back_20 : decode cX6_back 20 = .ok (.bipush (-2), 2) := by decide +kernel
theorem dX6_back_22 : decode cX6_back 22 = .ok (.ireturn, 1) := by decide +kernel
theorem dX6_back_23 : decode cX6_back 23 = .ok (.aload_n 0, 1) := by decide +kernel
theorem dX6_back_24 : decode cX6_back 24 = .ok (.getfield 26, 3) := by decide +kernel
theorem dX6_back_27 : decode cX6_back 27 = .ok (.aload_n 0, 1) := by decide +kernel
theorem dX6_back_28 : decode cX6_back 28 = .ok (.getfield 37, 3) := by decide +kernel
theorem dX6_back_31 : decode cX6_back 31 = .ok (.iload_n 1, 1) := by decide +kernel
theorem dX6_back_32 : decode cX6_back 32 = .ok (.aaload, 1) := by decide +kernel
theorem dX6_back_33 : decode cX6_back 33 = .ok (.invokevirtual 96, 3) := by decide +kernel
theorem dX6_back_36 : decode cX6_back 36 = .ok (.aload_n 0, 1) := by decide +kernel
theorem dX6_back_37 : decode cX6_back 37 = .ok (.getfield 33, 3) := by decide +kernel
theorem dX6_back_40 : decode cX6_back 40 = .ok (.iconst 0, 1) := by decide +kernel
theorem dX6_back_41 : decode cX6_back 41 = .ok (.putfield 99, 3) := by decide +kernel
theorem dX6_back_44 : decode cX6_back 44 = .ok (.aload_n 0, 1) := by decide +kernel
theorem dX6_back_45 : decode cX6_back 45 = .ok (.getfield 26, 3) := by decide +kernel
theorem dX6_back_48 : decode cX6_back 48 = .ok (.getfield 145, 3) := by decide +kernel
theorem dX6_back_51 : decode cX6_back 51 = .ok (.ireturn, 1) := by decide +kernel
theorem dX6_count_0 : decode cX6_count 0 = .ok (.iload_n 1, 1) := by decide +kernel
theorem dX6_count_1 : decode cX6_count 1 = .ok (.tableswitch 99 0 6 #[43, 51, 59, 67, 75, 83, 91], 43) := by decide +kernel
theorem dX6_count_44 : decode cX6_count 44 = .ok (.aload_n 0, 1) := by decide +kernel
theorem dX6_count_45 : decode cX6_count 45 = .ok (.getfield 19, 3) := by decide +kernel
theorem dX6_count_48 : decode cX6_count 48 = .ok (.getfield 222, 3) := by decide +kernel
theorem dX6_count_51 : decode cX6_count 51 = .ok (.ireturn, 1) := by decide +kernel
theorem dX6_count_52 : decode cX6_count 52 = .ok (.aload_n 0, 1) := by decide +kernel
theorem dX6_count_53 : decode cX6_count 53 = .ok (.getfield 19, 3) := by decide +kernel
theorem dX6_count_56 : decode cX6_count 56 = .ok (.getfield 247, 3) := by decide +kernel
theorem dX6_count_59 : decode cX6_count 59 = .ok (.ireturn, 1) := by decide +kernel
theorem dX6_count_60 : decode cX6_count 60 = .ok (.aload_n 0, 1) := by decide +kernel
theorem dX6_count_61 : decode cX6_count 61 = .ok (.getfield 19, 3) := by decide +kernel
theorem dX6_count_64 : decode cX6_count 64 = .ok (.getfield 250, 3) := by decide +kernel
theorem dX6_count_67 : decode cX6_count 67 = .ok (.ireturn, 1) := by decide +kernel
theorem dX6_count_68 : decode cX6_count 68 = .ok (.aload_n 0, 1) := by decide +kernel
theorem dX6_count_69 : decode cX6_count 69 = .ok (.getfield 48, 3) := by decide +kernel
theorem dX6_count_72 : decode cX6_count 72 = .ok (.getfield 102, 3) := by decide +kernel
theorem dX6_count_75 : decode cX6_count 75 = .ok (.ireturn, 1) := by decide +kernel
theorem dX6_count_76 : decode cX6_count 76 = .ok (.aload_n 0, 1) := by decide +kernel
theorem dX6_count_77 : decode cX6_count 77 = .ok (.getfield 55, 3) := by decide +kernel
theorem dX6_count_80 : decode cX6_count 80 = .ok (.getfield 105, 3) := by decide +kernel
theorem dX6_count_83 : decode cX6_count 83 = .ok (.ireturn, 1) := by decide +kernel
theorem dX6_count_84 : decode cX6_count 84 = .ok (.aload_n 0, 1) := by decide +kernel
theorem dX6_count_85 : decode cX6_count 85 = .ok (.getfield 10, 3) := by decide +kernel
theorem dX6_count_88 : decode cX6_count 88 = .ok (.getfield 74, 3) := by decide +kernel
theorem dX6_count_91 : decode cX6_count 91 = .ok (.ireturn, 1) := by decide +kernel
theorem dX6_count_92 : decode cX6_count 92 = .ok (.aload_n 0, 1) := by decide +kernel
theorem dX6_count_93 : decode cX6_count 93 = .ok (.getfield 19, 3) := by decide +kernel
theorem dX6_count_96 : decode cX6_count 96 = .ok (.getfield 175, 3) := by decide +kernel
theorem dX6_count_99 : decode cX6_count 99 = .ok (.ireturn, 1) := by decide +kernel
theorem dX6_count_100 : decode cX6_count 100 = .ok (.iconst (-1), 1) := by decide +kernel
theorem dX6_count_101 : decode cX6_count 101 = .ok (.ireturn, 1) := by decide +kernel
theorem dX6_trace_0 : decode cX6_trace 0 = .ok (.aload_n 0, 1) := by decide +kernel
theorem dX6_trace_1 : decode cX6_trace 1 = .ok (.getfield 66, 3) := by decide +kernel
theorem dX6_trace_4 : decode cX6_trace 4 = .ok (.lreturn, 1) := by decide +kernel
theorem dX6_within_0 : decode cX6_within 0 = .ok (.iload_n 0, 1) := by decide +kernel
theorem dX6_within_1 : decode cX6_within 1 = .ok (.iload_n 1, 1) := by decide +kernel
theorem dX6_within_2 : decode cX6_within 2 = .ok (.if_icmp .lt 12, 3) := by decide +kernel
theorem dX6_within_5 : decode cX6_within 5 = .ok (.iload_n 0, 1) := by decide +kernel
theorem dX6_within_6 : decode cX6_within 6 = .ok (.iload_n 2, 1) := by decide +kernel
theorem dX6_within_7 : decode cX6_within 7 = .ok (.if_icmp .gt 7, 3) := by decide +kernel
theorem dX6_within_10 : decode cX6_within 10 = .ok (.iconst 1, 1) := by decide +kernel
theorem dX6_within_11 : decode cX6_within 11 = .ok (.goto 4, 3) := by decide +kernel
theorem dX6_within_14 : decode cX6_within 14 = .ok (.iconst 0, 1) := by decide +kernel
theorem dX6_within_15 : decode cX6_within 15 = .ok (.ireturn, 1) := by decide +kernel
theorem dX6_moved_0 : decode cX6_moved 0 = .ok (.iconst 0, 1) := by decide +kernel
theorem dX6_moved_1 : decode cX6_moved 1 = .ok (.iload_n 2, 1) := by decide +kernel
theorem dX6_moved_2 : decode cX6_moved 2 = .ok (.iload_n 0, 1) := by decide +kernel
theorem dX6_moved_3 : decode cX6_moved 3 = .ok (.iload_n 1, 1) := by decide +kernel
theorem dX6_moved_4 : decode cX6_moved 4 = .ok (.iadd, 1) := by decide +kernel
theorem dX6_moved_5 : decode cX6_moved 5 = .ok (.invokestatic 253, 3) := by decide +kernel
theorem dX6_moved_8 : decode cX6_moved 8 = .ok (.invokestatic 258, 3) := by decide +kernel
theorem dX6_moved_11 : decode cX6_moved 11 = .ok (.ireturn, 1) := by decide +kernel
theorem dX6_cell_0 : decode cX6_cell 0 = .ok (.iload_n 0, 1) := by decide +kernel
theorem dX6_cell_1 : decode cX6_cell 1 = .ok (.iconst 4, 1) := by decide +kernel
theorem dX6_cell_2 : decode cX6_cell 2 = .ok (.imul, 1) := by decide +kernel
theorem dX6_cell_3 : decode cX6_cell 3 = .ok (.iload_n 1, 1) := by decide +kernel
theorem dX6_cell_4 : decode cX6_cell 4 = .ok (.iadd, 1) := by decide +kernel
theorem dX6_cell_5 : decode cX6_cell 5 = .ok (.ireturn, 1) := by decide +kernel
theorem dX6_endBy_0 : decode cX6_endBy 0 = .ok (.iload_n 0, 1) := by decide +kernel
theorem dX6_endBy_1 : decode cX6_endBy 1 = .ok (.ifCond .ne 14, 3) := by decide +kernel
theorem dX6_endBy_4 : decode cX6_endBy 4 = .ok (.iload_n 3, 1) := by decide +kernel
theorem dX6_endBy_5 : decode cX6_endBy 5 = .ok (.iload_n 1, 1) := by decide +kernel
theorem dX6_endBy_6 : decode cX6_endBy 6 = .ok (.if_icmp .ge 7, 3) := by decide +kernel
theorem dX6_endBy_9 : decode cX6_endBy 9 = .ok (.iconst 0, 1) := by decide +kernel
theorem dX6_endBy_10 : decode cX6_endBy 10 = .ok (.goto 4, 3) := by decide +kernel
theorem dX6_endBy_13 : decode cX6_endBy 13 = .ok (.iconst 1, 1) := by decide +kernel
theorem dX6_endBy_14 : decode cX6_endBy 14 = .ok (.ireturn, 1) := by decide +kernel
theorem dX6_endBy_15 : decode cX6_endBy 15 = .ok (.iload_n 0, 1) := by decide +kernel
theorem dX6_endBy_16 : decode cX6_endBy 16 = .ok (.iconst 3, 1) := by decide +kernel
theorem dX6_endBy_17 : decode cX6_endBy 17 = .ok (.if_icmp .ne 30, 3) := by decide +kernel
theorem dX6_endBy_20 : decode cX6_endBy 20 = .ok (.iconst 2, 1) := by decide +kernel
theorem dX6_endBy_21 : decode cX6_endBy 21 = .ok (.iload_n 3, 1) := by decide +kernel
theorem dX6_endBy_22 : decode cX6_endBy 22 = .ok (.imul, 1) := by decide +kernel
theorem dX6_endBy_23 : decode cX6_endBy 23 = .ok (.istore 4, 2) := by decide +kernel
theorem dX6_endBy_25 : decode cX6_endBy 25 = .ok (.iload 4, 2) := by decide +kernel
theorem dX6_endBy_27 : decode cX6_endBy 27 = .ok (.iload_n 2, 1) := by decide +kernel
theorem dX6_endBy_28 : decode cX6_endBy 28 = .ok (.if_icmp .ne 7, 3) := by decide +kernel
theorem dX6_endBy_31 : decode cX6_endBy 31 = .ok (.iconst 2, 1) := by decide +kernel
theorem dX6_endBy_32 : decode cX6_endBy 32 = .ok (.goto 14, 3) := by decide +kernel
theorem dX6_endBy_35 : decode cX6_endBy 35 = .ok (.iload 4, 2) := by decide +kernel
theorem dX6_endBy_37 : decode cX6_endBy 37 = .ok (.iload_n 2, 1) := by decide +kernel
theorem dX6_endBy_38 : decode cX6_endBy 38 = .ok (.if_icmp .ge 7, 3) := by decide +kernel
theorem dX6_endBy_41 : decode cX6_endBy 41 = .ok (.iconst 0, 1) := by decide +kernel
theorem dX6_endBy_42 : decode cX6_endBy 42 = .ok (.goto 4, 3) := by decide +kernel
theorem dX6_endBy_45 : decode cX6_endBy 45 = .ok (.iconst 1, 1) := by decide +kernel
theorem dX6_endBy_46 : decode cX6_endBy 46 = .ok (.ireturn, 1) := by decide +kernel
theorem dX6_endBy_47 : decode cX6_endBy 47 = .ok (.iload_n 3, 1) := by decide +kernel
theorem dX6_endBy_48 : decode cX6_endBy 48 = .ok (.ifCond .ne 5, 3) := by decide +kernel
theorem dX6_endBy_51 : decode cX6_endBy 51 = .ok (.iconst 0, 1) := by decide +kernel
theorem dX6_endBy_52 : decode cX6_endBy 52 = .ok (.ireturn, 1) := by decide +kernel
theorem dX6_endBy_53 : decode cX6_endBy 53 = .ok (.iload_n 3, 1) := by decide +kernel
theorem dX6_endBy_54 : decode cX6_endBy 54 = .ok (.iload_n 2, 1) := by decide +kernel
theorem dX6_endBy_55 : decode cX6_endBy 55 = .ok (.if_icmp .ne 5, 3) := by decide +kernel
theorem dX6_endBy_58 : decode cX6_endBy 58 = .ok (.iconst 1, 1) := by decide +kernel
theorem dX6_endBy_59 : decode cX6_endBy 59 = .ok (.ireturn, 1) := by decide +kernel
theorem dX6_endBy_60 : decode cX6_endBy 60 = .ok (.iload_n 0, 1) := by decide +kernel
theorem dX6_endBy_61 : decode cX6_endBy 61 = .ok (.iconst 1, 1) := by decide +kernel
theorem dX6_endBy_62 : decode cX6_endBy 62 = .ok (.if_icmp .ne 7, 3) := by decide +kernel
theorem dX6_endBy_65 : decode cX6_endBy 65 = .ok (.iconst 3, 1) := by decide +kernel
theorem dX6_endBy_66 : decode cX6_endBy 66 = .ok (.goto 4, 3) := by decide +kernel
theorem dX6_endBy_69 : decode cX6_endBy 69 = .ok (.iconst 2, 1) := by decide +kernel
theorem dX6_endBy_70 : decode cX6_endBy 70 = .ok (.ireturn, 1) := by decide +kernel
theorem dX6_endOf_0 : decode cX6_endOf 0 = .ok (.aload_n 0, 1) := by decide +kernel
theorem dX6_endOf_1 : decode cX6_endOf 1 = .ok (.getfield 26, 3) := by decide +kernel
theorem dX6_endOf_4 : decode cX6_endOf 4 = .ok (.getfield 110, 3) := by decide +kernel
theorem dX6_endOf_7 : decode cX6_endOf 7 = .ok (.iload_n 1, 1) := by decide +kernel
theorem dX6_endOf_8 : decode cX6_endOf 8 = .ok (.iaload, 1) := by decide +kernel
theorem dX6_endOf_9 : decode cX6_endOf 9 = .ok (.aload_n 0, 1) := by decide +kernel
theorem dX6_endOf_10 : decode cX6_endOf 10 = .ok (.getfield 26, 3) := by decide +kernel
theorem dX6_endOf_13 : decode cX6_endOf 13 = .ok (.getfield 116, 3) := by decide +kernel
theorem dX6_endOf_16 : decode cX6_endOf 16 = .ok (.iload_n 1, 1) := by decide +kernel
theorem dX6_endOf_17 : decode cX6_endOf 17 = .ok (.iaload, 1) := by decide +kernel
theorem dX6_endOf_18 : decode cX6_endOf 18 = .ok (.aload_n 0, 1) := by decide +kernel
theorem dX6_endOf_19 : decode cX6_endOf 19 = .ok (.getfield 19, 3) := by decide +kernel
theorem dX6_endOf_22 : decode cX6_endOf 22 = .ok (.getfield 113, 3) := by decide +kernel
theorem dX6_endOf_25 : decode cX6_endOf 25 = .ok (.iload_n 1, 1) := by decide +kernel
theorem dX6_endOf_26 : decode cX6_endOf 26 = .ok (.iaload, 1) := by decide +kernel
theorem dX6_endOf_27 : decode cX6_endOf 27 = .ok (.iload_n 2, 1) := by decide +kernel
theorem dX6_endOf_28 : decode cX6_endOf 28 = .ok (.invokestatic 261, 3) := by decide +kernel
theorem dX6_endOf_31 : decode cX6_endOf 31 = .ok (.ireturn, 1) := by decide +kernel
theorem dX6_canBeLaw_0 : decode cX6_canBeLaw 0 = .ok (.aload_n 0, 1) := by decide +kernel
theorem dX6_canBeLaw_1 : decode cX6_canBeLaw 1 = .ok (.getfield 19, 3) := by decide +kernel
theorem dX6_canBeLaw_4 : decode cX6_canBeLaw 4 = .ok (.iload_n 1, 1) := by decide +kernel
theorem dX6_canBeLaw_5 : decode cX6_canBeLaw 5 = .ok (.invokevirtual 106, 3) := by decide +kernel
theorem dX6_canBeLaw_8 : decode cX6_canBeLaw 8 = .ok (.ifCond .eq 33, 3) := by decide +kernel
theorem dX6_canBeLaw_11 : decode cX6_canBeLaw 11 = .ok (.iload_n 2, 1) := by decide +kernel
theorem dX6_canBeLaw_12 : decode cX6_canBeLaw 12 = .ok (.iconst 0, 1) := by decide +kernel
theorem dX6_canBeLaw_13 : decode cX6_canBeLaw 13 = .ok (.iconst 3, 1) := by decide +kernel
theorem dX6_canBeLaw_14 : decode cX6_canBeLaw 14 = .ok (.invokestatic 70, 3) := by decide +kernel
theorem dX6_canBeLaw_17 : decode cX6_canBeLaw 17 = .ok (.ifCond .eq 24, 3) := by decide +kernel
theorem dX6_canBeLaw_20 : decode cX6_canBeLaw 20 = .ok (.iload_n 3, 1) := by decide +kernel
theorem dX6_canBeLaw_21 : decode cX6_canBeLaw 21 = .ok (.iconst 1, 1) := by decide +kernel
theorem dX6_canBeLaw_22 : decode cX6_canBeLaw 22 = .ok (.aload_n 0, 1) := by decide +kernel
theorem dX6_canBeLaw_23 : decode cX6_canBeLaw 23 = .ok (.getfield 19, 3) := by decide +kernel
theorem dX6_canBeLaw_26 : decode cX6_canBeLaw 26 = .ok (.getfield 113, 3) := by decide +kernel
theorem dX6_canBeLaw_29 : decode cX6_canBeLaw 29 = .ok (.iload_n 1, 1) := by decide +kernel
theorem dX6_canBeLaw_30 : decode cX6_canBeLaw 30 = .ok (.iaload, 1) := by decide +kernel
theorem dX6_canBeLaw_31 : decode cX6_canBeLaw 31 = .ok (.invokestatic 70, 3) := by decide +kernel
theorem dX6_canBeLaw_34 : decode cX6_canBeLaw 34 = .ok (.ifCond .eq 7, 3) := by decide +kernel
theorem dX6_canBeLaw_37 : decode cX6_canBeLaw 37 = .ok (.iconst 1, 1) := by decide +kernel
theorem dX6_canBeLaw_38 : decode cX6_canBeLaw 38 = .ok (.goto 4, 3) := by decide +kernel
theorem dX6_canBeLaw_41 : decode cX6_canBeLaw 41 = .ok (.iconst 0, 1) := by decide +kernel
theorem dX6_canBeLaw_42 : decode cX6_canBeLaw 42 = .ok (.ireturn, 1) := by decide +kernel
theorem dX6_valueBehind_0 : decode cX6_valueBehind 0 = .ok (.iload_n 2, 1) := by decide +kernel
theorem dX6_valueBehind_1 : decode cX6_valueBehind 1 = .ok (.iload_n 3, 1) := by decide +kernel
theorem dX6_valueBehind_2 : decode cX6_valueBehind 2 = .ok (.invokestatic 125, 3) := by decide +kernel
theorem dX6_valueBehind_5 : decode cX6_valueBehind 5 = .ok (.istore 4, 2) := by decide +kernel
theorem dX6_valueBehind_7 : decode cX6_valueBehind 7 = .ok (.aload_n 0, 1) := by decide +kernel
theorem dX6_valueBehind_8 : decode cX6_valueBehind 8 = .ok (.getfield 26, 3) := by decide +kernel
theorem dX6_valueBehind_11 : decode cX6_valueBehind 11 = .ok (.getfield 122, 3) := by decide +kernel
theorem dX6_valueBehind_14 : decode cX6_valueBehind 14 = .ok (.iload 4, 2) := by decide +kernel
theorem dX6_valueBehind_16 : decode cX6_valueBehind 16 = .ok (.iaload, 1) := by decide +kernel
theorem dX6_valueBehind_17 : decode cX6_valueBehind 17 = .ok (.iload_n 1, 1) := by decide +kernel
theorem dX6_valueBehind_18 : decode cX6_valueBehind 18 = .ok (.aload_n 0, 1) := by decide +kernel
theorem dX6_valueBehind_19 : decode cX6_valueBehind 19 = .ok (.getfield 19, 3) := by decide +kernel
theorem dX6_valueBehind_22 : decode cX6_valueBehind 22 = .ok (.getfield 129, 3) := by decide +kernel
theorem dX6_valueBehind_25 : decode cX6_valueBehind 25 = .ok (.iload 4, 2) := by decide +kernel
theorem dX6_valueBehind_27 : decode cX6_valueBehind 27 = .ok (.iaload, 1) := by decide +kernel
theorem dX6_valueBehind_28 : decode cX6_valueBehind 28 = .ok (.imul, 1) := by decide +kernel
theorem dX6_valueBehind_29 : decode cX6_valueBehind 29 = .ok (.aload_n 0, 1) := by decide +kernel
theorem dX6_valueBehind_30 : decode cX6_valueBehind 30 = .ok (.getfield 19, 3) := by decide +kernel
theorem dX6_valueBehind_33 : decode cX6_valueBehind 33 = .ok (.getfield 113, 3) := by decide +kernel
theorem dX6_valueBehind_36 : decode cX6_valueBehind 36 = .ok (.iload_n 3, 1) := by decide +kernel
theorem dX6_valueBehind_37 : decode cX6_valueBehind 37 = .ok (.iaload, 1) := by decide +kernel
theorem dX6_valueBehind_38 : decode cX6_valueBehind 38 = .ok (.invokestatic 154, 3) := by decide +kernel
theorem dX6_valueBehind_41 : decode cX6_valueBehind 41 = .ok (.ireturn, 1) := by decide +kernel
theorem dX6_endBehind_0 : decode cX6_endBehind 0 = .ok (.aload_n 0, 1) := by decide +kernel
theorem dX6_endBehind_1 : decode cX6_endBehind 1 = .ok (.iload_n 3, 1) := by decide +kernel
theorem dX6_endBehind_2 : decode cX6_endBehind 2 = .ok (.aload_n 0, 1) := by decide +kernel
theorem dX6_endBehind_3 : decode cX6_endBehind 3 = .ok (.iload_n 1, 1) := by decide +kernel
theorem dX6_endBehind_4 : decode cX6_endBehind 4 = .ok (.iload_n 2, 1) := by decide +kernel
theorem dX6_endBehind_5 : decode cX6_endBehind 5 = .ok (.iload_n 3, 1) := by decide +kernel
theorem dX6_endBehind_6 : decode cX6_endBehind 6 = .ok (.invokevirtual 264, 3) := by decide +kernel
theorem dX6_endBehind_9 : decode cX6_endBehind 9 = .ok (.invokevirtual 136, 3) := by decide +kernel
theorem dX6_endBehind_12 : decode cX6_endBehind 12 = .ok (.ireturn, 1) := by decide +kernel
theorem dX6_unlawfulScale_0 : decode cX6_unlawfulScale 0 = .ok (.iconst 0, 1) := by decide +kernel
theorem dX6_unlawfulScale_1 : decode cX6_unlawfulScale 1 = .ok (.istore_n 3, 1) := by decide +kernel
theorem dX6_unlawfulScale_2 : decode cX6_unlawfulScale 2 = .ok (.iload_n 3, 1) := by decide +kernel
theorem dX6_unlawfulScale_3 : decode cX6_unlawfulScale 3 = .ok (.aload_n 0, 1) := by decide +kernel
theorem dX6_unlawfulScale_4 : decode cX6_unlawfulScale 4 = .ok (.getfield 19, 3) := by decide +kernel
theorem dX6_unlawfulScale_7 : decode cX6_unlawfulScale 7 = .ok (.getfield 222, 3) := by decide +kernel
theorem dX6_unlawfulScale_10 : decode cX6_unlawfulScale 10 = .ok (.if_icmp .ge 22, 3) := by decide +kernel
theorem dX6_unlawfulScale_13 : decode cX6_unlawfulScale 13 = .ok (.aload_n 0, 1) := by decide +kernel
theorem dX6_unlawfulScale_14 : decode cX6_unlawfulScale 14 = .ok (.iload_n 2, 1) := by decide +kernel
theorem dX6_unlawfulScale_15 : decode cX6_unlawfulScale 15 = .ok (.iload_n 1, 1) := by decide +kernel
theorem dX6_unlawfulScale_16 : decode cX6_unlawfulScale 16 = .ok (.iload_n 3, 1) := by decide +kernel
theorem dX6_unlawfulScale_17 : decode cX6_unlawfulScale 17 = .ok (.invokevirtual 132, 3) := by decide +kernel
theorem dX6_unlawfulScale_20 : decode cX6_unlawfulScale 20 = .ok (.iconst 3, 1) := by decide +kernel
theorem dX6_unlawfulScale_21 : decode cX6_unlawfulScale 21 = .ok (.if_icmp .ne 5, 3) := by decide +kernel
theorem dX6_unlawfulScale_24 : decode cX6_unlawfulScale 24 = .ok (.iload_n 3, 1) := by decide +kernel
theorem dX6_unlawfulScale_25 : decode cX6_unlawfulScale 25 = .ok (.ireturn, 1) := by decide +kernel
theorem dX6_unlawfulScale_26 : decode cX6_unlawfulScale 26 = .ok (.iinc 3 1, 3) := by decide +kernel
theorem dX6_unlawfulScale_29 : decode cX6_unlawfulScale 29 = .ok (.goto (-27), 3) := by decide +kernel
theorem dX6_unlawfulScale_32 : decode cX6_unlawfulScale 32 = .ok (.bipush (-9), 2) := by decide +kernel
theorem dX6_unlawfulScale_34 : decode cX6_unlawfulScale 34 = .ok (.ireturn, 1) := by decide +kernel
theorem dX6_unlawfulLives_0 : decode cX6_unlawfulLives 0 = .ok (.iconst 0, 1) := by decide +kernel
theorem dX6_unlawfulLives_1 : decode cX6_unlawfulLives 1 = .ok (.istore_n 1, 1) := by decide +kernel
theorem dX6_unlawfulLives_2 : decode cX6_unlawfulLives 2 = .ok (.iconst 0, 1) := by decide +kernel
theorem dX6_unlawfulLives_3 : decode cX6_unlawfulLives 3 = .ok (.istore_n 2, 1) := by decide +kernel
theorem dX6_unlawfulLives_4 : decode cX6_unlawfulLives 4 = .ok (.iload_n 2, 1) := by decide +kernel
theorem dX6_unlawfulLives_5 : decode cX6_unlawfulLives 5 = .ok (.aload_n 0, 1) := by decide +kernel
theorem dX6_unlawfulLives_6 : decode cX6_unlawfulLives 6 = .ok (.getfield 19, 3) := by decide +kernel
theorem dX6_unlawfulLives_9 : decode cX6_unlawfulLives 9 = .ok (.getfield 247, 3) := by decide +kernel
theorem dX6_unlawfulLives_12 : decode cX6_unlawfulLives 12 = .ok (.if_icmp .ge 26, 3) := by decide +kernel
theorem dX6_unlawfulLives_15 : decode cX6_unlawfulLives 15 = .ok (.aload_n 0, 1) := by decide +kernel
theorem dX6_unlawfulLives_16 : decode cX6_unlawfulLives 16 = .ok (.iload_n 2, 1) := by decide +kernel
theorem dX6_unlawfulLives_17 : decode cX6_unlawfulLives 17 = .ok (.iconst 0, 1) := by decide +kernel
theorem dX6_unlawfulLives_18 : decode cX6_unlawfulLives 18 = .ok (.invokevirtual 181, 3) := by decide +kernel
theorem dX6_unlawfulLives_21 : decode cX6_unlawfulLives 21 = .ok (.bipush (-9), 2) := by decide +kernel
theorem dX6_unlawfulLives_23 : decode cX6_unlawfulLives 23 = .ok (.if_icmp .eq 9, 3) := by decide +kernel
theorem dX6_unlawfulLives_26 : decode cX6_unlawfulLives 26 = .ok (.iload_n 1, 1) := by decide +kernel
theorem dX6_unlawfulLives_27 : decode cX6_unlawfulLives 27 = .ok (.iconst 1, 1) := by decide +kernel
theorem dX6_unlawfulLives_28 : decode cX6_unlawfulLives 28 = .ok (.iload_n 2, 1) := by decide +kernel
theorem dX6_unlawfulLives_29 : decode cX6_unlawfulLives 29 = .ok (.ishl, 1) := by decide +kernel
theorem dX6_unlawfulLives_30 : decode cX6_unlawfulLives 30 = .ok (.ior, 1) := by decide +kernel
theorem dX6_unlawfulLives_31 : decode cX6_unlawfulLives 31 = .ok (.istore_n 1, 1) := by decide +kernel
theorem dX6_unlawfulLives_32 : decode cX6_unlawfulLives 32 = .ok (.iinc 2 1, 3) := by decide +kernel
theorem dX6_unlawfulLives_35 : decode cX6_unlawfulLives 35 = .ok (.goto (-31), 3) := by decide +kernel
theorem dX6_unlawfulLives_38 : decode cX6_unlawfulLives 38 = .ok (.iload_n 1, 1) := by decide +kernel
theorem dX6_unlawfulLives_39 : decode cX6_unlawfulLives 39 = .ok (.ireturn, 1) := by decide +kernel
theorem dX6_scalesAt_0 : decode cX6_scalesAt 0 = .ok (.iconst 0, 1) := by decide +kernel
theorem dX6_scalesAt_1 : decode cX6_scalesAt 1 = .ok (.istore_n 3, 1) := by decide +kernel
theorem dX6_scalesAt_2 : decode cX6_scalesAt 2 = .ok (.iconst 0, 1) := by decide +kernel
theorem dX6_scalesAt_3 : decode cX6_scalesAt 3 = .ok (.istore 4, 2) := by decide +kernel
theorem dX6_scalesAt_5 : decode cX6_scalesAt 5 = .ok (.iload 4, 2) := by decide +kernel
theorem dX6_scalesAt_7 : decode cX6_scalesAt 7 = .ok (.aload_n 0, 1) := by decide +kernel
theorem dX6_scalesAt_8 : decode cX6_scalesAt 8 = .ok (.getfield 19, 3) := by decide +kernel
theorem dX6_scalesAt_11 : decode cX6_scalesAt 11 = .ok (.getfield 222, 3) := by decide +kernel
theorem dX6_scalesAt_14 : decode cX6_scalesAt 14 = .ok (.if_icmp .ge 36, 3) := by decide +kernel
theorem dX6_scalesAt_17 : decode cX6_scalesAt 17 = .ok (.aload_n 0, 1) := by decide +kernel
theorem dX6_scalesAt_18 : decode cX6_scalesAt 18 = .ok (.iload 4, 2) := by decide +kernel
theorem dX6_scalesAt_20 : decode cX6_scalesAt 20 = .ok (.aload_n 0, 1) := by decide +kernel
theorem dX6_scalesAt_21 : decode cX6_scalesAt 21 = .ok (.getfield 26, 3) := by decide +kernel
theorem dX6_scalesAt_24 : decode cX6_scalesAt 24 = .ok (.getfield 122, 3) := by decide +kernel
theorem dX6_scalesAt_27 : decode cX6_scalesAt 27 = .ok (.iload_n 2, 1) := by decide +kernel
theorem dX6_scalesAt_28 : decode cX6_scalesAt 28 = .ok (.iload 4, 2) := by decide +kernel
theorem dX6_scalesAt_30 : decode cX6_scalesAt 30 = .ok (.invokestatic 125, 3) := by decide +kernel
theorem dX6_scalesAt_33 : decode cX6_scalesAt 33 = .ok (.iaload, 1) := by decide +kernel
theorem dX6_scalesAt_34 : decode cX6_scalesAt 34 = .ok (.invokevirtual 136, 3) := by decide +kernel
theorem dX6_scalesAt_37 : decode cX6_scalesAt 37 = .ok (.iload_n 1, 1) := by decide +kernel
theorem dX6_scalesAt_38 : decode cX6_scalesAt 38 = .ok (.if_icmp .ne 6, 3) := by decide +kernel
theorem dX6_scalesAt_41 : decode cX6_scalesAt 41 = .ok (.iinc 3 1, 3) := by decide +kernel
theorem dX6_scalesAt_44 : decode cX6_scalesAt 44 = .ok (.iinc 4 1, 3) := by decide +kernel
theorem dX6_scalesAt_47 : decode cX6_scalesAt 47 = .ok (.goto (-42), 3) := by decide +kernel
theorem dX6_scalesAt_50 : decode cX6_scalesAt 50 = .ok (.iload_n 3, 1) := by decide +kernel
theorem dX6_scalesAt_51 : decode cX6_scalesAt 51 = .ok (.ireturn, 1) := by decide +kernel
theorem dX6_inTheDrawer_0 : decode cX6_inTheDrawer 0 = .ok (.iconst 0, 1) := by decide +kernel
theorem dX6_inTheDrawer_1 : decode cX6_inTheDrawer 1 = .ok (.istore_n 1, 1) := by decide +kernel
theorem dX6_inTheDrawer_2 : decode cX6_inTheDrawer 2 = .ok (.iconst 0, 1) := by decide +kernel
theorem dX6_inTheDrawer_3 : decode cX6_inTheDrawer 3 = .ok (.istore_n 2, 1) := by decide +kernel
theorem dX6_inTheDrawer_4 : decode cX6_inTheDrawer 4 = .ok (.iload_n 2, 1) := by decide +kernel
theorem dX6_inTheDrawer_5 : decode cX6_inTheDrawer 5 = .ok (.aload_n 0, 1) := by decide +kernel
theorem dX6_inTheDrawer_6 : decode cX6_inTheDrawer 6 = .ok (.getfield 19, 3) := by decide +kernel
theorem dX6_inTheDrawer_9 : decode cX6_inTheDrawer 9 = .ok (.getfield 247, 3) := by decide +kernel
theorem dX6_inTheDrawer_12 : decode cX6_inTheDrawer 12 = .ok (.if_icmp .ge 18, 3) := by decide +kernel
theorem dX6_inTheDrawer_15 : decode cX6_inTheDrawer 15 = .ok (.iload_n 1, 1) := by decide +kernel
theorem dX6_inTheDrawer_16 : decode cX6_inTheDrawer 16 = .ok (.aload_n 0, 1) := by decide +kernel
theorem dX6_inTheDrawer_17 : decode cX6_inTheDrawer 17 = .ok (.iconst 2, 1) := by decide +kernel
theorem dX6_inTheDrawer_18 : decode cX6_inTheDrawer 18 = .ok (.iload_n 2, 1) := by decide +kernel
theorem dX6_inTheDrawer_19 : decode cX6_inTheDrawer 19 = .ok (.invokevirtual 267, 3) := by decide +kernel
theorem dX6_inTheDrawer_22 : decode cX6_inTheDrawer 22 = .ok (.iadd, 1) := by decide +kernel
theorem dX6_inTheDrawer_23 : decode cX6_inTheDrawer 23 = .ok (.istore_n 1, 1) := by decide +kernel
theorem dX6_inTheDrawer_24 : decode cX6_inTheDrawer 24 = .ok (.iinc 2 1, 3) := by decide +kernel
theorem dX6_inTheDrawer_27 : decode cX6_inTheDrawer 27 = .ok (.goto (-23), 3) := by decide +kernel
theorem dX6_inTheDrawer_30 : decode cX6_inTheDrawer 30 = .ok (.iload_n 1, 1) := by decide +kernel
theorem dX6_inTheDrawer_31 : decode cX6_inTheDrawer 31 = .ok (.ireturn, 1) := by decide +kernel
theorem dX6_goByOneYear_0 : decode cX6_goByOneYear 0 = .ok (.iconst 0, 1) := by decide +kernel
theorem dX6_goByOneYear_1 : decode cX6_goByOneYear 1 = .ok (.istore_n 1, 1) := by decide +kernel
theorem dX6_goByOneYear_2 : decode cX6_goByOneYear 2 = .ok (.iload_n 1, 1) := by decide +kernel
theorem dX6_goByOneYear_3 : decode cX6_goByOneYear 3 = .ok (.aload_n 0, 1) := by decide +kernel
theorem dX6_goByOneYear_4 : decode cX6_goByOneYear 4 = .ok (.getfield 19, 3) := by decide +kernel
theorem dX6_goByOneYear_7 : decode cX6_goByOneYear 7 = .ok (.getfield 247, 3) := by decide +kernel
theorem dX6_goByOneYear_10 : decode cX6_goByOneYear 10 = .ok (.if_icmp .ge 78, 3) := by decide +kernel
theorem dX6_goByOneYear_13 : decode cX6_goByOneYear 13 = .ok (.iconst 0, 1) := by decide +kernel
theorem dX6_goByOneYear_14 : decode cX6_goByOneYear 14 = .ok (.istore_n 2, 1) := by decide +kernel
theorem dX6_goByOneYear_15 : decode cX6_goByOneYear 15 = .ok (.iload_n 2, 1) := by decide +kernel
theorem dX6_goByOneYear_16 : decode cX6_goByOneYear 16 = .ok (.aload_n 0, 1) := by decide +kernel
theorem dX6_goByOneYear_17 : decode cX6_goByOneYear 17 = .ok (.getfield 19, 3) := by decide +kernel
theorem dX6_goByOneYear_20 : decode cX6_goByOneYear 20 = .ok (.getfield 222, 3) := by decide +kernel
theorem dX6_goByOneYear_23 : decode cX6_goByOneYear 23 = .ok (.if_icmp .ge 59, 3) := by decide +kernel
theorem dX6_goByOneYear_26 : decode cX6_goByOneYear 26 = .ok (.aload_n 0, 1) := by decide +kernel
theorem dX6_goByOneYear_27 : decode cX6_goByOneYear 27 = .ok (.iconst 0, 1) := by decide +kernel
theorem dX6_goByOneYear_28 : decode cX6_goByOneYear 28 = .ok (.iload_n 1, 1) := by decide +kernel
theorem dX6_goByOneYear_29 : decode cX6_goByOneYear 29 = .ok (.iload_n 2, 1) := by decide +kernel
theorem dX6_goByOneYear_30 : decode cX6_goByOneYear 30 = .ok (.invokevirtual 132, 3) := by decide +kernel
theorem dX6_goByOneYear_33 : decode cX6_goByOneYear 33 = .ok (.aload_n 0, 1) := by decide +kernel
theorem dX6_goByOneYear_34 : decode cX6_goByOneYear 34 = .ok (.iconst 1, 1) := by decide +kernel
theorem dX6_goByOneYear_35 : decode cX6_goByOneYear 35 = .ok (.iload_n 1, 1) := by decide +kernel
theorem dX6_goByOneYear_36 : decode cX6_goByOneYear 36 = .ok (.iload_n 2, 1) := by decide +kernel
theorem dX6_goByOneYear_37 : decode cX6_goByOneYear 37 = .ok (.invokevirtual 132, 3) := by decide +kernel
theorem dX6_goByOneYear_40 : decode cX6_goByOneYear 40 = .ok (.if_icmp .eq 16, 3) := by decide +kernel
theorem dX6_goByOneYear_43 : decode cX6_goByOneYear 43 = .ok (.aload_n 0, 1) := by decide +kernel
theorem dX6_goByOneYear_44 : decode cX6_goByOneYear 44 = .ok (.getfield 26, 3) := by decide +kernel
theorem dX6_goByOneYear_47 : decode cX6_goByOneYear 47 = .ok (.dup, 1) := by decide +kernel
theorem dX6_goByOneYear_48 : decode cX6_goByOneYear 48 = .ok (.getfield 178, 3) := by decide +kernel
theorem dX6_goByOneYear_51 : decode cX6_goByOneYear 51 = .ok (.iconst 1, 1) := by decide +kernel
theorem dX6_goByOneYear_52 : decode cX6_goByOneYear 52 = .ok (.iadd, 1) := by decide +kernel
theorem dX6_goByOneYear_53 : decode cX6_goByOneYear 53 = .ok (.putfield 178, 3) := by decide +kernel
theorem dX6_goByOneYear_56 : decode cX6_goByOneYear 56 = .ok (.aload_n 0, 1) := by decide +kernel
theorem dX6_goByOneYear_57 : decode cX6_goByOneYear 57 = .ok (.getfield 26, 3) := by decide +kernel
theorem dX6_goByOneYear_60 : decode cX6_goByOneYear 60 = .ok (.getfield 122, 3) := by decide +kernel
theorem dX6_goByOneYear_63 : decode cX6_goByOneYear 63 = .ok (.iload_n 1, 1) := by decide +kernel
theorem dX6_goByOneYear_64 : decode cX6_goByOneYear 64 = .ok (.iload_n 2, 1) := by decide +kernel
theorem dX6_goByOneYear_65 : decode cX6_goByOneYear 65 = .ok (.invokestatic 125, 3) := by decide +kernel
theorem dX6_goByOneYear_68 : decode cX6_goByOneYear 68 = .ok (.aload_n 0, 1) := by decide +kernel
theorem dX6_goByOneYear_69 : decode cX6_goByOneYear 69 = .ok (.iconst 1, 1) := by decide +kernel
theorem dX6_goByOneYear_70 : decode cX6_goByOneYear 70 = .ok (.iload_n 1, 1) := by decide +kernel
theorem dX6_goByOneYear_71 : decode cX6_goByOneYear 71 = .ok (.iload_n 2, 1) := by decide +kernel
theorem dX6_goByOneYear_72 : decode cX6_goByOneYear 72 = .ok (.invokevirtual 264, 3) := by decide +kernel
theorem dX6_goByOneYear_75 : decode cX6_goByOneYear 75 = .ok (.iastore, 1) := by decide +kernel
theorem dX6_goByOneYear_76 : decode cX6_goByOneYear 76 = .ok (.iinc 2 1, 3) := by decide +kernel
theorem dX6_goByOneYear_79 : decode cX6_goByOneYear 79 = .ok (.goto (-64), 3) := by decide +kernel
theorem dX6_goByOneYear_82 : decode cX6_goByOneYear 82 = .ok (.iinc 1 1, 3) := by decide +kernel
theorem dX6_goByOneYear_85 : decode cX6_goByOneYear 85 = .ok (.goto (-83), 3) := by decide +kernel
theorem dX6_goByOneYear_88 : decode cX6_goByOneYear 88 = .ok (.aload_n 0, 1) := by decide +kernel
theorem dX6_goByOneYear_89 : decode cX6_goByOneYear 89 = .ok (.getfield 26, 3) := by decide +kernel
theorem dX6_goByOneYear_92 : decode cX6_goByOneYear 92 = .ok (.dup, 1) := by decide +kernel
theorem dX6_goByOneYear_93 : decode cX6_goByOneYear 93 = .ok (.getfield 145, 3) := by decide +kernel
theorem dX6_goByOneYear_96 : decode cX6_goByOneYear 96 = .ok (.iconst 1, 1) := by decide +kernel
theorem dX6_goByOneYear_97 : decode cX6_goByOneYear 97 = .ok (.iadd, 1) := by decide +kernel
theorem dX6_goByOneYear_98 : decode cX6_goByOneYear 98 = .ok (.putfield 145, 3) := by decide +kernel
theorem dX6_goByOneYear_101 : decode cX6_goByOneYear 101 = .ok (.return_, 1) := by decide +kernel
theorem dX6_unlawfulYears_0 : decode cX6_unlawfulYears 0 = .ok (.iconst 0, 1) := by decide +kernel
theorem dX6_unlawfulYears_1 : decode cX6_unlawfulYears 1 = .ok (.istore 4, 2) := by decide +kernel
theorem dX6_unlawfulYears_3 : decode cX6_unlawfulYears 3 = .ok (.iconst 0, 1) := by decide +kernel
theorem dX6_unlawfulYears_4 : decode cX6_unlawfulYears 4 = .ok (.istore 5, 2) := by decide +kernel
theorem dX6_unlawfulYears_6 : decode cX6_unlawfulYears 6 = .ok (.iload 5, 2) := by decide +kernel
theorem dX6_unlawfulYears_8 : decode cX6_unlawfulYears 8 = .ok (.aload_n 0, 1) := by decide +kernel
theorem dX6_unlawfulYears_9 : decode cX6_unlawfulYears 9 = .ok (.getfield 19, 3) := by decide +kernel
theorem dX6_unlawfulYears_12 : decode cX6_unlawfulYears 12 = .ok (.getfield 247, 3) := by decide +kernel
theorem dX6_unlawfulYears_15 : decode cX6_unlawfulYears 15 = .ok (.if_icmp .ge 42, 3) := by decide +kernel
theorem dX6_unlawfulYears_18 : decode cX6_unlawfulYears 18 = .ok (.iconst 0, 1) := by decide +kernel
theorem dX6_unlawfulYears_19 : decode cX6_unlawfulYears 19 = .ok (.istore 6, 2) := by decide +kernel
theorem dX6_unlawfulYears_21 : decode cX6_unlawfulYears 21 = .ok (.iload 6, 2) := by decide +kernel
theorem dX6_unlawfulYears_23 : decode cX6_unlawfulYears 23 = .ok (.bipush 20, 2) := by decide +kernel
theorem dX6_unlawfulYears_25 : decode cX6_unlawfulYears 25 = .ok (.if_icmp .gt 26, 3) := by decide +kernel
theorem dX6_unlawfulYears_28 : decode cX6_unlawfulYears 28 = .ok (.aload_n 0, 1) := by decide +kernel
theorem dX6_unlawfulYears_29 : decode cX6_unlawfulYears 29 = .ok (.iload 5, 2) := by decide +kernel
theorem dX6_unlawfulYears_31 : decode cX6_unlawfulYears 31 = .ok (.iload 6, 2) := by decide +kernel
theorem dX6_unlawfulYears_33 : decode cX6_unlawfulYears 33 = .ok (.iload_n 1, 1) := by decide +kernel
theorem dX6_unlawfulYears_34 : decode cX6_unlawfulYears 34 = .ok (.iload_n 2, 1) := by decide +kernel
theorem dX6_unlawfulYears_35 : decode cX6_unlawfulYears 35 = .ok (.iload_n 3, 1) := by decide +kernel
theorem dX6_unlawfulYears_36 : decode cX6_unlawfulYears 36 = .ok (.invokevirtual 270, 3) := by decide +kernel
theorem dX6_unlawfulYears_39 : decode cX6_unlawfulYears 39 = .ok (.ifCond .eq 6, 3) := by decide +kernel
theorem dX6_unlawfulYears_42 : decode cX6_unlawfulYears 42 = .ok (.iinc 4 1, 3) := by decide +kernel
theorem dX6_unlawfulYears_45 : decode cX6_unlawfulYears 45 = .ok (.iinc 6 1, 3) := by decide +kernel
theorem dX6_unlawfulYears_48 : decode cX6_unlawfulYears 48 = .ok (.goto (-27), 3) := by decide +kernel
theorem dX6_unlawfulYears_51 : decode cX6_unlawfulYears 51 = .ok (.iinc 5 1, 3) := by decide +kernel
theorem dX6_unlawfulYears_54 : decode cX6_unlawfulYears 54 = .ok (.goto (-48), 3) := by decide +kernel
theorem dX6_unlawfulYears_57 : decode cX6_unlawfulYears 57 = .ok (.iload 4, 2) := by decide +kernel
theorem dX6_unlawfulYears_59 : decode cX6_unlawfulYears 59 = .ok (.ireturn, 1) := by decide +kernel
theorem dX6_isUnlawfulBy_0 : decode cX6_isUnlawfulBy 0 = .ok (.iconst 0, 1) := by decide +kernel
theorem dX6_isUnlawfulBy_1 : decode cX6_isUnlawfulBy 1 = .ok (.istore 6, 2) := by decide +kernel
theorem dX6_isUnlawfulBy_3 : decode cX6_isUnlawfulBy 3 = .ok (.iload 6, 2) := by decide +kernel
theorem dX6_isUnlawfulBy_5 : decode cX6_isUnlawfulBy 5 = .ok (.aload_n 0, 1) := by decide +kernel
theorem dX6_isUnlawfulBy_6 : decode cX6_isUnlawfulBy 6 = .ok (.getfield 19, 3) := by decide +kernel
theorem dX6_isUnlawfulBy_9 : decode cX6_isUnlawfulBy 9 = .ok (.getfield 222, 3) := by decide +kernel
theorem dX6_isUnlawfulBy_12 : decode cX6_isUnlawfulBy 12 = .ok (.if_icmp .ge 64, 3) := by decide +kernel
theorem dX6_isUnlawfulBy_15 : decode cX6_isUnlawfulBy 15 = .ok (.aload_n 0, 1) := by decide +kernel
theorem dX6_isUnlawfulBy_16 : decode cX6_isUnlawfulBy 16 = .ok (.iload_n 2, 1) := by decide +kernel
theorem dX6_isUnlawfulBy_17 : decode cX6_isUnlawfulBy 17 = .ok (.iload_n 1, 1) := by decide +kernel
theorem dX6_isUnlawfulBy_18 : decode cX6_isUnlawfulBy 18 = .ok (.iload 6, 2) := by decide +kernel
theorem dX6_isUnlawfulBy_20 : decode cX6_isUnlawfulBy 20 = .ok (.invokevirtual 264, 3) := by decide +kernel
theorem dX6_isUnlawfulBy_23 : decode cX6_isUnlawfulBy 23 = .ok (.istore 7, 2) := by decide +kernel
theorem dX6_isUnlawfulBy_25 : decode cX6_isUnlawfulBy 25 = .ok (.iload 6, 2) := by decide +kernel
theorem dX6_isUnlawfulBy_27 : decode cX6_isUnlawfulBy 27 = .ok (.iload_n 3, 1) := by decide +kernel
theorem dX6_isUnlawfulBy_28 : decode cX6_isUnlawfulBy 28 = .ok (.if_icmp .ne 24, 3) := by decide +kernel
theorem dX6_isUnlawfulBy_31 : decode cX6_isUnlawfulBy 31 = .ok (.iload 4, 2) := by decide +kernel
theorem dX6_isUnlawfulBy_33 : decode cX6_isUnlawfulBy 33 = .ok (.iload 5, 2) := by decide +kernel
theorem dX6_isUnlawfulBy_35 : decode cX6_isUnlawfulBy 35 = .ok (.aload_n 0, 1) := by decide +kernel
theorem dX6_isUnlawfulBy_36 : decode cX6_isUnlawfulBy 36 = .ok (.getfield 19, 3) := by decide +kernel
theorem dX6_isUnlawfulBy_39 : decode cX6_isUnlawfulBy 39 = .ok (.getfield 113, 3) := by decide +kernel
theorem dX6_isUnlawfulBy_42 : decode cX6_isUnlawfulBy 42 = .ok (.iload_n 3, 1) := by decide +kernel
theorem dX6_isUnlawfulBy_43 : decode cX6_isUnlawfulBy 43 = .ok (.iaload, 1) := by decide +kernel
theorem dX6_isUnlawfulBy_44 : decode cX6_isUnlawfulBy 44 = .ok (.iload 7, 2) := by decide +kernel
theorem dX6_isUnlawfulBy_46 : decode cX6_isUnlawfulBy 46 = .ok (.invokestatic 261, 3) := by decide +kernel
theorem dX6_isUnlawfulBy_49 : decode cX6_isUnlawfulBy 49 = .ok (.goto 11, 3) := by decide +kernel
theorem dX6_isUnlawfulBy_52 : decode cX6_isUnlawfulBy 52 = .ok (.aload_n 0, 1) := by decide +kernel
theorem dX6_isUnlawfulBy_53 : decode cX6_isUnlawfulBy 53 = .ok (.iload 6, 2) := by decide +kernel
theorem dX6_isUnlawfulBy_55 : decode cX6_isUnlawfulBy 55 = .ok (.iload 7, 2) := by decide +kernel
theorem dX6_isUnlawfulBy_57 : decode cX6_isUnlawfulBy 57 = .ok (.invokevirtual 136, 3) := by decide +kernel
theorem dX6_isUnlawfulBy_60 : decode cX6_isUnlawfulBy 60 = .ok (.istore 8, 2) := by decide +kernel
theorem dX6_isUnlawfulBy_62 : decode cX6_isUnlawfulBy 62 = .ok (.iload 8, 2) := by decide +kernel
theorem dX6_isUnlawfulBy_64 : decode cX6_isUnlawfulBy 64 = .ok (.iconst 3, 1) := by decide +kernel
theorem dX6_isUnlawfulBy_65 : decode cX6_isUnlawfulBy 65 = .ok (.if_icmp .ne 5, 3) := by decide +kernel
theorem dX6_isUnlawfulBy_68 : decode cX6_isUnlawfulBy 68 = .ok (.iconst 1, 1) := by decide +kernel
theorem dX6_isUnlawfulBy_69 : decode cX6_isUnlawfulBy 69 = .ok (.ireturn, 1) := by decide +kernel
theorem dX6_isUnlawfulBy_70 : decode cX6_isUnlawfulBy 70 = .ok (.iinc 6 1, 3) := by decide +kernel
theorem dX6_isUnlawfulBy_73 : decode cX6_isUnlawfulBy 73 = .ok (.goto (-70), 3) := by decide +kernel
theorem dX6_isUnlawfulBy_76 : decode cX6_isUnlawfulBy 76 = .ok (.iconst 0, 1) := by decide +kernel
theorem dX6_isUnlawfulBy_77 : decode cX6_isUnlawfulBy 77 = .ok (.ireturn, 1) := by decide +kernel
theorem dX6_endChangesByJump_0 : decode cX6_endChangesByJump 0 = .ok (.iconst 0, 1) := by decide +kernel
theorem dX6_endChangesByJump_1 : decode cX6_endChangesByJump 1 = .ok (.istore_n 3, 1) := by decide +kernel
theorem dX6_endChangesByJump_2 : decode cX6_endChangesByJump 2 = .ok (.iconst 0, 1) := by decide +kernel
theorem dX6_endChangesByJump_3 : decode cX6_endChangesByJump 3 = .ok (.istore 4, 2) := by decide +kernel
theorem dX6_endChangesByJump_5 : decode cX6_endChangesByJump 5 = .ok (.iload 4, 2) := by decide +kernel
theorem dX6_endChangesByJump_7 : decode cX6_endChangesByJump 7 = .ok (.aload_n 0, 1) := by decide +kernel
theorem dX6_endChangesByJump_8 : decode cX6_endChangesByJump 8 = .ok (.getfield 19, 3) := by decide +kernel
theorem dX6_endChangesByJump_11 : decode cX6_endChangesByJump 11 = .ok (.getfield 247, 3) := by decide +kernel
theorem dX6_endChangesByJump_14 : decode cX6_endChangesByJump 14 = .ok (.if_icmp .ge 69, 3) := by decide +kernel
theorem dX6_endChangesByJump_17 : decode cX6_endChangesByJump 17 = .ok (.iconst 0, 1) := by decide +kernel
theorem dX6_endChangesByJump_18 : decode cX6_endChangesByJump 18 = .ok (.istore 5, 2) := by decide +kernel
theorem dX6_endChangesByJump_20 : decode cX6_endChangesByJump 20 = .ok (.iload 5, 2) := by decide +kernel
theorem dX6_endChangesByJump_22 : decode cX6_endChangesByJump 22 = .ok (.bipush 20, 2) := by decide +kernel
theorem dX6_endChangesByJump_24 : decode cX6_endChangesByJump 24 = .ok (.if_icmp .ge 53, 3) := by decide +kernel
theorem dX6_endChangesByJump_27 : decode cX6_endChangesByJump 27 = .ok (.aload_n 0, 1) := by decide +kernel
theorem dX6_endChangesByJump_28 : decode cX6_endChangesByJump 28 = .ok (.iload 5, 2) := by decide +kernel
theorem dX6_endChangesByJump_30 : decode cX6_endChangesByJump 30 = .ok (.iload 4, 2) := by decide +kernel
theorem dX6_endChangesByJump_32 : decode cX6_endChangesByJump 32 = .ok (.iload_n 1, 1) := by decide +kernel
theorem dX6_endChangesByJump_33 : decode cX6_endChangesByJump 33 = .ok (.invokevirtual 264, 3) := by decide +kernel
theorem dX6_endChangesByJump_36 : decode cX6_endChangesByJump 36 = .ok (.iload_n 2, 1) := by decide +kernel
theorem dX6_endChangesByJump_37 : decode cX6_endChangesByJump 37 = .ok (.if_icmp .ge 7, 3) := by decide +kernel
theorem dX6_endChangesByJump_40 : decode cX6_endChangesByJump 40 = .ok (.iconst 1, 1) := by decide +kernel
theorem dX6_endChangesByJump_41 : decode cX6_endChangesByJump 41 = .ok (.goto 4, 3) := by decide +kernel
theorem dX6_endChangesByJump_44 : decode cX6_endChangesByJump 44 = .ok (.iconst 0, 1) := by decide +kernel
theorem dX6_endChangesByJump_45 : decode cX6_endChangesByJump 45 = .ok (.aload_n 0, 1) := by decide +kernel
theorem dX6_endChangesByJump_46 : decode cX6_endChangesByJump 46 = .ok (.iload 5, 2) := by decide +kernel
theorem dX6_endChangesByJump_48 : decode cX6_endChangesByJump 48 = .ok (.iconst 1, 1) := by decide +kernel
theorem dX6_endChangesByJump_49 : decode cX6_endChangesByJump 49 = .ok (.iadd, 1) := by decide +kernel
theorem dX6_endChangesByJump_50 : decode cX6_endChangesByJump 50 = .ok (.iload 4, 2) := by decide +kernel
theorem dX6_endChangesByJump_52 : decode cX6_endChangesByJump 52 = .ok (.iload_n 1, 1) := by decide +kernel
theorem dX6_endChangesByJump_53 : decode cX6_endChangesByJump 53 = .ok (.invokevirtual 264, 3) := by decide +kernel
theorem dX6_endChangesByJump_56 : decode cX6_endChangesByJump 56 = .ok (.iload_n 2, 1) := by decide +kernel
theorem dX6_endChangesByJump_57 : decode cX6_endChangesByJump 57 = .ok (.if_icmp .ge 7, 3) := by decide +kernel
theorem dX6_endChangesByJump_60 : decode cX6_endChangesByJump 60 = .ok (.iconst 1, 1) := by decide +kernel
theorem dX6_endChangesByJump_61 : decode cX6_endChangesByJump 61 = .ok (.goto 4, 3) := by decide +kernel
theorem dX6_endChangesByJump_64 : decode cX6_endChangesByJump 64 = .ok (.iconst 0, 1) := by decide +kernel
theorem dX6_endChangesByJump_65 : decode cX6_endChangesByJump 65 = .ok (.if_icmp .eq 6, 3) := by decide +kernel
theorem dX6_endChangesByJump_68 : decode cX6_endChangesByJump 68 = .ok (.iinc 3 1, 3) := by decide +kernel
theorem dX6_endChangesByJump_71 : decode cX6_endChangesByJump 71 = .ok (.iinc 5 1, 3) := by decide +kernel
theorem dX6_endChangesByJump_74 : decode cX6_endChangesByJump 74 = .ok (.goto (-54), 3) := by decide +kernel
theorem dX6_endChangesByJump_77 : decode cX6_endChangesByJump 77 = .ok (.iinc 4 1, 3) := by decide +kernel
theorem dX6_endChangesByJump_80 : decode cX6_endChangesByJump 80 = .ok (.goto (-75), 3) := by decide +kernel
theorem dX6_endChangesByJump_83 : decode cX6_endChangesByJump 83 = .ok (.iload_n 3, 1) := by decide +kernel
theorem dX6_endChangesByJump_84 : decode cX6_endChangesByJump 84 = .ok (.ireturn, 1) := by decide +kernel
theorem dX6_areOpposed_0 : decode cX6_areOpposed 0 = .ok (.aload_n 0, 1) := by decide +kernel
theorem dX6_areOpposed_1 : decode cX6_areOpposed 1 = .ok (.getfield 19, 3) := by decide +kernel
theorem dX6_areOpposed_4 : decode cX6_areOpposed 4 = .ok (.getfield 113, 3) := by decide +kernel
theorem dX6_areOpposed_7 : decode cX6_areOpposed 7 = .ok (.iload_n 1, 1) := by decide +kernel
theorem dX6_areOpposed_8 : decode cX6_areOpposed 8 = .ok (.iaload, 1) := by decide +kernel
theorem dX6_areOpposed_9 : decode cX6_areOpposed 9 = .ok (.aload_n 0, 1) := by decide +kernel
theorem dX6_areOpposed_10 : decode cX6_areOpposed 10 = .ok (.getfield 19, 3) := by decide +kernel
theorem dX6_areOpposed_13 : decode cX6_areOpposed 13 = .ok (.getfield 113, 3) := by decide +kernel
theorem dX6_areOpposed_16 : decode cX6_areOpposed 16 = .ok (.iload_n 2, 1) := by decide +kernel
theorem dX6_areOpposed_17 : decode cX6_areOpposed 17 = .ok (.iaload, 1) := by decide +kernel
theorem dX6_areOpposed_18 : decode cX6_areOpposed 18 = .ok (.if_icmp .eq 5, 3) := by decide +kernel
theorem dX6_areOpposed_21 : decode cX6_areOpposed 21 = .ok (.iconst 0, 1) := by decide +kernel
theorem dX6_areOpposed_22 : decode cX6_areOpposed 22 = .ok (.ireturn, 1) := by decide +kernel
theorem dX6_areOpposed_23 : decode cX6_areOpposed 23 = .ok (.iconst 0, 1) := by decide +kernel
theorem dX6_areOpposed_24 : decode cX6_areOpposed 24 = .ok (.istore_n 3, 1) := by decide +kernel
theorem dX6_areOpposed_25 : decode cX6_areOpposed 25 = .ok (.iload_n 3, 1) := by decide +kernel
theorem dX6_areOpposed_26 : decode cX6_areOpposed 26 = .ok (.aload_n 0, 1) := by decide +kernel
theorem dX6_areOpposed_27 : decode cX6_areOpposed 27 = .ok (.getfield 19, 3) := by decide +kernel
theorem dX6_areOpposed_30 : decode cX6_areOpposed 30 = .ok (.getfield 113, 3) := by decide +kernel
theorem dX6_areOpposed_33 : decode cX6_areOpposed 33 = .ok (.iload_n 1, 1) := by decide +kernel
theorem dX6_areOpposed_34 : decode cX6_areOpposed 34 = .ok (.iaload, 1) := by decide +kernel
theorem dX6_areOpposed_35 : decode cX6_areOpposed 35 = .ok (.if_icmp .gt 49, 3) := by decide +kernel
theorem dX6_areOpposed_38 : decode cX6_areOpposed 38 = .ok (.aload_n 0, 1) := by decide +kernel
theorem dX6_areOpposed_39 : decode cX6_areOpposed 39 = .ok (.iload_n 1, 1) := by decide +kernel
theorem dX6_areOpposed_40 : decode cX6_areOpposed 40 = .ok (.iload_n 3, 1) := by decide +kernel
theorem dX6_areOpposed_41 : decode cX6_areOpposed 41 = .ok (.invokevirtual 136, 3) := by decide +kernel
theorem dX6_areOpposed_44 : decode cX6_areOpposed 44 = .ok (.istore 4, 2) := by decide +kernel
theorem dX6_areOpposed_46 : decode cX6_areOpposed 46 = .ok (.aload_n 0, 1) := by decide +kernel
theorem dX6_areOpposed_47 : decode cX6_areOpposed 47 = .ok (.iload_n 2, 1) := by decide +kernel
theorem dX6_areOpposed_48 : decode cX6_areOpposed 48 = .ok (.iload_n 3, 1) := by decide +kernel
theorem dX6_areOpposed_49 : decode cX6_areOpposed 49 = .ok (.invokevirtual 136, 3) := by decide +kernel
theorem dX6_areOpposed_52 : decode cX6_areOpposed 52 = .ok (.istore 5, 2) := by decide +kernel
theorem dX6_areOpposed_54 : decode cX6_areOpposed 54 = .ok (.iload 4, 2) := by decide +kernel
theorem dX6_areOpposed_56 : decode cX6_areOpposed 56 = .ok (.ifCond .ne 9, 3) := by decide +kernel
theorem dX6_areOpposed_59 : decode cX6_areOpposed 59 = .ok (.iload 5, 2) := by decide +kernel
theorem dX6_areOpposed_61 : decode cX6_areOpposed 61 = .ok (.iconst 1, 1) := by decide +kernel
theorem dX6_areOpposed_62 : decode cX6_areOpposed 62 = .ok (.if_icmp .eq 14, 3) := by decide +kernel
theorem dX6_areOpposed_65 : decode cX6_areOpposed 65 = .ok (.iload 4, 2) := by decide +kernel
theorem dX6_areOpposed_67 : decode cX6_areOpposed 67 = .ok (.iconst 1, 1) := by decide +kernel
theorem dX6_areOpposed_68 : decode cX6_areOpposed 68 = .ok (.if_icmp .ne 10, 3) := by decide +kernel
theorem dX6_areOpposed_71 : decode cX6_areOpposed 71 = .ok (.iload 5, 2) := by decide +kernel
theorem dX6_areOpposed_73 : decode cX6_areOpposed 73 = .ok (.ifCond .ne 5, 3) := by decide +kernel
theorem dX6_areOpposed_76 : decode cX6_areOpposed 76 = .ok (.iconst 1, 1) := by decide +kernel
theorem dX6_areOpposed_77 : decode cX6_areOpposed 77 = .ok (.ireturn, 1) := by decide +kernel
theorem dX6_areOpposed_78 : decode cX6_areOpposed 78 = .ok (.iinc 3 1, 3) := by decide +kernel
theorem dX6_areOpposed_81 : decode cX6_areOpposed 81 = .ok (.goto (-56), 3) := by decide +kernel
theorem dX6_areOpposed_84 : decode cX6_areOpposed 84 = .ok (.iconst 0, 1) := by decide +kernel
theorem dX6_areOpposed_85 : decode cX6_areOpposed 85 = .ok (.ireturn, 1) := by decide +kernel
theorem dX6_lawfulOrders_0 : decode cX6_lawfulOrders 0 = .ok (.aload_n 0, 1) := by decide +kernel
theorem dX6_lawfulOrders_1 : decode cX6_lawfulOrders 1 = .ok (.getfield 48, 3) := by decide +kernel
theorem dX6_lawfulOrders_4 : decode cX6_lawfulOrders 4 = .ok (.iload_n 2, 1) := by decide +kernel
theorem dX6_lawfulOrders_5 : decode cX6_lawfulOrders 5 = .ok (.invokevirtual 274, 3) := by decide +kernel
theorem dX6_lawfulOrders_8 : decode cX6_lawfulOrders 8 = .ok (.istore_n 3, 1) := by decide +kernel
theorem dX6_lawfulOrders_9 : decode cX6_lawfulOrders 9 = .ok (.iconst 0, 1) := by decide +kernel
theorem dX6_lawfulOrders_10 : decode cX6_lawfulOrders 10 = .ok (.istore 4, 2) := by decide +kernel
theorem dX6_lawfulOrders_12 : decode cX6_lawfulOrders 12 = .ok (.iconst 1, 1) := by decide +kernel
theorem dX6_lawfulOrders_13 : decode cX6_lawfulOrders 13 = .ok (.istore 5, 2) := by decide +kernel
theorem dX6_lawfulOrders_15 : decode cX6_lawfulOrders 15 = .ok (.iconst 0, 1) := by decide +kernel
theorem dX6_lawfulOrders_16 : decode cX6_lawfulOrders 16 = .ok (.istore 6, 2) := by decide +kernel
theorem dX6_lawfulOrders_18 : decode cX6_lawfulOrders 18 = .ok (.iload 6, 2) := by decide +kernel
theorem dX6_lawfulOrders_20 : decode cX6_lawfulOrders 20 = .ok (.bipush 120, 2) := by decide +kernel
theorem dX6_lawfulOrders_22 : decode cX6_lawfulOrders 22 = .ok (.if_icmp .ge 48, 3) := by decide +kernel
theorem dX6_lawfulOrders_25 : decode cX6_lawfulOrders 25 = .ok (.iload 5, 2) := by decide +kernel
theorem dX6_lawfulOrders_27 : decode cX6_lawfulOrders 27 = .ok (.ifCond .eq 43, 3) := by decide +kernel
theorem dX6_lawfulOrders_30 : decode cX6_lawfulOrders 30 = .ok (.aload_n 0, 1) := by decide +kernel
theorem dX6_lawfulOrders_31 : decode cX6_lawfulOrders 31 = .ok (.iload_n 1, 1) := by decide +kernel
theorem dX6_lawfulOrders_32 : decode cX6_lawfulOrders 32 = .ok (.iload_n 3, 1) := by decide +kernel
theorem dX6_lawfulOrders_33 : decode cX6_lawfulOrders 33 = .ok (.invokevirtual 277, 3) := by decide +kernel
theorem dX6_lawfulOrders_36 : decode cX6_lawfulOrders 36 = .ok (.ifCond .eq 18, 3) := by decide +kernel
theorem dX6_lawfulOrders_39 : decode cX6_lawfulOrders 39 = .ok (.iload 4, 2) := by decide +kernel
theorem dX6_lawfulOrders_41 : decode cX6_lawfulOrders 41 = .ok (.ifCond .ne 10, 3) := by decide +kernel
theorem dX6_lawfulOrders_44 : decode cX6_lawfulOrders 44 = .ok (.aload_n 0, 1) := by decide +kernel
theorem dX6_lawfulOrders_45 : decode cX6_lawfulOrders 45 = .ok (.getfield 48, 3) := by decide +kernel
theorem dX6_lawfulOrders_48 : decode cX6_lawfulOrders 48 = .ok (.invokevirtual 280, 3) := by decide +kernel
theorem dX6_lawfulOrders_51 : decode cX6_lawfulOrders 51 = .ok (.iinc 4 1, 3) := by decide +kernel
theorem dX6_lawfulOrders_54 : decode cX6_lawfulOrders 54 = .ok (.aload_n 0, 1) := by decide +kernel
theorem dX6_lawfulOrders_55 : decode cX6_lawfulOrders 55 = .ok (.getfield 48, 3) := by decide +kernel
theorem dX6_lawfulOrders_58 : decode cX6_lawfulOrders 58 = .ok (.iload_n 3, 1) := by decide +kernel
theorem dX6_lawfulOrders_59 : decode cX6_lawfulOrders 59 = .ok (.invokevirtual 283, 3) := by decide +kernel
theorem dX6_lawfulOrders_62 : decode cX6_lawfulOrders 62 = .ok (.istore 5, 2) := by decide +kernel
theorem dX6_lawfulOrders_64 : decode cX6_lawfulOrders 64 = .ok (.iinc 6 1, 3) := by decide +kernel
theorem dX6_lawfulOrders_67 : decode cX6_lawfulOrders 67 = .ok (.goto (-49), 3) := by decide +kernel
theorem dX6_lawfulOrders_70 : decode cX6_lawfulOrders 70 = .ok (.iload 4, 2) := by decide +kernel
theorem dX6_lawfulOrders_72 : decode cX6_lawfulOrders 72 = .ok (.ireturn, 1) := by decide +kernel
theorem dX6_staysLawful_0 : decode cX6_staysLawful 0 = .ok (.iconst 0, 1) := by decide +kernel
theorem dX6_staysLawful_1 : decode cX6_staysLawful 1 = .ok (.istore_n 3, 1) := by decide +kernel
theorem dX6_staysLawful_2 : decode cX6_staysLawful 2 = .ok (.iload_n 3, 1) := by decide +kernel
theorem dX6_staysLawful_3 : decode cX6_staysLawful 3 = .ok (.aload_n 0, 1) := by decide +kernel
theorem dX6_staysLawful_4 : decode cX6_staysLawful 4 = .ok (.getfield 19, 3) := by decide +kernel
theorem dX6_staysLawful_7 : decode cX6_staysLawful 7 = .ok (.getfield 222, 3) := by decide +kernel
theorem dX6_staysLawful_10 : decode cX6_staysLawful 10 = .ok (.if_icmp .ge 31, 3) := by decide +kernel
theorem dX6_staysLawful_13 : decode cX6_staysLawful 13 = .ok (.aload_n 0, 1) := by decide +kernel
theorem dX6_staysLawful_14 : decode cX6_staysLawful 14 = .ok (.getfield 48, 3) := by decide +kernel
theorem dX6_staysLawful_17 : decode cX6_staysLawful 17 = .ok (.getfield 286, 3) := by decide +kernel
theorem dX6_staysLawful_20 : decode cX6_staysLawful 20 = .ok (.iload_n 3, 1) := by decide +kernel
theorem dX6_staysLawful_21 : decode cX6_staysLawful 21 = .ok (.aload_n 0, 1) := by decide +kernel
theorem dX6_staysLawful_22 : decode cX6_staysLawful 22 = .ok (.getfield 26, 3) := by decide +kernel
theorem dX6_staysLawful_25 : decode cX6_staysLawful 25 = .ok (.getfield 122, 3) := by decide +kernel
theorem dX6_staysLawful_28 : decode cX6_staysLawful 28 = .ok (.iload_n 1, 1) := by decide +kernel
theorem dX6_staysLawful_29 : decode cX6_staysLawful 29 = .ok (.iload_n 3, 1) := by decide +kernel
theorem dX6_staysLawful_30 : decode cX6_staysLawful 30 = .ok (.invokestatic 125, 3) := by decide +kernel
theorem dX6_staysLawful_33 : decode cX6_staysLawful 33 = .ok (.iaload, 1) := by decide +kernel
theorem dX6_staysLawful_34 : decode cX6_staysLawful 34 = .ok (.iastore, 1) := by decide +kernel
theorem dX6_staysLawful_35 : decode cX6_staysLawful 35 = .ok (.iinc 3 1, 3) := by decide +kernel
theorem dX6_staysLawful_38 : decode cX6_staysLawful 38 = .ok (.goto (-36), 3) := by decide +kernel
theorem dX6_staysLawful_41 : decode cX6_staysLawful 41 = .ok (.iconst 0, 1) := by decide +kernel
theorem dX6_staysLawful_42 : decode cX6_staysLawful 42 = .ok (.istore_n 3, 1) := by decide +kernel
theorem dX6_staysLawful_43 : decode cX6_staysLawful 43 = .ok (.iload_n 3, 1) := by decide +kernel
theorem dX6_staysLawful_44 : decode cX6_staysLawful 44 = .ok (.iload_n 2, 1) := by decide +kernel
theorem dX6_staysLawful_45 : decode cX6_staysLawful 45 = .ok (.if_icmp .ge 84, 3) := by decide +kernel
theorem dX6_staysLawful_48 : decode cX6_staysLawful 48 = .ok (.aload_n 0, 1) := by decide +kernel
theorem dX6_staysLawful_49 : decode cX6_staysLawful 49 = .ok (.getfield 48, 3) := by decide +kernel
theorem dX6_staysLawful_52 : decode cX6_staysLawful 52 = .ok (.getfield 287, 3) := by decide +kernel
theorem dX6_staysLawful_55 : decode cX6_staysLawful 55 = .ok (.iload_n 3, 1) := by decide +kernel
theorem dX6_staysLawful_56 : decode cX6_staysLawful 56 = .ok (.iaload, 1) := by decide +kernel
theorem dX6_staysLawful_57 : decode cX6_staysLawful 57 = .ok (.istore 4, 2) := by decide +kernel
theorem dX6_staysLawful_59 : decode cX6_staysLawful 59 = .ok (.aload_n 0, 1) := by decide +kernel
theorem dX6_staysLawful_60 : decode cX6_staysLawful 60 = .ok (.getfield 48, 3) := by decide +kernel
theorem dX6_staysLawful_63 : decode cX6_staysLawful 63 = .ok (.getfield 290, 3) := by decide +kernel
theorem dX6_staysLawful_66 : decode cX6_staysLawful 66 = .ok (.iload 4, 2) := by decide +kernel
theorem dX6_staysLawful_68 : decode cX6_staysLawful 68 = .ok (.iaload, 1) := by decide +kernel
theorem dX6_staysLawful_69 : decode cX6_staysLawful 69 = .ok (.istore 5, 2) := by decide +kernel
theorem dX6_staysLawful_71 : decode cX6_staysLawful 71 = .ok (.aload_n 0, 1) := by decide +kernel
theorem dX6_staysLawful_72 : decode cX6_staysLawful 72 = .ok (.getfield 48, 3) := by decide +kernel
theorem dX6_staysLawful_75 : decode cX6_staysLawful 75 = .ok (.getfield 286, 3) := by decide +kernel
theorem dX6_staysLawful_78 : decode cX6_staysLawful 78 = .ok (.iload 5, 2) := by decide +kernel
theorem dX6_staysLawful_80 : decode cX6_staysLawful 80 = .ok (.aload_n 0, 1) := by decide +kernel
theorem dX6_staysLawful_81 : decode cX6_staysLawful 81 = .ok (.getfield 48, 3) := by decide +kernel
theorem dX6_staysLawful_84 : decode cX6_staysLawful 84 = .ok (.getfield 286, 3) := by decide +kernel
theorem dX6_staysLawful_87 : decode cX6_staysLawful 87 = .ok (.iload 5, 2) := by decide +kernel
theorem dX6_staysLawful_89 : decode cX6_staysLawful 89 = .ok (.iaload, 1) := by decide +kernel
theorem dX6_staysLawful_90 : decode cX6_staysLawful 90 = .ok (.aload_n 0, 1) := by decide +kernel
theorem dX6_staysLawful_91 : decode cX6_staysLawful 91 = .ok (.getfield 48, 3) := by decide +kernel
theorem dX6_staysLawful_94 : decode cX6_staysLawful 94 = .ok (.getfield 292, 3) := by decide +kernel
theorem dX6_staysLawful_97 : decode cX6_staysLawful 97 = .ok (.iload 4, 2) := by decide +kernel
theorem dX6_staysLawful_99 : decode cX6_staysLawful 99 = .ok (.iaload, 1) := by decide +kernel
theorem dX6_staysLawful_100 : decode cX6_staysLawful 100 = .ok (.aload_n 0, 1) := by decide +kernel
theorem dX6_staysLawful_101 : decode cX6_staysLawful 101 = .ok (.getfield 19, 3) := by decide +kernel
theorem dX6_staysLawful_104 : decode cX6_staysLawful 104 = .ok (.getfield 113, 3) := by decide +kernel
theorem dX6_staysLawful_107 : decode cX6_staysLawful 107 = .ok (.iload 5, 2) := by decide +kernel
theorem dX6_staysLawful_109 : decode cX6_staysLawful 109 = .ok (.iaload, 1) := by decide +kernel
theorem dX6_staysLawful_110 : decode cX6_staysLawful 110 = .ok (.invokestatic 154, 3) := by decide +kernel
theorem dX6_staysLawful_113 : decode cX6_staysLawful 113 = .ok (.iastore, 1) := by decide +kernel
theorem dX6_staysLawful_114 : decode cX6_staysLawful 114 = .ok (.aload_n 0, 1) := by decide +kernel
theorem dX6_staysLawful_115 : decode cX6_staysLawful 115 = .ok (.invokevirtual 295, 3) := by decide +kernel
theorem dX6_staysLawful_118 : decode cX6_staysLawful 118 = .ok (.ifCond .eq 5, 3) := by decide +kernel
theorem dX6_staysLawful_121 : decode cX6_staysLawful 121 = .ok (.iconst 0, 1) := by decide +kernel
theorem dX6_staysLawful_122 : decode cX6_staysLawful 122 = .ok (.ireturn, 1) := by decide +kernel
theorem dX6_staysLawful_123 : decode cX6_staysLawful 123 = .ok (.iinc 3 1, 3) := by decide +kernel
theorem dX6_staysLawful_126 : decode cX6_staysLawful 126 = .ok (.goto (-83), 3) := by decide +kernel
theorem dX6_staysLawful_129 : decode cX6_staysLawful 129 = .ok (.iconst 1, 1) := by decide +kernel
theorem dX6_staysLawful_130 : decode cX6_staysLawful 130 = .ok (.ireturn, 1) := by decide +kernel
theorem dX6_isUnlawfulMeanwhile_0 : decode cX6_isUnlawfulMeanwhile 0 = .ok (.iconst 0, 1) := by decide +kernel
theorem dX6_isUnlawfulMeanwhile_1 : decode cX6_isUnlawfulMeanwhile 1 = .ok (.istore_n 1, 1) := by decide +kernel
theorem dX6_isUnlawfulMeanwhile_2 : decode cX6_isUnlawfulMeanwhile 2 = .ok (.iload_n 1, 1) := by decide +kernel
theorem dX6_isUnlawfulMeanwhile_3 : decode cX6_isUnlawfulMeanwhile 3 = .ok (.aload_n 0, 1) := by decide +kernel
theorem dX6_isUnlawfulMeanwhile_4 : decode cX6_isUnlawfulMeanwhile 4 = .ok (.getfield 19, 3) := by decide +kernel
theorem dX6_isUnlawfulMeanwhile_7 : decode cX6_isUnlawfulMeanwhile 7 = .ok (.getfield 222, 3) := by decide +kernel
theorem dX6_isUnlawfulMeanwhile_10 : decode cX6_isUnlawfulMeanwhile 10 = .ok (.if_icmp .ge 29, 3) := by decide +kernel
theorem dX6_isUnlawfulMeanwhile_13 : decode cX6_isUnlawfulMeanwhile 13 = .ok (.aload_n 0, 1) := by decide +kernel
theorem dX6_isUnlawfulMeanwhile_14 : decode cX6_isUnlawfulMeanwhile 14 = .ok (.iload_n 1, 1) := by decide +kernel
theorem dX6_isUnlawfulMeanwhile_15 : decode cX6_isUnlawfulMeanwhile 15 = .ok (.aload_n 0, 1) := by decide +kernel
theorem dX6_isUnlawfulMeanwhile_16 : decode cX6_isUnlawfulMeanwhile 16 = .ok (.getfield 48, 3) := by decide +kernel
theorem dX6_isUnlawfulMeanwhile_19 : decode cX6_isUnlawfulMeanwhile 19 = .ok (.getfield 286, 3) := by decide +kernel
theorem dX6_isUnlawfulMeanwhile_22 : decode cX6_isUnlawfulMeanwhile 22 = .ok (.iload_n 1, 1) := by decide +kernel
theorem dX6_isUnlawfulMeanwhile_23 : decode cX6_isUnlawfulMeanwhile 23 = .ok (.iaload, 1) := by decide +kernel
theorem dX6_isUnlawfulMeanwhile_24 : decode cX6_isUnlawfulMeanwhile 24 = .ok (.invokevirtual 136, 3) := by decide +kernel
theorem dX6_isUnlawfulMeanwhile_27 : decode cX6_isUnlawfulMeanwhile 27 = .ok (.iconst 3, 1) := by decide +kernel
theorem dX6_isUnlawfulMeanwhile_28 : decode cX6_isUnlawfulMeanwhile 28 = .ok (.if_icmp .ne 5, 3) := by decide +kernel
theorem dX6_isUnlawfulMeanwhile_31 : decode cX6_isUnlawfulMeanwhile 31 = .ok (.iconst 1, 1) := by decide +kernel
theorem dX6_isUnlawfulMeanwhile_32 : decode cX6_isUnlawfulMeanwhile 32 = .ok (.ireturn, 1) := by decide +kernel
theorem dX6_isUnlawfulMeanwhile_33 : decode cX6_isUnlawfulMeanwhile 33 = .ok (.iinc 1 1, 3) := by decide +kernel
theorem dX6_isUnlawfulMeanwhile_36 : decode cX6_isUnlawfulMeanwhile 36 = .ok (.goto (-34), 3) := by decide +kernel
theorem dX6_isUnlawfulMeanwhile_39 : decode cX6_isUnlawfulMeanwhile 39 = .ok (.iconst 0, 1) := by decide +kernel
theorem dX6_isUnlawfulMeanwhile_40 : decode cX6_isUnlawfulMeanwhile 40 = .ok (.ireturn, 1) := by decide +kernel
theorem dX6_canJump_0 : decode cX6_canJump 0 = .ok (.aload_n 0, 1) := by decide +kernel
theorem dX6_canJump_1 : decode cX6_canJump 1 = .ok (.getfield 19, 3) := by decide +kernel
theorem dX6_canJump_4 : decode cX6_canJump 4 = .ok (.getfield 142, 3) := by decide +kernel
theorem dX6_canJump_7 : decode cX6_canJump 7 = .ok (.iload_n 2, 1) := by decide +kernel
theorem dX6_canJump_8 : decode cX6_canJump 8 = .ok (.iaload, 1) := by decide +kernel
theorem dX6_canJump_9 : decode cX6_canJump 9 = .ok (.aload_n 0, 1) := by decide +kernel
theorem dX6_canJump_10 : decode cX6_canJump 10 = .ok (.getfield 19, 3) := by decide +kernel
theorem dX6_canJump_13 : decode cX6_canJump 13 = .ok (.getfield 142, 3) := by decide +kernel
theorem dX6_canJump_16 : decode cX6_canJump 16 = .ok (.iload_n 3, 1) := by decide +kernel
theorem dX6_canJump_17 : decode cX6_canJump 17 = .ok (.iaload, 1) := by decide +kernel
theorem dX6_canJump_18 : decode cX6_canJump 18 = .ok (.isub, 1) := by decide +kernel
theorem dX6_canJump_19 : decode cX6_canJump 19 = .ok (.invokestatic 299, 3) := by decide +kernel
theorem dX6_canJump_22 : decode cX6_canJump 22 = .ok (.istore 4, 2) := by decide +kernel
theorem dX6_canJump_24 : decode cX6_canJump 24 = .ok (.iload 4, 2) := by decide +kernel
theorem dX6_canJump_26 : decode cX6_canJump 26 = .ok (.aload_n 0, 1) := by decide +kernel
theorem dX6_canJump_27 : decode cX6_canJump 27 = .ok (.getfield 19, 3) := by decide +kernel
theorem dX6_canJump_30 : decode cX6_canJump 30 = .ok (.getfield 113, 3) := by decide +kernel
theorem dX6_canJump_33 : decode cX6_canJump 33 = .ok (.iload_n 1, 1) := by decide +kernel
theorem dX6_canJump_34 : decode cX6_canJump 34 = .ok (.iaload, 1) := by decide +kernel
theorem dX6_canJump_35 : decode cX6_canJump 35 = .ok (.if_icmp .gt 18, 3) := by decide +kernel
theorem dX6_canJump_38 : decode cX6_canJump 38 = .ok (.aload_n 0, 1) := by decide +kernel
theorem dX6_canJump_39 : decode cX6_canJump 39 = .ok (.iload_n 1, 1) := by decide +kernel
theorem dX6_canJump_40 : decode cX6_canJump 40 = .ok (.iload 4, 2) := by decide +kernel
theorem dX6_canJump_42 : decode cX6_canJump 42 = .ok (.invokevirtual 136, 3) := by decide +kernel
theorem dX6_canJump_45 : decode cX6_canJump 45 = .ok (.iconst 3, 1) := by decide +kernel
theorem dX6_canJump_46 : decode cX6_canJump 46 = .ok (.if_icmp .eq 7, 3) := by decide +kernel
theorem dX6_canJump_49 : decode cX6_canJump 49 = .ok (.iconst 1, 1) := by decide +kernel
theorem dX6_canJump_50 : decode cX6_canJump 50 = .ok (.goto 4, 3) := by decide +kernel
theorem dX6_canJump_53 : decode cX6_canJump 53 = .ok (.iconst 0, 1) := by decide +kernel
theorem dX6_canJump_54 : decode cX6_canJump 54 = .ok (.ireturn, 1) := by decide +kernel
theorem dX6_countJumpsTo_0 : decode cX6_countJumpsTo 0 = .ok (.iconst 0, 1) := by decide +kernel
theorem dX6_countJumpsTo_1 : decode cX6_countJumpsTo 1 = .ok (.istore_n 3, 1) := by decide +kernel
theorem dX6_countJumpsTo_2 : decode cX6_countJumpsTo 2 = .ok (.iload_n 3, 1) := by decide +kernel
theorem dX6_countJumpsTo_3 : decode cX6_countJumpsTo 3 = .ok (.aload_n 0, 1) := by decide +kernel
theorem dX6_countJumpsTo_4 : decode cX6_countJumpsTo 4 = .ok (.getfield 19, 3) := by decide +kernel
theorem dX6_countJumpsTo_7 : decode cX6_countJumpsTo 7 = .ok (.getfield 250, 3) := by decide +kernel
theorem dX6_countJumpsTo_10 : decode cX6_countJumpsTo 10 = .ok (.if_icmp .ge 17, 3) := by decide +kernel
theorem dX6_countJumpsTo_13 : decode cX6_countJumpsTo 13 = .ok (.aload_n 0, 1) := by decide +kernel
theorem dX6_countJumpsTo_14 : decode cX6_countJumpsTo 14 = .ok (.getfield 59, 3) := by decide +kernel
theorem dX6_countJumpsTo_17 : decode cX6_countJumpsTo 17 = .ok (.iload_n 3, 1) := by decide +kernel
theorem dX6_countJumpsTo_18 : decode cX6_countJumpsTo 18 = .ok (.bipush (-9), 2) := by decide +kernel
theorem dX6_countJumpsTo_20 : decode cX6_countJumpsTo 20 = .ok (.iastore, 1) := by decide +kernel
theorem dX6_countJumpsTo_21 : decode cX6_countJumpsTo 21 = .ok (.iinc 3 1, 3) := by decide +kernel
theorem dX6_countJumpsTo_24 : decode cX6_countJumpsTo 24 = .ok (.goto (-22), 3) := by decide +kernel
theorem dX6_countJumpsTo_27 : decode cX6_countJumpsTo 27 = .ok (.aload_n 0, 1) := by decide +kernel
theorem dX6_countJumpsTo_28 : decode cX6_countJumpsTo 28 = .ok (.getfield 59, 3) := by decide +kernel
theorem dX6_countJumpsTo_31 : decode cX6_countJumpsTo 31 = .ok (.iload_n 1, 1) := by decide +kernel
theorem dX6_countJumpsTo_32 : decode cX6_countJumpsTo 32 = .ok (.iconst 0, 1) := by decide +kernel
theorem dX6_countJumpsTo_33 : decode cX6_countJumpsTo 33 = .ok (.iastore, 1) := by decide +kernel
theorem dX6_countJumpsTo_34 : decode cX6_countJumpsTo 34 = .ok (.iconst 0, 1) := by decide +kernel
theorem dX6_countJumpsTo_35 : decode cX6_countJumpsTo 35 = .ok (.istore_n 3, 1) := by decide +kernel
theorem dX6_countJumpsTo_36 : decode cX6_countJumpsTo 36 = .ok (.iload_n 3, 1) := by decide +kernel
theorem dX6_countJumpsTo_37 : decode cX6_countJumpsTo 37 = .ok (.aload_n 0, 1) := by decide +kernel
theorem dX6_countJumpsTo_38 : decode cX6_countJumpsTo 38 = .ok (.getfield 19, 3) := by decide +kernel
theorem dX6_countJumpsTo_41 : decode cX6_countJumpsTo 41 = .ok (.getfield 250, 3) := by decide +kernel
theorem dX6_countJumpsTo_44 : decode cX6_countJumpsTo 44 = .ok (.if_icmp .ge 48, 3) := by decide +kernel
theorem dX6_countJumpsTo_47 : decode cX6_countJumpsTo 47 = .ok (.iconst 0, 1) := by decide +kernel
theorem dX6_countJumpsTo_48 : decode cX6_countJumpsTo 48 = .ok (.istore 4, 2) := by decide +kernel
theorem dX6_countJumpsTo_50 : decode cX6_countJumpsTo 50 = .ok (.iload 4, 2) := by decide +kernel
theorem dX6_countJumpsTo_52 : decode cX6_countJumpsTo 52 = .ok (.aload_n 0, 1) := by decide +kernel
theorem dX6_countJumpsTo_53 : decode cX6_countJumpsTo 53 = .ok (.getfield 19, 3) := by decide +kernel
theorem dX6_countJumpsTo_56 : decode cX6_countJumpsTo 56 = .ok (.getfield 250, 3) := by decide +kernel
theorem dX6_countJumpsTo_59 : decode cX6_countJumpsTo 59 = .ok (.if_icmp .ge 27, 3) := by decide +kernel
theorem dX6_countJumpsTo_62 : decode cX6_countJumpsTo 62 = .ok (.aload_n 0, 1) := by decide +kernel
theorem dX6_countJumpsTo_63 : decode cX6_countJumpsTo 63 = .ok (.getfield 59, 3) := by decide +kernel
theorem dX6_countJumpsTo_66 : decode cX6_countJumpsTo 66 = .ok (.iload 4, 2) := by decide +kernel
theorem dX6_countJumpsTo_68 : decode cX6_countJumpsTo 68 = .ok (.iaload, 1) := by decide +kernel
theorem dX6_countJumpsTo_69 : decode cX6_countJumpsTo 69 = .ok (.iload_n 3, 1) := by decide +kernel
theorem dX6_countJumpsTo_70 : decode cX6_countJumpsTo 70 = .ok (.if_icmp .ne 10, 3) := by decide +kernel
theorem dX6_countJumpsTo_73 : decode cX6_countJumpsTo 73 = .ok (.aload_n 0, 1) := by decide +kernel
theorem dX6_countJumpsTo_74 : decode cX6_countJumpsTo 74 = .ok (.iload 4, 2) := by decide +kernel
theorem dX6_countJumpsTo_76 : decode cX6_countJumpsTo 76 = .ok (.iload_n 2, 1) := by decide +kernel
theorem dX6_countJumpsTo_77 : decode cX6_countJumpsTo 77 = .ok (.invokevirtual 302, 3) := by decide +kernel
theorem dX6_countJumpsTo_80 : decode cX6_countJumpsTo 80 = .ok (.iinc 4 1, 3) := by decide +kernel
theorem dX6_countJumpsTo_83 : decode cX6_countJumpsTo 83 = .ok (.goto (-33), 3) := by decide +kernel
theorem dX6_countJumpsTo_86 : decode cX6_countJumpsTo 86 = .ok (.iinc 3 1, 3) := by decide +kernel
theorem dX6_countJumpsTo_89 : decode cX6_countJumpsTo 89 = .ok (.goto (-53), 3) := by decide +kernel
theorem dX6_countJumpsTo_92 : decode cX6_countJumpsTo 92 = .ok (.return_, 1) := by decide +kernel
theorem dX6_reachFrom_0 : decode cX6_reachFrom 0 = .ok (.iconst 0, 1) := by decide +kernel
theorem dX6_reachFrom_1 : decode cX6_reachFrom 1 = .ok (.istore_n 3, 1) := by decide +kernel
theorem dX6_reachFrom_2 : decode cX6_reachFrom 2 = .ok (.iload_n 3, 1) := by decide +kernel
theorem dX6_reachFrom_3 : decode cX6_reachFrom 3 = .ok (.aload_n 0, 1) := by decide +kernel
theorem dX6_reachFrom_4 : decode cX6_reachFrom 4 = .ok (.getfield 19, 3) := by decide +kernel
theorem dX6_reachFrom_7 : decode cX6_reachFrom 7 = .ok (.getfield 250, 3) := by decide +kernel
theorem dX6_reachFrom_10 : decode cX6_reachFrom 10 = .ok (.if_icmp .ge 44, 3) := by decide +kernel
theorem dX6_reachFrom_13 : decode cX6_reachFrom 13 = .ok (.aload_n 0, 1) := by decide +kernel
theorem dX6_reachFrom_14 : decode cX6_reachFrom 14 = .ok (.getfield 59, 3) := by decide +kernel
theorem dX6_reachFrom_17 : decode cX6_reachFrom 17 = .ok (.iload_n 3, 1) := by decide +kernel
theorem dX6_reachFrom_18 : decode cX6_reachFrom 18 = .ok (.iaload, 1) := by decide +kernel
theorem dX6_reachFrom_19 : decode cX6_reachFrom 19 = .ok (.bipush (-9), 2) := by decide +kernel
theorem dX6_reachFrom_21 : decode cX6_reachFrom 21 = .ok (.if_icmp .ne 27, 3) := by decide +kernel
theorem dX6_reachFrom_24 : decode cX6_reachFrom 24 = .ok (.aload_n 0, 1) := by decide +kernel
theorem dX6_reachFrom_25 : decode cX6_reachFrom 25 = .ok (.iload_n 2, 1) := by decide +kernel
theorem dX6_reachFrom_26 : decode cX6_reachFrom 26 = .ok (.iload_n 1, 1) := by decide +kernel
theorem dX6_reachFrom_27 : decode cX6_reachFrom 27 = .ok (.iload_n 3, 1) := by decide +kernel
theorem dX6_reachFrom_28 : decode cX6_reachFrom 28 = .ok (.invokevirtual 305, 3) := by decide +kernel
theorem dX6_reachFrom_31 : decode cX6_reachFrom 31 = .ok (.ifCond .eq 17, 3) := by decide +kernel
theorem dX6_reachFrom_34 : decode cX6_reachFrom 34 = .ok (.aload_n 0, 1) := by decide +kernel
theorem dX6_reachFrom_35 : decode cX6_reachFrom 35 = .ok (.getfield 59, 3) := by decide +kernel
theorem dX6_reachFrom_38 : decode cX6_reachFrom 38 = .ok (.iload_n 3, 1) := by decide +kernel
theorem dX6_reachFrom_39 : decode cX6_reachFrom 39 = .ok (.aload_n 0, 1) := by decide +kernel
theorem dX6_reachFrom_40 : decode cX6_reachFrom 40 = .ok (.getfield 59, 3) := by decide +kernel
theorem dX6_reachFrom_43 : decode cX6_reachFrom 43 = .ok (.iload_n 1, 1) := by decide +kernel
theorem dX6_reachFrom_44 : decode cX6_reachFrom 44 = .ok (.iaload, 1) := by decide +kernel
theorem dX6_reachFrom_45 : decode cX6_reachFrom 45 = .ok (.iconst 1, 1) := by decide +kernel
theorem dX6_reachFrom_46 : decode cX6_reachFrom 46 = .ok (.iadd, 1) := by decide +kernel
theorem dX6_reachFrom_47 : decode cX6_reachFrom 47 = .ok (.iastore, 1) := by decide +kernel
theorem dX6_reachFrom_48 : decode cX6_reachFrom 48 = .ok (.iinc 3 1, 3) := by decide +kernel
theorem dX6_reachFrom_51 : decode cX6_reachFrom 51 = .ok (.goto (-49), 3) := by decide +kernel
theorem dX6_reachFrom_54 : decode cX6_reachFrom 54 = .ok (.return_, 1) := by decide +kernel
theorem dX6_firstPlaceOnTheWay_0 : decode cX6_firstPlaceOnTheWay 0 = .ok (.iconst 0, 1) := by decide +kernel
theorem dX6_firstPlaceOnTheWay_1 : decode cX6_firstPlaceOnTheWay 1 = .ok (.istore_n 3, 1) := by decide +kernel
theorem dX6_firstPlaceOnTheWay_2 : decode cX6_firstPlaceOnTheWay 2 = .ok (.iload_n 3, 1) := by decide +kernel
theorem dX6_firstPlaceOnTheWay_3 : decode cX6_firstPlaceOnTheWay 3 = .ok (.aload_n 0, 1) := by decide +kernel
theorem dX6_firstPlaceOnTheWay_4 : decode cX6_firstPlaceOnTheWay 4 = .ok (.getfield 19, 3) := by decide +kernel
theorem dX6_firstPlaceOnTheWay_7 : decode cX6_firstPlaceOnTheWay 7 = .ok (.getfield 250, 3) := by decide +kernel
theorem dX6_firstPlaceOnTheWay_10 : decode cX6_firstPlaceOnTheWay 10 = .ok (.if_icmp .ge 38, 3) := by decide +kernel
theorem dX6_firstPlaceOnTheWay_13 : decode cX6_firstPlaceOnTheWay 13 = .ok (.aload_n 0, 1) := by decide +kernel
theorem dX6_firstPlaceOnTheWay_14 : decode cX6_firstPlaceOnTheWay 14 = .ok (.iload_n 2, 1) := by decide +kernel
theorem dX6_firstPlaceOnTheWay_15 : decode cX6_firstPlaceOnTheWay 15 = .ok (.iload_n 1, 1) := by decide +kernel
theorem dX6_firstPlaceOnTheWay_16 : decode cX6_firstPlaceOnTheWay 16 = .ok (.iload_n 3, 1) := by decide +kernel
theorem dX6_firstPlaceOnTheWay_17 : decode cX6_firstPlaceOnTheWay 17 = .ok (.invokevirtual 305, 3) := by decide +kernel
theorem dX6_firstPlaceOnTheWay_20 : decode cX6_firstPlaceOnTheWay 20 = .ok (.ifCond .eq 22, 3) := by decide +kernel
theorem dX6_firstPlaceOnTheWay_23 : decode cX6_firstPlaceOnTheWay 23 = .ok (.aload_n 0, 1) := by decide +kernel
theorem dX6_firstPlaceOnTheWay_24 : decode cX6_firstPlaceOnTheWay 24 = .ok (.getfield 59, 3) := by decide +kernel
theorem dX6_firstPlaceOnTheWay_27 : decode cX6_firstPlaceOnTheWay 27 = .ok (.iload_n 3, 1) := by decide +kernel
theorem dX6_firstPlaceOnTheWay_28 : decode cX6_firstPlaceOnTheWay 28 = .ok (.iaload, 1) := by decide +kernel
theorem dX6_firstPlaceOnTheWay_29 : decode cX6_firstPlaceOnTheWay 29 = .ok (.aload_n 0, 1) := by decide +kernel
theorem dX6_firstPlaceOnTheWay_30 : decode cX6_firstPlaceOnTheWay 30 = .ok (.getfield 59, 3) := by decide +kernel
theorem dX6_firstPlaceOnTheWay_33 : decode cX6_firstPlaceOnTheWay 33 = .ok (.iload_n 1, 1) := by decide +kernel
theorem dX6_firstPlaceOnTheWay_34 : decode cX6_firstPlaceOnTheWay 34 = .ok (.iaload, 1) := by decide +kernel
theorem dX6_firstPlaceOnTheWay_35 : decode cX6_firstPlaceOnTheWay 35 = .ok (.iconst 1, 1) := by decide +kernel
theorem dX6_firstPlaceOnTheWay_36 : decode cX6_firstPlaceOnTheWay 36 = .ok (.isub, 1) := by decide +kernel
theorem dX6_firstPlaceOnTheWay_37 : decode cX6_firstPlaceOnTheWay 37 = .ok (.if_icmp .ne 5, 3) := by decide +kernel
theorem dX6_firstPlaceOnTheWay_40 : decode cX6_firstPlaceOnTheWay 40 = .ok (.iload_n 3, 1) := by decide +kernel
theorem dX6_firstPlaceOnTheWay_41 : decode cX6_firstPlaceOnTheWay 41 = .ok (.ireturn, 1) := by decide +kernel
theorem dX6_firstPlaceOnTheWay_42 : decode cX6_firstPlaceOnTheWay 42 = .ok (.iinc 3 1, 3) := by decide +kernel
theorem dX6_firstPlaceOnTheWay_45 : decode cX6_firstPlaceOnTheWay 45 = .ok (.goto (-43), 3) := by decide +kernel
theorem dX6_firstPlaceOnTheWay_48 : decode cX6_firstPlaceOnTheWay 48 = .ok (.bipush (-9), 2) := by decide +kernel
theorem dX6_firstPlaceOnTheWay_50 : decode cX6_firstPlaceOnTheWay 50 = .ok (.ireturn, 1) := by decide +kernel
theorem dX6_fewestPartsOf_0 : decode cX6_fewestPartsOf 0 = .ok (.bipush (-9), 2) := by decide +kernel
theorem dX6_fewestPartsOf_2 : decode cX6_fewestPartsOf 2 = .ok (.istore_n 3, 1) := by decide +kernel
theorem dX6_fewestPartsOf_3 : decode cX6_fewestPartsOf 3 = .ok (.iload_n 1, 1) := by decide +kernel
theorem dX6_fewestPartsOf_4 : decode cX6_fewestPartsOf 4 = .ok (.aload_n 0, 1) := by decide +kernel
theorem dX6_fewestPartsOf_5 : decode cX6_fewestPartsOf 5 = .ok (.getfield 19, 3) := by decide +kernel
theorem dX6_fewestPartsOf_8 : decode cX6_fewestPartsOf 8 = .ok (.getfield 113, 3) := by decide +kernel
theorem dX6_fewestPartsOf_11 : decode cX6_fewestPartsOf 11 = .ok (.iload_n 2, 1) := by decide +kernel
theorem dX6_fewestPartsOf_12 : decode cX6_fewestPartsOf 12 = .ok (.iaload, 1) := by decide +kernel
theorem dX6_fewestPartsOf_13 : decode cX6_fewestPartsOf 13 = .ok (.invokestatic 253, 3) := by decide +kernel
theorem dX6_fewestPartsOf_16 : decode cX6_fewestPartsOf 16 = .ok (.istore 4, 2) := by decide +kernel
theorem dX6_fewestPartsOf_18 : decode cX6_fewestPartsOf 18 = .ok (.iload 4, 2) := by decide +kernel
theorem dX6_fewestPartsOf_20 : decode cX6_fewestPartsOf 20 = .ok (.iconst 1, 1) := by decide +kernel
theorem dX6_fewestPartsOf_21 : decode cX6_fewestPartsOf 21 = .ok (.if_icmp .lt 57, 3) := by decide +kernel
theorem dX6_fewestPartsOf_24 : decode cX6_fewestPartsOf 24 = .ok (.aload_n 0, 1) := by decide +kernel
theorem dX6_fewestPartsOf_25 : decode cX6_fewestPartsOf 25 = .ok (.getfield 63, 3) := by decide +kernel
theorem dX6_fewestPartsOf_28 : decode cX6_fewestPartsOf 28 = .ok (.iload_n 1, 1) := by decide +kernel
theorem dX6_fewestPartsOf_29 : decode cX6_fewestPartsOf 29 = .ok (.iload 4, 2) := by decide +kernel
theorem dX6_fewestPartsOf_31 : decode cX6_fewestPartsOf 31 = .ok (.isub, 1) := by decide +kernel
theorem dX6_fewestPartsOf_32 : decode cX6_fewestPartsOf 32 = .ok (.iaload, 1) := by decide +kernel
theorem dX6_fewestPartsOf_33 : decode cX6_fewestPartsOf 33 = .ok (.istore 5, 2) := by decide +kernel
theorem dX6_fewestPartsOf_35 : decode cX6_fewestPartsOf 35 = .ok (.aload_n 0, 1) := by decide +kernel
theorem dX6_fewestPartsOf_36 : decode cX6_fewestPartsOf 36 = .ok (.iload_n 2, 1) := by decide +kernel
theorem dX6_fewestPartsOf_37 : decode cX6_fewestPartsOf 37 = .ok (.iload 4, 2) := by decide +kernel
theorem dX6_fewestPartsOf_39 : decode cX6_fewestPartsOf 39 = .ok (.invokevirtual 136, 3) := by decide +kernel
theorem dX6_fewestPartsOf_42 : decode cX6_fewestPartsOf 42 = .ok (.iconst 3, 1) := by decide +kernel
theorem dX6_fewestPartsOf_43 : decode cX6_fewestPartsOf 43 = .ok (.if_icmp .eq 29, 3) := by decide +kernel
theorem dX6_fewestPartsOf_46 : decode cX6_fewestPartsOf 46 = .ok (.iload 5, 2) := by decide +kernel
theorem dX6_fewestPartsOf_48 : decode cX6_fewestPartsOf 48 = .ok (.bipush (-9), 2) := by decide +kernel
theorem dX6_fewestPartsOf_50 : decode cX6_fewestPartsOf 50 = .ok (.if_icmp .eq 22, 3) := by decide +kernel
theorem dX6_fewestPartsOf_53 : decode cX6_fewestPartsOf 53 = .ok (.iload_n 3, 1) := by decide +kernel
theorem dX6_fewestPartsOf_54 : decode cX6_fewestPartsOf 54 = .ok (.bipush (-9), 2) := by decide +kernel
theorem dX6_fewestPartsOf_56 : decode cX6_fewestPartsOf 56 = .ok (.if_icmp .eq 11, 3) := by decide +kernel
theorem dX6_fewestPartsOf_59 : decode cX6_fewestPartsOf 59 = .ok (.iload 5, 2) := by decide +kernel
theorem dX6_fewestPartsOf_61 : decode cX6_fewestPartsOf 61 = .ok (.iconst 1, 1) := by decide +kernel
theorem dX6_fewestPartsOf_62 : decode cX6_fewestPartsOf 62 = .ok (.iadd, 1) := by decide +kernel
theorem dX6_fewestPartsOf_63 : decode cX6_fewestPartsOf 63 = .ok (.iload_n 3, 1) := by decide +kernel
theorem dX6_fewestPartsOf_64 : decode cX6_fewestPartsOf 64 = .ok (.if_icmp .ge 8, 3) := by decide +kernel
theorem dX6_fewestPartsOf_67 : decode cX6_fewestPartsOf 67 = .ok (.iload 5, 2) := by decide +kernel
theorem dX6_fewestPartsOf_69 : decode cX6_fewestPartsOf 69 = .ok (.iconst 1, 1) := by decide +kernel
theorem dX6_fewestPartsOf_70 : decode cX6_fewestPartsOf 70 = .ok (.iadd, 1) := by decide +kernel
theorem dX6_fewestPartsOf_71 : decode cX6_fewestPartsOf 71 = .ok (.istore_n 3, 1) := by decide +kernel
theorem dX6_fewestPartsOf_72 : decode cX6_fewestPartsOf 72 = .ok (.iinc 4 (-1), 3) := by decide +kernel
theorem dX6_fewestPartsOf_75 : decode cX6_fewestPartsOf 75 = .ok (.goto (-57), 3) := by decide +kernel
theorem dX6_fewestPartsOf_78 : decode cX6_fewestPartsOf 78 = .ok (.iload_n 3, 1) := by decide +kernel
theorem dX6_fewestPartsOf_79 : decode cX6_fewestPartsOf 79 = .ok (.ireturn, 1) := by decide +kernel
theorem dX6_greatestPart_0 : decode cX6_greatestPart 0 = .ok (.iload_n 1, 1) := by decide +kernel
theorem dX6_greatestPart_1 : decode cX6_greatestPart 1 = .ok (.aload_n 0, 1) := by decide +kernel
theorem dX6_greatestPart_2 : decode cX6_greatestPart 2 = .ok (.getfield 19, 3) := by decide +kernel
theorem dX6_greatestPart_5 : decode cX6_greatestPart 5 = .ok (.getfield 113, 3) := by decide +kernel
theorem dX6_greatestPart_8 : decode cX6_greatestPart 8 = .ok (.iload_n 2, 1) := by decide +kernel
theorem dX6_greatestPart_9 : decode cX6_greatestPart 9 = .ok (.iaload, 1) := by decide +kernel
theorem dX6_greatestPart_10 : decode cX6_greatestPart 10 = .ok (.invokestatic 253, 3) := by decide +kernel
theorem dX6_greatestPart_13 : decode cX6_greatestPart 13 = .ok (.istore_n 3, 1) := by decide +kernel
theorem dX6_greatestPart_14 : decode cX6_greatestPart 14 = .ok (.iload_n 3, 1) := by decide +kernel
theorem dX6_greatestPart_15 : decode cX6_greatestPart 15 = .ok (.iconst 1, 1) := by decide +kernel
theorem dX6_greatestPart_16 : decode cX6_greatestPart 16 = .ok (.if_icmp .lt 40, 3) := by decide +kernel
theorem dX6_greatestPart_19 : decode cX6_greatestPart 19 = .ok (.aload_n 0, 1) := by decide +kernel
theorem dX6_greatestPart_20 : decode cX6_greatestPart 20 = .ok (.iload_n 2, 1) := by decide +kernel
theorem dX6_greatestPart_21 : decode cX6_greatestPart 21 = .ok (.iload_n 3, 1) := by decide +kernel
theorem dX6_greatestPart_22 : decode cX6_greatestPart 22 = .ok (.invokevirtual 136, 3) := by decide +kernel
theorem dX6_greatestPart_25 : decode cX6_greatestPart 25 = .ok (.iconst 3, 1) := by decide +kernel
theorem dX6_greatestPart_26 : decode cX6_greatestPart 26 = .ok (.if_icmp .eq 24, 3) := by decide +kernel
theorem dX6_greatestPart_29 : decode cX6_greatestPart 29 = .ok (.aload_n 0, 1) := by decide +kernel
theorem dX6_greatestPart_30 : decode cX6_greatestPart 30 = .ok (.getfield 63, 3) := by decide +kernel
theorem dX6_greatestPart_33 : decode cX6_greatestPart 33 = .ok (.iload_n 1, 1) := by decide +kernel
theorem dX6_greatestPart_34 : decode cX6_greatestPart 34 = .ok (.iload_n 3, 1) := by decide +kernel
theorem dX6_greatestPart_35 : decode cX6_greatestPart 35 = .ok (.isub, 1) := by decide +kernel
theorem dX6_greatestPart_36 : decode cX6_greatestPart 36 = .ok (.iaload, 1) := by decide +kernel
theorem dX6_greatestPart_37 : decode cX6_greatestPart 37 = .ok (.aload_n 0, 1) := by decide +kernel
theorem dX6_greatestPart_38 : decode cX6_greatestPart 38 = .ok (.getfield 63, 3) := by decide +kernel
theorem dX6_greatestPart_41 : decode cX6_greatestPart 41 = .ok (.iload_n 1, 1) := by decide +kernel
theorem dX6_greatestPart_42 : decode cX6_greatestPart 42 = .ok (.iaload, 1) := by decide +kernel
theorem dX6_greatestPart_43 : decode cX6_greatestPart 43 = .ok (.iconst 1, 1) := by decide +kernel
theorem dX6_greatestPart_44 : decode cX6_greatestPart 44 = .ok (.isub, 1) := by decide +kernel
theorem dX6_greatestPart_45 : decode cX6_greatestPart 45 = .ok (.if_icmp .ne 5, 3) := by decide +kernel
theorem dX6_greatestPart_48 : decode cX6_greatestPart 48 = .ok (.iload_n 3, 1) := by decide +kernel
theorem dX6_greatestPart_49 : decode cX6_greatestPart 49 = .ok (.ireturn, 1) := by decide +kernel
theorem dX6_greatestPart_50 : decode cX6_greatestPart 50 = .ok (.iinc 3 (-1), 3) := by decide +kernel
theorem dX6_greatestPart_53 : decode cX6_greatestPart 53 = .ok (.goto (-39), 3) := by decide +kernel
theorem dX6_greatestPart_56 : decode cX6_greatestPart 56 = .ok (.bipush (-9), 2) := by decide +kernel
theorem dX6_greatestPart_58 : decode cX6_greatestPart 58 = .ok (.ireturn, 1) := by decide +kernel
theorem dX6_endInYear_0 : decode cX6_endInYear 0 = .ok (.aload_n 0, 1) := by decide +kernel
theorem dX6_endInYear_1 : decode cX6_endInYear 1 = .ok (.iload_n 1, 1) := by decide +kernel
theorem dX6_endInYear_2 : decode cX6_endInYear 2 = .ok (.iload_n 3, 1) := by decide +kernel
theorem dX6_endInYear_3 : decode cX6_endInYear 3 = .ok (.iload_n 2, 1) := by decide +kernel
theorem dX6_endInYear_4 : decode cX6_endInYear 4 = .ok (.iload 4, 2) := by decide +kernel
theorem dX6_endInYear_6 : decode cX6_endInYear 6 = .ok (.imul, 1) := by decide +kernel
theorem dX6_endInYear_7 : decode cX6_endInYear 7 = .ok (.aload_n 0, 1) := by decide +kernel
theorem dX6_endInYear_8 : decode cX6_endInYear 8 = .ok (.getfield 19, 3) := by decide +kernel
theorem dX6_endInYear_11 : decode cX6_endInYear 11 = .ok (.getfield 113, 3) := by decide +kernel
theorem dX6_endInYear_14 : decode cX6_endInYear 14 = .ok (.iload_n 1, 1) := by decide +kernel
theorem dX6_endInYear_15 : decode cX6_endInYear 15 = .ok (.iaload, 1) := by decide +kernel
theorem dX6_endInYear_16 : decode cX6_endInYear 16 = .ok (.invokestatic 154, 3) := by decide +kernel
theorem dX6_endInYear_19 : decode cX6_endInYear 19 = .ok (.invokevirtual 136, 3) := by decide +kernel
theorem dX6_endInYear_22 : decode cX6_endInYear 22 = .ok (.ireturn, 1) := by decide +kernel
theorem dX6_agreesWithBooks_0 : decode cX6_agreesWithBooks 0 = .ok (.iconst 0, 1) := by decide +kernel
theorem dX6_agreesWithBooks_1 : decode cX6_agreesWithBooks 1 = .ok (.istore 4, 2) := by decide +kernel
theorem dX6_agreesWithBooks_3 : decode cX6_agreesWithBooks 3 = .ok (.iload 4, 2) := by decide +kernel
theorem dX6_agreesWithBooks_5 : decode cX6_agreesWithBooks 5 = .ok (.aload_n 0, 1) := by decide +kernel
theorem dX6_agreesWithBooks_6 : decode cX6_agreesWithBooks 6 = .ok (.getfield 55, 3) := by decide +kernel
theorem dX6_agreesWithBooks_9 : decode cX6_agreesWithBooks 9 = .ok (.getfield 105, 3) := by decide +kernel
theorem dX6_agreesWithBooks_12 : decode cX6_agreesWithBooks 12 = .ok (.if_icmp .ge 55, 3) := by decide +kernel
theorem dX6_agreesWithBooks_15 : decode cX6_agreesWithBooks 15 = .ok (.aload_n 0, 1) := by decide +kernel
theorem dX6_agreesWithBooks_16 : decode cX6_agreesWithBooks 16 = .ok (.getfield 55, 3) := by decide +kernel
theorem dX6_agreesWithBooks_19 : decode cX6_agreesWithBooks 19 = .ok (.getfield 308, 3) := by decide +kernel
theorem dX6_agreesWithBooks_22 : decode cX6_agreesWithBooks 22 = .ok (.iload 4, 2) := by decide +kernel
theorem dX6_agreesWithBooks_24 : decode cX6_agreesWithBooks 24 = .ok (.iaload, 1) := by decide +kernel
theorem dX6_agreesWithBooks_25 : decode cX6_agreesWithBooks 25 = .ok (.iload_n 1, 1) := by decide +kernel
theorem dX6_agreesWithBooks_26 : decode cX6_agreesWithBooks 26 = .ok (.if_icmp .ne 35, 3) := by decide +kernel
theorem dX6_agreesWithBooks_29 : decode cX6_agreesWithBooks 29 = .ok (.aload_n 0, 1) := by decide +kernel
theorem dX6_agreesWithBooks_30 : decode cX6_agreesWithBooks 30 = .ok (.iload_n 1, 1) := by decide +kernel
theorem dX6_agreesWithBooks_31 : decode cX6_agreesWithBooks 31 = .ok (.aload_n 0, 1) := by decide +kernel
theorem dX6_agreesWithBooks_32 : decode cX6_agreesWithBooks 32 = .ok (.getfield 55, 3) := by decide +kernel
theorem dX6_agreesWithBooks_35 : decode cX6_agreesWithBooks 35 = .ok (.getfield 309, 3) := by decide +kernel
theorem dX6_agreesWithBooks_38 : decode cX6_agreesWithBooks 38 = .ok (.iload 4, 2) := by decide +kernel
theorem dX6_agreesWithBooks_40 : decode cX6_agreesWithBooks 40 = .ok (.iaload, 1) := by decide +kernel
theorem dX6_agreesWithBooks_41 : decode cX6_agreesWithBooks 41 = .ok (.iload_n 2, 1) := by decide +kernel
theorem dX6_agreesWithBooks_42 : decode cX6_agreesWithBooks 42 = .ok (.iload_n 3, 1) := by decide +kernel
theorem dX6_agreesWithBooks_43 : decode cX6_agreesWithBooks 43 = .ok (.invokevirtual 218, 3) := by decide +kernel
theorem dX6_agreesWithBooks_46 : decode cX6_agreesWithBooks 46 = .ok (.aload_n 0, 1) := by decide +kernel
theorem dX6_agreesWithBooks_47 : decode cX6_agreesWithBooks 47 = .ok (.getfield 55, 3) := by decide +kernel
theorem dX6_agreesWithBooks_50 : decode cX6_agreesWithBooks 50 = .ok (.getfield 312, 3) := by decide +kernel
theorem dX6_agreesWithBooks_53 : decode cX6_agreesWithBooks 53 = .ok (.iload 4, 2) := by decide +kernel
theorem dX6_agreesWithBooks_55 : decode cX6_agreesWithBooks 55 = .ok (.iaload, 1) := by decide +kernel
theorem dX6_agreesWithBooks_56 : decode cX6_agreesWithBooks 56 = .ok (.if_icmp .eq 5, 3) := by decide +kernel
theorem dX6_agreesWithBooks_59 : decode cX6_agreesWithBooks 59 = .ok (.iconst 0, 1) := by decide +kernel
theorem dX6_agreesWithBooks_60 : decode cX6_agreesWithBooks 60 = .ok (.ireturn, 1) := by decide +kernel
theorem dX6_agreesWithBooks_61 : decode cX6_agreesWithBooks 61 = .ok (.iinc 4 1, 3) := by decide +kernel
theorem dX6_agreesWithBooks_64 : decode cX6_agreesWithBooks 64 = .ok (.goto (-61), 3) := by decide +kernel
theorem dX6_agreesWithBooks_67 : decode cX6_agreesWithBooks 67 = .ok (.iconst 1, 1) := by decide +kernel
theorem dX6_agreesWithBooks_68 : decode cX6_agreesWithBooks 68 = .ok (.ireturn, 1) := by decide +kernel
theorem dX6_rateAsLife_0 : decode cX6_rateAsLife 0 = .ok (.aload_n 0, 1) := by decide +kernel
theorem dX6_rateAsLife_1 : decode cX6_rateAsLife 1 = .ok (.dup, 1) := by decide +kernel
theorem dX6_rateAsLife_2 : decode cX6_rateAsLife 2 = .ok (.getfield 66, 3) := by decide +kernel
theorem dX6_rateAsLife_5 : decode cX6_rateAsLife 5 = .ok (.lconst 1, 1) := by decide +kernel
theorem dX6_rateAsLife_6 : decode cX6_rateAsLife 6 = .ok (.ladd, 1) := by decide +kernel
theorem dX6_rateAsLife_7 : decode cX6_rateAsLife 7 = .ok (.putfield 66, 3) := by decide +kernel
theorem dX6_rateAsLife_10 : decode cX6_rateAsLife 10 = .ok (.iconst 0, 1) := by decide +kernel
theorem dX6_rateAsLife_11 : decode cX6_rateAsLife 11 = .ok (.istore_n 2, 1) := by decide +kernel
theorem dX6_rateAsLife_12 : decode cX6_rateAsLife 12 = .ok (.iconst 0, 1) := by decide +kernel
theorem dX6_rateAsLife_13 : decode cX6_rateAsLife 13 = .ok (.istore_n 3, 1) := by decide +kernel
theorem dX6_rateAsLife_14 : decode cX6_rateAsLife 14 = .ok (.iload_n 3, 1) := by decide +kernel
theorem dX6_rateAsLife_15 : decode cX6_rateAsLife 15 = .ok (.aload_n 0, 1) := by decide +kernel
theorem dX6_rateAsLife_16 : decode cX6_rateAsLife 16 = .ok (.getfield 19, 3) := by decide +kernel
theorem dX6_rateAsLife_19 : decode cX6_rateAsLife 19 = .ok (.getfield 222, 3) := by decide +kernel
theorem dX6_rateAsLife_22 : decode cX6_rateAsLife 22 = .ok (.if_icmp .ge 25, 3) := by decide +kernel
theorem dX6_rateAsLife_25 : decode cX6_rateAsLife 25 = .ok (.iload_n 2, 1) := by decide +kernel
theorem dX6_rateAsLife_26 : decode cX6_rateAsLife 26 = .ok (.aload_n 0, 1) := by decide +kernel
theorem dX6_rateAsLife_27 : decode cX6_rateAsLife 27 = .ok (.getfield 26, 3) := by decide +kernel
theorem dX6_rateAsLife_30 : decode cX6_rateAsLife 30 = .ok (.getfield 122, 3) := by decide +kernel
theorem dX6_rateAsLife_33 : decode cX6_rateAsLife 33 = .ok (.iload_n 1, 1) := by decide +kernel
theorem dX6_rateAsLife_34 : decode cX6_rateAsLife 34 = .ok (.iload_n 3, 1) := by decide +kernel
theorem dX6_rateAsLife_35 : decode cX6_rateAsLife 35 = .ok (.invokestatic 125, 3) := by decide +kernel
theorem dX6_rateAsLife_38 : decode cX6_rateAsLife 38 = .ok (.iaload, 1) := by decide +kernel
theorem dX6_rateAsLife_39 : decode cX6_rateAsLife 39 = .ok (.iadd, 1) := by decide +kernel
theorem dX6_rateAsLife_40 : decode cX6_rateAsLife 40 = .ok (.istore_n 2, 1) := by decide +kernel
theorem dX6_rateAsLife_41 : decode cX6_rateAsLife 41 = .ok (.iinc 3 1, 3) := by decide +kernel
theorem dX6_rateAsLife_44 : decode cX6_rateAsLife 44 = .ok (.goto (-30), 3) := by decide +kernel
theorem dX6_rateAsLife_47 : decode cX6_rateAsLife 47 = .ok (.iload_n 2, 1) := by decide +kernel
theorem dX6_rateAsLife_48 : decode cX6_rateAsLife 48 = .ok (.ireturn, 1) := by decide +kernel
theorem dX6_rateAsChild_0 : decode cX6_rateAsChild 0 = .ok (.aload_n 0, 1) := by decide +kernel
theorem dX6_rateAsChild_1 : decode cX6_rateAsChild 1 = .ok (.dup, 1) := by decide +kernel
theorem dX6_rateAsChild_2 : decode cX6_rateAsChild 2 = .ok (.getfield 66, 3) := by decide +kernel
theorem dX6_rateAsChild_5 : decode cX6_rateAsChild 5 = .ok (.ldc2_w 315, 3) := by decide +kernel
theorem dX6_rateAsChild_8 : decode cX6_rateAsChild 8 = .ok (.ladd, 1) := by decide +kernel
theorem dX6_rateAsChild_9 : decode cX6_rateAsChild 9 = .ok (.putfield 66, 3) := by decide +kernel
theorem dX6_rateAsChild_12 : decode cX6_rateAsChild 12 = .ok (.aload_n 0, 1) := by decide +kernel
theorem dX6_rateAsChild_13 : decode cX6_rateAsChild 13 = .ok (.iload_n 1, 1) := by decide +kernel
theorem dX6_rateAsChild_14 : decode cX6_rateAsChild 14 = .ok (.invokevirtual 229, 3) := by decide +kernel
theorem dX6_rateAsChild_17 : decode cX6_rateAsChild 17 = .ok (.aload_n 0, 1) := by decide +kernel
theorem dX6_rateAsChild_18 : decode cX6_rateAsChild 18 = .ok (.iconst 1, 1) := by decide +kernel
theorem dX6_rateAsChild_19 : decode cX6_rateAsChild 19 = .ok (.iload_n 1, 1) := by decide +kernel
theorem dX6_rateAsChild_20 : decode cX6_rateAsChild 20 = .ok (.invokevirtual 267, 3) := by decide +kernel
theorem dX6_rateAsChild_23 : decode cX6_rateAsChild 23 = .ok (.iadd, 1) := by decide +kernel
theorem dX6_rateAsChild_24 : decode cX6_rateAsChild 24 = .ok (.ireturn, 1) := by decide +kernel
theorem dX6_rateAsFiance_0 : decode cX6_rateAsFiance 0 = .ok (.aload_n 0, 1) := by decide +kernel
theorem dX6_rateAsFiance_1 : decode cX6_rateAsFiance 1 = .ok (.dup, 1) := by decide +kernel
theorem dX6_rateAsFiance_2 : decode cX6_rateAsFiance 2 = .ok (.getfield 66, 3) := by decide +kernel
theorem dX6_rateAsFiance_5 : decode cX6_rateAsFiance 5 = .ok (.ldc2_w 317, 3) := by decide +kernel
theorem dX6_rateAsFiance_8 : decode cX6_rateAsFiance 8 = .ok (.ladd, 1) := by decide +kernel
theorem dX6_rateAsFiance_9 : decode cX6_rateAsFiance 9 = .ok (.putfield 66, 3) := by decide +kernel
theorem dX6_rateAsFiance_12 : decode cX6_rateAsFiance 12 = .ok (.aload_n 0, 1) := by decide +kernel
theorem dX6_rateAsFiance_13 : decode cX6_rateAsFiance 13 = .ok (.iload_n 1, 1) := by decide +kernel
theorem dX6_rateAsFiance_14 : decode cX6_rateAsFiance 14 = .ok (.invokevirtual 229, 3) := by decide +kernel
theorem dX6_rateAsFiance_17 : decode cX6_rateAsFiance 17 = .ok (.aload_n 0, 1) := by decide +kernel
theorem dX6_rateAsFiance_18 : decode cX6_rateAsFiance 18 = .ok (.iconst 2, 1) := by decide +kernel
theorem dX6_rateAsFiance_19 : decode cX6_rateAsFiance 19 = .ok (.iload_n 1, 1) := by decide +kernel
theorem dX6_rateAsFiance_20 : decode cX6_rateAsFiance 20 = .ok (.invokevirtual 267, 3) := by decide +kernel
theorem dX6_rateAsFiance_23 : decode cX6_rateAsFiance 23 = .ok (.isub, 1) := by decide +kernel
theorem dX6_rateAsFiance_24 : decode cX6_rateAsFiance 24 = .ok (.ireturn, 1) := by decide +kernel
theorem dX6_rateAsThirdSon_0 : decode cX6_rateAsThirdSon 0 = .ok (.aload_n 0, 1) := by decide +kernel
theorem dX6_rateAsThirdSon_1 : decode cX6_rateAsThirdSon 1 = .ok (.dup, 1) := by decide +kernel
theorem dX6_rateAsThirdSon_2 : decode cX6_rateAsThirdSon 2 = .ok (.getfield 66, 3) := by decide +kernel
theorem dX6_rateAsThirdSon_5 : decode cX6_rateAsThirdSon 5 = .ok (.ldc2_w 319, 3) := by decide +kernel
theorem dX6_rateAsThirdSon_8 : decode cX6_rateAsThirdSon 8 = .ok (.ladd, 1) := by decide +kernel
theorem dX6_rateAsThirdSon_9 : decode cX6_rateAsThirdSon 9 = .ok (.putfield 66, 3) := by decide +kernel
theorem dX6_rateAsThirdSon_12 : decode cX6_rateAsThirdSon 12 = .ok (.iconst 2, 1) := by decide +kernel
theorem dX6_rateAsThirdSon_13 : decode cX6_rateAsThirdSon 13 = .ok (.aload_n 0, 1) := by decide +kernel
theorem dX6_rateAsThirdSon_14 : decode cX6_rateAsThirdSon 14 = .ok (.iload_n 1, 1) := by decide +kernel
theorem dX6_rateAsThirdSon_15 : decode cX6_rateAsThirdSon 15 = .ok (.invokevirtual 232, 3) := by decide +kernel
theorem dX6_rateAsThirdSon_18 : decode cX6_rateAsThirdSon 18 = .ok (.imul, 1) := by decide +kernel
theorem dX6_rateAsThirdSon_19 : decode cX6_rateAsThirdSon 19 = .ok (.ireturn, 1) := by decide +kernel
theorem dX6_rateAsWidow_0 : decode cX6_rateAsWidow 0 = .ok (.aload_n 0, 1) := by decide +kernel
theorem dX6_rateAsWidow_1 : decode cX6_rateAsWidow 1 = .ok (.dup, 1) := by decide +kernel
theorem dX6_rateAsWidow_2 : decode cX6_rateAsWidow 2 = .ok (.getfield 66, 3) := by decide +kernel
theorem dX6_rateAsWidow_5 : decode cX6_rateAsWidow 5 = .ok (.ldc2_w 321, 3) := by decide +kernel
theorem dX6_rateAsWidow_8 : decode cX6_rateAsWidow 8 = .ok (.ladd, 1) := by decide +kernel
theorem dX6_rateAsWidow_9 : decode cX6_rateAsWidow 9 = .ok (.putfield 66, 3) := by decide +kernel
theorem dX6_rateAsWidow_12 : decode cX6_rateAsWidow 12 = .ok (.aload_n 0, 1) := by decide +kernel
theorem dX6_rateAsWidow_13 : decode cX6_rateAsWidow 13 = .ok (.iload_n 1, 1) := by decide +kernel
theorem dX6_rateAsWidow_14 : decode cX6_rateAsWidow 14 = .ok (.invokevirtual 235, 3) := by decide +kernel
theorem dX6_rateAsWidow_17 : decode cX6_rateAsWidow 17 = .ok (.iload_n 1, 1) := by decide +kernel
theorem dX6_rateAsWidow_18 : decode cX6_rateAsWidow 18 = .ok (.iadd, 1) := by decide +kernel
theorem dX6_rateAsWidow_19 : decode cX6_rateAsWidow 19 = .ok (.ireturn, 1) := by decide +kernel
theorem dX6_rateAsSmuggler_0 : decode cX6_rateAsSmuggler 0 = .ok (.aload_n 0, 1) := by decide +kernel
theorem dX6_rateAsSmuggler_1 : decode cX6_rateAsSmuggler 1 = .ok (.dup, 1) := by decide +kernel
theorem dX6_rateAsSmuggler_2 : decode cX6_rateAsSmuggler 2 = .ok (.getfield 66, 3) := by decide +kernel
theorem dX6_rateAsSmuggler_5 : decode cX6_rateAsSmuggler 5 = .ok (.ldc2_w 323, 3) := by decide +kernel
theorem dX6_rateAsSmuggler_8 : decode cX6_rateAsSmuggler 8 = .ok (.ladd, 1) := by decide +kernel
theorem dX6_rateAsSmuggler_9 : decode cX6_rateAsSmuggler 9 = .ok (.putfield 66, 3) := by decide +kernel
theorem dX6_rateAsSmuggler_12 : decode cX6_rateAsSmuggler 12 = .ok (.aload_n 0, 1) := by decide +kernel
theorem dX6_rateAsSmuggler_13 : decode cX6_rateAsSmuggler 13 = .ok (.iload_n 1, 1) := by decide +kernel
theorem dX6_rateAsSmuggler_14 : decode cX6_rateAsSmuggler 14 = .ok (.invokevirtual 229, 3) := by decide +kernel
theorem dX6_rateAsSmuggler_17 : decode cX6_rateAsSmuggler 17 = .ok (.aload_n 0, 1) := by decide +kernel
theorem dX6_rateAsSmuggler_18 : decode cX6_rateAsSmuggler 18 = .ok (.getfield 19, 3) := by decide +kernel
theorem dX6_rateAsSmuggler_21 : decode cX6_rateAsSmuggler 21 = .ok (.getfield 175, 3) := by decide +kernel
theorem dX6_rateAsSmuggler_24 : decode cX6_rateAsSmuggler 24 = .ok (.iadd, 1) := by decide +kernel
theorem dX6_rateAsSmuggler_25 : decode cX6_rateAsSmuggler 25 = .ok (.ireturn, 1) := by decide +kernel
theorem dJ6_bitCount_0f7a4_0 : decode cJ6_bitCount_0f7a4 0 = .ok (.iload_n 0, 1) := by decide +kernel
theorem dJ6_bitCount_0f7a4_1 : decode cJ6_bitCount_0f7a4 1 = .ok (.iload_n 0, 1) := by decide +kernel
theorem dJ6_bitCount_0f7a4_2 : decode cJ6_bitCount_0f7a4 2 = .ok (.iconst 1, 1) := by decide +kernel
theorem dJ6_bitCount_0f7a4_3 : decode cJ6_bitCount_0f7a4 3 = .ok (.iushr, 1) := by decide +kernel
theorem dJ6_bitCount_0f7a4_4 : decode cJ6_bitCount_0f7a4 4 = .ok (.ldc_w 265, 3) := by decide +kernel
theorem dJ6_bitCount_0f7a4_7 : decode cJ6_bitCount_0f7a4 7 = .ok (.iand, 1) := by decide +kernel
theorem dJ6_bitCount_0f7a4_8 : decode cJ6_bitCount_0f7a4 8 = .ok (.isub, 1) := by decide +kernel
theorem dJ6_bitCount_0f7a4_9 : decode cJ6_bitCount_0f7a4 9 = .ok (.istore_n 0, 1) := by decide +kernel
theorem dJ6_bitCount_0f7a4_10 : decode cJ6_bitCount_0f7a4 10 = .ok (.iload_n 0, 1) := by decide +kernel
theorem dJ6_bitCount_0f7a4_11 : decode cJ6_bitCount_0f7a4 11 = .ok (.ldc_w 266, 3) := by decide +kernel
theorem dJ6_bitCount_0f7a4_14 : decode cJ6_bitCount_0f7a4 14 = .ok (.iand, 1) := by decide +kernel
theorem dJ6_bitCount_0f7a4_15 : decode cJ6_bitCount_0f7a4 15 = .ok (.iload_n 0, 1) := by decide +kernel
theorem dJ6_bitCount_0f7a4_16 : decode cJ6_bitCount_0f7a4 16 = .ok (.iconst 2, 1) := by decide +kernel
theorem dJ6_bitCount_0f7a4_17 : decode cJ6_bitCount_0f7a4 17 = .ok (.iushr, 1) := by decide +kernel
theorem dJ6_bitCount_0f7a4_18 : decode cJ6_bitCount_0f7a4 18 = .ok (.ldc_w 266, 3) := by decide +kernel
theorem dJ6_bitCount_0f7a4_21 : decode cJ6_bitCount_0f7a4 21 = .ok (.iand, 1) := by decide +kernel
theorem dJ6_bitCount_0f7a4_22 : decode cJ6_bitCount_0f7a4 22 = .ok (.iadd, 1) := by decide +kernel
theorem dJ6_bitCount_0f7a4_23 : decode cJ6_bitCount_0f7a4 23 = .ok (.istore_n 0, 1) := by decide +kernel
theorem dJ6_bitCount_0f7a4_24 : decode cJ6_bitCount_0f7a4 24 = .ok (.iload_n 0, 1) := by decide +kernel
theorem dJ6_bitCount_0f7a4_25 : decode cJ6_bitCount_0f7a4 25 = .ok (.iload_n 0, 1) := by decide +kernel
theorem dJ6_bitCount_0f7a4_26 : decode cJ6_bitCount_0f7a4 26 = .ok (.iconst 4, 1) := by decide +kernel
theorem dJ6_bitCount_0f7a4_27 : decode cJ6_bitCount_0f7a4 27 = .ok (.iushr, 1) := by decide +kernel
theorem dJ6_bitCount_0f7a4_28 : decode cJ6_bitCount_0f7a4 28 = .ok (.iadd, 1) := by decide +kernel
theorem dJ6_bitCount_0f7a4_29 : decode cJ6_bitCount_0f7a4 29 = .ok (.ldc_w 267, 3) := by decide +kernel
theorem dJ6_bitCount_0f7a4_32 : decode cJ6_bitCount_0f7a4 32 = .ok (.iand, 1) := by decide +kernel
theorem dJ6_bitCount_0f7a4_33 : decode cJ6_bitCount_0f7a4 33 = .ok (.istore_n 0, 1) := by decide +kernel
theorem dJ6_bitCount_0f7a4_34 : decode cJ6_bitCount_0f7a4 34 = .ok (.iload_n 0, 1) := by decide +kernel
theorem dJ6_bitCount_0f7a4_35 : decode cJ6_bitCount_0f7a4 35 = .ok (.iload_n 0, 1) := by decide +kernel
theorem dJ6_bitCount_0f7a4_36 : decode cJ6_bitCount_0f7a4 36 = .ok (.bipush 8, 2) := by decide +kernel
theorem dJ6_bitCount_0f7a4_38 : decode cJ6_bitCount_0f7a4 38 = .ok (.iushr, 1) := by decide +kernel
theorem dJ6_bitCount_0f7a4_39 : decode cJ6_bitCount_0f7a4 39 = .ok (.iadd, 1) := by decide +kernel
theorem dJ6_bitCount_0f7a4_40 : decode cJ6_bitCount_0f7a4 40 = .ok (.istore_n 0, 1) := by decide +kernel
theorem dJ6_bitCount_0f7a4_41 : decode cJ6_bitCount_0f7a4 41 = .ok (.iload_n 0, 1) := by decide +kernel
theorem dJ6_bitCount_0f7a4_42 : decode cJ6_bitCount_0f7a4 42 = .ok (.iload_n 0, 1) := by decide +kernel
theorem dJ6_bitCount_0f7a4_43 : decode cJ6_bitCount_0f7a4 43 = .ok (.bipush 16, 2) := by decide +kernel
theorem dJ6_bitCount_0f7a4_45 : decode cJ6_bitCount_0f7a4 45 = .ok (.iushr, 1) := by decide +kernel
theorem dJ6_bitCount_0f7a4_46 : decode cJ6_bitCount_0f7a4 46 = .ok (.iadd, 1) := by decide +kernel
theorem dJ6_bitCount_0f7a4_47 : decode cJ6_bitCount_0f7a4 47 = .ok (.istore_n 0, 1) := by decide +kernel
theorem dJ6_bitCount_0f7a4_48 : decode cJ6_bitCount_0f7a4 48 = .ok (.iload_n 0, 1) := by decide +kernel
theorem dJ6_bitCount_0f7a4_49 : decode cJ6_bitCount_0f7a4 49 = .ok (.bipush 63, 2) := by decide +kernel
theorem dJ6_bitCount_0f7a4_51 : decode cJ6_bitCount_0f7a4 51 = .ok (.iand, 1) := by decide +kernel
theorem dJ6_bitCount_0f7a4_52 : decode cJ6_bitCount_0f7a4 52 = .ok (.ireturn, 1) := by decide +kernel
theorem dJ9_abs_0f7a4_0 : decode cJ9_abs_0f7a4 0 = .ok (.iload_n 0, 1) := by decide +kernel
theorem dJ9_abs_0f7a4_1 : decode cJ9_abs_0f7a4 1 = .ok (.ifCond .ge 8, 3) := by decide +kernel
theorem dJ9_abs_0f7a4_4 : decode cJ9_abs_0f7a4 4 = .ok (.iload_n 0, 1) := by decide +kernel
theorem dJ9_abs_0f7a4_5 : decode cJ9_abs_0f7a4 5 = .ok (.ineg, 1) := by decide +kernel
theorem dJ9_abs_0f7a4_6 : decode cJ9_abs_0f7a4 6 = .ok (.goto 4, 3) := by decide +kernel
theorem dJ9_abs_0f7a4_9 : decode cJ9_abs_0f7a4 9 = .ok (.iload_n 0, 1) := by decide +kernel
theorem dJ9_abs_0f7a4_10 : decode cJ9_abs_0f7a4 10 = .ok (.ireturn, 1) := by decide +kernel
theorem dJ9_max_7cf53_0 : decode cJ9_max_7cf53 0 = .ok (.iload_n 0, 1) := by decide +kernel
theorem dJ9_max_7cf53_1 : decode cJ9_max_7cf53 1 = .ok (.iload_n 1, 1) := by decide +kernel
theorem dJ9_max_7cf53_2 : decode cJ9_max_7cf53 2 = .ok (.if_icmp .lt 7, 3) := by decide +kernel
theorem dJ9_max_7cf53_5 : decode cJ9_max_7cf53 5 = .ok (.iload_n 0, 1) := by decide +kernel
theorem dJ9_max_7cf53_6 : decode cJ9_max_7cf53 6 = .ok (.goto 4, 3) := by decide +kernel
theorem dJ9_max_7cf53_9 : decode cJ9_max_7cf53 9 = .ok (.iload_n 1, 1) := by decide +kernel
theorem dJ9_max_7cf53_10 : decode cJ9_max_7cf53 10 = .ok (.ireturn, 1) := by decide +kernel
theorem dJ9_min_7cf53_0 : decode cJ9_min_7cf53 0 = .ok (.iload_n 0, 1) := by decide +kernel
theorem dJ9_min_7cf53_1 : decode cJ9_min_7cf53 1 = .ok (.iload_n 1, 1) := by decide +kernel
theorem dJ9_min_7cf53_2 : decode cJ9_min_7cf53 2 = .ok (.if_icmp .gt 7, 3) := by decide +kernel
theorem dJ9_min_7cf53_5 : decode cJ9_min_7cf53 5 = .ok (.iload_n 0, 1) := by decide +kernel
theorem dJ9_min_7cf53_6 : decode cJ9_min_7cf53 6 = .ok (.goto 4, 3) := by decide +kernel
theorem dJ9_min_7cf53_9 : decode cJ9_min_7cf53 9 = .ok (.iload_n 1, 1) := by decide +kernel
theorem dJ9_min_7cf53_10 : decode cJ9_min_7cf53 10 = .ok (.ireturn, 1) := by decide +kernel
end
section
theorem dX7_init_0 : decode cX7_init 0 = .ok (.aload_n 0, 1) := by decide +kernel
theorem dX7_init_1 : decode cX7_init 1 = .ok (.invokespecial 1, 3) := by decide +kernel
theorem dX7_init_4 : decode cX7_init 4 = .ok (.aload_n 0, 1) := by decide +kernel
theorem dX7_init_5 : decode cX7_init 5 = .ok (.sipush 200, 3) := by decide +kernel
theorem dX7_init_8 : decode cX7_init 8 = .ok (.newarray .int, 2) := by decide +kernel
theorem dX7_init_10 : decode cX7_init 10 = .ok (.putfield 7, 3) := by decide +kernel
theorem dX7_init_13 : decode cX7_init 13 = .ok (.aload_n 0, 1) := by decide +kernel
theorem dX7_init_14 : decode cX7_init 14 = .ok (.bipush 8, 2) := by decide +kernel
theorem dX7_init_16 : decode cX7_init 16 = .ok (.newarray .int, 2) := by decide +kernel
theorem dX7_init_18 : decode cX7_init 18 = .ok (.putfield 13, 3) := by decide +kernel
theorem dX7_init_21 : decode cX7_init 21 = .ok (.aload_n 0, 1) := by decide +kernel
theorem dX7_init_22 : decode cX7_init 22 = .ok (.bipush 16, 2) := by decide +kernel
theorem dX7_init_24 : decode cX7_init 24 = .ok (.newarray .int, 2) := by decide +kernel
theorem dX7_init_26 : decode cX7_init 26 = .ok (.putfield 16, 3) := by decide +kernel
theorem dX7_init_29 : decode cX7_init 29 = .ok (.aload_n 0, 1) := by decide +kernel
theorem dX7_init_30 : decode cX7_init 30 = .ok (.bipush 32, 2) := by decide +kernel
theorem dX7_init_32 : decode cX7_init 32 = .ok (.newarray .int, 2) := by decide +kernel
theorem dX7_init_34 : decode cX7_init 34 = .ok (.putfield 19, 3) := by decide +kernel
theorem dX7_init_37 : decode cX7_init 37 = .ok (.aload_n 0, 1) := by decide +kernel
theorem dX7_init_38 : decode cX7_init 38 = .ok (.bipush 32, 2) := by decide +kernel
theorem dX7_init_40 : decode cX7_init 40 = .ok (.newarray .int, 2) := by decide +kernel
theorem dX7_init_42 : decode cX7_init 42 = .ok (.putfield 22, 3) := by decide +kernel
theorem dX7_init_45 : decode cX7_init 45 = .ok (.aload_n 0, 1) := by decide +kernel
theorem dX7_init_46 : decode cX7_init 46 = .ok (.bipush 16, 2) := by decide +kernel
theorem dX7_init_48 : decode cX7_init 48 = .ok (.newarray .int, 2) := by decide +kernel
theorem dX7_init_50 : decode cX7_init 50 = .ok (.putfield 25, 3) := by decide +kernel
theorem dX7_init_53 : decode cX7_init 53 = .ok (.aload_n 0, 1) := by decide +kernel
theorem dX7_init_54 : decode cX7_init 54 = .ok (.bipush 26, 2) := by decide +kernel
theorem dX7_init_56 : decode cX7_init 56 = .ok (.newarray .int, 2) := by decide +kernel
theorem dX7_init_58 : decode cX7_init 58 = .ok (.putfield 28, 3) := by decide +kernel
theorem dX7_init_61 : decode cX7_init 61 = .ok (.aload_n 0, 1) := by decide +kernel
theorem dX7_init_62 : decode cX7_init 62 = .ok (.bipush 26, 2) := by decide +kernel
theorem dX7_init_64 : decode cX7_init 64 = .ok (.newarray .int, 2) := by decide +kernel
theorem dX7_init_66 : decode cX7_init 66 = .ok (.putfield 31, 3) := by decide +kernel
theorem dX7_init_69 : decode cX7_init 69 = .ok (.aload_n 0, 1) := by decide +kernel
theorem dX7_init_70 : decode cX7_init 70 = .ok (.bipush 52, 2) := by decide +kernel
theorem dX7_init_72 : decode cX7_init 72 = .ok (.newarray .int, 2) := by decide +kernel
theorem dX7_init_74 : decode cX7_init 74 = .ok (.putfield 34, 3) := by decide +kernel
theorem dX7_init_77 : decode cX7_init 77 = .ok (.aload_n 0, 1) := by decide +kernel
theorem dX7_init_78 : decode cX7_init 78 = .ok (.iconst 2, 1) := by decide +kernel
theorem dX7_init_79 : decode cX7_init 79 = .ok (.newarray .boolean, 2) := by decide +kernel
theorem dX7_init_81 : decode cX7_init 81 = .ok (.putfield 37, 3) := by decide +kernel
theorem dX7_init_84 : decode cX7_init 84 = .ok (.aload_n 0, 1) := by decide +kernel
theorem dX7_init_85 : decode cX7_init 85 = .ok (.sipush 260, 3) := by decide +kernel
theorem dX7_init_88 : decode cX7_init 88 = .ok (.newarray .int, 2) := by decide +kernel
theorem dX7_init_90 : decode cX7_init 90 = .ok (.putfield 41, 3) := by decide +kernel
theorem dX7_init_93 : decode cX7_init 93 = .ok (.aload_n 0, 1) := by decide +kernel
theorem dX7_init_94 : decode cX7_init 94 = .ok (.iconst 5, 1) := by decide +kernel
theorem dX7_init_95 : decode cX7_init 95 = .ok (.newarray .int, 2) := by decide +kernel
theorem dX7_init_97 : decode cX7_init 97 = .ok (.putfield 44, 3) := by decide +kernel
theorem dX7_init_100 : decode cX7_init 100 = .ok (.aload_n 0, 1) := by decide +kernel
theorem dX7_init_101 : decode cX7_init 101 = .ok (.iconst 5, 1) := by decide +kernel
theorem dX7_init_102 : decode cX7_init 102 = .ok (.newarray .int, 2) := by decide +kernel
theorem dX7_init_104 : decode cX7_init 104 = .ok (.putfield 47, 3) := by decide +kernel
theorem dX7_init_107 : decode cX7_init 107 = .ok (.aload_n 0, 1) := by decide +kernel
theorem dX7_init_108 : decode cX7_init 108 = .ok (.bipush 6, 2) := by decide +kernel
theorem dX7_init_110 : decode cX7_init 110 = .ok (.newarray .int, 2) := by decide +kernel
theorem dX7_init_112 : decode cX7_init 112 = .ok (.putfield 50, 3) := by decide +kernel
theorem dX7_init_115 : decode cX7_init 115 = .ok (.aload_n 0, 1) := by decide +kernel
theorem dX7_init_116 : decode cX7_init 116 = .ok (.bipush 6, 2) := by decide +kernel
theorem dX7_init_118 : decode cX7_init 118 = .ok (.newarray .int, 2) := by decide +kernel
theorem dX7_init_120 : decode cX7_init 120 = .ok (.putfield 53, 3) := by decide +kernel
theorem dX7_init_123 : decode cX7_init 123 = .ok (.aload_n 0, 1) := by decide +kernel
theorem dX7_init_124 : decode cX7_init 124 = .ok (.bipush 6, 2) := by decide +kernel
theorem dX7_init_126 : decode cX7_init 126 = .ok (.newarray .int, 2) := by decide +kernel
theorem dX7_init_128 : decode cX7_init 128 = .ok (.putfield 56, 3) := by decide +kernel
theorem dX7_init_131 : decode cX7_init 131 = .ok (.aload_n 0, 1) := by decide +kernel
theorem dX7_init_132 : decode cX7_init 132 = .ok (.iconst 5, 1) := by decide +kernel
theorem dX7_init_133 : decode cX7_init 133 = .ok (.newarray .int, 2) := by decide +kernel
theorem dX7_init_135 : decode cX7_init 135 = .ok (.putfield 59, 3) := by decide +kernel
theorem dX7_init_138 : decode cX7_init 138 = .ok (.aload_n 0, 1) := by decide +kernel
theorem dX7_init_139 : decode cX7_init 139 = .ok (.iconst 5, 1) := by decide +kernel
theorem dX7_init_140 : decode cX7_init 140 = .ok (.newarray .int, 2) := by decide +kernel
theorem dX7_init_142 : decode cX7_init 142 = .ok (.putfield 62, 3) := by decide +kernel
theorem dX7_init_145 : decode cX7_init 145 = .ok (.aload_n 0, 1) := by decide +kernel
theorem dX7_init_146 : decode cX7_init 146 = .ok (.bipush 8, 2) := by decide +kernel
theorem dX7_init_148 : decode cX7_init 148 = .ok (.newarray .int, 2) := by decide +kernel
theorem dX7_init_150 : decode cX7_init 150 = .ok (.putfield 65, 3) := by decide +kernel
theorem dX7_init_153 : decode cX7_init 153 = .ok (.aload_n 0, 1) := by decide +kernel
theorem dX7_init_154 : decode cX7_init 154 = .ok (.bipush 100, 2) := by decide +kernel
theorem dX7_init_156 : decode cX7_init 156 = .ok (.newarray .int, 2) := by decide +kernel
theorem dX7_init_158 : decode cX7_init 158 = .ok (.putfield 68, 3) := by decide +kernel
theorem dX7_init_161 : decode cX7_init 161 = .ok (.aload_n 0, 1) := by decide +kernel
theorem dX7_init_162 : decode cX7_init 162 = .ok (.iconst 2, 1) := by decide +kernel
theorem dX7_init_163 : decode cX7_init 163 = .ok (.putfield 71, 3) := by decide +kernel
theorem dX7_init_166 : decode cX7_init 166 = .ok (.return_, 1) := by decide +kernel
theorem dX7_in_0 : decode cX7_in 0 = .ok (.iload_n 0, 1) := by decide +kernel
theorem dX7_in_1 : decode cX7_in 1 = .ok (.iload_n 1, 1) := by decide +kernel
theorem dX7_in_2 : decode cX7_in 2 = .ok (.if_icmp .lt 12, 3) := by decide +kernel
theorem dX7_in_5 : decode cX7_in 5 = .ok (.iload_n 0, 1) := by decide +kernel
theorem dX7_in_6 : decode cX7_in 6 = .ok (.iload_n 2, 1) := by decide +kernel
theorem dX7_in_7 : decode cX7_in 7 = .ok (.if_icmp .gt 7, 3) := by decide +kernel
theorem dX7_in_10 : decode cX7_in 10 = .ok (.iconst 1, 1) := by decide +kernel
theorem dX7_in_11 : decode cX7_in 11 = .ok (.goto 4, 3) := by decide +kernel
theorem dX7_in_14 : decode cX7_in 14 = .ok (.iconst 0, 1) := by decide +kernel
theorem dX7_in_15 : decode cX7_in 15 = .ok (.ireturn, 1) := by decide +kernel
theorem dX7_type_0 : decode cX7_type 0 = .ok (.aload_n 0, 1) := by decide +kernel
theorem dX7_type_1 : decode cX7_type 1 = .ok (.iconst 0, 1) := by decide +kernel
theorem dX7_type_2 : decode cX7_type 2 = .ok (.putfield 75, 3) := by decide +kernel
theorem dX7_type_5 : decode cX7_type 5 = .ok (.iload_n 1, 1) := by decide +kernel
theorem dX7_type_6 : decode cX7_type 6 = .ok (.iconst 0, 1) := by decide +kernel
theorem dX7_type_7 : decode cX7_type 7 = .ok (.sipush 255, 3) := by decide +kernel
theorem dX7_type_10 : decode cX7_type 10 = .ok (.invokestatic 78, 3) := by decide +kernel
theorem dX7_type_13 : decode cX7_type 13 = .ok (.ifCond .ne 5, 3) := by decide +kernel
theorem dX7_type_16 : decode cX7_type 16 = .ok (.iconst (-1), 1) := by decide +kernel
theorem dX7_type_17 : decode cX7_type 17 = .ok (.ireturn, 1) := by decide +kernel
theorem dX7_type_18 : decode cX7_type 18 = .ok (.aload_n 0, 1) := by decide +kernel
theorem dX7_type_19 : decode cX7_type 19 = .ok (.getfield 82, 3) := by decide +kernel
theorem dX7_type_22 : decode cX7_type 22 = .ok (.sipush 200, 3) := by decide +kernel
theorem dX7_type_25 : decode cX7_type 25 = .ok (.if_icmp .ne 6, 3) := by decide +kernel
theorem dX7_type_28 : decode cX7_type 28 = .ok (.bipush (-3), 2) := by decide +kernel
theorem dX7_type_30 : decode cX7_type 30 = .ok (.ireturn, 1) := by decide +kernel
theorem dX7_type_31 : decode cX7_type 31 = .ok (.aload_n 0, 1) := by decide +kernel
theorem dX7_type_32 : decode cX7_type 32 = .ok (.getfield 7, 3) := by decide +kernel
theorem dX7_type_35 : decode cX7_type 35 = .ok (.aload_n 0, 1) := by decide +kernel
theorem dX7_type_36 : decode cX7_type 36 = .ok (.getfield 82, 3) := by decide +kernel
theorem dX7_type_39 : decode cX7_type 39 = .ok (.iload_n 1, 1) := by decide +kernel
theorem dX7_type_40 : decode cX7_type 40 = .ok (.iastore, 1) := by decide +kernel
theorem dX7_type_41 : decode cX7_type 41 = .ok (.aload_n 0, 1) := by decide +kernel
theorem dX7_type_42 : decode cX7_type 42 = .ok (.dup, 1) := by decide +kernel
theorem dX7_type_43 : decode cX7_type 43 = .ok (.getfield 82, 3) := by decide +kernel
theorem dX7_type_46 : decode cX7_type 46 = .ok (.iconst 1, 1) := by decide +kernel
theorem dX7_type_47 : decode cX7_type 47 = .ok (.iadd, 1) := by decide +kernel
theorem dX7_type_48 : decode cX7_type 48 = .ok (.putfield 82, 3) := by decide +kernel
theorem dX7_type_51 : decode cX7_type 51 = .ok (.aload_n 0, 1) := by decide +kernel
theorem dX7_type_52 : decode cX7_type 52 = .ok (.getfield 82, 3) := by decide +kernel
theorem dX7_type_55 : decode cX7_type 55 = .ok (.ireturn, 1) := by decide +kernel
theorem dX7_clear_0 : decode cX7_clear 0 = .ok (.aload_n 0, 1) := by decide +kernel
theorem dX7_clear_1 : decode cX7_clear 1 = .ok (.iconst 0, 1) := by decide +kernel
theorem dX7_clear_2 : decode cX7_clear 2 = .ok (.putfield 75, 3) := by decide +kernel
theorem dX7_clear_5 : decode cX7_clear 5 = .ok (.aload_n 0, 1) := by decide +kernel
theorem dX7_clear_6 : decode cX7_clear 6 = .ok (.getfield 82, 3) := by decide +kernel
theorem dX7_clear_9 : decode cX7_clear 9 = .ok (.istore_n 1, 1) := by decide +kernel
theorem dX7_clear_10 : decode cX7_clear 10 = .ok (.aload_n 0, 1) := by decide +kernel
theorem dX7_clear_11 : decode cX7_clear 11 = .ok (.iconst 0, 1) := by decide +kernel
theorem dX7_clear_12 : decode cX7_clear 12 = .ok (.putfield 82, 3) := by decide +kernel
theorem dX7_clear_15 : decode cX7_clear 15 = .ok (.iload_n 1, 1) := by decide +kernel
theorem dX7_clear_16 : decode cX7_clear 16 = .ok (.ireturn, 1) := by decide +kernel
theorem dX7_letterAt_0 : decode cX7_letterAt 0 = .ok (.iload_n 1, 1) := by decide +kernel
theorem dX7_letterAt_1 : decode cX7_letterAt 1 = .ok (.aload_n 0, 1) := by decide +kernel
theorem dX7_letterAt_2 : decode cX7_letterAt 2 = .ok (.getfield 82, 3) := by decide +kernel
theorem dX7_letterAt_5 : decode cX7_letterAt 5 = .ok (.if_icmp .ge 12, 3) := by decide +kernel
theorem dX7_letterAt_8 : decode cX7_letterAt 8 = .ok (.aload_n 0, 1) := by decide +kernel
theorem dX7_letterAt_9 : decode cX7_letterAt 9 = .ok (.getfield 7, 3) := by decide +kernel
theorem dX7_letterAt_12 : decode cX7_letterAt 12 = .ok (.iload_n 1, 1) := by decide +kernel
theorem dX7_letterAt_13 : decode cX7_letterAt 13 = .ok (.iaload, 1) := by decide +kernel
theorem dX7_letterAt_14 : decode cX7_letterAt 14 = .ok (.goto 4, 3) := by decide +kernel
theorem dX7_letterAt_17 : decode cX7_letterAt 17 = .ok (.iconst (-1), 1) := by decide +kernel
theorem dX7_letterAt_18 : decode cX7_letterAt 18 = .ok (.ireturn, 1) := by decide +kernel
theorem dX7_advances_0 : decode cX7_advances 0 = .ok (.aload_n 0, 1) := by decide +kernel
theorem dX7_advances_1 : decode cX7_advances 1 = .ok (.aload_n 0, 1) := by decide +kernel
theorem dX7_advances_2 : decode cX7_advances 2 = .ok (.getfield 85, 3) := by decide +kernel
theorem dX7_advances_5 : decode cX7_advances 5 = .ok (.invokevirtual 88, 3) := by decide +kernel
theorem dX7_advances_8 : decode cX7_advances 8 = .ok (.bipush 32, 2) := by decide +kernel
theorem dX7_advances_10 : decode cX7_advances 10 = .ok (.if_icmp .ne 16, 3) := by decide +kernel
theorem dX7_advances_13 : decode cX7_advances 13 = .ok (.aload_n 0, 1) := by decide +kernel
theorem dX7_advances_14 : decode cX7_advances 14 = .ok (.dup, 1) := by decide +kernel
theorem dX7_advances_15 : decode cX7_advances 15 = .ok (.getfield 85, 3) := by decide +kernel
theorem dX7_advances_18 : decode cX7_advances 18 = .ok (.iconst 1, 1) := by decide +kernel
theorem dX7_advances_19 : decode cX7_advances 19 = .ok (.iadd, 1) := by decide +kernel
theorem dX7_advances_20 : decode cX7_advances 20 = .ok (.putfield 85, 3) := by decide +kernel
theorem dX7_advances_23 : decode cX7_advances 23 = .ok (.goto (-23), 3) := by decide +kernel
theorem dX7_advances_26 : decode cX7_advances 26 = .ok (.aload_n 0, 1) := by decide +kernel
theorem dX7_advances_27 : decode cX7_advances 27 = .ok (.aload_n 0, 1) := by decide +kernel
theorem dX7_advances_28 : decode cX7_advances 28 = .ok (.getfield 85, 3) := by decide +kernel
theorem dX7_advances_31 : decode cX7_advances 31 = .ok (.putfield 92, 3) := by decide +kernel
theorem dX7_advances_34 : decode cX7_advances 34 = .ok (.aload_n 0, 1) := by decide +kernel
theorem dX7_advances_35 : decode cX7_advances 35 = .ok (.aload_n 0, 1) := by decide +kernel
theorem dX7_advances_36 : decode cX7_advances 36 = .ok (.getfield 85, 3) := by decide +kernel
theorem dX7_advances_39 : decode cX7_advances 39 = .ok (.invokevirtual 88, 3) := by decide +kernel
theorem dX7_advances_42 : decode cX7_advances 42 = .ok (.istore_n 1, 1) := by decide +kernel
theorem dX7_advances_43 : decode cX7_advances 43 = .ok (.iload_n 1, 1) := by decide +kernel
theorem dX7_advances_44 : decode cX7_advances 44 = .ok (.ifCond .ge 11, 3) := by decide +kernel
theorem dX7_advances_47 : decode cX7_advances 47 = .ok (.aload_n 0, 1) := by decide +kernel
theorem dX7_advances_48 : decode cX7_advances 48 = .ok (.iconst 0, 1) := by decide +kernel
theorem dX7_advances_49 : decode cX7_advances 49 = .ok (.putfield 95, 3) := by decide +kernel
theorem dX7_advances_52 : decode cX7_advances 52 = .ok (.goto 187, 3) := by decide +kernel
theorem dX7_advances_55 : decode cX7_advances 55 = .ok (.iload_n 1, 1) := by decide +kernel
theorem dX7_advances_56 : decode cX7_advances 56 = .ok (.bipush 48, 2) := by decide +kernel
theorem dX7_advances_58 : decode cX7_advances 58 = .ok (.bipush 57, 2) := by decide +kernel
theorem dX7_advances_60 : decode cX7_advances 60 = .ok (.invokestatic 78, 3) := by decide +kernel
theorem dX7_advances_63 : decode cX7_advances 63 = .ok (.ifCond .eq 118, 3) := by decide +kernel
theorem dX7_advances_66 : decode cX7_advances 66 = .ok (.aload_n 0, 1) := by decide +kernel
theorem dX7_advances_67 : decode cX7_advances 67 = .ok (.iconst 0, 1) := by decide +kernel
theorem dX7_advances_68 : decode cX7_advances 68 = .ok (.putfield 98, 3) := by decide +kernel
theorem dX7_advances_71 : decode cX7_advances 71 = .ok (.aload_n 0, 1) := by decide +kernel
theorem dX7_advances_72 : decode cX7_advances 72 = .ok (.aload_n 0, 1) := by decide +kernel
theorem dX7_advances_73 : decode cX7_advances 73 = .ok (.getfield 85, 3) := by decide +kernel
theorem dX7_advances_76 : decode cX7_advances 76 = .ok (.invokevirtual 88, 3) := by decide +kernel
theorem dX7_advances_79 : decode cX7_advances 79 = .ok (.bipush 48, 2) := by decide +kernel
theorem dX7_advances_81 : decode cX7_advances 81 = .ok (.bipush 57, 2) := by decide +kernel
theorem dX7_advances_83 : decode cX7_advances 83 = .ok (.invokestatic 78, 3) := by decide +kernel
theorem dX7_advances_86 : decode cX7_advances 86 = .ok (.ifCond .eq 55, 3) := by decide +kernel
theorem dX7_advances_89 : decode cX7_advances 89 = .ok (.aload_n 0, 1) := by decide +kernel
theorem dX7_advances_90 : decode cX7_advances 90 = .ok (.aload_n 0, 1) := by decide +kernel
theorem dX7_advances_91 : decode cX7_advances 91 = .ok (.getfield 98, 3) := by decide +kernel
theorem dX7_advances_94 : decode cX7_advances 94 = .ok (.bipush 99, 2) := by decide +kernel
theorem dX7_advances_96 : decode cX7_advances 96 = .ok (.if_icmp .le 10, 3) := by decide +kernel
theorem dX7_advances_99 : decode cX7_advances 99 = .ok (.aload_n 0, 1) := by decide +kernel
theorem dX7_advances_100 : decode cX7_advances 100 = .ok (.getfield 98, 3) := by decide +kernel
theorem dX7_advances_103 : decode cX7_advances 103 = .ok (.goto 22, 3) := by decide +kernel
theorem dX7_advances_106 : decode cX7_advances 106 = .ok (.bipush 10, 2) := by decide +kernel
theorem dX7_advances_108 : decode cX7_advances 108 = .ok (.aload_n 0, 1) := by decide +kernel
theorem dX7_advances_109 : decode cX7_advances 109 = .ok (.getfield 98, 3) := by decide +kernel
theorem dX7_advances_112 : decode cX7_advances 112 = .ok (.imul, 1) := by decide +kernel
theorem dX7_advances_113 : decode cX7_advances 113 = .ok (.aload_n 0, 1) := by decide +kernel
theorem dX7_advances_114 : decode cX7_advances 114 = .ok (.aload_n 0, 1) := by decide +kernel
theorem dX7_advances_115 : decode cX7_advances 115 = .ok (.getfield 85, 3) := by decide +kernel
theorem dX7_advances_118 : decode cX7_advances 118 = .ok (.invokevirtual 88, 3) := by decide +kernel
theorem dX7_advances_121 : decode cX7_advances 121 = .ok (.iadd, 1) := by decide +kernel
theorem dX7_advances_122 : decode cX7_advances 122 = .ok (.bipush 48, 2) := by decide +kernel
theorem dX7_advances_124 : decode cX7_advances 124 = .ok (.isub, 1) := by decide +kernel
theorem dX7_advances_125 : decode cX7_advances 125 = .ok (.putfield 98, 3) := by decide +kernel
theorem dX7_advances_128 : decode cX7_advances 128 = .ok (.aload_n 0, 1) := by decide +kernel
theorem dX7_advances_129 : decode cX7_advances 129 = .ok (.dup, 1) := by decide +kernel
theorem dX7_advances_130 : decode cX7_advances 130 = .ok (.getfield 85, 3) := by decide +kernel
theorem dX7_advances_133 : decode cX7_advances 133 = .ok (.iconst 1, 1) := by decide +kernel
theorem dX7_advances_134 : decode cX7_advances 134 = .ok (.iadd, 1) := by decide +kernel
theorem dX7_advances_135 : decode cX7_advances 135 = .ok (.putfield 85, 3) := by decide +kernel
theorem dX7_advances_138 : decode cX7_advances 138 = .ok (.goto (-67), 3) := by decide +kernel
theorem dX7_advances_141 : decode cX7_advances 141 = .ok (.aload_n 0, 1) := by decide +kernel
theorem dX7_advances_142 : decode cX7_advances 142 = .ok (.aload_n 0, 1) := by decide +kernel
theorem dX7_advances_143 : decode cX7_advances 143 = .ok (.getfield 98, 3) := by decide +kernel
theorem dX7_advances_146 : decode cX7_advances 146 = .ok (.bipush 99, 2) := by decide +kernel
theorem dX7_advances_148 : decode cX7_advances 148 = .ok (.if_icmp .gt 22, 3) := by decide +kernel
theorem dX7_advances_151 : decode cX7_advances 151 = .ok (.iload_n 1, 1) := by decide +kernel
theorem dX7_advances_152 : decode cX7_advances 152 = .ok (.bipush 48, 2) := by decide +kernel
theorem dX7_advances_154 : decode cX7_advances 154 = .ok (.if_icmp .ne 20, 3) := by decide +kernel
theorem dX7_advances_157 : decode cX7_advances 157 = .ok (.aload_n 0, 1) := by decide +kernel
theorem dX7_advances_158 : decode cX7_advances 158 = .ok (.getfield 85, 3) := by decide +kernel
theorem dX7_advances_161 : decode cX7_advances 161 = .ok (.aload_n 0, 1) := by decide +kernel
theorem dX7_advances_162 : decode cX7_advances 162 = .ok (.getfield 92, 3) := by decide +kernel
theorem dX7_advances_165 : decode cX7_advances 165 = .ok (.isub, 1) := by decide +kernel
theorem dX7_advances_166 : decode cX7_advances 166 = .ok (.iconst 1, 1) := by decide +kernel
theorem dX7_advances_167 : decode cX7_advances 167 = .ok (.if_icmp .le 7, 3) := by decide +kernel
theorem dX7_advances_170 : decode cX7_advances 170 = .ok (.iconst 4, 1) := by decide +kernel
theorem dX7_advances_171 : decode cX7_advances 171 = .ok (.goto 4, 3) := by decide +kernel
theorem dX7_advances_174 : decode cX7_advances 174 = .ok (.iconst 2, 1) := by decide +kernel
theorem dX7_advances_175 : decode cX7_advances 175 = .ok (.putfield 95, 3) := by decide +kernel
theorem dX7_advances_178 : decode cX7_advances 178 = .ok (.goto 61, 3) := by decide +kernel
theorem dX7_advances_181 : decode cX7_advances 181 = .ok (.aload_n 0, 1) := by decide +kernel
theorem dX7_advances_182 : decode cX7_advances 182 = .ok (.dup, 1) := by decide +kernel
theorem dX7_advances_183 : decode cX7_advances 183 = .ok (.getfield 85, 3) := by decide +kernel
theorem dX7_advances_186 : decode cX7_advances 186 = .ok (.iconst 1, 1) := by decide +kernel
theorem dX7_advances_187 : decode cX7_advances 187 = .ok (.iadd, 1) := by decide +kernel
theorem dX7_advances_188 : decode cX7_advances 188 = .ok (.putfield 85, 3) := by decide +kernel
theorem dX7_advances_191 : decode cX7_advances 191 = .ok (.aload_n 0, 1) := by decide +kernel
theorem dX7_advances_192 : decode cX7_advances 192 = .ok (.iload_n 1, 1) := by decide +kernel
theorem dX7_advances_193 : decode cX7_advances 193 = .ok (.putfield 98, 3) := by decide +kernel
theorem dX7_advances_196 : decode cX7_advances 196 = .ok (.aload_n 0, 1) := by decide +kernel
theorem dX7_advances_197 : decode cX7_advances 197 = .ok (.iload_n 1, 1) := by decide +kernel
theorem dX7_advances_198 : decode cX7_advances 198 = .ok (.bipush 59, 2) := by decide +kernel
theorem dX7_advances_200 : decode cX7_advances 200 = .ok (.if_icmp .ne 7, 3) := by decide +kernel
theorem dX7_advances_203 : decode cX7_advances 203 = .ok (.iconst 3, 1) := by decide +kernel
theorem dX7_advances_204 : decode cX7_advances 204 = .ok (.goto 32, 3) := by decide +kernel
theorem dX7_advances_207 : decode cX7_advances 207 = .ok (.iload_n 1, 1) := by decide +kernel
theorem dX7_advances_208 : decode cX7_advances 208 = .ok (.bipush 115, 2) := by decide +kernel
theorem dX7_advances_210 : decode cX7_advances 210 = .ok (.if_icmp .eq 21, 3) := by decide +kernel
theorem dX7_advances_213 : decode cX7_advances 213 = .ok (.iload_n 1, 1) := by decide +kernel
theorem dX7_advances_214 : decode cX7_advances 214 = .ok (.bipush 108, 2) := by decide +kernel
theorem dX7_advances_216 : decode cX7_advances 216 = .ok (.if_icmp .eq 15, 3) := by decide +kernel
theorem dX7_advances_219 : decode cX7_advances 219 = .ok (.iload_n 1, 1) := by decide +kernel
theorem dX7_advances_220 : decode cX7_advances 220 = .ok (.bipush 100, 2) := by decide +kernel
theorem dX7_advances_222 : decode cX7_advances 222 = .ok (.if_icmp .eq 9, 3) := by decide +kernel
theorem dX7_advances_225 : decode cX7_advances 225 = .ok (.iload_n 1, 1) := by decide +kernel
theorem dX7_advances_226 : decode cX7_advances 226 = .ok (.bipush 112, 2) := by decide +kernel
theorem dX7_advances_228 : decode cX7_advances 228 = .ok (.if_icmp .ne 7, 3) := by decide +kernel
theorem dX7_advances_231 : decode cX7_advances 231 = .ok (.iconst 1, 1) := by decide +kernel
theorem dX7_advances_232 : decode cX7_advances 232 = .ok (.goto 4, 3) := by decide +kernel
theorem dX7_advances_235 : decode cX7_advances 235 = .ok (.iconst 4, 1) := by decide +kernel
theorem dX7_advances_236 : decode cX7_advances 236 = .ok (.putfield 95, 3) := by decide +kernel
theorem dX7_advances_239 : decode cX7_advances 239 = .ok (.return_, 1) := by decide +kernel
theorem dX7_isWell_0 : decode cX7_isWell 0 = .ok (.aload_n 0, 1) := by decide +kernel
theorem dX7_isWell_1 : decode cX7_isWell 1 = .ok (.getfield 101, 3) := by decide +kernel
theorem dX7_isWell_4 : decode cX7_isWell 4 = .ok (.ifCond .ge 7, 3) := by decide +kernel
theorem dX7_isWell_7 : decode cX7_isWell 7 = .ok (.iconst 1, 1) := by decide +kernel
theorem dX7_isWell_8 : decode cX7_isWell 8 = .ok (.goto 4, 3) := by decide +kernel
theorem dX7_isWell_11 : decode cX7_isWell 11 = .ok (.iconst 0, 1) := by decide +kernel
theorem dX7_isWell_12 : decode cX7_isWell 12 = .ok (.ireturn, 1) := by decide +kernel
theorem dX7_takes_0 : decode cX7_takes 0 = .ok (.aload_n 0, 1) := by decide +kernel
theorem dX7_takes_1 : decode cX7_takes 1 = .ok (.invokevirtual 104, 3) := by decide +kernel
theorem dX7_takes_4 : decode cX7_takes 4 = .ok (.ifCond .ne 5, 3) := by decide +kernel
theorem dX7_takes_7 : decode cX7_takes 7 = .ok (.iconst 0, 1) := by decide +kernel
theorem dX7_takes_8 : decode cX7_takes 8 = .ok (.ireturn, 1) := by decide +kernel
theorem dX7_takes_9 : decode cX7_takes 9 = .ok (.iload_n 1, 1) := by decide +kernel
theorem dX7_takes_10 : decode cX7_takes 10 = .ok (.ifCond .ne 13, 3) := by decide +kernel
theorem dX7_takes_13 : decode cX7_takes 13 = .ok (.aload_n 0, 1) := by decide +kernel
theorem dX7_takes_14 : decode cX7_takes 14 = .ok (.aload_n 0, 1) := by decide +kernel
theorem dX7_takes_15 : decode cX7_takes 15 = .ok (.getfield 92, 3) := by decide +kernel
theorem dX7_takes_18 : decode cX7_takes 18 = .ok (.putfield 101, 3) := by decide +kernel
theorem dX7_takes_21 : decode cX7_takes 21 = .ok (.iconst 0, 1) := by decide +kernel
theorem dX7_takes_22 : decode cX7_takes 22 = .ok (.ireturn, 1) := by decide +kernel
theorem dX7_takes_23 : decode cX7_takes 23 = .ok (.aload_n 0, 1) := by decide +kernel
theorem dX7_takes_24 : decode cX7_takes 24 = .ok (.getfield 98, 3) := by decide +kernel
theorem dX7_takes_27 : decode cX7_takes 27 = .ok (.istore_n 2, 1) := by decide +kernel
theorem dX7_takes_28 : decode cX7_takes 28 = .ok (.aload_n 0, 1) := by decide +kernel
theorem dX7_takes_29 : decode cX7_takes 29 = .ok (.invokevirtual 108, 3) := by decide +kernel
theorem dX7_takes_32 : decode cX7_takes 32 = .ok (.iload_n 2, 1) := by decide +kernel
theorem dX7_takes_33 : decode cX7_takes 33 = .ok (.ireturn, 1) := by decide +kernel
theorem dX7_number_0 : decode cX7_number 0 = .ok (.aload_n 0, 1) := by decide +kernel
theorem dX7_number_1 : decode cX7_number 1 = .ok (.aload_n 0, 1) := by decide +kernel
theorem dX7_number_2 : decode cX7_number 2 = .ok (.getfield 95, 3) := by decide +kernel
theorem dX7_number_5 : decode cX7_number 5 = .ok (.iconst 2, 1) := by decide +kernel
theorem dX7_number_6 : decode cX7_number 6 = .ok (.if_icmp .ne 19, 3) := by decide +kernel
theorem dX7_number_9 : decode cX7_number 9 = .ok (.aload_n 0, 1) := by decide +kernel
theorem dX7_number_10 : decode cX7_number 10 = .ok (.getfield 98, 3) := by decide +kernel
theorem dX7_number_13 : decode cX7_number 13 = .ok (.iload_n 1, 1) := by decide +kernel
theorem dX7_number_14 : decode cX7_number 14 = .ok (.iload_n 2, 1) := by decide +kernel
theorem dX7_number_15 : decode cX7_number 15 = .ok (.invokestatic 78, 3) := by decide +kernel
theorem dX7_number_18 : decode cX7_number 18 = .ok (.ifCond .eq 7, 3) := by decide +kernel
theorem dX7_number_21 : decode cX7_number 21 = .ok (.iconst 1, 1) := by decide +kernel
theorem dX7_number_22 : decode cX7_number 22 = .ok (.goto 4, 3) := by decide +kernel
theorem dX7_number_25 : decode cX7_number 25 = .ok (.iconst 0, 1) := by decide +kernel
theorem dX7_number_26 : decode cX7_number 26 = .ok (.invokevirtual 111, 3) := by decide +kernel
theorem dX7_number_29 : decode cX7_number 29 = .ok (.ireturn, 1) := by decide +kernel
theorem dX7_mayBegin_0 : decode cX7_mayBegin 0 = .ok (.aload_n 0, 1) := by decide +kernel
theorem dX7_mayBegin_1 : decode cX7_mayBegin 1 = .ok (.getfield 98, 3) := by decide +kernel
theorem dX7_mayBegin_4 : decode cX7_mayBegin 4 = .ok (.bipush 115, 2) := by decide +kernel
theorem dX7_mayBegin_6 : decode cX7_mayBegin 6 = .ok (.if_icmp .ne 24, 3) := by decide +kernel
theorem dX7_mayBegin_9 : decode cX7_mayBegin 9 = .ok (.aload_n 0, 1) := by decide +kernel
theorem dX7_mayBegin_10 : decode cX7_mayBegin 10 = .ok (.getfield 115, 3) := by decide +kernel
theorem dX7_mayBegin_13 : decode cX7_mayBegin 13 = .ok (.iconst 4, 1) := by decide +kernel
theorem dX7_mayBegin_14 : decode cX7_mayBegin 14 = .ok (.if_icmp .ge 14, 3) := by decide +kernel
theorem dX7_mayBegin_17 : decode cX7_mayBegin 17 = .ok (.aload_n 0, 1) := by decide +kernel
theorem dX7_mayBegin_18 : decode cX7_mayBegin 18 = .ok (.getfield 118, 3) := by decide +kernel
theorem dX7_mayBegin_21 : decode cX7_mayBegin 21 = .ok (.ifCond .ne 7, 3) := by decide +kernel
theorem dX7_mayBegin_24 : decode cX7_mayBegin 24 = .ok (.iconst 1, 1) := by decide +kernel
theorem dX7_mayBegin_25 : decode cX7_mayBegin 25 = .ok (.goto 4, 3) := by decide +kernel
theorem dX7_mayBegin_28 : decode cX7_mayBegin 28 = .ok (.iconst 0, 1) := by decide +kernel
theorem dX7_mayBegin_29 : decode cX7_mayBegin 29 = .ok (.ireturn, 1) := by decide +kernel
theorem dX7_mayBegin_30 : decode cX7_mayBegin 30 = .ok (.aload_n 0, 1) := by decide +kernel
theorem dX7_mayBegin_31 : decode cX7_mayBegin 31 = .ok (.getfield 98, 3) := by decide +kernel
theorem dX7_mayBegin_34 : decode cX7_mayBegin 34 = .ok (.bipush 108, 2) := by decide +kernel
theorem dX7_mayBegin_36 : decode cX7_mayBegin 36 = .ok (.if_icmp .ne 19, 3) := by decide +kernel
theorem dX7_mayBegin_39 : decode cX7_mayBegin 39 = .ok (.aload_n 0, 1) := by decide +kernel
theorem dX7_mayBegin_40 : decode cX7_mayBegin 40 = .ok (.getfield 118, 3) := by decide +kernel
theorem dX7_mayBegin_43 : decode cX7_mayBegin 43 = .ok (.iconst 4, 1) := by decide +kernel
theorem dX7_mayBegin_44 : decode cX7_mayBegin 44 = .ok (.if_icmp .ge 7, 3) := by decide +kernel
theorem dX7_mayBegin_47 : decode cX7_mayBegin 47 = .ok (.iconst 1, 1) := by decide +kernel
theorem dX7_mayBegin_48 : decode cX7_mayBegin 48 = .ok (.goto 47, 3) := by decide +kernel
theorem dX7_mayBegin_51 : decode cX7_mayBegin 51 = .ok (.iconst 0, 1) := by decide +kernel
theorem dX7_mayBegin_52 : decode cX7_mayBegin 52 = .ok (.goto 43, 3) := by decide +kernel
theorem dX7_mayBegin_55 : decode cX7_mayBegin 55 = .ok (.aload_n 0, 1) := by decide +kernel
theorem dX7_mayBegin_56 : decode cX7_mayBegin 56 = .ok (.getfield 98, 3) := by decide +kernel
theorem dX7_mayBegin_59 : decode cX7_mayBegin 59 = .ok (.bipush 112, 2) := by decide +kernel
theorem dX7_mayBegin_61 : decode cX7_mayBegin 61 = .ok (.if_icmp .ne 20, 3) := by decide +kernel
theorem dX7_mayBegin_64 : decode cX7_mayBegin 64 = .ok (.aload_n 0, 1) := by decide +kernel
theorem dX7_mayBegin_65 : decode cX7_mayBegin 65 = .ok (.getfield 121, 3) := by decide +kernel
theorem dX7_mayBegin_68 : decode cX7_mayBegin 68 = .ok (.bipush 8, 2) := by decide +kernel
theorem dX7_mayBegin_70 : decode cX7_mayBegin 70 = .ok (.if_icmp .ge 7, 3) := by decide +kernel
theorem dX7_mayBegin_73 : decode cX7_mayBegin 73 = .ok (.iconst 1, 1) := by decide +kernel
theorem dX7_mayBegin_74 : decode cX7_mayBegin 74 = .ok (.goto 21, 3) := by decide +kernel
theorem dX7_mayBegin_77 : decode cX7_mayBegin 77 = .ok (.iconst 0, 1) := by decide +kernel
theorem dX7_mayBegin_78 : decode cX7_mayBegin 78 = .ok (.goto 17, 3) := by decide +kernel
theorem dX7_mayBegin_81 : decode cX7_mayBegin 81 = .ok (.aload_n 0, 1) := by decide +kernel
theorem dX7_mayBegin_82 : decode cX7_mayBegin 82 = .ok (.getfield 124, 3) := by decide +kernel
theorem dX7_mayBegin_85 : decode cX7_mayBegin 85 = .ok (.bipush (-9), 2) := by decide +kernel
theorem dX7_mayBegin_87 : decode cX7_mayBegin 87 = .ok (.if_icmp .ne 7, 3) := by decide +kernel
theorem dX7_mayBegin_90 : decode cX7_mayBegin 90 = .ok (.iconst 1, 1) := by decide +kernel
theorem dX7_mayBegin_91 : decode cX7_mayBegin 91 = .ok (.goto 4, 3) := by decide +kernel
theorem dX7_mayBegin_94 : decode cX7_mayBegin 94 = .ok (.iconst 0, 1) := by decide +kernel
theorem dX7_mayBegin_95 : decode cX7_mayBegin 95 = .ok (.ireturn, 1) := by decide +kernel
theorem dX7_readsItem_0 : decode cX7_readsItem 0 = .ok (.iload_n 1, 1) := by decide +kernel
theorem dX7_readsItem_1 : decode cX7_readsItem 1 = .ok (.bipush 115, 2) := by decide +kernel
theorem dX7_readsItem_3 : decode cX7_readsItem 3 = .ok (.if_icmp .ne 84, 3) := by decide +kernel
theorem dX7_readsItem_6 : decode cX7_readsItem 6 = .ok (.aload_n 0, 1) := by decide +kernel
theorem dX7_readsItem_7 : decode cX7_readsItem 7 = .ok (.getfield 16, 3) := by decide +kernel
theorem dX7_readsItem_10 : decode cX7_readsItem 10 = .ok (.bipush 8, 2) := by decide +kernel
theorem dX7_readsItem_12 : decode cX7_readsItem 12 = .ok (.iconst 2, 1) := by decide +kernel
theorem dX7_readsItem_13 : decode cX7_readsItem 13 = .ok (.aload_n 0, 1) := by decide +kernel
theorem dX7_readsItem_14 : decode cX7_readsItem 14 = .ok (.getfield 115, 3) := by decide +kernel
theorem dX7_readsItem_17 : decode cX7_readsItem 17 = .ok (.imul, 1) := by decide +kernel
theorem dX7_readsItem_18 : decode cX7_readsItem 18 = .ok (.iadd, 1) := by decide +kernel
theorem dX7_readsItem_19 : decode cX7_readsItem 19 = .ok (.aload_n 0, 1) := by decide +kernel
theorem dX7_readsItem_20 : decode cX7_readsItem 20 = .ok (.iconst 0, 1) := by decide +kernel
theorem dX7_readsItem_21 : decode cX7_readsItem 21 = .ok (.iconst 3, 1) := by decide +kernel
theorem dX7_readsItem_22 : decode cX7_readsItem 22 = .ok (.invokevirtual 127, 3) := by decide +kernel
theorem dX7_readsItem_25 : decode cX7_readsItem 25 = .ok (.iastore, 1) := by decide +kernel
theorem dX7_readsItem_26 : decode cX7_readsItem 26 = .ok (.aload_n 0, 1) := by decide +kernel
theorem dX7_readsItem_27 : decode cX7_readsItem 27 = .ok (.getfield 13, 3) := by decide +kernel
theorem dX7_readsItem_30 : decode cX7_readsItem 30 = .ok (.iconst 4, 1) := by decide +kernel
theorem dX7_readsItem_31 : decode cX7_readsItem 31 = .ok (.aload_n 0, 1) := by decide +kernel
theorem dX7_readsItem_32 : decode cX7_readsItem 32 = .ok (.getfield 115, 3) := by decide +kernel
theorem dX7_readsItem_35 : decode cX7_readsItem 35 = .ok (.iadd, 1) := by decide +kernel
theorem dX7_readsItem_36 : decode cX7_readsItem 36 = .ok (.aload_n 0, 1) := by decide +kernel
theorem dX7_readsItem_37 : decode cX7_readsItem 37 = .ok (.iconst 2, 1) := by decide +kernel
theorem dX7_readsItem_38 : decode cX7_readsItem 38 = .ok (.bipush 30, 2) := by decide +kernel
theorem dX7_readsItem_40 : decode cX7_readsItem 40 = .ok (.invokevirtual 127, 3) := by decide +kernel
theorem dX7_readsItem_43 : decode cX7_readsItem 43 = .ok (.iastore, 1) := by decide +kernel
theorem dX7_readsItem_44 : decode cX7_readsItem 44 = .ok (.aload_n 0, 1) := by decide +kernel
theorem dX7_readsItem_45 : decode cX7_readsItem 45 = .ok (.getfield 16, 3) := by decide +kernel
theorem dX7_readsItem_48 : decode cX7_readsItem 48 = .ok (.bipush 9, 2) := by decide +kernel
theorem dX7_readsItem_50 : decode cX7_readsItem 50 = .ok (.iconst 2, 1) := by decide +kernel
theorem dX7_readsItem_51 : decode cX7_readsItem 51 = .ok (.aload_n 0, 1) := by decide +kernel
theorem dX7_readsItem_52 : decode cX7_readsItem 52 = .ok (.getfield 115, 3) := by decide +kernel
theorem dX7_readsItem_55 : decode cX7_readsItem 55 = .ok (.imul, 1) := by decide +kernel
theorem dX7_readsItem_56 : decode cX7_readsItem 56 = .ok (.iadd, 1) := by decide +kernel
theorem dX7_readsItem_57 : decode cX7_readsItem 57 = .ok (.aload_n 0, 1) := by decide +kernel
theorem dX7_readsItem_58 : decode cX7_readsItem 58 = .ok (.iconst 1, 1) := by decide +kernel
theorem dX7_readsItem_59 : decode cX7_readsItem 59 = .ok (.aload_n 0, 1) := by decide +kernel
theorem dX7_readsItem_60 : decode cX7_readsItem 60 = .ok (.getfield 13, 3) := by decide +kernel
theorem dX7_readsItem_63 : decode cX7_readsItem 63 = .ok (.iconst 4, 1) := by decide +kernel
theorem dX7_readsItem_64 : decode cX7_readsItem 64 = .ok (.aload_n 0, 1) := by decide +kernel
theorem dX7_readsItem_65 : decode cX7_readsItem 65 = .ok (.getfield 115, 3) := by decide +kernel
theorem dX7_readsItem_68 : decode cX7_readsItem 68 = .ok (.iadd, 1) := by decide +kernel
theorem dX7_readsItem_69 : decode cX7_readsItem 69 = .ok (.iaload, 1) := by decide +kernel
theorem dX7_readsItem_70 : decode cX7_readsItem 70 = .ok (.invokevirtual 127, 3) := by decide +kernel
theorem dX7_readsItem_73 : decode cX7_readsItem 73 = .ok (.iastore, 1) := by decide +kernel
theorem dX7_readsItem_74 : decode cX7_readsItem 74 = .ok (.aload_n 0, 1) := by decide +kernel
theorem dX7_readsItem_75 : decode cX7_readsItem 75 = .ok (.dup, 1) := by decide +kernel
theorem dX7_readsItem_76 : decode cX7_readsItem 76 = .ok (.getfield 115, 3) := by decide +kernel
theorem dX7_readsItem_79 : decode cX7_readsItem 79 = .ok (.iconst 1, 1) := by decide +kernel
theorem dX7_readsItem_80 : decode cX7_readsItem 80 = .ok (.iadd, 1) := by decide +kernel
theorem dX7_readsItem_81 : decode cX7_readsItem 81 = .ok (.putfield 115, 3) := by decide +kernel
theorem dX7_readsItem_84 : decode cX7_readsItem 84 = .ok (.goto 139, 3) := by decide +kernel
theorem dX7_readsItem_87 : decode cX7_readsItem 87 = .ok (.iload_n 1, 1) := by decide +kernel
theorem dX7_readsItem_88 : decode cX7_readsItem 88 = .ok (.bipush 108, 2) := by decide +kernel
theorem dX7_readsItem_90 : decode cX7_readsItem 90 = .ok (.if_icmp .ne 84, 3) := by decide +kernel
theorem dX7_readsItem_93 : decode cX7_readsItem 93 = .ok (.iconst 0, 1) := by decide +kernel
theorem dX7_readsItem_94 : decode cX7_readsItem 94 = .ok (.istore_n 2, 1) := by decide +kernel
theorem dX7_readsItem_95 : decode cX7_readsItem 95 = .ok (.iload_n 2, 1) := by decide +kernel
theorem dX7_readsItem_96 : decode cX7_readsItem 96 = .ok (.aload_n 0, 1) := by decide +kernel
theorem dX7_readsItem_97 : decode cX7_readsItem 97 = .ok (.getfield 115, 3) := by decide +kernel
theorem dX7_readsItem_100 : decode cX7_readsItem 100 = .ok (.if_icmp .ge 61, 3) := by decide +kernel
theorem dX7_readsItem_103 : decode cX7_readsItem 103 = .ok (.aload_n 0, 1) := by decide +kernel
theorem dX7_readsItem_104 : decode cX7_readsItem 104 = .ok (.getfield 19, 3) := by decide +kernel
theorem dX7_readsItem_107 : decode cX7_readsItem 107 = .ok (.bipush 16, 2) := by decide +kernel
theorem dX7_readsItem_109 : decode cX7_readsItem 109 = .ok (.iconst 4, 1) := by decide +kernel
theorem dX7_readsItem_110 : decode cX7_readsItem 110 = .ok (.aload_n 0, 1) := by decide +kernel
theorem dX7_readsItem_111 : decode cX7_readsItem 111 = .ok (.getfield 118, 3) := by decide +kernel
theorem dX7_readsItem_114 : decode cX7_readsItem 114 = .ok (.imul, 1) := by decide +kernel
theorem dX7_readsItem_115 : decode cX7_readsItem 115 = .ok (.iadd, 1) := by decide +kernel
theorem dX7_readsItem_116 : decode cX7_readsItem 116 = .ok (.iload_n 2, 1) := by decide +kernel
theorem dX7_readsItem_117 : decode cX7_readsItem 117 = .ok (.iadd, 1) := by decide +kernel
theorem dX7_readsItem_118 : decode cX7_readsItem 118 = .ok (.aload_n 0, 1) := by decide +kernel
theorem dX7_readsItem_119 : decode cX7_readsItem 119 = .ok (.iconst 0, 1) := by decide +kernel
theorem dX7_readsItem_120 : decode cX7_readsItem 120 = .ok (.aload_n 0, 1) := by decide +kernel
theorem dX7_readsItem_121 : decode cX7_readsItem 121 = .ok (.getfield 13, 3) := by decide +kernel
theorem dX7_readsItem_124 : decode cX7_readsItem 124 = .ok (.iconst 4, 1) := by decide +kernel
theorem dX7_readsItem_125 : decode cX7_readsItem 125 = .ok (.iload_n 2, 1) := by decide +kernel
theorem dX7_readsItem_126 : decode cX7_readsItem 126 = .ok (.iadd, 1) := by decide +kernel
theorem dX7_readsItem_127 : decode cX7_readsItem 127 = .ok (.iaload, 1) := by decide +kernel
theorem dX7_readsItem_128 : decode cX7_readsItem 128 = .ok (.invokevirtual 127, 3) := by decide +kernel
theorem dX7_readsItem_131 : decode cX7_readsItem 131 = .ok (.iastore, 1) := by decide +kernel
theorem dX7_readsItem_132 : decode cX7_readsItem 132 = .ok (.aload_n 0, 1) := by decide +kernel
theorem dX7_readsItem_133 : decode cX7_readsItem 133 = .ok (.getfield 22, 3) := by decide +kernel
theorem dX7_readsItem_136 : decode cX7_readsItem 136 = .ok (.bipush 16, 2) := by decide +kernel
theorem dX7_readsItem_138 : decode cX7_readsItem 138 = .ok (.iconst 4, 1) := by decide +kernel
theorem dX7_readsItem_139 : decode cX7_readsItem 139 = .ok (.aload_n 0, 1) := by decide +kernel
theorem dX7_readsItem_140 : decode cX7_readsItem 140 = .ok (.getfield 118, 3) := by decide +kernel
theorem dX7_readsItem_143 : decode cX7_readsItem 143 = .ok (.imul, 1) := by decide +kernel
theorem dX7_readsItem_144 : decode cX7_readsItem 144 = .ok (.iadd, 1) := by decide +kernel
theorem dX7_readsItem_145 : decode cX7_readsItem 145 = .ok (.iload_n 2, 1) := by decide +kernel
theorem dX7_readsItem_146 : decode cX7_readsItem 146 = .ok (.iadd, 1) := by decide +kernel
theorem dX7_readsItem_147 : decode cX7_readsItem 147 = .ok (.aload_n 0, 1) := by decide +kernel
theorem dX7_readsItem_148 : decode cX7_readsItem 148 = .ok (.iconst 0, 1) := by decide +kernel
theorem dX7_readsItem_149 : decode cX7_readsItem 149 = .ok (.bipush 6, 2) := by decide +kernel
theorem dX7_readsItem_151 : decode cX7_readsItem 151 = .ok (.invokevirtual 127, 3) := by decide +kernel
theorem dX7_readsItem_154 : decode cX7_readsItem 154 = .ok (.iastore, 1) := by decide +kernel
theorem dX7_readsItem_155 : decode cX7_readsItem 155 = .ok (.iinc 2 1, 3) := by decide +kernel
theorem dX7_readsItem_158 : decode cX7_readsItem 158 = .ok (.goto (-63), 3) := by decide +kernel
theorem dX7_readsItem_161 : decode cX7_readsItem 161 = .ok (.aload_n 0, 1) := by decide +kernel
theorem dX7_readsItem_162 : decode cX7_readsItem 162 = .ok (.dup, 1) := by decide +kernel
theorem dX7_readsItem_163 : decode cX7_readsItem 163 = .ok (.getfield 118, 3) := by decide +kernel
theorem dX7_readsItem_166 : decode cX7_readsItem 166 = .ok (.iconst 1, 1) := by decide +kernel
theorem dX7_readsItem_167 : decode cX7_readsItem 167 = .ok (.iadd, 1) := by decide +kernel
theorem dX7_readsItem_168 : decode cX7_readsItem 168 = .ok (.putfield 118, 3) := by decide +kernel
theorem dX7_readsItem_171 : decode cX7_readsItem 171 = .ok (.goto 52, 3) := by decide +kernel
theorem dX7_readsItem_174 : decode cX7_readsItem 174 = .ok (.iload_n 1, 1) := by decide +kernel
theorem dX7_readsItem_175 : decode cX7_readsItem 175 = .ok (.bipush 100, 2) := by decide +kernel
theorem dX7_readsItem_177 : decode cX7_readsItem 177 = .ok (.if_icmp .ne 17, 3) := by decide +kernel
theorem dX7_readsItem_180 : decode cX7_readsItem 180 = .ok (.aload_n 0, 1) := by decide +kernel
theorem dX7_readsItem_181 : decode cX7_readsItem 181 = .ok (.aload_n 0, 1) := by decide +kernel
theorem dX7_readsItem_182 : decode cX7_readsItem 182 = .ok (.iconst 0, 1) := by decide +kernel
theorem dX7_readsItem_183 : decode cX7_readsItem 183 = .ok (.bipush 9, 2) := by decide +kernel
theorem dX7_readsItem_185 : decode cX7_readsItem 185 = .ok (.invokevirtual 127, 3) := by decide +kernel
theorem dX7_readsItem_188 : decode cX7_readsItem 188 = .ok (.putfield 124, 3) := by decide +kernel
theorem dX7_readsItem_191 : decode cX7_readsItem 191 = .ok (.goto 32, 3) := by decide +kernel
theorem dX7_readsItem_194 : decode cX7_readsItem 194 = .ok (.aload_n 0, 1) := by decide +kernel
theorem dX7_readsItem_195 : decode cX7_readsItem 195 = .ok (.getfield 25, 3) := by decide +kernel
theorem dX7_readsItem_198 : decode cX7_readsItem 198 = .ok (.bipush 8, 2) := by decide +kernel
theorem dX7_readsItem_200 : decode cX7_readsItem 200 = .ok (.aload_n 0, 1) := by decide +kernel
theorem dX7_readsItem_201 : decode cX7_readsItem 201 = .ok (.getfield 121, 3) := by decide +kernel
theorem dX7_readsItem_204 : decode cX7_readsItem 204 = .ok (.iadd, 1) := by decide +kernel
theorem dX7_readsItem_205 : decode cX7_readsItem 205 = .ok (.aload_n 0, 1) := by decide +kernel
theorem dX7_readsItem_206 : decode cX7_readsItem 206 = .ok (.iconst 0, 1) := by decide +kernel
theorem dX7_readsItem_207 : decode cX7_readsItem 207 = .ok (.bipush 60, 2) := by decide +kernel
theorem dX7_readsItem_209 : decode cX7_readsItem 209 = .ok (.invokevirtual 127, 3) := by decide +kernel
theorem dX7_readsItem_212 : decode cX7_readsItem 212 = .ok (.iastore, 1) := by decide +kernel
theorem dX7_readsItem_213 : decode cX7_readsItem 213 = .ok (.aload_n 0, 1) := by decide +kernel
theorem dX7_readsItem_214 : decode cX7_readsItem 214 = .ok (.dup, 1) := by decide +kernel
theorem dX7_readsItem_215 : decode cX7_readsItem 215 = .ok (.getfield 121, 3) := by decide +kernel
theorem dX7_readsItem_218 : decode cX7_readsItem 218 = .ok (.iconst 1, 1) := by decide +kernel
theorem dX7_readsItem_219 : decode cX7_readsItem 219 = .ok (.iadd, 1) := by decide +kernel
theorem dX7_readsItem_220 : decode cX7_readsItem 220 = .ok (.putfield 121, 3) := by decide +kernel
theorem dX7_readsItem_223 : decode cX7_readsItem 223 = .ok (.return_, 1) := by decide +kernel
theorem dX7_land_0 : decode cX7_land 0 = .ok (.aload_n 0, 1) := by decide +kernel
theorem dX7_land_1 : decode cX7_land 1 = .ok (.iconst 0, 1) := by decide +kernel
theorem dX7_land_2 : decode cX7_land 2 = .ok (.putfield 75, 3) := by decide +kernel
theorem dX7_land_5 : decode cX7_land 5 = .ok (.aload_n 0, 1) := by decide +kernel
theorem dX7_land_6 : decode cX7_land 6 = .ok (.iconst (-1), 1) := by decide +kernel
theorem dX7_land_7 : decode cX7_land 7 = .ok (.putfield 101, 3) := by decide +kernel
theorem dX7_land_10 : decode cX7_land 10 = .ok (.aload_n 0, 1) := by decide +kernel
theorem dX7_land_11 : decode cX7_land 11 = .ok (.iconst 0, 1) := by decide +kernel
theorem dX7_land_12 : decode cX7_land 12 = .ok (.putfield 85, 3) := by decide +kernel
theorem dX7_land_15 : decode cX7_land 15 = .ok (.iconst 0, 1) := by decide +kernel
theorem dX7_land_16 : decode cX7_land 16 = .ok (.istore_n 1, 1) := by decide +kernel
theorem dX7_land_17 : decode cX7_land 17 = .ok (.aload_n 0, 1) := by decide +kernel
theorem dX7_land_18 : decode cX7_land 18 = .ok (.iconst 0, 1) := by decide +kernel
theorem dX7_land_19 : decode cX7_land 19 = .ok (.putfield 115, 3) := by decide +kernel
theorem dX7_land_22 : decode cX7_land 22 = .ok (.aload_n 0, 1) := by decide +kernel
theorem dX7_land_23 : decode cX7_land 23 = .ok (.iconst 0, 1) := by decide +kernel
theorem dX7_land_24 : decode cX7_land 24 = .ok (.putfield 118, 3) := by decide +kernel
theorem dX7_land_27 : decode cX7_land 27 = .ok (.aload_n 0, 1) := by decide +kernel
theorem dX7_land_28 : decode cX7_land 28 = .ok (.iconst 0, 1) := by decide +kernel
theorem dX7_land_29 : decode cX7_land 29 = .ok (.putfield 121, 3) := by decide +kernel
theorem dX7_land_32 : decode cX7_land 32 = .ok (.aload_n 0, 1) := by decide +kernel
theorem dX7_land_33 : decode cX7_land 33 = .ok (.bipush (-9), 2) := by decide +kernel
theorem dX7_land_35 : decode cX7_land 35 = .ok (.putfield 124, 3) := by decide +kernel
theorem dX7_land_38 : decode cX7_land 38 = .ok (.aload_n 0, 1) := by decide +kernel
theorem dX7_land_39 : decode cX7_land 39 = .ok (.invokevirtual 108, 3) := by decide +kernel
theorem dX7_land_42 : decode cX7_land 42 = .ok (.aload_n 0, 1) := by decide +kernel
theorem dX7_land_43 : decode cX7_land 43 = .ok (.invokevirtual 104, 3) := by decide +kernel
theorem dX7_land_46 : decode cX7_land 46 = .ok (.ifCond .eq 71, 3) := by decide +kernel
theorem dX7_land_49 : decode cX7_land 49 = .ok (.aload_n 0, 1) := by decide +kernel
theorem dX7_land_50 : decode cX7_land 50 = .ok (.getfield 95, 3) := by decide +kernel
theorem dX7_land_53 : decode cX7_land 53 = .ok (.ifCond .eq 64, 3) := by decide +kernel
theorem dX7_land_56 : decode cX7_land 56 = .ok (.aload_n 0, 1) := by decide +kernel
theorem dX7_land_57 : decode cX7_land 57 = .ok (.aload_n 0, 1) := by decide +kernel
theorem dX7_land_58 : decode cX7_land 58 = .ok (.getfield 95, 3) := by decide +kernel
theorem dX7_land_61 : decode cX7_land 61 = .ok (.iconst 1, 1) := by decide +kernel
theorem dX7_land_62 : decode cX7_land 62 = .ok (.if_icmp .ne 14, 3) := by decide +kernel
theorem dX7_land_65 : decode cX7_land 65 = .ok (.aload_n 0, 1) := by decide +kernel
theorem dX7_land_66 : decode cX7_land 66 = .ok (.invokevirtual 131, 3) := by decide +kernel
theorem dX7_land_69 : decode cX7_land 69 = .ok (.ifCond .eq 7, 3) := by decide +kernel
theorem dX7_land_72 : decode cX7_land 72 = .ok (.iconst 1, 1) := by decide +kernel
theorem dX7_land_73 : decode cX7_land 73 = .ok (.goto 4, 3) := by decide +kernel
theorem dX7_land_76 : decode cX7_land 76 = .ok (.iconst 0, 1) := by decide +kernel
theorem dX7_land_77 : decode cX7_land 77 = .ok (.invokevirtual 111, 3) := by decide +kernel
theorem dX7_land_80 : decode cX7_land 80 = .ok (.istore_n 2, 1) := by decide +kernel
theorem dX7_land_81 : decode cX7_land 81 = .ok (.aload_n 0, 1) := by decide +kernel
theorem dX7_land_82 : decode cX7_land 82 = .ok (.invokevirtual 104, 3) := by decide +kernel
theorem dX7_land_85 : decode cX7_land 85 = .ok (.ifCond .eq 8, 3) := by decide +kernel
theorem dX7_land_88 : decode cX7_land 88 = .ok (.aload_n 0, 1) := by decide +kernel
theorem dX7_land_89 : decode cX7_land 89 = .ok (.iload_n 2, 1) := by decide +kernel
theorem dX7_land_90 : decode cX7_land 90 = .ok (.invokevirtual 134, 3) := by decide +kernel
theorem dX7_land_93 : decode cX7_land 93 = .ok (.aload_n 0, 1) := by decide +kernel
theorem dX7_land_94 : decode cX7_land 94 = .ok (.aload_n 0, 1) := by decide +kernel
theorem dX7_land_95 : decode cX7_land 95 = .ok (.getfield 95, 3) := by decide +kernel
theorem dX7_land_98 : decode cX7_land 98 = .ok (.iconst 3, 1) := by decide +kernel
theorem dX7_land_99 : decode cX7_land 99 = .ok (.if_icmp .ne 7, 3) := by decide +kernel
theorem dX7_land_102 : decode cX7_land 102 = .ok (.iconst 1, 1) := by decide +kernel
theorem dX7_land_103 : decode cX7_land 103 = .ok (.goto 4, 3) := by decide +kernel
theorem dX7_land_106 : decode cX7_land 106 = .ok (.iconst 0, 1) := by decide +kernel
theorem dX7_land_107 : decode cX7_land 107 = .ok (.invokevirtual 111, 3) := by decide +kernel
theorem dX7_land_110 : decode cX7_land 110 = .ok (.pop, 1) := by decide +kernel
theorem dX7_land_111 : decode cX7_land 111 = .ok (.iinc 1 1, 3) := by decide +kernel
theorem dX7_land_114 : decode cX7_land 114 = .ok (.goto (-72), 3) := by decide +kernel
theorem dX7_land_117 : decode cX7_land 117 = .ok (.aload_n 0, 1) := by decide +kernel
theorem dX7_land_118 : decode cX7_land 118 = .ok (.invokevirtual 104, 3) := by decide +kernel
theorem dX7_land_121 : decode cX7_land 121 = .ok (.ifCond .ne 11, 3) := by decide +kernel
theorem dX7_land_124 : decode cX7_land 124 = .ok (.bipush (-10), 2) := by decide +kernel
theorem dX7_land_126 : decode cX7_land 126 = .ok (.aload_n 0, 1) := by decide +kernel
theorem dX7_land_127 : decode cX7_land 127 = .ok (.getfield 101, 3) := by decide +kernel
theorem dX7_land_130 : decode cX7_land 130 = .ok (.isub, 1) := by decide +kernel
theorem dX7_land_131 : decode cX7_land 131 = .ok (.ireturn, 1) := by decide +kernel
theorem dX7_land_132 : decode cX7_land 132 = .ok (.aload_n 0, 1) := by decide +kernel
theorem dX7_land_133 : decode cX7_land 133 = .ok (.invokevirtual 138, 3) := by decide +kernel
theorem dX7_land_136 : decode cX7_land 136 = .ok (.iload_n 1, 1) := by decide +kernel
theorem dX7_land_137 : decode cX7_land 137 = .ok (.ireturn, 1) := by decide +kernel
theorem dX7_settles_0 : decode cX7_settles 0 = .ok (.aload_n 0, 1) := by decide +kernel
theorem dX7_settles_1 : decode cX7_settles 1 = .ok (.aload_n 0, 1) := by decide +kernel
theorem dX7_settles_2 : decode cX7_settles 2 = .ok (.getfield 115, 3) := by decide +kernel
theorem dX7_settles_5 : decode cX7_settles 5 = .ok (.putfield 141, 3) := by decide +kernel
theorem dX7_settles_8 : decode cX7_settles 8 = .ok (.aload_n 0, 1) := by decide +kernel
theorem dX7_settles_9 : decode cX7_settles 9 = .ok (.aload_n 0, 1) := by decide +kernel
theorem dX7_settles_10 : decode cX7_settles 10 = .ok (.getfield 118, 3) := by decide +kernel
theorem dX7_settles_13 : decode cX7_settles 13 = .ok (.putfield 144, 3) := by decide +kernel
theorem dX7_settles_16 : decode cX7_settles 16 = .ok (.aload_n 0, 1) := by decide +kernel
theorem dX7_settles_17 : decode cX7_settles 17 = .ok (.aload_n 0, 1) := by decide +kernel
theorem dX7_settles_18 : decode cX7_settles 18 = .ok (.getfield 121, 3) := by decide +kernel
theorem dX7_settles_21 : decode cX7_settles 21 = .ok (.putfield 147, 3) := by decide +kernel
theorem dX7_settles_24 : decode cX7_settles 24 = .ok (.aload_n 0, 1) := by decide +kernel
theorem dX7_settles_25 : decode cX7_settles 25 = .ok (.aload_n 0, 1) := by decide +kernel
theorem dX7_settles_26 : decode cX7_settles 26 = .ok (.getfield 124, 3) := by decide +kernel
theorem dX7_settles_29 : decode cX7_settles 29 = .ok (.bipush (-9), 2) := by decide +kernel
theorem dX7_settles_31 : decode cX7_settles 31 = .ok (.if_icmp .ne 7, 3) := by decide +kernel
theorem dX7_settles_34 : decode cX7_settles 34 = .ok (.iconst 2, 1) := by decide +kernel
theorem dX7_settles_35 : decode cX7_settles 35 = .ok (.goto 7, 3) := by decide +kernel
theorem dX7_settles_38 : decode cX7_settles 38 = .ok (.aload_n 0, 1) := by decide +kernel
theorem dX7_settles_39 : decode cX7_settles 39 = .ok (.getfield 124, 3) := by decide +kernel
theorem dX7_settles_42 : decode cX7_settles 42 = .ok (.putfield 71, 3) := by decide +kernel
theorem dX7_settles_45 : decode cX7_settles 45 = .ok (.iconst 0, 1) := by decide +kernel
theorem dX7_settles_46 : decode cX7_settles 46 = .ok (.istore_n 1, 1) := by decide +kernel
theorem dX7_settles_47 : decode cX7_settles 47 = .ok (.iload_n 1, 1) := by decide +kernel
theorem dX7_settles_48 : decode cX7_settles 48 = .ok (.iconst 4, 1) := by decide +kernel
theorem dX7_settles_49 : decode cX7_settles 49 = .ok (.if_icmp .ge 23, 3) := by decide +kernel
theorem dX7_settles_52 : decode cX7_settles 52 = .ok (.aload_n 0, 1) := by decide +kernel
theorem dX7_settles_53 : decode cX7_settles 53 = .ok (.getfield 13, 3) := by decide +kernel
theorem dX7_settles_56 : decode cX7_settles 56 = .ok (.iload_n 1, 1) := by decide +kernel
theorem dX7_settles_57 : decode cX7_settles 57 = .ok (.aload_n 0, 1) := by decide +kernel
theorem dX7_settles_58 : decode cX7_settles 58 = .ok (.getfield 13, 3) := by decide +kernel
theorem dX7_settles_61 : decode cX7_settles 61 = .ok (.iconst 4, 1) := by decide +kernel
theorem dX7_settles_62 : decode cX7_settles 62 = .ok (.iload_n 1, 1) := by decide +kernel
theorem dX7_settles_63 : decode cX7_settles 63 = .ok (.iadd, 1) := by decide +kernel
theorem dX7_settles_64 : decode cX7_settles 64 = .ok (.iaload, 1) := by decide +kernel
theorem dX7_settles_65 : decode cX7_settles 65 = .ok (.iastore, 1) := by decide +kernel
theorem dX7_settles_66 : decode cX7_settles 66 = .ok (.iinc 1 1, 3) := by decide +kernel
theorem dX7_settles_69 : decode cX7_settles 69 = .ok (.goto (-22), 3) := by decide +kernel
theorem dX7_settles_72 : decode cX7_settles 72 = .ok (.iconst 0, 1) := by decide +kernel
theorem dX7_settles_73 : decode cX7_settles 73 = .ok (.istore_n 1, 1) := by decide +kernel
theorem dX7_settles_74 : decode cX7_settles 74 = .ok (.iload_n 1, 1) := by decide +kernel
theorem dX7_settles_75 : decode cX7_settles 75 = .ok (.bipush 8, 2) := by decide +kernel
theorem dX7_settles_77 : decode cX7_settles 77 = .ok (.if_icmp .ge 51, 3) := by decide +kernel
theorem dX7_settles_80 : decode cX7_settles 80 = .ok (.aload_n 0, 1) := by decide +kernel
theorem dX7_settles_81 : decode cX7_settles 81 = .ok (.getfield 16, 3) := by decide +kernel
theorem dX7_settles_84 : decode cX7_settles 84 = .ok (.iload_n 1, 1) := by decide +kernel
theorem dX7_settles_85 : decode cX7_settles 85 = .ok (.aload_n 0, 1) := by decide +kernel
theorem dX7_settles_86 : decode cX7_settles 86 = .ok (.getfield 16, 3) := by decide +kernel
theorem dX7_settles_89 : decode cX7_settles 89 = .ok (.bipush 8, 2) := by decide +kernel
theorem dX7_settles_91 : decode cX7_settles 91 = .ok (.iload_n 1, 1) := by decide +kernel
theorem dX7_settles_92 : decode cX7_settles 92 = .ok (.iadd, 1) := by decide +kernel
theorem dX7_settles_93 : decode cX7_settles 93 = .ok (.iaload, 1) := by decide +kernel
theorem dX7_settles_94 : decode cX7_settles 94 = .ok (.iastore, 1) := by decide +kernel
theorem dX7_settles_95 : decode cX7_settles 95 = .ok (.aload_n 0, 1) := by decide +kernel
theorem dX7_settles_96 : decode cX7_settles 96 = .ok (.getfield 25, 3) := by decide +kernel
theorem dX7_settles_99 : decode cX7_settles 99 = .ok (.iload_n 1, 1) := by decide +kernel
theorem dX7_settles_100 : decode cX7_settles 100 = .ok (.aload_n 0, 1) := by decide +kernel
theorem dX7_settles_101 : decode cX7_settles 101 = .ok (.getfield 25, 3) := by decide +kernel
theorem dX7_settles_104 : decode cX7_settles 104 = .ok (.bipush 8, 2) := by decide +kernel
theorem dX7_settles_106 : decode cX7_settles 106 = .ok (.iload_n 1, 1) := by decide +kernel
theorem dX7_settles_107 : decode cX7_settles 107 = .ok (.iadd, 1) := by decide +kernel
theorem dX7_settles_108 : decode cX7_settles 108 = .ok (.iaload, 1) := by decide +kernel
theorem dX7_settles_109 : decode cX7_settles 109 = .ok (.iastore, 1) := by decide +kernel
theorem dX7_settles_110 : decode cX7_settles 110 = .ok (.aload_n 0, 1) := by decide +kernel
theorem dX7_settles_111 : decode cX7_settles 111 = .ok (.getfield 28, 3) := by decide +kernel
theorem dX7_settles_114 : decode cX7_settles 114 = .ok (.iload_n 1, 1) := by decide +kernel
theorem dX7_settles_115 : decode cX7_settles 115 = .ok (.aload_n 0, 1) := by decide +kernel
theorem dX7_settles_116 : decode cX7_settles 116 = .ok (.getfield 16, 3) := by decide +kernel
theorem dX7_settles_119 : decode cX7_settles 119 = .ok (.iload_n 1, 1) := by decide +kernel
theorem dX7_settles_120 : decode cX7_settles 120 = .ok (.iaload, 1) := by decide +kernel
theorem dX7_settles_121 : decode cX7_settles 121 = .ok (.iastore, 1) := by decide +kernel
theorem dX7_settles_122 : decode cX7_settles 122 = .ok (.iinc 1 1, 3) := by decide +kernel
theorem dX7_settles_125 : decode cX7_settles 125 = .ok (.goto (-51), 3) := by decide +kernel
theorem dX7_settles_128 : decode cX7_settles 128 = .ok (.iconst 0, 1) := by decide +kernel
theorem dX7_settles_129 : decode cX7_settles 129 = .ok (.istore_n 1, 1) := by decide +kernel
theorem dX7_settles_130 : decode cX7_settles 130 = .ok (.iload_n 1, 1) := by decide +kernel
theorem dX7_settles_131 : decode cX7_settles 131 = .ok (.bipush 16, 2) := by decide +kernel
theorem dX7_settles_133 : decode cX7_settles 133 = .ok (.if_icmp .ge 54, 3) := by decide +kernel
theorem dX7_settles_136 : decode cX7_settles 136 = .ok (.aload_n 0, 1) := by decide +kernel
theorem dX7_settles_137 : decode cX7_settles 137 = .ok (.getfield 19, 3) := by decide +kernel
theorem dX7_settles_140 : decode cX7_settles 140 = .ok (.iload_n 1, 1) := by decide +kernel
theorem dX7_settles_141 : decode cX7_settles 141 = .ok (.aload_n 0, 1) := by decide +kernel
theorem dX7_settles_142 : decode cX7_settles 142 = .ok (.getfield 19, 3) := by decide +kernel
theorem dX7_settles_145 : decode cX7_settles 145 = .ok (.bipush 16, 2) := by decide +kernel
theorem dX7_settles_147 : decode cX7_settles 147 = .ok (.iload_n 1, 1) := by decide +kernel
theorem dX7_settles_148 : decode cX7_settles 148 = .ok (.iadd, 1) := by decide +kernel
theorem dX7_settles_149 : decode cX7_settles 149 = .ok (.iaload, 1) := by decide +kernel
theorem dX7_settles_150 : decode cX7_settles 150 = .ok (.iastore, 1) := by decide +kernel
theorem dX7_settles_151 : decode cX7_settles 151 = .ok (.aload_n 0, 1) := by decide +kernel
theorem dX7_settles_152 : decode cX7_settles 152 = .ok (.getfield 22, 3) := by decide +kernel
theorem dX7_settles_155 : decode cX7_settles 155 = .ok (.iload_n 1, 1) := by decide +kernel
theorem dX7_settles_156 : decode cX7_settles 156 = .ok (.aload_n 0, 1) := by decide +kernel
theorem dX7_settles_157 : decode cX7_settles 157 = .ok (.getfield 22, 3) := by decide +kernel
theorem dX7_settles_160 : decode cX7_settles 160 = .ok (.bipush 16, 2) := by decide +kernel
theorem dX7_settles_162 : decode cX7_settles 162 = .ok (.iload_n 1, 1) := by decide +kernel
theorem dX7_settles_163 : decode cX7_settles 163 = .ok (.iadd, 1) := by decide +kernel
theorem dX7_settles_164 : decode cX7_settles 164 = .ok (.iaload, 1) := by decide +kernel
theorem dX7_settles_165 : decode cX7_settles 165 = .ok (.iastore, 1) := by decide +kernel
theorem dX7_settles_166 : decode cX7_settles 166 = .ok (.aload_n 0, 1) := by decide +kernel
theorem dX7_settles_167 : decode cX7_settles 167 = .ok (.getfield 28, 3) := by decide +kernel
theorem dX7_settles_170 : decode cX7_settles 170 = .ok (.bipush 8, 2) := by decide +kernel
theorem dX7_settles_172 : decode cX7_settles 172 = .ok (.iload_n 1, 1) := by decide +kernel
theorem dX7_settles_173 : decode cX7_settles 173 = .ok (.iadd, 1) := by decide +kernel
theorem dX7_settles_174 : decode cX7_settles 174 = .ok (.aload_n 0, 1) := by decide +kernel
theorem dX7_settles_175 : decode cX7_settles 175 = .ok (.getfield 19, 3) := by decide +kernel
theorem dX7_settles_178 : decode cX7_settles 178 = .ok (.iload_n 1, 1) := by decide +kernel
theorem dX7_settles_179 : decode cX7_settles 179 = .ok (.iaload, 1) := by decide +kernel
theorem dX7_settles_180 : decode cX7_settles 180 = .ok (.iastore, 1) := by decide +kernel
theorem dX7_settles_181 : decode cX7_settles 181 = .ok (.iinc 1 1, 3) := by decide +kernel
theorem dX7_settles_184 : decode cX7_settles 184 = .ok (.goto (-54), 3) := by decide +kernel
theorem dX7_settles_187 : decode cX7_settles 187 = .ok (.aload_n 0, 1) := by decide +kernel
theorem dX7_settles_188 : decode cX7_settles 188 = .ok (.getfield 28, 3) := by decide +kernel
theorem dX7_settles_191 : decode cX7_settles 191 = .ok (.bipush 24, 2) := by decide +kernel
theorem dX7_settles_193 : decode cX7_settles 193 = .ok (.iconst 0, 1) := by decide +kernel
theorem dX7_settles_194 : decode cX7_settles 194 = .ok (.iastore, 1) := by decide +kernel
theorem dX7_settles_195 : decode cX7_settles 195 = .ok (.aload_n 0, 1) := by decide +kernel
theorem dX7_settles_196 : decode cX7_settles 196 = .ok (.getfield 28, 3) := by decide +kernel
theorem dX7_settles_199 : decode cX7_settles 199 = .ok (.bipush 25, 2) := by decide +kernel
theorem dX7_settles_201 : decode cX7_settles 201 = .ok (.iconst 0, 1) := by decide +kernel
theorem dX7_settles_202 : decode cX7_settles 202 = .ok (.iastore, 1) := by decide +kernel
theorem dX7_settles_203 : decode cX7_settles 203 = .ok (.aload_n 0, 1) := by decide +kernel
theorem dX7_settles_204 : decode cX7_settles 204 = .ok (.iconst 0, 1) := by decide +kernel
theorem dX7_settles_205 : decode cX7_settles 205 = .ok (.putfield 82, 3) := by decide +kernel
theorem dX7_settles_208 : decode cX7_settles 208 = .ok (.aload_n 0, 1) := by decide +kernel
theorem dX7_settles_209 : decode cX7_settles 209 = .ok (.iconst 0, 1) := by decide +kernel
theorem dX7_settles_210 : decode cX7_settles 210 = .ok (.putfield 150, 3) := by decide +kernel
theorem dX7_settles_213 : decode cX7_settles 213 = .ok (.aload_n 0, 1) := by decide +kernel
theorem dX7_settles_214 : decode cX7_settles 214 = .ok (.iconst 0, 1) := by decide +kernel
theorem dX7_settles_215 : decode cX7_settles 215 = .ok (.putfield 153, 3) := by decide +kernel
theorem dX7_settles_218 : decode cX7_settles 218 = .ok (.aload_n 0, 1) := by decide +kernel
theorem dX7_settles_219 : decode cX7_settles 219 = .ok (.iconst 0, 1) := by decide +kernel
theorem dX7_settles_220 : decode cX7_settles 220 = .ok (.putfield 156, 3) := by decide +kernel
theorem dX7_settles_223 : decode cX7_settles 223 = .ok (.aload_n 0, 1) := by decide +kernel
theorem dX7_settles_224 : decode cX7_settles 224 = .ok (.getfield 37, 3) := by decide +kernel
theorem dX7_settles_227 : decode cX7_settles 227 = .ok (.iconst 0, 1) := by decide +kernel
theorem dX7_settles_228 : decode cX7_settles 228 = .ok (.iconst 0, 1) := by decide +kernel
theorem dX7_settles_229 : decode cX7_settles 229 = .ok (.bastore, 1) := by decide +kernel
theorem dX7_settles_230 : decode cX7_settles 230 = .ok (.aload_n 0, 1) := by decide +kernel
theorem dX7_settles_231 : decode cX7_settles 231 = .ok (.getfield 37, 3) := by decide +kernel
theorem dX7_settles_234 : decode cX7_settles 234 = .ok (.iconst 1, 1) := by decide +kernel
theorem dX7_settles_235 : decode cX7_settles 235 = .ok (.iconst 0, 1) := by decide +kernel
theorem dX7_settles_236 : decode cX7_settles 236 = .ok (.bastore, 1) := by decide +kernel
theorem dX7_settles_237 : decode cX7_settles 237 = .ok (.return_, 1) := by decide +kernel
theorem dX7_isScale_0 : decode cX7_isScale 0 = .ok (.iload_n 1, 1) := by decide +kernel
theorem dX7_isScale_1 : decode cX7_isScale 1 = .ok (.iconst 0, 1) := by decide +kernel
theorem dX7_isScale_2 : decode cX7_isScale 2 = .ok (.aload_n 0, 1) := by decide +kernel
theorem dX7_isScale_3 : decode cX7_isScale 3 = .ok (.getfield 141, 3) := by decide +kernel
theorem dX7_isScale_6 : decode cX7_isScale 6 = .ok (.iconst 1, 1) := by decide +kernel
theorem dX7_isScale_7 : decode cX7_isScale 7 = .ok (.isub, 1) := by decide +kernel
theorem dX7_isScale_8 : decode cX7_isScale 8 = .ok (.invokestatic 78, 3) := by decide +kernel
theorem dX7_isScale_11 : decode cX7_isScale 11 = .ok (.ireturn, 1) := by decide +kernel
theorem dX7_isLife_0 : decode cX7_isLife 0 = .ok (.iload_n 1, 1) := by decide +kernel
theorem dX7_isLife_1 : decode cX7_isLife 1 = .ok (.iconst 0, 1) := by decide +kernel
theorem dX7_isLife_2 : decode cX7_isLife 2 = .ok (.aload_n 0, 1) := by decide +kernel
theorem dX7_isLife_3 : decode cX7_isLife 3 = .ok (.getfield 144, 3) := by decide +kernel
theorem dX7_isLife_6 : decode cX7_isLife 6 = .ok (.iconst 1, 1) := by decide +kernel
theorem dX7_isLife_7 : decode cX7_isLife 7 = .ok (.isub, 1) := by decide +kernel
theorem dX7_isLife_8 : decode cX7_isLife 8 = .ok (.invokestatic 78, 3) := by decide +kernel
theorem dX7_isLife_11 : decode cX7_isLife 11 = .ok (.ireturn, 1) := by decide +kernel
theorem dX7_isPlace_0 : decode cX7_isPlace 0 = .ok (.iload_n 1, 1) := by decide +kernel
theorem dX7_isPlace_1 : decode cX7_isPlace 1 = .ok (.iconst 0, 1) := by decide +kernel
theorem dX7_isPlace_2 : decode cX7_isPlace 2 = .ok (.aload_n 0, 1) := by decide +kernel
theorem dX7_isPlace_3 : decode cX7_isPlace 3 = .ok (.getfield 147, 3) := by decide +kernel
theorem dX7_isPlace_6 : decode cX7_isPlace 6 = .ok (.iconst 1, 1) := by decide +kernel
theorem dX7_isPlace_7 : decode cX7_isPlace 7 = .ok (.isub, 1) := by decide +kernel
theorem dX7_isPlace_8 : decode cX7_isPlace 8 = .ok (.invokestatic 78, 3) := by decide +kernel
theorem dX7_isPlace_11 : decode cX7_isPlace 11 = .ok (.ireturn, 1) := by decide +kernel
theorem dX7_scale_0 : decode cX7_scale 0 = .ok (.aload_n 0, 1) := by decide +kernel
theorem dX7_scale_1 : decode cX7_scale 1 = .ok (.iconst 0, 1) := by decide +kernel
theorem dX7_scale_2 : decode cX7_scale 2 = .ok (.putfield 75, 3) := by decide +kernel
theorem dX7_scale_5 : decode cX7_scale 5 = .ok (.aload_n 0, 1) := by decide +kernel
theorem dX7_scale_6 : decode cX7_scale 6 = .ok (.iload_n 1, 1) := by decide +kernel
theorem dX7_scale_7 : decode cX7_scale 7 = .ok (.invokevirtual 159, 3) := by decide +kernel
theorem dX7_scale_10 : decode cX7_scale 10 = .ok (.ifCond .eq 12, 3) := by decide +kernel
theorem dX7_scale_13 : decode cX7_scale 13 = .ok (.iload_n 2, 1) := by decide +kernel
theorem dX7_scale_14 : decode cX7_scale 14 = .ok (.iconst 0, 1) := by decide +kernel
theorem dX7_scale_15 : decode cX7_scale 15 = .ok (.iconst 2, 1) := by decide +kernel
theorem dX7_scale_16 : decode cX7_scale 16 = .ok (.invokestatic 78, 3) := by decide +kernel
theorem dX7_scale_19 : decode cX7_scale 19 = .ok (.ifCond .ne 5, 3) := by decide +kernel
theorem dX7_scale_22 : decode cX7_scale 22 = .ok (.iconst (-1), 1) := by decide +kernel
theorem dX7_scale_23 : decode cX7_scale 23 = .ok (.ireturn, 1) := by decide +kernel
theorem dX7_scale_24 : decode cX7_scale 24 = .ok (.iload_n 2, 1) := by decide +kernel
theorem dX7_scale_25 : decode cX7_scale 25 = .ok (.iconst 1, 1) := by decide +kernel
theorem dX7_scale_26 : decode cX7_scale 26 = .ok (.if_icmp .ne 12, 3) := by decide +kernel
theorem dX7_scale_29 : decode cX7_scale 29 = .ok (.aload_n 0, 1) := by decide +kernel
theorem dX7_scale_30 : decode cX7_scale 30 = .ok (.getfield 13, 3) := by decide +kernel
theorem dX7_scale_33 : decode cX7_scale 33 = .ok (.iload_n 1, 1) := by decide +kernel
theorem dX7_scale_34 : decode cX7_scale 34 = .ok (.iaload, 1) := by decide +kernel
theorem dX7_scale_35 : decode cX7_scale 35 = .ok (.goto 15, 3) := by decide +kernel
theorem dX7_scale_38 : decode cX7_scale 38 = .ok (.aload_n 0, 1) := by decide +kernel
theorem dX7_scale_39 : decode cX7_scale 39 = .ok (.getfield 28, 3) := by decide +kernel
theorem dX7_scale_42 : decode cX7_scale 42 = .ok (.iconst 2, 1) := by decide +kernel
theorem dX7_scale_43 : decode cX7_scale 43 = .ok (.iload_n 1, 1) := by decide +kernel
theorem dX7_scale_44 : decode cX7_scale 44 = .ok (.imul, 1) := by decide +kernel
theorem dX7_scale_45 : decode cX7_scale 45 = .ok (.iload_n 2, 1) := by decide +kernel
theorem dX7_scale_46 : decode cX7_scale 46 = .ok (.iconst 2, 1) := by decide +kernel
theorem dX7_scale_47 : decode cX7_scale 47 = .ok (.idiv, 1) := by decide +kernel
theorem dX7_scale_48 : decode cX7_scale 48 = .ok (.iadd, 1) := by decide +kernel
theorem dX7_scale_49 : decode cX7_scale 49 = .ok (.iaload, 1) := by decide +kernel
theorem dX7_scale_50 : decode cX7_scale 50 = .ok (.ireturn, 1) := by decide +kernel
theorem dX7_endBy_0 : decode cX7_endBy 0 = .ok (.iload_n 0, 1) := by decide +kernel
theorem dX7_endBy_1 : decode cX7_endBy 1 = .ok (.ifCond .ne 14, 3) := by decide +kernel
theorem dX7_endBy_4 : decode cX7_endBy 4 = .ok (.iload_n 3, 1) := by decide +kernel
theorem dX7_endBy_5 : decode cX7_endBy 5 = .ok (.iload_n 1, 1) := by decide +kernel
theorem dX7_endBy_6 : decode cX7_endBy 6 = .ok (.if_icmp .ge 7, 3) := by decide +kernel
theorem dX7_endBy_9 : decode cX7_endBy 9 = .ok (.iconst 0, 1) := by decide +kernel
theorem dX7_endBy_10 : decode cX7_endBy 10 = .ok (.goto 4, 3) := by decide +kernel
theorem dX7_endBy_13 : decode cX7_endBy 13 = .ok (.iconst 1, 1) := by decide +kernel
theorem dX7_endBy_14 : decode cX7_endBy 14 = .ok (.ireturn, 1) := by decide +kernel
theorem dX7_endBy_15 : decode cX7_endBy 15 = .ok (.iload_n 0, 1) := by decide +kernel
theorem dX7_endBy_16 : decode cX7_endBy 16 = .ok (.iconst 3, 1) := by decide +kernel
theorem dX7_endBy_17 : decode cX7_endBy 17 = .ok (.if_icmp .ne 27, 3) := by decide +kernel
theorem dX7_endBy_20 : decode cX7_endBy 20 = .ok (.iconst 2, 1) := by decide +kernel
theorem dX7_endBy_21 : decode cX7_endBy 21 = .ok (.iload_n 3, 1) := by decide +kernel
theorem dX7_endBy_22 : decode cX7_endBy 22 = .ok (.imul, 1) := by decide +kernel
theorem dX7_endBy_23 : decode cX7_endBy 23 = .ok (.iload_n 2, 1) := by decide +kernel
theorem dX7_endBy_24 : decode cX7_endBy 24 = .ok (.if_icmp .ge 7, 3) := by decide +kernel
theorem dX7_endBy_27 : decode cX7_endBy 27 = .ok (.iconst 0, 1) := by decide +kernel
theorem dX7_endBy_28 : decode cX7_endBy 28 = .ok (.goto 15, 3) := by decide +kernel
theorem dX7_endBy_31 : decode cX7_endBy 31 = .ok (.iconst 2, 1) := by decide +kernel
theorem dX7_endBy_32 : decode cX7_endBy 32 = .ok (.iload_n 3, 1) := by decide +kernel
theorem dX7_endBy_33 : decode cX7_endBy 33 = .ok (.imul, 1) := by decide +kernel
theorem dX7_endBy_34 : decode cX7_endBy 34 = .ok (.iload_n 2, 1) := by decide +kernel
theorem dX7_endBy_35 : decode cX7_endBy 35 = .ok (.if_icmp .le 7, 3) := by decide +kernel
theorem dX7_endBy_38 : decode cX7_endBy 38 = .ok (.iconst 1, 1) := by decide +kernel
theorem dX7_endBy_39 : decode cX7_endBy 39 = .ok (.goto 4, 3) := by decide +kernel
theorem dX7_endBy_42 : decode cX7_endBy 42 = .ok (.iconst 2, 1) := by decide +kernel
theorem dX7_endBy_43 : decode cX7_endBy 43 = .ok (.ireturn, 1) := by decide +kernel
theorem dX7_endBy_44 : decode cX7_endBy 44 = .ok (.iload_n 3, 1) := by decide +kernel
theorem dX7_endBy_45 : decode cX7_endBy 45 = .ok (.ifCond .ne 7, 3) := by decide +kernel
theorem dX7_endBy_48 : decode cX7_endBy 48 = .ok (.iconst 0, 1) := by decide +kernel
theorem dX7_endBy_49 : decode cX7_endBy 49 = .ok (.goto 22, 3) := by decide +kernel
theorem dX7_endBy_52 : decode cX7_endBy 52 = .ok (.iload_n 3, 1) := by decide +kernel
theorem dX7_endBy_53 : decode cX7_endBy 53 = .ok (.iload_n 2, 1) := by decide +kernel
theorem dX7_endBy_54 : decode cX7_endBy 54 = .ok (.if_icmp .ne 7, 3) := by decide +kernel
theorem dX7_endBy_57 : decode cX7_endBy 57 = .ok (.iconst 1, 1) := by decide +kernel
theorem dX7_endBy_58 : decode cX7_endBy 58 = .ok (.goto 13, 3) := by decide +kernel
theorem dX7_endBy_61 : decode cX7_endBy 61 = .ok (.iload_n 0, 1) := by decide +kernel
theorem dX7_endBy_62 : decode cX7_endBy 62 = .ok (.iconst 1, 1) := by decide +kernel
theorem dX7_endBy_63 : decode cX7_endBy 63 = .ok (.if_icmp .ne 7, 3) := by decide +kernel
theorem dX7_endBy_66 : decode cX7_endBy 66 = .ok (.iconst 3, 1) := by decide +kernel
theorem dX7_endBy_67 : decode cX7_endBy 67 = .ok (.goto 4, 3) := by decide +kernel
theorem dX7_endBy_70 : decode cX7_endBy 70 = .ok (.iconst 2, 1) := by decide +kernel
theorem dX7_endBy_71 : decode cX7_endBy 71 = .ok (.ireturn, 1) := by decide +kernel
theorem dX7_endOf_0 : decode cX7_endOf 0 = .ok (.aload_n 1, 1) := by decide +kernel
theorem dX7_endOf_1 : decode cX7_endOf 1 = .ok (.iconst 2, 1) := by decide +kernel
theorem dX7_endOf_2 : decode cX7_endOf 2 = .ok (.iload_n 2, 1) := by decide +kernel
theorem dX7_endOf_3 : decode cX7_endOf 3 = .ok (.imul, 1) := by decide +kernel
theorem dX7_endOf_4 : decode cX7_endOf 4 = .ok (.iaload, 1) := by decide +kernel
theorem dX7_endOf_5 : decode cX7_endOf 5 = .ok (.aload_n 1, 1) := by decide +kernel
theorem dX7_endOf_6 : decode cX7_endOf 6 = .ok (.iconst 2, 1) := by decide +kernel
theorem dX7_endOf_7 : decode cX7_endOf 7 = .ok (.iload_n 2, 1) := by decide +kernel
theorem dX7_endOf_8 : decode cX7_endOf 8 = .ok (.imul, 1) := by decide +kernel
theorem dX7_endOf_9 : decode cX7_endOf 9 = .ok (.iconst 1, 1) := by decide +kernel
theorem dX7_endOf_10 : decode cX7_endOf 10 = .ok (.iadd, 1) := by decide +kernel
theorem dX7_endOf_11 : decode cX7_endOf 11 = .ok (.iaload, 1) := by decide +kernel
theorem dX7_endOf_12 : decode cX7_endOf 12 = .ok (.aload_n 0, 1) := by decide +kernel
theorem dX7_endOf_13 : decode cX7_endOf 13 = .ok (.getfield 13, 3) := by decide +kernel
theorem dX7_endOf_16 : decode cX7_endOf 16 = .ok (.iload_n 2, 1) := by decide +kernel
theorem dX7_endOf_17 : decode cX7_endOf 17 = .ok (.iaload, 1) := by decide +kernel
theorem dX7_endOf_18 : decode cX7_endOf 18 = .ok (.iload_n 3, 1) := by decide +kernel
theorem dX7_endOf_19 : decode cX7_endOf 19 = .ok (.invokestatic 163, 3) := by decide +kernel
theorem dX7_endOf_22 : decode cX7_endOf 22 = .ok (.ireturn, 1) := by decide +kernel
theorem dX7_endIn_0 : decode cX7_endIn 0 = .ok (.aload_n 0, 1) := by decide +kernel
theorem dX7_endIn_1 : decode cX7_endIn 1 = .ok (.aload_n 1, 1) := by decide +kernel
theorem dX7_endIn_2 : decode cX7_endIn 2 = .ok (.iload_n 3, 1) := by decide +kernel
theorem dX7_endIn_3 : decode cX7_endIn 3 = .ok (.aload_n 1, 1) := by decide +kernel
theorem dX7_endIn_4 : decode cX7_endIn 4 = .ok (.bipush 8, 2) := by decide +kernel
theorem dX7_endIn_6 : decode cX7_endIn 6 = .ok (.iconst 4, 1) := by decide +kernel
theorem dX7_endIn_7 : decode cX7_endIn 7 = .ok (.iload_n 2, 1) := by decide +kernel
theorem dX7_endIn_8 : decode cX7_endIn 8 = .ok (.imul, 1) := by decide +kernel
theorem dX7_endIn_9 : decode cX7_endIn 9 = .ok (.iadd, 1) := by decide +kernel
theorem dX7_endIn_10 : decode cX7_endIn 10 = .ok (.iload_n 3, 1) := by decide +kernel
theorem dX7_endIn_11 : decode cX7_endIn 11 = .ok (.iadd, 1) := by decide +kernel
theorem dX7_endIn_12 : decode cX7_endIn 12 = .ok (.iaload, 1) := by decide +kernel
theorem dX7_endIn_13 : decode cX7_endIn 13 = .ok (.invokevirtual 167, 3) := by decide +kernel
theorem dX7_endIn_16 : decode cX7_endIn 16 = .ok (.ireturn, 1) := by decide +kernel
theorem dX7_life_0 : decode cX7_life 0 = .ok (.aload_n 0, 1) := by decide +kernel
theorem dX7_life_1 : decode cX7_life 1 = .ok (.iconst 0, 1) := by decide +kernel
theorem dX7_life_2 : decode cX7_life 2 = .ok (.putfield 75, 3) := by decide +kernel
theorem dX7_life_5 : decode cX7_life 5 = .ok (.aload_n 0, 1) := by decide +kernel
theorem dX7_life_6 : decode cX7_life 6 = .ok (.iload_n 1, 1) := by decide +kernel
theorem dX7_life_7 : decode cX7_life 7 = .ok (.invokevirtual 171, 3) := by decide +kernel
theorem dX7_life_10 : decode cX7_life 10 = .ok (.ifCond .eq 20, 3) := by decide +kernel
theorem dX7_life_13 : decode cX7_life 13 = .ok (.aload_n 0, 1) := by decide +kernel
theorem dX7_life_14 : decode cX7_life 14 = .ok (.iload_n 2, 1) := by decide +kernel
theorem dX7_life_15 : decode cX7_life 15 = .ok (.invokevirtual 159, 3) := by decide +kernel
theorem dX7_life_18 : decode cX7_life 18 = .ok (.ifCond .eq 12, 3) := by decide +kernel
theorem dX7_life_21 : decode cX7_life 21 = .ok (.iload_n 3, 1) := by decide +kernel
theorem dX7_life_22 : decode cX7_life 22 = .ok (.iconst 0, 1) := by decide +kernel
theorem dX7_life_23 : decode cX7_life 23 = .ok (.iconst 2, 1) := by decide +kernel
theorem dX7_life_24 : decode cX7_life 24 = .ok (.invokestatic 78, 3) := by decide +kernel
theorem dX7_life_27 : decode cX7_life 27 = .ok (.ifCond .ne 5, 3) := by decide +kernel
theorem dX7_life_30 : decode cX7_life 30 = .ok (.iconst (-1), 1) := by decide +kernel
theorem dX7_life_31 : decode cX7_life 31 = .ok (.ireturn, 1) := by decide +kernel
theorem dX7_life_32 : decode cX7_life 32 = .ok (.iload_n 3, 1) := by decide +kernel
theorem dX7_life_33 : decode cX7_life 33 = .ok (.ifCond .ne 19, 3) := by decide +kernel
theorem dX7_life_36 : decode cX7_life 36 = .ok (.aload_n 0, 1) := by decide +kernel
theorem dX7_life_37 : decode cX7_life 37 = .ok (.getfield 28, 3) := by decide +kernel
theorem dX7_life_40 : decode cX7_life 40 = .ok (.bipush 8, 2) := by decide +kernel
theorem dX7_life_42 : decode cX7_life 42 = .ok (.iconst 4, 1) := by decide +kernel
theorem dX7_life_43 : decode cX7_life 43 = .ok (.iload_n 1, 1) := by decide +kernel
theorem dX7_life_44 : decode cX7_life 44 = .ok (.imul, 1) := by decide +kernel
theorem dX7_life_45 : decode cX7_life 45 = .ok (.iadd, 1) := by decide +kernel
theorem dX7_life_46 : decode cX7_life 46 = .ok (.iload_n 2, 1) := by decide +kernel
theorem dX7_life_47 : decode cX7_life 47 = .ok (.iadd, 1) := by decide +kernel
theorem dX7_life_48 : decode cX7_life 48 = .ok (.iaload, 1) := by decide +kernel
theorem dX7_life_49 : decode cX7_life 49 = .ok (.goto 31, 3) := by decide +kernel
theorem dX7_life_52 : decode cX7_life 52 = .ok (.iload_n 3, 1) := by decide +kernel
theorem dX7_life_53 : decode cX7_life 53 = .ok (.iconst 1, 1) := by decide +kernel
theorem dX7_life_54 : decode cX7_life 54 = .ok (.if_icmp .ne 16, 3) := by decide +kernel
theorem dX7_life_57 : decode cX7_life 57 = .ok (.aload_n 0, 1) := by decide +kernel
theorem dX7_life_58 : decode cX7_life 58 = .ok (.getfield 22, 3) := by decide +kernel
theorem dX7_life_61 : decode cX7_life 61 = .ok (.iconst 4, 1) := by decide +kernel
theorem dX7_life_62 : decode cX7_life 62 = .ok (.iload_n 1, 1) := by decide +kernel
theorem dX7_life_63 : decode cX7_life 63 = .ok (.imul, 1) := by decide +kernel
theorem dX7_life_64 : decode cX7_life 64 = .ok (.iload_n 2, 1) := by decide +kernel
theorem dX7_life_65 : decode cX7_life 65 = .ok (.iadd, 1) := by decide +kernel
theorem dX7_life_66 : decode cX7_life 66 = .ok (.iaload, 1) := by decide +kernel
theorem dX7_life_67 : decode cX7_life 67 = .ok (.goto 13, 3) := by decide +kernel
theorem dX7_life_70 : decode cX7_life 70 = .ok (.aload_n 0, 1) := by decide +kernel
theorem dX7_life_71 : decode cX7_life 71 = .ok (.aload_n 0, 1) := by decide +kernel
theorem dX7_life_72 : decode cX7_life 72 = .ok (.getfield 28, 3) := by decide +kernel
theorem dX7_life_75 : decode cX7_life 75 = .ok (.iload_n 1, 1) := by decide +kernel
theorem dX7_life_76 : decode cX7_life 76 = .ok (.iload_n 2, 1) := by decide +kernel
theorem dX7_life_77 : decode cX7_life 77 = .ok (.invokevirtual 174, 3) := by decide +kernel
theorem dX7_life_80 : decode cX7_life 80 = .ok (.ireturn, 1) := by decide +kernel
theorem dX7_end_0 : decode cX7_end 0 = .ok (.aload_n 0, 1) := by decide +kernel
theorem dX7_end_1 : decode cX7_end 1 = .ok (.iconst 0, 1) := by decide +kernel
theorem dX7_end_2 : decode cX7_end 2 = .ok (.putfield 75, 3) := by decide +kernel
theorem dX7_end_5 : decode cX7_end 5 = .ok (.aload_n 0, 1) := by decide +kernel
theorem dX7_end_6 : decode cX7_end 6 = .ok (.iload_n 1, 1) := by decide +kernel
theorem dX7_end_7 : decode cX7_end 7 = .ok (.invokevirtual 159, 3) := by decide +kernel
theorem dX7_end_10 : decode cX7_end 10 = .ok (.ifCond .eq 30, 3) := by decide +kernel
theorem dX7_end_13 : decode cX7_end 13 = .ok (.iload_n 2, 1) := by decide +kernel
theorem dX7_end_14 : decode cX7_end 14 = .ok (.iconst 0, 1) := by decide +kernel
theorem dX7_end_15 : decode cX7_end 15 = .ok (.aload_n 0, 1) := by decide +kernel
theorem dX7_end_16 : decode cX7_end 16 = .ok (.getfield 13, 3) := by decide +kernel
theorem dX7_end_19 : decode cX7_end 19 = .ok (.iload_n 1, 1) := by decide +kernel
theorem dX7_end_20 : decode cX7_end 20 = .ok (.iaload, 1) := by decide +kernel
theorem dX7_end_21 : decode cX7_end 21 = .ok (.invokestatic 78, 3) := by decide +kernel
theorem dX7_end_24 : decode cX7_end 24 = .ok (.ifCond .eq 16, 3) := by decide +kernel
theorem dX7_end_27 : decode cX7_end 27 = .ok (.aload_n 0, 1) := by decide +kernel
theorem dX7_end_28 : decode cX7_end 28 = .ok (.aload_n 0, 1) := by decide +kernel
theorem dX7_end_29 : decode cX7_end 29 = .ok (.getfield 28, 3) := by decide +kernel
theorem dX7_end_32 : decode cX7_end 32 = .ok (.iload_n 1, 1) := by decide +kernel
theorem dX7_end_33 : decode cX7_end 33 = .ok (.iload_n 2, 1) := by decide +kernel
theorem dX7_end_34 : decode cX7_end 34 = .ok (.invokevirtual 167, 3) := by decide +kernel
theorem dX7_end_37 : decode cX7_end 37 = .ok (.goto 4, 3) := by decide +kernel
theorem dX7_end_40 : decode cX7_end 40 = .ok (.iconst (-1), 1) := by decide +kernel
theorem dX7_end_41 : decode cX7_end 41 = .ok (.ireturn, 1) := by decide +kernel
theorem dX7_place_0 : decode cX7_place 0 = .ok (.aload_n 0, 1) := by decide +kernel
theorem dX7_place_1 : decode cX7_place 1 = .ok (.iconst 0, 1) := by decide +kernel
theorem dX7_place_2 : decode cX7_place 2 = .ok (.putfield 75, 3) := by decide +kernel
theorem dX7_place_5 : decode cX7_place 5 = .ok (.aload_n 0, 1) := by decide +kernel
theorem dX7_place_6 : decode cX7_place 6 = .ok (.iload_n 1, 1) := by decide +kernel
theorem dX7_place_7 : decode cX7_place 7 = .ok (.invokevirtual 177, 3) := by decide +kernel
theorem dX7_place_10 : decode cX7_place 10 = .ok (.ifCond .eq 12, 3) := by decide +kernel
theorem dX7_place_13 : decode cX7_place 13 = .ok (.aload_n 0, 1) := by decide +kernel
theorem dX7_place_14 : decode cX7_place 14 = .ok (.getfield 25, 3) := by decide +kernel
theorem dX7_place_17 : decode cX7_place 17 = .ok (.iload_n 1, 1) := by decide +kernel
theorem dX7_place_18 : decode cX7_place 18 = .ok (.iaload, 1) := by decide +kernel
theorem dX7_place_19 : decode cX7_place 19 = .ok (.goto 4, 3) := by decide +kernel
theorem dX7_place_22 : decode cX7_place 22 = .ok (.iconst (-1), 1) := by decide +kernel
theorem dX7_place_23 : decode cX7_place 23 = .ok (.ireturn, 1) := by decide +kernel
theorem dX7_held_0 : decode cX7_held 0 = .ok (.iload_n 0, 1) := by decide +kernel
theorem dX7_held_1 : decode cX7_held 1 = .ok (.ifCond .ge 7, 3) := by decide +kernel
theorem dX7_held_4 : decode cX7_held 4 = .ok (.iconst 0, 1) := by decide +kernel
theorem dX7_held_5 : decode cX7_held 5 = .ok (.goto 13, 3) := by decide +kernel
theorem dX7_held_8 : decode cX7_held 8 = .ok (.iload_n 0, 1) := by decide +kernel
theorem dX7_held_9 : decode cX7_held 9 = .ok (.iload_n 1, 1) := by decide +kernel
theorem dX7_held_10 : decode cX7_held 10 = .ok (.if_icmp .le 7, 3) := by decide +kernel
theorem dX7_held_13 : decode cX7_held 13 = .ok (.iload_n 1, 1) := by decide +kernel
theorem dX7_held_14 : decode cX7_held 14 = .ok (.goto 4, 3) := by decide +kernel
theorem dX7_held_17 : decode cX7_held 17 = .ok (.iload_n 0, 1) := by decide +kernel
theorem dX7_held_18 : decode cX7_held 18 = .ok (.ireturn, 1) := by decide +kernel
theorem dX7_goes_0 : decode cX7_goes 0 = .ok (.iconst 0, 1) := by decide +kernel
theorem dX7_goes_1 : decode cX7_goes 1 = .ok (.istore_n 2, 1) := by decide +kernel
theorem dX7_goes_2 : decode cX7_goes 2 = .ok (.iload_n 2, 1) := by decide +kernel
theorem dX7_goes_3 : decode cX7_goes 3 = .ok (.aload_n 0, 1) := by decide +kernel
theorem dX7_goes_4 : decode cX7_goes 4 = .ok (.getfield 144, 3) := by decide +kernel
theorem dX7_goes_7 : decode cX7_goes 7 = .ok (.if_icmp .ge 98, 3) := by decide +kernel
theorem dX7_goes_10 : decode cX7_goes 10 = .ok (.iconst 0, 1) := by decide +kernel
theorem dX7_goes_11 : decode cX7_goes 11 = .ok (.istore_n 3, 1) := by decide +kernel
theorem dX7_goes_12 : decode cX7_goes 12 = .ok (.iload_n 3, 1) := by decide +kernel
theorem dX7_goes_13 : decode cX7_goes 13 = .ok (.aload_n 0, 1) := by decide +kernel
theorem dX7_goes_14 : decode cX7_goes 14 = .ok (.getfield 141, 3) := by decide +kernel
theorem dX7_goes_17 : decode cX7_goes 17 = .ok (.if_icmp .ge 82, 3) := by decide +kernel
theorem dX7_goes_20 : decode cX7_goes 20 = .ok (.bipush 8, 2) := by decide +kernel
theorem dX7_goes_22 : decode cX7_goes 22 = .ok (.iconst 4, 1) := by decide +kernel
theorem dX7_goes_23 : decode cX7_goes 23 = .ok (.iload_n 2, 1) := by decide +kernel
theorem dX7_goes_24 : decode cX7_goes 24 = .ok (.imul, 1) := by decide +kernel
theorem dX7_goes_25 : decode cX7_goes 25 = .ok (.iadd, 1) := by decide +kernel
theorem dX7_goes_26 : decode cX7_goes 26 = .ok (.iload_n 3, 1) := by decide +kernel
theorem dX7_goes_27 : decode cX7_goes 27 = .ok (.iadd, 1) := by decide +kernel
theorem dX7_goes_28 : decode cX7_goes 28 = .ok (.istore 4, 2) := by decide +kernel
theorem dX7_goes_30 : decode cX7_goes 30 = .ok (.aload_n 0, 1) := by decide +kernel
theorem dX7_goes_31 : decode cX7_goes 31 = .ok (.aload_n 1, 1) := by decide +kernel
theorem dX7_goes_32 : decode cX7_goes 32 = .ok (.iload_n 2, 1) := by decide +kernel
theorem dX7_goes_33 : decode cX7_goes 33 = .ok (.iload_n 3, 1) := by decide +kernel
theorem dX7_goes_34 : decode cX7_goes 34 = .ok (.invokevirtual 174, 3) := by decide +kernel
theorem dX7_goes_37 : decode cX7_goes 37 = .ok (.istore 5, 2) := by decide +kernel
theorem dX7_goes_39 : decode cX7_goes 39 = .ok (.aload_n 1, 1) := by decide +kernel
theorem dX7_goes_40 : decode cX7_goes 40 = .ok (.iload 4, 2) := by decide +kernel
theorem dX7_goes_42 : decode cX7_goes 42 = .ok (.aload_n 1, 1) := by decide +kernel
theorem dX7_goes_43 : decode cX7_goes 43 = .ok (.iload 4, 2) := by decide +kernel
theorem dX7_goes_45 : decode cX7_goes 45 = .ok (.iaload, 1) := by decide +kernel
theorem dX7_goes_46 : decode cX7_goes 46 = .ok (.aload_n 0, 1) := by decide +kernel
theorem dX7_goes_47 : decode cX7_goes 47 = .ok (.getfield 22, 3) := by decide +kernel
theorem dX7_goes_50 : decode cX7_goes 50 = .ok (.iconst 4, 1) := by decide +kernel
theorem dX7_goes_51 : decode cX7_goes 51 = .ok (.iload_n 2, 1) := by decide +kernel
theorem dX7_goes_52 : decode cX7_goes 52 = .ok (.imul, 1) := by decide +kernel
theorem dX7_goes_53 : decode cX7_goes 53 = .ok (.iload_n 3, 1) := by decide +kernel
theorem dX7_goes_54 : decode cX7_goes 54 = .ok (.iadd, 1) := by decide +kernel
theorem dX7_goes_55 : decode cX7_goes 55 = .ok (.iaload, 1) := by decide +kernel
theorem dX7_goes_56 : decode cX7_goes 56 = .ok (.iadd, 1) := by decide +kernel
theorem dX7_goes_57 : decode cX7_goes 57 = .ok (.iconst 3, 1) := by decide +kernel
theorem dX7_goes_58 : decode cX7_goes 58 = .ok (.isub, 1) := by decide +kernel
theorem dX7_goes_59 : decode cX7_goes 59 = .ok (.aload_n 0, 1) := by decide +kernel
theorem dX7_goes_60 : decode cX7_goes 60 = .ok (.getfield 13, 3) := by decide +kernel
theorem dX7_goes_63 : decode cX7_goes 63 = .ok (.iload_n 3, 1) := by decide +kernel
theorem dX7_goes_64 : decode cX7_goes 64 = .ok (.iaload, 1) := by decide +kernel
theorem dX7_goes_65 : decode cX7_goes 65 = .ok (.invokestatic 180, 3) := by decide +kernel
theorem dX7_goes_68 : decode cX7_goes 68 = .ok (.iastore, 1) := by decide +kernel
theorem dX7_goes_69 : decode cX7_goes 69 = .ok (.aload_n 1, 1) := by decide +kernel
theorem dX7_goes_70 : decode cX7_goes 70 = .ok (.bipush 25, 2) := by decide +kernel
theorem dX7_goes_72 : decode cX7_goes 72 = .ok (.dup2, 1) := by decide +kernel
theorem dX7_goes_73 : decode cX7_goes 73 = .ok (.iaload, 1) := by decide +kernel
theorem dX7_goes_74 : decode cX7_goes 74 = .ok (.aload_n 0, 1) := by decide +kernel
theorem dX7_goes_75 : decode cX7_goes 75 = .ok (.aload_n 1, 1) := by decide +kernel
theorem dX7_goes_76 : decode cX7_goes 76 = .ok (.iload_n 2, 1) := by decide +kernel
theorem dX7_goes_77 : decode cX7_goes 77 = .ok (.iload_n 3, 1) := by decide +kernel
theorem dX7_goes_78 : decode cX7_goes 78 = .ok (.invokevirtual 174, 3) := by decide +kernel
theorem dX7_goes_81 : decode cX7_goes 81 = .ok (.iload 5, 2) := by decide +kernel
theorem dX7_goes_83 : decode cX7_goes 83 = .ok (.if_icmp .ne 7, 3) := by decide +kernel
theorem dX7_goes_86 : decode cX7_goes 86 = .ok (.iconst 0, 1) := by decide +kernel
theorem dX7_goes_87 : decode cX7_goes 87 = .ok (.goto 4, 3) := by decide +kernel
theorem dX7_goes_90 : decode cX7_goes 90 = .ok (.iconst 1, 1) := by decide +kernel
theorem dX7_goes_91 : decode cX7_goes 91 = .ok (.iadd, 1) := by decide +kernel
theorem dX7_goes_92 : decode cX7_goes 92 = .ok (.iastore, 1) := by decide +kernel
theorem dX7_goes_93 : decode cX7_goes 93 = .ok (.iinc 3 1, 3) := by decide +kernel
theorem dX7_goes_96 : decode cX7_goes 96 = .ok (.goto (-84), 3) := by decide +kernel
theorem dX7_goes_99 : decode cX7_goes 99 = .ok (.iinc 2 1, 3) := by decide +kernel
theorem dX7_goes_102 : decode cX7_goes 102 = .ok (.goto (-100), 3) := by decide +kernel
theorem dX7_goes_105 : decode cX7_goes 105 = .ok (.aload_n 1, 1) := by decide +kernel
theorem dX7_goes_106 : decode cX7_goes 106 = .ok (.bipush 24, 2) := by decide +kernel
theorem dX7_goes_108 : decode cX7_goes 108 = .ok (.dup2, 1) := by decide +kernel
theorem dX7_goes_109 : decode cX7_goes 109 = .ok (.iaload, 1) := by decide +kernel
theorem dX7_goes_110 : decode cX7_goes 110 = .ok (.iconst 1, 1) := by decide +kernel
theorem dX7_goes_111 : decode cX7_goes 111 = .ok (.iadd, 1) := by decide +kernel
theorem dX7_goes_112 : decode cX7_goes 112 = .ok (.iastore, 1) := by decide +kernel
theorem dX7_goes_113 : decode cX7_goes 113 = .ok (.return_, 1) := by decide +kernel
theorem dX7_notes_0 : decode cX7_notes 0 = .ok (.aload_n 0, 1) := by decide +kernel
theorem dX7_notes_1 : decode cX7_notes 1 = .ok (.getfield 150, 3) := by decide +kernel
theorem dX7_notes_4 : decode cX7_notes 4 = .ok (.bipush 10, 2) := by decide +kernel
theorem dX7_notes_6 : decode cX7_notes 6 = .ok (.if_icmp .ne 39, 3) := by decide +kernel
theorem dX7_notes_9 : decode cX7_notes 9 = .ok (.iconst 0, 1) := by decide +kernel
theorem dX7_notes_10 : decode cX7_notes 10 = .ok (.istore_n 1, 1) := by decide +kernel
theorem dX7_notes_11 : decode cX7_notes 11 = .ok (.iload_n 1, 1) := by decide +kernel
theorem dX7_notes_12 : decode cX7_notes 12 = .ok (.sipush 234, 3) := by decide +kernel
theorem dX7_notes_15 : decode cX7_notes 15 = .ok (.if_icmp .ge 24, 3) := by decide +kernel
theorem dX7_notes_18 : decode cX7_notes 18 = .ok (.aload_n 0, 1) := by decide +kernel
theorem dX7_notes_19 : decode cX7_notes 19 = .ok (.getfield 41, 3) := by decide +kernel
theorem dX7_notes_22 : decode cX7_notes 22 = .ok (.iload_n 1, 1) := by decide +kernel
theorem dX7_notes_23 : decode cX7_notes 23 = .ok (.aload_n 0, 1) := by decide +kernel
theorem dX7_notes_24 : decode cX7_notes 24 = .ok (.getfield 41, 3) := by decide +kernel
theorem dX7_notes_27 : decode cX7_notes 27 = .ok (.iload_n 1, 1) := by decide +kernel
theorem dX7_notes_28 : decode cX7_notes 28 = .ok (.bipush 26, 2) := by decide +kernel
theorem dX7_notes_30 : decode cX7_notes 30 = .ok (.iadd, 1) := by decide +kernel
theorem dX7_notes_31 : decode cX7_notes 31 = .ok (.iaload, 1) := by decide +kernel
theorem dX7_notes_32 : decode cX7_notes 32 = .ok (.iastore, 1) := by decide +kernel
theorem dX7_notes_33 : decode cX7_notes 33 = .ok (.iinc 1 1, 3) := by decide +kernel
theorem dX7_notes_36 : decode cX7_notes 36 = .ok (.goto (-25), 3) := by decide +kernel
theorem dX7_notes_39 : decode cX7_notes 39 = .ok (.aload_n 0, 1) := by decide +kernel
theorem dX7_notes_40 : decode cX7_notes 40 = .ok (.bipush 9, 2) := by decide +kernel
theorem dX7_notes_42 : decode cX7_notes 42 = .ok (.putfield 150, 3) := by decide +kernel
theorem dX7_notes_45 : decode cX7_notes 45 = .ok (.iconst 0, 1) := by decide +kernel
theorem dX7_notes_46 : decode cX7_notes 46 = .ok (.istore_n 1, 1) := by decide +kernel
theorem dX7_notes_47 : decode cX7_notes 47 = .ok (.iload_n 1, 1) := by decide +kernel
theorem dX7_notes_48 : decode cX7_notes 48 = .ok (.bipush 26, 2) := by decide +kernel
theorem dX7_notes_50 : decode cX7_notes 50 = .ok (.if_icmp .ge 29, 3) := by decide +kernel
theorem dX7_notes_53 : decode cX7_notes 53 = .ok (.aload_n 0, 1) := by decide +kernel
theorem dX7_notes_54 : decode cX7_notes 54 = .ok (.getfield 41, 3) := by decide +kernel
theorem dX7_notes_57 : decode cX7_notes 57 = .ok (.bipush 26, 2) := by decide +kernel
theorem dX7_notes_59 : decode cX7_notes 59 = .ok (.aload_n 0, 1) := by decide +kernel
theorem dX7_notes_60 : decode cX7_notes 60 = .ok (.getfield 150, 3) := by decide +kernel
theorem dX7_notes_63 : decode cX7_notes 63 = .ok (.imul, 1) := by decide +kernel
theorem dX7_notes_64 : decode cX7_notes 64 = .ok (.iload_n 1, 1) := by decide +kernel
theorem dX7_notes_65 : decode cX7_notes 65 = .ok (.iadd, 1) := by decide +kernel
theorem dX7_notes_66 : decode cX7_notes 66 = .ok (.aload_n 0, 1) := by decide +kernel
theorem dX7_notes_67 : decode cX7_notes 67 = .ok (.getfield 28, 3) := by decide +kernel
theorem dX7_notes_70 : decode cX7_notes 70 = .ok (.iload_n 1, 1) := by decide +kernel
theorem dX7_notes_71 : decode cX7_notes 71 = .ok (.iaload, 1) := by decide +kernel
theorem dX7_notes_72 : decode cX7_notes 72 = .ok (.iastore, 1) := by decide +kernel
theorem dX7_notes_73 : decode cX7_notes 73 = .ok (.iinc 1 1, 3) := by decide +kernel
theorem dX7_notes_76 : decode cX7_notes 76 = .ok (.goto (-29), 3) := by decide +kernel
theorem dX7_notes_79 : decode cX7_notes 79 = .ok (.aload_n 0, 1) := by decide +kernel
theorem dX7_notes_80 : decode cX7_notes 80 = .ok (.dup, 1) := by decide +kernel
theorem dX7_notes_81 : decode cX7_notes 81 = .ok (.getfield 150, 3) := by decide +kernel
theorem dX7_notes_84 : decode cX7_notes 84 = .ok (.iconst 1, 1) := by decide +kernel
theorem dX7_notes_85 : decode cX7_notes 85 = .ok (.iadd, 1) := by decide +kernel
theorem dX7_notes_86 : decode cX7_notes 86 = .ok (.putfield 150, 3) := by decide +kernel
theorem dX7_notes_89 : decode cX7_notes 89 = .ok (.return_, 1) := by decide +kernel
theorem dX7_passes_0 : decode cX7_passes 0 = .ok (.aload_n 0, 1) := by decide +kernel
theorem dX7_passes_1 : decode cX7_passes 1 = .ok (.iconst 0, 1) := by decide +kernel
theorem dX7_passes_2 : decode cX7_passes 2 = .ok (.putfield 75, 3) := by decide +kernel
theorem dX7_passes_5 : decode cX7_passes 5 = .ok (.iload_n 1, 1) := by decide +kernel
theorem dX7_passes_6 : decode cX7_passes 6 = .ok (.iconst 1, 1) := by decide +kernel
theorem dX7_passes_7 : decode cX7_passes 7 = .ok (.bipush 30, 2) := by decide +kernel
theorem dX7_passes_9 : decode cX7_passes 9 = .ok (.invokestatic 78, 3) := by decide +kernel
theorem dX7_passes_12 : decode cX7_passes 12 = .ok (.ifCond .ne 5, 3) := by decide +kernel
theorem dX7_passes_15 : decode cX7_passes 15 = .ok (.iconst (-1), 1) := by decide +kernel
theorem dX7_passes_16 : decode cX7_passes 16 = .ok (.ireturn, 1) := by decide +kernel
theorem dX7_passes_17 : decode cX7_passes 17 = .ok (.aload_n 0, 1) := by decide +kernel
theorem dX7_passes_18 : decode cX7_passes 18 = .ok (.getfield 28, 3) := by decide +kernel
theorem dX7_passes_21 : decode cX7_passes 21 = .ok (.bipush 24, 2) := by decide +kernel
theorem dX7_passes_23 : decode cX7_passes 23 = .ok (.iaload, 1) := by decide +kernel
theorem dX7_passes_24 : decode cX7_passes 24 = .ok (.iload_n 1, 1) := by decide +kernel
theorem dX7_passes_25 : decode cX7_passes 25 = .ok (.iadd, 1) := by decide +kernel
theorem dX7_passes_26 : decode cX7_passes 26 = .ok (.bipush 99, 2) := by decide +kernel
theorem dX7_passes_28 : decode cX7_passes 28 = .ok (.if_icmp .le 6, 3) := by decide +kernel
theorem dX7_passes_31 : decode cX7_passes 31 = .ok (.bipush (-2), 2) := by decide +kernel
theorem dX7_passes_33 : decode cX7_passes 33 = .ok (.ireturn, 1) := by decide +kernel
theorem dX7_passes_34 : decode cX7_passes 34 = .ok (.aload_n 0, 1) := by decide +kernel
theorem dX7_passes_35 : decode cX7_passes 35 = .ok (.invokevirtual 183, 3) := by decide +kernel
theorem dX7_passes_38 : decode cX7_passes 38 = .ok (.iconst 0, 1) := by decide +kernel
theorem dX7_passes_39 : decode cX7_passes 39 = .ok (.istore_n 2, 1) := by decide +kernel
theorem dX7_passes_40 : decode cX7_passes 40 = .ok (.iload_n 2, 1) := by decide +kernel
theorem dX7_passes_41 : decode cX7_passes 41 = .ok (.iload_n 1, 1) := by decide +kernel
theorem dX7_passes_42 : decode cX7_passes 42 = .ok (.if_icmp .ge 17, 3) := by decide +kernel
theorem dX7_passes_45 : decode cX7_passes 45 = .ok (.aload_n 0, 1) := by decide +kernel
theorem dX7_passes_46 : decode cX7_passes 46 = .ok (.aload_n 0, 1) := by decide +kernel
theorem dX7_passes_47 : decode cX7_passes 47 = .ok (.getfield 28, 3) := by decide +kernel
theorem dX7_passes_50 : decode cX7_passes 50 = .ok (.invokevirtual 186, 3) := by decide +kernel
theorem dX7_passes_53 : decode cX7_passes 53 = .ok (.iinc 2 1, 3) := by decide +kernel
theorem dX7_passes_56 : decode cX7_passes 56 = .ok (.goto (-16), 3) := by decide +kernel
theorem dX7_passes_59 : decode cX7_passes 59 = .ok (.aload_n 0, 1) := by decide +kernel
theorem dX7_passes_60 : decode cX7_passes 60 = .ok (.getfield 28, 3) := by decide +kernel
theorem dX7_passes_63 : decode cX7_passes 63 = .ok (.bipush 24, 2) := by decide +kernel
theorem dX7_passes_65 : decode cX7_passes 65 = .ok (.iaload, 1) := by decide +kernel
theorem dX7_passes_66 : decode cX7_passes 66 = .ok (.ireturn, 1) := by decide +kernel
theorem dX7_changes_0 : decode cX7_changes 0 = .ok (.aload_n 0, 1) := by decide +kernel
theorem dX7_changes_1 : decode cX7_changes 1 = .ok (.iconst 0, 1) := by decide +kernel
theorem dX7_changes_2 : decode cX7_changes 2 = .ok (.putfield 75, 3) := by decide +kernel
theorem dX7_changes_5 : decode cX7_changes 5 = .ok (.aload_n 0, 1) := by decide +kernel
theorem dX7_changes_6 : decode cX7_changes 6 = .ok (.iload_n 1, 1) := by decide +kernel
theorem dX7_changes_7 : decode cX7_changes 7 = .ok (.invokevirtual 171, 3) := by decide +kernel
theorem dX7_changes_10 : decode cX7_changes 10 = .ok (.ifCond .eq 22, 3) := by decide +kernel
theorem dX7_changes_13 : decode cX7_changes 13 = .ok (.aload_n 0, 1) := by decide +kernel
theorem dX7_changes_14 : decode cX7_changes 14 = .ok (.iload_n 2, 1) := by decide +kernel
theorem dX7_changes_15 : decode cX7_changes 15 = .ok (.invokevirtual 159, 3) := by decide +kernel
theorem dX7_changes_18 : decode cX7_changes 18 = .ok (.ifCond .eq 14, 3) := by decide +kernel
theorem dX7_changes_21 : decode cX7_changes 21 = .ok (.iload_n 3, 1) := by decide +kernel
theorem dX7_changes_22 : decode cX7_changes 22 = .ok (.bipush (-9), 2) := by decide +kernel
theorem dX7_changes_24 : decode cX7_changes 24 = .ok (.bipush 9, 2) := by decide +kernel
theorem dX7_changes_26 : decode cX7_changes 26 = .ok (.invokestatic 78, 3) := by decide +kernel
theorem dX7_changes_29 : decode cX7_changes 29 = .ok (.ifCond .ne 5, 3) := by decide +kernel
theorem dX7_changes_32 : decode cX7_changes 32 = .ok (.iconst (-1), 1) := by decide +kernel
theorem dX7_changes_33 : decode cX7_changes 33 = .ok (.ireturn, 1) := by decide +kernel
theorem dX7_changes_34 : decode cX7_changes 34 = .ok (.aload_n 0, 1) := by decide +kernel
theorem dX7_changes_35 : decode cX7_changes 35 = .ok (.invokevirtual 183, 3) := by decide +kernel
theorem dX7_changes_38 : decode cX7_changes 38 = .ok (.bipush 8, 2) := by decide +kernel
theorem dX7_changes_40 : decode cX7_changes 40 = .ok (.iconst 4, 1) := by decide +kernel
theorem dX7_changes_41 : decode cX7_changes 41 = .ok (.iload_n 1, 1) := by decide +kernel
theorem dX7_changes_42 : decode cX7_changes 42 = .ok (.imul, 1) := by decide +kernel
theorem dX7_changes_43 : decode cX7_changes 43 = .ok (.iadd, 1) := by decide +kernel
theorem dX7_changes_44 : decode cX7_changes 44 = .ok (.iload_n 2, 1) := by decide +kernel
theorem dX7_changes_45 : decode cX7_changes 45 = .ok (.iadd, 1) := by decide +kernel
theorem dX7_changes_46 : decode cX7_changes 46 = .ok (.istore 4, 2) := by decide +kernel
theorem dX7_changes_48 : decode cX7_changes 48 = .ok (.aload_n 0, 1) := by decide +kernel
theorem dX7_changes_49 : decode cX7_changes 49 = .ok (.getfield 28, 3) := by decide +kernel
theorem dX7_changes_52 : decode cX7_changes 52 = .ok (.iload 4, 2) := by decide +kernel
theorem dX7_changes_54 : decode cX7_changes 54 = .ok (.aload_n 0, 1) := by decide +kernel
theorem dX7_changes_55 : decode cX7_changes 55 = .ok (.getfield 28, 3) := by decide +kernel
theorem dX7_changes_58 : decode cX7_changes 58 = .ok (.iload 4, 2) := by decide +kernel
theorem dX7_changes_60 : decode cX7_changes 60 = .ok (.iaload, 1) := by decide +kernel
theorem dX7_changes_61 : decode cX7_changes 61 = .ok (.iload_n 3, 1) := by decide +kernel
theorem dX7_changes_62 : decode cX7_changes 62 = .ok (.iadd, 1) := by decide +kernel
theorem dX7_changes_63 : decode cX7_changes 63 = .ok (.aload_n 0, 1) := by decide +kernel
theorem dX7_changes_64 : decode cX7_changes 64 = .ok (.getfield 13, 3) := by decide +kernel
theorem dX7_changes_67 : decode cX7_changes 67 = .ok (.iload_n 2, 1) := by decide +kernel
theorem dX7_changes_68 : decode cX7_changes 68 = .ok (.iaload, 1) := by decide +kernel
theorem dX7_changes_69 : decode cX7_changes 69 = .ok (.invokestatic 180, 3) := by decide +kernel
theorem dX7_changes_72 : decode cX7_changes 72 = .ok (.iastore, 1) := by decide +kernel
theorem dX7_changes_73 : decode cX7_changes 73 = .ok (.aload_n 0, 1) := by decide +kernel
theorem dX7_changes_74 : decode cX7_changes 74 = .ok (.getfield 28, 3) := by decide +kernel
theorem dX7_changes_77 : decode cX7_changes 77 = .ok (.iload 4, 2) := by decide +kernel
theorem dX7_changes_79 : decode cX7_changes 79 = .ok (.iaload, 1) := by decide +kernel
theorem dX7_changes_80 : decode cX7_changes 80 = .ok (.ireturn, 1) := by decide +kernel
theorem dX7_isLaw_0 : decode cX7_isLaw 0 = .ok (.aload_n 0, 1) := by decide +kernel
theorem dX7_isLaw_1 : decode cX7_isLaw 1 = .ok (.iload_n 1, 1) := by decide +kernel
theorem dX7_isLaw_2 : decode cX7_isLaw 2 = .ok (.invokevirtual 159, 3) := by decide +kernel
theorem dX7_isLaw_5 : decode cX7_isLaw 5 = .ok (.ifCond .eq 30, 3) := by decide +kernel
theorem dX7_isLaw_8 : decode cX7_isLaw 8 = .ok (.iload_n 2, 1) := by decide +kernel
theorem dX7_isLaw_9 : decode cX7_isLaw 9 = .ok (.iconst 0, 1) := by decide +kernel
theorem dX7_isLaw_10 : decode cX7_isLaw 10 = .ok (.iconst 3, 1) := by decide +kernel
theorem dX7_isLaw_11 : decode cX7_isLaw 11 = .ok (.invokestatic 78, 3) := by decide +kernel
theorem dX7_isLaw_14 : decode cX7_isLaw 14 = .ok (.ifCond .eq 21, 3) := by decide +kernel
theorem dX7_isLaw_17 : decode cX7_isLaw 17 = .ok (.iload_n 3, 1) := by decide +kernel
theorem dX7_isLaw_18 : decode cX7_isLaw 18 = .ok (.iconst 1, 1) := by decide +kernel
theorem dX7_isLaw_19 : decode cX7_isLaw 19 = .ok (.aload_n 0, 1) := by decide +kernel
theorem dX7_isLaw_20 : decode cX7_isLaw 20 = .ok (.getfield 13, 3) := by decide +kernel
theorem dX7_isLaw_23 : decode cX7_isLaw 23 = .ok (.iload_n 1, 1) := by decide +kernel
theorem dX7_isLaw_24 : decode cX7_isLaw 24 = .ok (.iaload, 1) := by decide +kernel
theorem dX7_isLaw_25 : decode cX7_isLaw 25 = .ok (.invokestatic 78, 3) := by decide +kernel
theorem dX7_isLaw_28 : decode cX7_isLaw 28 = .ok (.ifCond .eq 7, 3) := by decide +kernel
theorem dX7_isLaw_31 : decode cX7_isLaw 31 = .ok (.iconst 1, 1) := by decide +kernel
theorem dX7_isLaw_32 : decode cX7_isLaw 32 = .ok (.goto 4, 3) := by decide +kernel
theorem dX7_isLaw_35 : decode cX7_isLaw 35 = .ok (.iconst 0, 1) := by decide +kernel
theorem dX7_isLaw_36 : decode cX7_isLaw 36 = .ok (.ireturn, 1) := by decide +kernel
theorem dX7_unlawfulOn_0 : decode cX7_unlawfulOn 0 = .ok (.iconst 0, 1) := by decide +kernel
theorem dX7_unlawfulOn_1 : decode cX7_unlawfulOn 1 = .ok (.istore_n 3, 1) := by decide +kernel
theorem dX7_unlawfulOn_2 : decode cX7_unlawfulOn 2 = .ok (.iload_n 3, 1) := by decide +kernel
theorem dX7_unlawfulOn_3 : decode cX7_unlawfulOn 3 = .ok (.aload_n 0, 1) := by decide +kernel
theorem dX7_unlawfulOn_4 : decode cX7_unlawfulOn 4 = .ok (.getfield 141, 3) := by decide +kernel
theorem dX7_unlawfulOn_7 : decode cX7_unlawfulOn 7 = .ok (.if_icmp .ge 22, 3) := by decide +kernel
theorem dX7_unlawfulOn_10 : decode cX7_unlawfulOn 10 = .ok (.aload_n 0, 1) := by decide +kernel
theorem dX7_unlawfulOn_11 : decode cX7_unlawfulOn 11 = .ok (.aload_n 1, 1) := by decide +kernel
theorem dX7_unlawfulOn_12 : decode cX7_unlawfulOn 12 = .ok (.iload_n 2, 1) := by decide +kernel
theorem dX7_unlawfulOn_13 : decode cX7_unlawfulOn 13 = .ok (.iload_n 3, 1) := by decide +kernel
theorem dX7_unlawfulOn_14 : decode cX7_unlawfulOn 14 = .ok (.invokevirtual 174, 3) := by decide +kernel
theorem dX7_unlawfulOn_17 : decode cX7_unlawfulOn 17 = .ok (.iconst 3, 1) := by decide +kernel
theorem dX7_unlawfulOn_18 : decode cX7_unlawfulOn 18 = .ok (.if_icmp .ne 5, 3) := by decide +kernel
theorem dX7_unlawfulOn_21 : decode cX7_unlawfulOn 21 = .ok (.iload_n 3, 1) := by decide +kernel
theorem dX7_unlawfulOn_22 : decode cX7_unlawfulOn 22 = .ok (.ireturn, 1) := by decide +kernel
theorem dX7_unlawfulOn_23 : decode cX7_unlawfulOn 23 = .ok (.iinc 3 1, 3) := by decide +kernel
theorem dX7_unlawfulOn_26 : decode cX7_unlawfulOn 26 = .ok (.goto (-24), 3) := by decide +kernel
theorem dX7_unlawfulOn_29 : decode cX7_unlawfulOn 29 = .ok (.bipush (-9), 2) := by decide +kernel
theorem dX7_unlawfulOn_31 : decode cX7_unlawfulOn 31 = .ok (.ireturn, 1) := by decide +kernel
theorem dX7_unlawful_0 : decode cX7_unlawful 0 = .ok (.iconst 0, 1) := by decide +kernel
theorem dX7_unlawful_1 : decode cX7_unlawful 1 = .ok (.istore_n 2, 1) := by decide +kernel
theorem dX7_unlawful_2 : decode cX7_unlawful 2 = .ok (.iconst 0, 1) := by decide +kernel
theorem dX7_unlawful_3 : decode cX7_unlawful 3 = .ok (.istore_n 3, 1) := by decide +kernel
theorem dX7_unlawful_4 : decode cX7_unlawful 4 = .ok (.iload_n 3, 1) := by decide +kernel
theorem dX7_unlawful_5 : decode cX7_unlawful 5 = .ok (.aload_n 0, 1) := by decide +kernel
theorem dX7_unlawful_6 : decode cX7_unlawful 6 = .ok (.getfield 144, 3) := by decide +kernel
theorem dX7_unlawful_9 : decode cX7_unlawful 9 = .ok (.if_icmp .ge 30, 3) := by decide +kernel
theorem dX7_unlawful_12 : decode cX7_unlawful 12 = .ok (.iload_n 2, 1) := by decide +kernel
theorem dX7_unlawful_13 : decode cX7_unlawful 13 = .ok (.aload_n 0, 1) := by decide +kernel
theorem dX7_unlawful_14 : decode cX7_unlawful 14 = .ok (.aload_n 1, 1) := by decide +kernel
theorem dX7_unlawful_15 : decode cX7_unlawful 15 = .ok (.iload_n 3, 1) := by decide +kernel
theorem dX7_unlawful_16 : decode cX7_unlawful 16 = .ok (.invokevirtual 190, 3) := by decide +kernel
theorem dX7_unlawful_19 : decode cX7_unlawful 19 = .ok (.bipush (-9), 2) := by decide +kernel
theorem dX7_unlawful_21 : decode cX7_unlawful 21 = .ok (.if_icmp .ne 7, 3) := by decide +kernel
theorem dX7_unlawful_24 : decode cX7_unlawful 24 = .ok (.iconst 0, 1) := by decide +kernel
theorem dX7_unlawful_25 : decode cX7_unlawful 25 = .ok (.goto 6, 3) := by decide +kernel
theorem dX7_unlawful_28 : decode cX7_unlawful 28 = .ok (.iconst 1, 1) := by decide +kernel
theorem dX7_unlawful_29 : decode cX7_unlawful 29 = .ok (.iload_n 3, 1) := by decide +kernel
theorem dX7_unlawful_30 : decode cX7_unlawful 30 = .ok (.ishl, 1) := by decide +kernel
theorem dX7_unlawful_31 : decode cX7_unlawful 31 = .ok (.ior, 1) := by decide +kernel
theorem dX7_unlawful_32 : decode cX7_unlawful 32 = .ok (.istore_n 2, 1) := by decide +kernel
theorem dX7_unlawful_33 : decode cX7_unlawful 33 = .ok (.iinc 3 1, 3) := by decide +kernel
theorem dX7_unlawful_36 : decode cX7_unlawful 36 = .ok (.goto (-32), 3) := by decide +kernel
theorem dX7_unlawful_39 : decode cX7_unlawful 39 = .ok (.iload_n 2, 1) := by decide +kernel
theorem dX7_unlawful_40 : decode cX7_unlawful 40 = .ok (.ireturn, 1) := by decide +kernel
theorem dX7_ones_0 : decode cX7_ones 0 = .ok (.iconst 0, 1) := by decide +kernel
theorem dX7_ones_1 : decode cX7_ones 1 = .ok (.istore_n 1, 1) := by decide +kernel
theorem dX7_ones_2 : decode cX7_ones 2 = .ok (.iconst 0, 1) := by decide +kernel
theorem dX7_ones_3 : decode cX7_ones 3 = .ok (.istore_n 2, 1) := by decide +kernel
theorem dX7_ones_4 : decode cX7_ones 4 = .ok (.iload_n 2, 1) := by decide +kernel
theorem dX7_ones_5 : decode cX7_ones 5 = .ok (.iconst 4, 1) := by decide +kernel
theorem dX7_ones_6 : decode cX7_ones 6 = .ok (.if_icmp .ge 17, 3) := by decide +kernel
theorem dX7_ones_9 : decode cX7_ones 9 = .ok (.iload_n 1, 1) := by decide +kernel
theorem dX7_ones_10 : decode cX7_ones 10 = .ok (.iload_n 0, 1) := by decide +kernel
theorem dX7_ones_11 : decode cX7_ones 11 = .ok (.iload_n 2, 1) := by decide +kernel
theorem dX7_ones_12 : decode cX7_ones 12 = .ok (.ishr, 1) := by decide +kernel
theorem dX7_ones_13 : decode cX7_ones 13 = .ok (.iconst 1, 1) := by decide +kernel
theorem dX7_ones_14 : decode cX7_ones 14 = .ok (.iand, 1) := by decide +kernel
theorem dX7_ones_15 : decode cX7_ones 15 = .ok (.iadd, 1) := by decide +kernel
theorem dX7_ones_16 : decode cX7_ones 16 = .ok (.istore_n 1, 1) := by decide +kernel
theorem dX7_ones_17 : decode cX7_ones 17 = .ok (.iinc 2 1, 3) := by decide +kernel
theorem dX7_ones_20 : decode cX7_ones 20 = .ok (.goto (-16), 3) := by decide +kernel
theorem dX7_ones_23 : decode cX7_ones 23 = .ok (.iload_n 1, 1) := by decide +kernel
theorem dX7_ones_24 : decode cX7_ones 24 = .ok (.ireturn, 1) := by decide +kernel
theorem dX7_law_0 : decode cX7_law 0 = .ok (.aload_n 0, 1) := by decide +kernel
theorem dX7_law_1 : decode cX7_law 1 = .ok (.iconst 0, 1) := by decide +kernel
theorem dX7_law_2 : decode cX7_law 2 = .ok (.putfield 75, 3) := by decide +kernel
theorem dX7_law_5 : decode cX7_law 5 = .ok (.aload_n 0, 1) := by decide +kernel
theorem dX7_law_6 : decode cX7_law 6 = .ok (.iload_n 1, 1) := by decide +kernel
theorem dX7_law_7 : decode cX7_law 7 = .ok (.iload_n 2, 1) := by decide +kernel
theorem dX7_law_8 : decode cX7_law 8 = .ok (.iload_n 3, 1) := by decide +kernel
theorem dX7_law_9 : decode cX7_law 9 = .ok (.invokevirtual 194, 3) := by decide +kernel
theorem dX7_law_12 : decode cX7_law 12 = .ok (.ifCond .ne 5, 3) := by decide +kernel
theorem dX7_law_15 : decode cX7_law 15 = .ok (.iconst (-1), 1) := by decide +kernel
theorem dX7_law_16 : decode cX7_law 16 = .ok (.ireturn, 1) := by decide +kernel
theorem dX7_law_17 : decode cX7_law 17 = .ok (.aload_n 0, 1) := by decide +kernel
theorem dX7_law_18 : decode cX7_law 18 = .ok (.invokevirtual 183, 3) := by decide +kernel
theorem dX7_law_21 : decode cX7_law 21 = .ok (.aload_n 0, 1) := by decide +kernel
theorem dX7_law_22 : decode cX7_law 22 = .ok (.getfield 28, 3) := by decide +kernel
theorem dX7_law_25 : decode cX7_law 25 = .ok (.iconst 2, 1) := by decide +kernel
theorem dX7_law_26 : decode cX7_law 26 = .ok (.iload_n 1, 1) := by decide +kernel
theorem dX7_law_27 : decode cX7_law 27 = .ok (.imul, 1) := by decide +kernel
theorem dX7_law_28 : decode cX7_law 28 = .ok (.iload_n 2, 1) := by decide +kernel
theorem dX7_law_29 : decode cX7_law 29 = .ok (.iastore, 1) := by decide +kernel
theorem dX7_law_30 : decode cX7_law 30 = .ok (.aload_n 0, 1) := by decide +kernel
theorem dX7_law_31 : decode cX7_law 31 = .ok (.getfield 28, 3) := by decide +kernel
theorem dX7_law_34 : decode cX7_law 34 = .ok (.iconst 2, 1) := by decide +kernel
theorem dX7_law_35 : decode cX7_law 35 = .ok (.iload_n 1, 1) := by decide +kernel
theorem dX7_law_36 : decode cX7_law 36 = .ok (.imul, 1) := by decide +kernel
theorem dX7_law_37 : decode cX7_law 37 = .ok (.iconst 1, 1) := by decide +kernel
theorem dX7_law_38 : decode cX7_law 38 = .ok (.iadd, 1) := by decide +kernel
theorem dX7_law_39 : decode cX7_law 39 = .ok (.iload_n 3, 1) := by decide +kernel
theorem dX7_law_40 : decode cX7_law 40 = .ok (.iastore, 1) := by decide +kernel
theorem dX7_law_41 : decode cX7_law 41 = .ok (.aload_n 0, 1) := by decide +kernel
theorem dX7_law_42 : decode cX7_law 42 = .ok (.aload_n 0, 1) := by decide +kernel
theorem dX7_law_43 : decode cX7_law 43 = .ok (.getfield 28, 3) := by decide +kernel
theorem dX7_law_46 : decode cX7_law 46 = .ok (.invokevirtual 197, 3) := by decide +kernel
theorem dX7_law_49 : decode cX7_law 49 = .ok (.invokestatic 201, 3) := by decide +kernel
theorem dX7_law_52 : decode cX7_law 52 = .ok (.ireturn, 1) := by decide +kernel
theorem dX7_undo_0 : decode cX7_undo 0 = .ok (.aload_n 0, 1) := by decide +kernel
theorem dX7_undo_1 : decode cX7_undo 1 = .ok (.iconst 0, 1) := by decide +kernel
theorem dX7_undo_2 : decode cX7_undo 2 = .ok (.putfield 75, 3) := by decide +kernel
theorem dX7_undo_5 : decode cX7_undo 5 = .ok (.aload_n 0, 1) := by decide +kernel
theorem dX7_undo_6 : decode cX7_undo 6 = .ok (.getfield 150, 3) := by decide +kernel
theorem dX7_undo_9 : decode cX7_undo 9 = .ok (.ifCond .ne 6, 3) := by decide +kernel
theorem dX7_undo_12 : decode cX7_undo 12 = .ok (.bipush (-2), 2) := by decide +kernel
theorem dX7_undo_14 : decode cX7_undo 14 = .ok (.ireturn, 1) := by decide +kernel
theorem dX7_undo_15 : decode cX7_undo 15 = .ok (.aload_n 0, 1) := by decide +kernel
theorem dX7_undo_16 : decode cX7_undo 16 = .ok (.dup, 1) := by decide +kernel
theorem dX7_undo_17 : decode cX7_undo 17 = .ok (.getfield 150, 3) := by decide +kernel
theorem dX7_undo_20 : decode cX7_undo 20 = .ok (.iconst 1, 1) := by decide +kernel
theorem dX7_undo_21 : decode cX7_undo 21 = .ok (.isub, 1) := by decide +kernel
theorem dX7_undo_22 : decode cX7_undo 22 = .ok (.putfield 150, 3) := by decide +kernel
theorem dX7_undo_25 : decode cX7_undo 25 = .ok (.iconst 0, 1) := by decide +kernel
theorem dX7_undo_26 : decode cX7_undo 26 = .ok (.istore_n 1, 1) := by decide +kernel
theorem dX7_undo_27 : decode cX7_undo 27 = .ok (.iload_n 1, 1) := by decide +kernel
theorem dX7_undo_28 : decode cX7_undo 28 = .ok (.bipush 26, 2) := by decide +kernel
theorem dX7_undo_30 : decode cX7_undo 30 = .ok (.if_icmp .ge 29, 3) := by decide +kernel
theorem dX7_undo_33 : decode cX7_undo 33 = .ok (.aload_n 0, 1) := by decide +kernel
theorem dX7_undo_34 : decode cX7_undo 34 = .ok (.getfield 28, 3) := by decide +kernel
theorem dX7_undo_37 : decode cX7_undo 37 = .ok (.iload_n 1, 1) := by decide +kernel
theorem dX7_undo_38 : decode cX7_undo 38 = .ok (.aload_n 0, 1) := by decide +kernel
theorem dX7_undo_39 : decode cX7_undo 39 = .ok (.getfield 41, 3) := by decide +kernel
theorem dX7_undo_42 : decode cX7_undo 42 = .ok (.bipush 26, 2) := by decide +kernel
theorem dX7_undo_44 : decode cX7_undo 44 = .ok (.aload_n 0, 1) := by decide +kernel
theorem dX7_undo_45 : decode cX7_undo 45 = .ok (.getfield 150, 3) := by decide +kernel
theorem dX7_undo_48 : decode cX7_undo 48 = .ok (.imul, 1) := by decide +kernel
theorem dX7_undo_49 : decode cX7_undo 49 = .ok (.iload_n 1, 1) := by decide +kernel
theorem dX7_undo_50 : decode cX7_undo 50 = .ok (.iadd, 1) := by decide +kernel
theorem dX7_undo_51 : decode cX7_undo 51 = .ok (.iaload, 1) := by decide +kernel
theorem dX7_undo_52 : decode cX7_undo 52 = .ok (.iastore, 1) := by decide +kernel
theorem dX7_undo_53 : decode cX7_undo 53 = .ok (.iinc 1 1, 3) := by decide +kernel
theorem dX7_undo_56 : decode cX7_undo 56 = .ok (.goto (-29), 3) := by decide +kernel
theorem dX7_undo_59 : decode cX7_undo 59 = .ok (.aload_n 0, 1) := by decide +kernel
theorem dX7_undo_60 : decode cX7_undo 60 = .ok (.getfield 150, 3) := by decide +kernel
theorem dX7_undo_63 : decode cX7_undo 63 = .ok (.ireturn, 1) := by decide +kernel
theorem dX7_countEnds_0 : decode cX7_countEnds 0 = .ok (.iconst 0, 1) := by decide +kernel
theorem dX7_countEnds_1 : decode cX7_countEnds 1 = .ok (.istore_n 3, 1) := by decide +kernel
theorem dX7_countEnds_2 : decode cX7_countEnds 2 = .ok (.iconst 0, 1) := by decide +kernel
theorem dX7_countEnds_3 : decode cX7_countEnds 3 = .ok (.istore 4, 2) := by decide +kernel
theorem dX7_countEnds_5 : decode cX7_countEnds 5 = .ok (.iload 4, 2) := by decide +kernel
theorem dX7_countEnds_7 : decode cX7_countEnds 7 = .ok (.aload_n 0, 1) := by decide +kernel
theorem dX7_countEnds_8 : decode cX7_countEnds 8 = .ok (.getfield 141, 3) := by decide +kernel
theorem dX7_countEnds_11 : decode cX7_countEnds 11 = .ok (.if_icmp .ge 32, 3) := by decide +kernel
theorem dX7_countEnds_14 : decode cX7_countEnds 14 = .ok (.iload_n 3, 1) := by decide +kernel
theorem dX7_countEnds_15 : decode cX7_countEnds 15 = .ok (.aload_n 0, 1) := by decide +kernel
theorem dX7_countEnds_16 : decode cX7_countEnds 16 = .ok (.aload_n 0, 1) := by decide +kernel
theorem dX7_countEnds_17 : decode cX7_countEnds 17 = .ok (.getfield 28, 3) := by decide +kernel
theorem dX7_countEnds_20 : decode cX7_countEnds 20 = .ok (.iload_n 1, 1) := by decide +kernel
theorem dX7_countEnds_21 : decode cX7_countEnds 21 = .ok (.iload 4, 2) := by decide +kernel
theorem dX7_countEnds_23 : decode cX7_countEnds 23 = .ok (.invokevirtual 174, 3) := by decide +kernel
theorem dX7_countEnds_26 : decode cX7_countEnds 26 = .ok (.iload_n 2, 1) := by decide +kernel
theorem dX7_countEnds_27 : decode cX7_countEnds 27 = .ok (.if_icmp .ne 7, 3) := by decide +kernel
theorem dX7_countEnds_30 : decode cX7_countEnds 30 = .ok (.iconst 1, 1) := by decide +kernel
theorem dX7_countEnds_31 : decode cX7_countEnds 31 = .ok (.goto 4, 3) := by decide +kernel
theorem dX7_countEnds_34 : decode cX7_countEnds 34 = .ok (.iconst 0, 1) := by decide +kernel
theorem dX7_countEnds_35 : decode cX7_countEnds 35 = .ok (.iadd, 1) := by decide +kernel
theorem dX7_countEnds_36 : decode cX7_countEnds 36 = .ok (.istore_n 3, 1) := by decide +kernel
theorem dX7_countEnds_37 : decode cX7_countEnds 37 = .ok (.iinc 4 1, 3) := by decide +kernel
theorem dX7_countEnds_40 : decode cX7_countEnds 40 = .ok (.goto (-35), 3) := by decide +kernel
theorem dX7_countEnds_43 : decode cX7_countEnds 43 = .ok (.iload_n 3, 1) := by decide +kernel
theorem dX7_countEnds_44 : decode cX7_countEnds 44 = .ok (.ireturn, 1) := by decide +kernel
theorem dX7_inDrawer_0 : decode cX7_inDrawer 0 = .ok (.iconst 0, 1) := by decide +kernel
theorem dX7_inDrawer_1 : decode cX7_inDrawer 1 = .ok (.istore_n 1, 1) := by decide +kernel
theorem dX7_inDrawer_2 : decode cX7_inDrawer 2 = .ok (.iconst 0, 1) := by decide +kernel
theorem dX7_inDrawer_3 : decode cX7_inDrawer 3 = .ok (.istore_n 2, 1) := by decide +kernel
theorem dX7_inDrawer_4 : decode cX7_inDrawer 4 = .ok (.iload_n 2, 1) := by decide +kernel
theorem dX7_inDrawer_5 : decode cX7_inDrawer 5 = .ok (.aload_n 0, 1) := by decide +kernel
theorem dX7_inDrawer_6 : decode cX7_inDrawer 6 = .ok (.getfield 144, 3) := by decide +kernel
theorem dX7_inDrawer_9 : decode cX7_inDrawer 9 = .ok (.if_icmp .ge 18, 3) := by decide +kernel
theorem dX7_inDrawer_12 : decode cX7_inDrawer 12 = .ok (.iload_n 1, 1) := by decide +kernel
theorem dX7_inDrawer_13 : decode cX7_inDrawer 13 = .ok (.aload_n 0, 1) := by decide +kernel
theorem dX7_inDrawer_14 : decode cX7_inDrawer 14 = .ok (.iload_n 2, 1) := by decide +kernel
theorem dX7_inDrawer_15 : decode cX7_inDrawer 15 = .ok (.iconst 2, 1) := by decide +kernel
theorem dX7_inDrawer_16 : decode cX7_inDrawer 16 = .ok (.invokevirtual 204, 3) := by decide +kernel
theorem dX7_inDrawer_19 : decode cX7_inDrawer 19 = .ok (.iadd, 1) := by decide +kernel
theorem dX7_inDrawer_20 : decode cX7_inDrawer 20 = .ok (.istore_n 1, 1) := by decide +kernel
theorem dX7_inDrawer_21 : decode cX7_inDrawer 21 = .ok (.iinc 2 1, 3) := by decide +kernel
theorem dX7_inDrawer_24 : decode cX7_inDrawer 24 = .ok (.goto (-20), 3) := by decide +kernel
theorem dX7_inDrawer_27 : decode cX7_inDrawer 27 = .ok (.iload_n 1, 1) := by decide +kernel
theorem dX7_inDrawer_28 : decode cX7_inDrawer 28 = .ok (.ireturn, 1) := by decide +kernel
theorem dX7_now_0 : decode cX7_now 0 = .ok (.aload_n 0, 1) := by decide +kernel
theorem dX7_now_1 : decode cX7_now 1 = .ok (.iconst 0, 1) := by decide +kernel
theorem dX7_now_2 : decode cX7_now 2 = .ok (.putfield 75, 3) := by decide +kernel
theorem dX7_now_5 : decode cX7_now 5 = .ok (.iload_n 1, 1) := by decide +kernel
theorem dX7_now_6 : decode cX7_now 6 = .ok (.iconst 0, 1) := by decide +kernel
theorem dX7_now_7 : decode cX7_now 7 = .ok (.iconst 5, 1) := by decide +kernel
theorem dX7_now_8 : decode cX7_now 8 = .ok (.invokestatic 78, 3) := by decide +kernel
theorem dX7_now_11 : decode cX7_now 11 = .ok (.ifCond .ne 5, 3) := by decide +kernel
theorem dX7_now_14 : decode cX7_now 14 = .ok (.iconst (-1), 1) := by decide +kernel
theorem dX7_now_15 : decode cX7_now 15 = .ok (.ireturn, 1) := by decide +kernel
theorem dX7_now_16 : decode cX7_now 16 = .ok (.iload_n 1, 1) := by decide +kernel
theorem dX7_now_17 : decode cX7_now 17 = .ok (.iconst 3, 1) := by decide +kernel
theorem dX7_now_18 : decode cX7_now 18 = .ok (.if_icmp .ge 38, 3) := by decide +kernel
theorem dX7_now_21 : decode cX7_now 21 = .ok (.iload_n 1, 1) := by decide +kernel
theorem dX7_now_22 : decode cX7_now 22 = .ok (.ifCond .ne 13, 3) := by decide +kernel
theorem dX7_now_25 : decode cX7_now 25 = .ok (.aload_n 0, 1) := by decide +kernel
theorem dX7_now_26 : decode cX7_now 26 = .ok (.getfield 28, 3) := by decide +kernel
theorem dX7_now_29 : decode cX7_now 29 = .ok (.bipush 24, 2) := by decide +kernel
theorem dX7_now_31 : decode cX7_now 31 = .ok (.iaload, 1) := by decide +kernel
theorem dX7_now_32 : decode cX7_now 32 = .ok (.goto 23, 3) := by decide +kernel
theorem dX7_now_35 : decode cX7_now 35 = .ok (.iload_n 1, 1) := by decide +kernel
theorem dX7_now_36 : decode cX7_now 36 = .ok (.iconst 1, 1) := by decide +kernel
theorem dX7_now_37 : decode cX7_now 37 = .ok (.if_icmp .ne 14, 3) := by decide +kernel
theorem dX7_now_40 : decode cX7_now 40 = .ok (.aload_n 0, 1) := by decide +kernel
theorem dX7_now_41 : decode cX7_now 41 = .ok (.aload_n 0, 1) := by decide +kernel
theorem dX7_now_42 : decode cX7_now 42 = .ok (.getfield 28, 3) := by decide +kernel
theorem dX7_now_45 : decode cX7_now 45 = .ok (.invokevirtual 197, 3) := by decide +kernel
theorem dX7_now_48 : decode cX7_now 48 = .ok (.goto 7, 3) := by decide +kernel
theorem dX7_now_51 : decode cX7_now 51 = .ok (.aload_n 0, 1) := by decide +kernel
theorem dX7_now_52 : decode cX7_now 52 = .ok (.invokevirtual 207, 3) := by decide +kernel
theorem dX7_now_55 : decode cX7_now 55 = .ok (.ireturn, 1) := by decide +kernel
theorem dX7_now_56 : decode cX7_now 56 = .ok (.iload_n 1, 1) := by decide +kernel
theorem dX7_now_57 : decode cX7_now 57 = .ok (.iconst 3, 1) := by decide +kernel
theorem dX7_now_58 : decode cX7_now 58 = .ok (.if_icmp .ne 22, 3) := by decide +kernel
theorem dX7_now_61 : decode cX7_now 61 = .ok (.aload_n 0, 1) := by decide +kernel
theorem dX7_now_62 : decode cX7_now 62 = .ok (.invokevirtual 207, 3) := by decide +kernel
theorem dX7_now_65 : decode cX7_now 65 = .ok (.aload_n 0, 1) := by decide +kernel
theorem dX7_now_66 : decode cX7_now 66 = .ok (.getfield 71, 3) := by decide +kernel
theorem dX7_now_69 : decode cX7_now 69 = .ok (.if_icmp .le 7, 3) := by decide +kernel
theorem dX7_now_72 : decode cX7_now 72 = .ok (.iconst 1, 1) := by decide +kernel
theorem dX7_now_73 : decode cX7_now 73 = .ok (.goto 26, 3) := by decide +kernel
theorem dX7_now_76 : decode cX7_now 76 = .ok (.iconst 0, 1) := by decide +kernel
theorem dX7_now_77 : decode cX7_now 77 = .ok (.goto 22, 3) := by decide +kernel
theorem dX7_now_80 : decode cX7_now 80 = .ok (.iload_n 1, 1) := by decide +kernel
theorem dX7_now_81 : decode cX7_now 81 = .ok (.iconst 4, 1) := by decide +kernel
theorem dX7_now_82 : decode cX7_now 82 = .ok (.if_icmp .ne 13, 3) := by decide +kernel
theorem dX7_now_85 : decode cX7_now 85 = .ok (.aload_n 0, 1) := by decide +kernel
theorem dX7_now_86 : decode cX7_now 86 = .ok (.getfield 28, 3) := by decide +kernel
theorem dX7_now_89 : decode cX7_now 89 = .ok (.bipush 25, 2) := by decide +kernel
theorem dX7_now_91 : decode cX7_now 91 = .ok (.iaload, 1) := by decide +kernel
theorem dX7_now_92 : decode cX7_now 92 = .ok (.goto 7, 3) := by decide +kernel
theorem dX7_now_95 : decode cX7_now 95 = .ok (.aload_n 0, 1) := by decide +kernel
theorem dX7_now_96 : decode cX7_now 96 = .ok (.getfield 150, 3) := by decide +kernel
theorem dX7_now_99 : decode cX7_now 99 = .ok (.ireturn, 1) := by decide +kernel
theorem dX7_asNow_0 : decode cX7_asNow 0 = .ok (.iconst 0, 1) := by decide +kernel
theorem dX7_asNow_1 : decode cX7_asNow 1 = .ok (.istore_n 1, 1) := by decide +kernel
theorem dX7_asNow_2 : decode cX7_asNow 2 = .ok (.iload_n 1, 1) := by decide +kernel
theorem dX7_asNow_3 : decode cX7_asNow 3 = .ok (.bipush 26, 2) := by decide +kernel
theorem dX7_asNow_5 : decode cX7_asNow 5 = .ok (.if_icmp .ge 21, 3) := by decide +kernel
theorem dX7_asNow_8 : decode cX7_asNow 8 = .ok (.aload_n 0, 1) := by decide +kernel
theorem dX7_asNow_9 : decode cX7_asNow 9 = .ok (.getfield 31, 3) := by decide +kernel
theorem dX7_asNow_12 : decode cX7_asNow 12 = .ok (.iload_n 1, 1) := by decide +kernel
theorem dX7_asNow_13 : decode cX7_asNow 13 = .ok (.aload_n 0, 1) := by decide +kernel
theorem dX7_asNow_14 : decode cX7_asNow 14 = .ok (.getfield 28, 3) := by decide +kernel
theorem dX7_asNow_17 : decode cX7_asNow 17 = .ok (.iload_n 1, 1) := by decide +kernel
theorem dX7_asNow_18 : decode cX7_asNow 18 = .ok (.iaload, 1) := by decide +kernel
theorem dX7_asNow_19 : decode cX7_asNow 19 = .ok (.iastore, 1) := by decide +kernel
theorem dX7_asNow_20 : decode cX7_asNow 20 = .ok (.iinc 1 1, 3) := by decide +kernel
theorem dX7_asNow_23 : decode cX7_asNow 23 = .ok (.goto (-21), 3) := by decide +kernel
theorem dX7_asNow_26 : decode cX7_asNow 26 = .ok (.return_, 1) := by decide +kernel
theorem dX7_behind_0 : decode cX7_behind 0 = .ok (.aload_n 0, 1) := by decide +kernel
theorem dX7_behind_1 : decode cX7_behind 1 = .ok (.iconst 0, 1) := by decide +kernel
theorem dX7_behind_2 : decode cX7_behind 2 = .ok (.putfield 75, 3) := by decide +kernel
theorem dX7_behind_5 : decode cX7_behind 5 = .ok (.iload_n 1, 1) := by decide +kernel
theorem dX7_behind_6 : decode cX7_behind 6 = .ok (.iconst 0, 1) := by decide +kernel
theorem dX7_behind_7 : decode cX7_behind 7 = .ok (.bipush 60, 2) := by decide +kernel
theorem dX7_behind_9 : decode cX7_behind 9 = .ok (.invokestatic 78, 3) := by decide +kernel
theorem dX7_behind_12 : decode cX7_behind 12 = .ok (.ifCond .eq 19, 3) := by decide +kernel
theorem dX7_behind_15 : decode cX7_behind 15 = .ok (.aload_n 0, 1) := by decide +kernel
theorem dX7_behind_16 : decode cX7_behind 16 = .ok (.iload_n 2, 1) := by decide +kernel
theorem dX7_behind_17 : decode cX7_behind 17 = .ok (.invokevirtual 171, 3) := by decide +kernel
theorem dX7_behind_20 : decode cX7_behind 20 = .ok (.ifCond .eq 11, 3) := by decide +kernel
theorem dX7_behind_23 : decode cX7_behind 23 = .ok (.aload_n 0, 1) := by decide +kernel
theorem dX7_behind_24 : decode cX7_behind 24 = .ok (.iload_n 3, 1) := by decide +kernel
theorem dX7_behind_25 : decode cX7_behind 25 = .ok (.invokevirtual 159, 3) := by decide +kernel
theorem dX7_behind_28 : decode cX7_behind 28 = .ok (.ifCond .ne 5, 3) := by decide +kernel
theorem dX7_behind_31 : decode cX7_behind 31 = .ok (.iconst (-1), 1) := by decide +kernel
theorem dX7_behind_32 : decode cX7_behind 32 = .ok (.ireturn, 1) := by decide +kernel
theorem dX7_behind_33 : decode cX7_behind 33 = .ok (.aload_n 0, 1) := by decide +kernel
theorem dX7_behind_34 : decode cX7_behind 34 = .ok (.invokevirtual 211, 3) := by decide +kernel
theorem dX7_behind_37 : decode cX7_behind 37 = .ok (.iconst 0, 1) := by decide +kernel
theorem dX7_behind_38 : decode cX7_behind 38 = .ok (.istore 4, 2) := by decide +kernel
theorem dX7_behind_40 : decode cX7_behind 40 = .ok (.iload 4, 2) := by decide +kernel
theorem dX7_behind_42 : decode cX7_behind 42 = .ok (.iload_n 1, 1) := by decide +kernel
theorem dX7_behind_43 : decode cX7_behind 43 = .ok (.if_icmp .ge 17, 3) := by decide +kernel
theorem dX7_behind_46 : decode cX7_behind 46 = .ok (.aload_n 0, 1) := by decide +kernel
theorem dX7_behind_47 : decode cX7_behind 47 = .ok (.aload_n 0, 1) := by decide +kernel
theorem dX7_behind_48 : decode cX7_behind 48 = .ok (.getfield 31, 3) := by decide +kernel
theorem dX7_behind_51 : decode cX7_behind 51 = .ok (.invokevirtual 186, 3) := by decide +kernel
theorem dX7_behind_54 : decode cX7_behind 54 = .ok (.iinc 4 1, 3) := by decide +kernel
theorem dX7_behind_57 : decode cX7_behind 57 = .ok (.goto (-17), 3) := by decide +kernel
theorem dX7_behind_60 : decode cX7_behind 60 = .ok (.aload_n 0, 1) := by decide +kernel
theorem dX7_behind_61 : decode cX7_behind 61 = .ok (.aload_n 0, 1) := by decide +kernel
theorem dX7_behind_62 : decode cX7_behind 62 = .ok (.getfield 31, 3) := by decide +kernel
theorem dX7_behind_65 : decode cX7_behind 65 = .ok (.iload_n 2, 1) := by decide +kernel
theorem dX7_behind_66 : decode cX7_behind 66 = .ok (.iload_n 3, 1) := by decide +kernel
theorem dX7_behind_67 : decode cX7_behind 67 = .ok (.invokevirtual 174, 3) := by decide +kernel
theorem dX7_behind_70 : decode cX7_behind 70 = .ok (.ireturn, 1) := by decide +kernel
theorem dX7_first_0 : decode cX7_first 0 = .ok (.aload_n 0, 1) := by decide +kernel
theorem dX7_first_1 : decode cX7_first 1 = .ok (.iconst 0, 1) := by decide +kernel
theorem dX7_first_2 : decode cX7_first 2 = .ok (.putfield 75, 3) := by decide +kernel
theorem dX7_first_5 : decode cX7_first 5 = .ok (.aload_n 0, 1) := by decide +kernel
theorem dX7_first_6 : decode cX7_first 6 = .ok (.iload_n 1, 1) := by decide +kernel
theorem dX7_first_7 : decode cX7_first 7 = .ok (.invokevirtual 171, 3) := by decide +kernel
theorem dX7_first_10 : decode cX7_first 10 = .ok (.ifCond .eq 12, 3) := by decide +kernel
theorem dX7_first_13 : decode cX7_first 13 = .ok (.iload_n 2, 1) := by decide +kernel
theorem dX7_first_14 : decode cX7_first 14 = .ok (.iconst 0, 1) := by decide +kernel
theorem dX7_first_15 : decode cX7_first 15 = .ok (.iconst 1, 1) := by decide +kernel
theorem dX7_first_16 : decode cX7_first 16 = .ok (.invokestatic 78, 3) := by decide +kernel
theorem dX7_first_19 : decode cX7_first 19 = .ok (.ifCond .ne 5, 3) := by decide +kernel
theorem dX7_first_22 : decode cX7_first 22 = .ok (.iconst (-1), 1) := by decide +kernel
theorem dX7_first_23 : decode cX7_first 23 = .ok (.ireturn, 1) := by decide +kernel
theorem dX7_first_24 : decode cX7_first 24 = .ok (.aload_n 0, 1) := by decide +kernel
theorem dX7_first_25 : decode cX7_first 25 = .ok (.invokevirtual 211, 3) := by decide +kernel
theorem dX7_first_28 : decode cX7_first 28 = .ok (.iconst 0, 1) := by decide +kernel
theorem dX7_first_29 : decode cX7_first 29 = .ok (.istore_n 3, 1) := by decide +kernel
theorem dX7_first_30 : decode cX7_first 30 = .ok (.iload_n 3, 1) := by decide +kernel
theorem dX7_first_31 : decode cX7_first 31 = .ok (.bipush 61, 2) := by decide +kernel
theorem dX7_first_33 : decode cX7_first 33 = .ok (.if_icmp .ge 46, 3) := by decide +kernel
theorem dX7_first_36 : decode cX7_first 36 = .ok (.aload_n 0, 1) := by decide +kernel
theorem dX7_first_37 : decode cX7_first 37 = .ok (.aload_n 0, 1) := by decide +kernel
theorem dX7_first_38 : decode cX7_first 38 = .ok (.getfield 31, 3) := by decide +kernel
theorem dX7_first_41 : decode cX7_first 41 = .ok (.iload_n 1, 1) := by decide +kernel
theorem dX7_first_42 : decode cX7_first 42 = .ok (.invokevirtual 190, 3) := by decide +kernel
theorem dX7_first_45 : decode cX7_first 45 = .ok (.istore 4, 2) := by decide +kernel
theorem dX7_first_47 : decode cX7_first 47 = .ok (.iload 4, 2) := by decide +kernel
theorem dX7_first_49 : decode cX7_first 49 = .ok (.bipush (-9), 2) := by decide +kernel
theorem dX7_first_51 : decode cX7_first 51 = .ok (.if_icmp .eq 14, 3) := by decide +kernel
theorem dX7_first_54 : decode cX7_first 54 = .ok (.iload_n 2, 1) := by decide +kernel
theorem dX7_first_55 : decode cX7_first 55 = .ok (.ifCond .ne 7, 3) := by decide +kernel
theorem dX7_first_58 : decode cX7_first 58 = .ok (.iload_n 3, 1) := by decide +kernel
theorem dX7_first_59 : decode cX7_first 59 = .ok (.goto 5, 3) := by decide +kernel
theorem dX7_first_62 : decode cX7_first 62 = .ok (.iload 4, 2) := by decide +kernel
theorem dX7_first_64 : decode cX7_first 64 = .ok (.ireturn, 1) := by decide +kernel
theorem dX7_first_65 : decode cX7_first 65 = .ok (.aload_n 0, 1) := by decide +kernel
theorem dX7_first_66 : decode cX7_first 66 = .ok (.aload_n 0, 1) := by decide +kernel
theorem dX7_first_67 : decode cX7_first 67 = .ok (.getfield 31, 3) := by decide +kernel
theorem dX7_first_70 : decode cX7_first 70 = .ok (.invokevirtual 186, 3) := by decide +kernel
theorem dX7_first_73 : decode cX7_first 73 = .ok (.iinc 3 1, 3) := by decide +kernel
theorem dX7_first_76 : decode cX7_first 76 = .ok (.goto (-46), 3) := by decide +kernel
theorem dX7_first_79 : decode cX7_first 79 = .ok (.bipush (-9), 2) := by decide +kernel
theorem dX7_first_81 : decode cX7_first 81 = .ok (.ireturn, 1) := by decide +kernel
theorem dX7_unlawfulYears_0 : decode cX7_unlawfulYears 0 = .ok (.iconst 0, 1) := by decide +kernel
theorem dX7_unlawfulYears_1 : decode cX7_unlawfulYears 1 = .ok (.istore_n 1, 1) := by decide +kernel
theorem dX7_unlawfulYears_2 : decode cX7_unlawfulYears 2 = .ok (.iconst 0, 1) := by decide +kernel
theorem dX7_unlawfulYears_3 : decode cX7_unlawfulYears 3 = .ok (.istore_n 2, 1) := by decide +kernel
theorem dX7_unlawfulYears_4 : decode cX7_unlawfulYears 4 = .ok (.iload_n 2, 1) := by decide +kernel
theorem dX7_unlawfulYears_5 : decode cX7_unlawfulYears 5 = .ok (.bipush 21, 2) := by decide +kernel
theorem dX7_unlawfulYears_7 : decode cX7_unlawfulYears 7 = .ok (.if_icmp .ge 31, 3) := by decide +kernel
theorem dX7_unlawfulYears_10 : decode cX7_unlawfulYears 10 = .ok (.iload_n 1, 1) := by decide +kernel
theorem dX7_unlawfulYears_11 : decode cX7_unlawfulYears 11 = .ok (.aload_n 0, 1) := by decide +kernel
theorem dX7_unlawfulYears_12 : decode cX7_unlawfulYears 12 = .ok (.aload_n 0, 1) := by decide +kernel
theorem dX7_unlawfulYears_13 : decode cX7_unlawfulYears 13 = .ok (.getfield 31, 3) := by decide +kernel
theorem dX7_unlawfulYears_16 : decode cX7_unlawfulYears 16 = .ok (.invokevirtual 197, 3) := by decide +kernel
theorem dX7_unlawfulYears_19 : decode cX7_unlawfulYears 19 = .ok (.invokestatic 201, 3) := by decide +kernel
theorem dX7_unlawfulYears_22 : decode cX7_unlawfulYears 22 = .ok (.iadd, 1) := by decide +kernel
theorem dX7_unlawfulYears_23 : decode cX7_unlawfulYears 23 = .ok (.istore_n 1, 1) := by decide +kernel
theorem dX7_unlawfulYears_24 : decode cX7_unlawfulYears 24 = .ok (.aload_n 0, 1) := by decide +kernel
theorem dX7_unlawfulYears_25 : decode cX7_unlawfulYears 25 = .ok (.aload_n 0, 1) := by decide +kernel
theorem dX7_unlawfulYears_26 : decode cX7_unlawfulYears 26 = .ok (.getfield 31, 3) := by decide +kernel
theorem dX7_unlawfulYears_29 : decode cX7_unlawfulYears 29 = .ok (.invokevirtual 186, 3) := by decide +kernel
theorem dX7_unlawfulYears_32 : decode cX7_unlawfulYears 32 = .ok (.iinc 2 1, 3) := by decide +kernel
theorem dX7_unlawfulYears_35 : decode cX7_unlawfulYears 35 = .ok (.goto (-31), 3) := by decide +kernel
theorem dX7_unlawfulYears_38 : decode cX7_unlawfulYears 38 = .ok (.iload_n 1, 1) := by decide +kernel
theorem dX7_unlawfulYears_39 : decode cX7_unlawfulYears 39 = .ok (.ireturn, 1) := by decide +kernel
theorem dX7_freed_0 : decode cX7_freed 0 = .ok (.aload_n 0, 1) := by decide +kernel
theorem dX7_freed_1 : decode cX7_freed 1 = .ok (.iconst 0, 1) := by decide +kernel
theorem dX7_freed_2 : decode cX7_freed 2 = .ok (.putfield 75, 3) := by decide +kernel
theorem dX7_freed_5 : decode cX7_freed 5 = .ok (.aload_n 0, 1) := by decide +kernel
theorem dX7_freed_6 : decode cX7_freed 6 = .ok (.iload_n 1, 1) := by decide +kernel
theorem dX7_freed_7 : decode cX7_freed 7 = .ok (.iload_n 2, 1) := by decide +kernel
theorem dX7_freed_8 : decode cX7_freed 8 = .ok (.iload_n 3, 1) := by decide +kernel
theorem dX7_freed_9 : decode cX7_freed 9 = .ok (.invokevirtual 194, 3) := by decide +kernel
theorem dX7_freed_12 : decode cX7_freed 12 = .ok (.ifCond .ne 6, 3) := by decide +kernel
theorem dX7_freed_15 : decode cX7_freed 15 = .ok (.ldc 214, 2) := by decide +kernel
theorem dX7_freed_17 : decode cX7_freed 17 = .ok (.ireturn, 1) := by decide +kernel
theorem dX7_freed_18 : decode cX7_freed 18 = .ok (.aload_n 0, 1) := by decide +kernel
theorem dX7_freed_19 : decode cX7_freed 19 = .ok (.invokevirtual 211, 3) := by decide +kernel
theorem dX7_freed_22 : decode cX7_freed 22 = .ok (.aload_n 0, 1) := by decide +kernel
theorem dX7_freed_23 : decode cX7_freed 23 = .ok (.invokevirtual 215, 3) := by decide +kernel
theorem dX7_freed_26 : decode cX7_freed 26 = .ok (.istore 4, 2) := by decide +kernel
theorem dX7_freed_28 : decode cX7_freed 28 = .ok (.aload_n 0, 1) := by decide +kernel
theorem dX7_freed_29 : decode cX7_freed 29 = .ok (.invokevirtual 211, 3) := by decide +kernel
theorem dX7_freed_32 : decode cX7_freed 32 = .ok (.aload_n 0, 1) := by decide +kernel
theorem dX7_freed_33 : decode cX7_freed 33 = .ok (.getfield 31, 3) := by decide +kernel
theorem dX7_freed_36 : decode cX7_freed 36 = .ok (.iconst 2, 1) := by decide +kernel
theorem dX7_freed_37 : decode cX7_freed 37 = .ok (.iload_n 1, 1) := by decide +kernel
theorem dX7_freed_38 : decode cX7_freed 38 = .ok (.imul, 1) := by decide +kernel
theorem dX7_freed_39 : decode cX7_freed 39 = .ok (.iload_n 2, 1) := by decide +kernel
theorem dX7_freed_40 : decode cX7_freed 40 = .ok (.iastore, 1) := by decide +kernel
theorem dX7_freed_41 : decode cX7_freed 41 = .ok (.aload_n 0, 1) := by decide +kernel
theorem dX7_freed_42 : decode cX7_freed 42 = .ok (.getfield 31, 3) := by decide +kernel
theorem dX7_freed_45 : decode cX7_freed 45 = .ok (.iconst 2, 1) := by decide +kernel
theorem dX7_freed_46 : decode cX7_freed 46 = .ok (.iload_n 1, 1) := by decide +kernel
theorem dX7_freed_47 : decode cX7_freed 47 = .ok (.imul, 1) := by decide +kernel
theorem dX7_freed_48 : decode cX7_freed 48 = .ok (.iconst 1, 1) := by decide +kernel
theorem dX7_freed_49 : decode cX7_freed 49 = .ok (.iadd, 1) := by decide +kernel
theorem dX7_freed_50 : decode cX7_freed 50 = .ok (.iload_n 3, 1) := by decide +kernel
theorem dX7_freed_51 : decode cX7_freed 51 = .ok (.iastore, 1) := by decide +kernel
theorem dX7_freed_52 : decode cX7_freed 52 = .ok (.iload 4, 2) := by decide +kernel
theorem dX7_freed_54 : decode cX7_freed 54 = .ok (.aload_n 0, 1) := by decide +kernel
theorem dX7_freed_55 : decode cX7_freed 55 = .ok (.invokevirtual 215, 3) := by decide +kernel
theorem dX7_freed_58 : decode cX7_freed 58 = .ok (.isub, 1) := by decide +kernel
theorem dX7_freed_59 : decode cX7_freed 59 = .ok (.ireturn, 1) := by decide +kernel
theorem dX7_jumpsOn_0 : decode cX7_jumpsOn 0 = .ok (.aload_n 0, 1) := by decide +kernel
theorem dX7_jumpsOn_1 : decode cX7_jumpsOn 1 = .ok (.invokevirtual 211, 3) := by decide +kernel
theorem dX7_jumpsOn_4 : decode cX7_jumpsOn 4 = .ok (.iconst 0, 1) := by decide +kernel
theorem dX7_jumpsOn_5 : decode cX7_jumpsOn 5 = .ok (.istore_n 3, 1) := by decide +kernel
theorem dX7_jumpsOn_6 : decode cX7_jumpsOn 6 = .ok (.iconst 0, 1) := by decide +kernel
theorem dX7_jumpsOn_7 : decode cX7_jumpsOn 7 = .ok (.istore 4, 2) := by decide +kernel
theorem dX7_jumpsOn_9 : decode cX7_jumpsOn 9 = .ok (.iload 4, 2) := by decide +kernel
theorem dX7_jumpsOn_11 : decode cX7_jumpsOn 11 = .ok (.bipush 20, 2) := by decide +kernel
theorem dX7_jumpsOn_13 : decode cX7_jumpsOn 13 = .ok (.if_icmp .ge 122, 3) := by decide +kernel
theorem dX7_jumpsOn_16 : decode cX7_jumpsOn 16 = .ok (.iconst 0, 1) := by decide +kernel
theorem dX7_jumpsOn_17 : decode cX7_jumpsOn 17 = .ok (.istore 5, 2) := by decide +kernel
theorem dX7_jumpsOn_19 : decode cX7_jumpsOn 19 = .ok (.iload 5, 2) := by decide +kernel
theorem dX7_jumpsOn_21 : decode cX7_jumpsOn 21 = .ok (.aload_n 0, 1) := by decide +kernel
theorem dX7_jumpsOn_22 : decode cX7_jumpsOn 22 = .ok (.getfield 144, 3) := by decide +kernel
theorem dX7_jumpsOn_25 : decode cX7_jumpsOn 25 = .ok (.if_icmp .ge 104, 3) := by decide +kernel
theorem dX7_jumpsOn_28 : decode cX7_jumpsOn 28 = .ok (.bipush 8, 2) := by decide +kernel
theorem dX7_jumpsOn_30 : decode cX7_jumpsOn 30 = .ok (.iconst 4, 1) := by decide +kernel
theorem dX7_jumpsOn_31 : decode cX7_jumpsOn 31 = .ok (.iload 5, 2) := by decide +kernel
theorem dX7_jumpsOn_33 : decode cX7_jumpsOn 33 = .ok (.imul, 1) := by decide +kernel
theorem dX7_jumpsOn_34 : decode cX7_jumpsOn 34 = .ok (.iadd, 1) := by decide +kernel
theorem dX7_jumpsOn_35 : decode cX7_jumpsOn 35 = .ok (.iload_n 1, 1) := by decide +kernel
theorem dX7_jumpsOn_36 : decode cX7_jumpsOn 36 = .ok (.iadd, 1) := by decide +kernel
theorem dX7_jumpsOn_37 : decode cX7_jumpsOn 37 = .ok (.istore 6, 2) := by decide +kernel
theorem dX7_jumpsOn_39 : decode cX7_jumpsOn 39 = .ok (.aload_n 0, 1) := by decide +kernel
theorem dX7_jumpsOn_40 : decode cX7_jumpsOn 40 = .ok (.getfield 31, 3) := by decide +kernel
theorem dX7_jumpsOn_43 : decode cX7_jumpsOn 43 = .ok (.iload 6, 2) := by decide +kernel
theorem dX7_jumpsOn_45 : decode cX7_jumpsOn 45 = .ok (.iaload, 1) := by decide +kernel
theorem dX7_jumpsOn_46 : decode cX7_jumpsOn 46 = .ok (.iload_n 2, 1) := by decide +kernel
theorem dX7_jumpsOn_47 : decode cX7_jumpsOn 47 = .ok (.if_icmp .ge 7, 3) := by decide +kernel
theorem dX7_jumpsOn_50 : decode cX7_jumpsOn 50 = .ok (.iconst 1, 1) := by decide +kernel
theorem dX7_jumpsOn_51 : decode cX7_jumpsOn 51 = .ok (.goto 4, 3) := by decide +kernel
theorem dX7_jumpsOn_54 : decode cX7_jumpsOn 54 = .ok (.iconst 0, 1) := by decide +kernel
theorem dX7_jumpsOn_55 : decode cX7_jumpsOn 55 = .ok (.istore 7, 2) := by decide +kernel
theorem dX7_jumpsOn_57 : decode cX7_jumpsOn 57 = .ok (.aload_n 0, 1) := by decide +kernel
theorem dX7_jumpsOn_58 : decode cX7_jumpsOn 58 = .ok (.getfield 31, 3) := by decide +kernel
theorem dX7_jumpsOn_61 : decode cX7_jumpsOn 61 = .ok (.iload 6, 2) := by decide +kernel
theorem dX7_jumpsOn_63 : decode cX7_jumpsOn 63 = .ok (.aload_n 0, 1) := by decide +kernel
theorem dX7_jumpsOn_64 : decode cX7_jumpsOn 64 = .ok (.getfield 31, 3) := by decide +kernel
theorem dX7_jumpsOn_67 : decode cX7_jumpsOn 67 = .ok (.iload 6, 2) := by decide +kernel
theorem dX7_jumpsOn_69 : decode cX7_jumpsOn 69 = .ok (.iaload, 1) := by decide +kernel
theorem dX7_jumpsOn_70 : decode cX7_jumpsOn 70 = .ok (.aload_n 0, 1) := by decide +kernel
theorem dX7_jumpsOn_71 : decode cX7_jumpsOn 71 = .ok (.getfield 22, 3) := by decide +kernel
theorem dX7_jumpsOn_74 : decode cX7_jumpsOn 74 = .ok (.iconst 4, 1) := by decide +kernel
theorem dX7_jumpsOn_75 : decode cX7_jumpsOn 75 = .ok (.iload 5, 2) := by decide +kernel
theorem dX7_jumpsOn_77 : decode cX7_jumpsOn 77 = .ok (.imul, 1) := by decide +kernel
theorem dX7_jumpsOn_78 : decode cX7_jumpsOn 78 = .ok (.iload_n 1, 1) := by decide +kernel
theorem dX7_jumpsOn_79 : decode cX7_jumpsOn 79 = .ok (.iadd, 1) := by decide +kernel
theorem dX7_jumpsOn_80 : decode cX7_jumpsOn 80 = .ok (.iaload, 1) := by decide +kernel
theorem dX7_jumpsOn_81 : decode cX7_jumpsOn 81 = .ok (.iadd, 1) := by decide +kernel
theorem dX7_jumpsOn_82 : decode cX7_jumpsOn 82 = .ok (.iconst 3, 1) := by decide +kernel
theorem dX7_jumpsOn_83 : decode cX7_jumpsOn 83 = .ok (.isub, 1) := by decide +kernel
theorem dX7_jumpsOn_84 : decode cX7_jumpsOn 84 = .ok (.aload_n 0, 1) := by decide +kernel
theorem dX7_jumpsOn_85 : decode cX7_jumpsOn 85 = .ok (.getfield 13, 3) := by decide +kernel
theorem dX7_jumpsOn_88 : decode cX7_jumpsOn 88 = .ok (.iload_n 1, 1) := by decide +kernel
theorem dX7_jumpsOn_89 : decode cX7_jumpsOn 89 = .ok (.iaload, 1) := by decide +kernel
theorem dX7_jumpsOn_90 : decode cX7_jumpsOn 90 = .ok (.invokestatic 180, 3) := by decide +kernel
theorem dX7_jumpsOn_93 : decode cX7_jumpsOn 93 = .ok (.iastore, 1) := by decide +kernel
theorem dX7_jumpsOn_94 : decode cX7_jumpsOn 94 = .ok (.iload_n 3, 1) := by decide +kernel
theorem dX7_jumpsOn_95 : decode cX7_jumpsOn 95 = .ok (.iload 7, 2) := by decide +kernel
theorem dX7_jumpsOn_97 : decode cX7_jumpsOn 97 = .ok (.aload_n 0, 1) := by decide +kernel
theorem dX7_jumpsOn_98 : decode cX7_jumpsOn 98 = .ok (.getfield 31, 3) := by decide +kernel
theorem dX7_jumpsOn_101 : decode cX7_jumpsOn 101 = .ok (.iload 6, 2) := by decide +kernel
theorem dX7_jumpsOn_103 : decode cX7_jumpsOn 103 = .ok (.iaload, 1) := by decide +kernel
theorem dX7_jumpsOn_104 : decode cX7_jumpsOn 104 = .ok (.iload_n 2, 1) := by decide +kernel
theorem dX7_jumpsOn_105 : decode cX7_jumpsOn 105 = .ok (.if_icmp .ge 7, 3) := by decide +kernel
theorem dX7_jumpsOn_108 : decode cX7_jumpsOn 108 = .ok (.iconst 1, 1) := by decide +kernel
theorem dX7_jumpsOn_109 : decode cX7_jumpsOn 109 = .ok (.goto 4, 3) := by decide +kernel
theorem dX7_jumpsOn_112 : decode cX7_jumpsOn 112 = .ok (.iconst 0, 1) := by decide +kernel
theorem dX7_jumpsOn_113 : decode cX7_jumpsOn 113 = .ok (.if_icmp .ne 7, 3) := by decide +kernel
theorem dX7_jumpsOn_116 : decode cX7_jumpsOn 116 = .ok (.iconst 0, 1) := by decide +kernel
theorem dX7_jumpsOn_117 : decode cX7_jumpsOn 117 = .ok (.goto 4, 3) := by decide +kernel
theorem dX7_jumpsOn_120 : decode cX7_jumpsOn 120 = .ok (.iconst 1, 1) := by decide +kernel
theorem dX7_jumpsOn_121 : decode cX7_jumpsOn 121 = .ok (.iadd, 1) := by decide +kernel
theorem dX7_jumpsOn_122 : decode cX7_jumpsOn 122 = .ok (.istore_n 3, 1) := by decide +kernel
theorem dX7_jumpsOn_123 : decode cX7_jumpsOn 123 = .ok (.iinc 5 1, 3) := by decide +kernel
theorem dX7_jumpsOn_126 : decode cX7_jumpsOn 126 = .ok (.goto (-107), 3) := by decide +kernel
theorem dX7_jumpsOn_129 : decode cX7_jumpsOn 129 = .ok (.iinc 4 1, 3) := by decide +kernel
theorem dX7_jumpsOn_132 : decode cX7_jumpsOn 132 = .ok (.goto (-123), 3) := by decide +kernel
theorem dX7_jumpsOn_135 : decode cX7_jumpsOn 135 = .ok (.iload_n 3, 1) := by decide +kernel
theorem dX7_jumpsOn_136 : decode cX7_jumpsOn 136 = .ok (.ireturn, 1) := by decide +kernel
theorem dX7_bestJump_0 : decode cX7_bestJump 0 = .ok (.aload_n 0, 1) := by decide +kernel
theorem dX7_bestJump_1 : decode cX7_bestJump 1 = .ok (.iconst 0, 1) := by decide +kernel
theorem dX7_bestJump_2 : decode cX7_bestJump 2 = .ok (.putfield 75, 3) := by decide +kernel
theorem dX7_bestJump_5 : decode cX7_bestJump 5 = .ok (.aload_n 0, 1) := by decide +kernel
theorem dX7_bestJump_6 : decode cX7_bestJump 6 = .ok (.iload_n 1, 1) := by decide +kernel
theorem dX7_bestJump_7 : decode cX7_bestJump 7 = .ok (.invokevirtual 159, 3) := by decide +kernel
theorem dX7_bestJump_10 : decode cX7_bestJump 10 = .ok (.ifCond .eq 12, 3) := by decide +kernel
theorem dX7_bestJump_13 : decode cX7_bestJump 13 = .ok (.iload_n 2, 1) := by decide +kernel
theorem dX7_bestJump_14 : decode cX7_bestJump 14 = .ok (.iconst 0, 1) := by decide +kernel
theorem dX7_bestJump_15 : decode cX7_bestJump 15 = .ok (.iconst 1, 1) := by decide +kernel
theorem dX7_bestJump_16 : decode cX7_bestJump 16 = .ok (.invokestatic 78, 3) := by decide +kernel
theorem dX7_bestJump_19 : decode cX7_bestJump 19 = .ok (.ifCond .ne 5, 3) := by decide +kernel
theorem dX7_bestJump_22 : decode cX7_bestJump 22 = .ok (.iconst (-1), 1) := by decide +kernel
theorem dX7_bestJump_23 : decode cX7_bestJump 23 = .ok (.ireturn, 1) := by decide +kernel
theorem dX7_bestJump_24 : decode cX7_bestJump 24 = .ok (.bipush (-9), 2) := by decide +kernel
theorem dX7_bestJump_26 : decode cX7_bestJump 26 = .ok (.istore_n 3, 1) := by decide +kernel
theorem dX7_bestJump_27 : decode cX7_bestJump 27 = .ok (.bipush (-9), 2) := by decide +kernel
theorem dX7_bestJump_29 : decode cX7_bestJump 29 = .ok (.istore 4, 2) := by decide +kernel
theorem dX7_bestJump_31 : decode cX7_bestJump 31 = .ok (.iconst 1, 1) := by decide +kernel
theorem dX7_bestJump_32 : decode cX7_bestJump 32 = .ok (.istore 5, 2) := by decide +kernel
theorem dX7_bestJump_34 : decode cX7_bestJump 34 = .ok (.iload 5, 2) := by decide +kernel
theorem dX7_bestJump_36 : decode cX7_bestJump 36 = .ok (.aload_n 0, 1) := by decide +kernel
theorem dX7_bestJump_37 : decode cX7_bestJump 37 = .ok (.getfield 13, 3) := by decide +kernel
theorem dX7_bestJump_40 : decode cX7_bestJump 40 = .ok (.iload_n 1, 1) := by decide +kernel
theorem dX7_bestJump_41 : decode cX7_bestJump 41 = .ok (.iaload, 1) := by decide +kernel
theorem dX7_bestJump_42 : decode cX7_bestJump 42 = .ok (.if_icmp .gt 38, 3) := by decide +kernel
theorem dX7_bestJump_45 : decode cX7_bestJump 45 = .ok (.aload_n 0, 1) := by decide +kernel
theorem dX7_bestJump_46 : decode cX7_bestJump 46 = .ok (.iload_n 1, 1) := by decide +kernel
theorem dX7_bestJump_47 : decode cX7_bestJump 47 = .ok (.iload 5, 2) := by decide +kernel
theorem dX7_bestJump_49 : decode cX7_bestJump 49 = .ok (.invokevirtual 218, 3) := by decide +kernel
theorem dX7_bestJump_52 : decode cX7_bestJump 52 = .ok (.istore 6, 2) := by decide +kernel
theorem dX7_bestJump_54 : decode cX7_bestJump 54 = .ok (.iload_n 3, 1) := by decide +kernel
theorem dX7_bestJump_55 : decode cX7_bestJump 55 = .ok (.bipush (-9), 2) := by decide +kernel
theorem dX7_bestJump_57 : decode cX7_bestJump 57 = .ok (.if_icmp .eq 10, 3) := by decide +kernel
theorem dX7_bestJump_60 : decode cX7_bestJump 60 = .ok (.iload 6, 2) := by decide +kernel
theorem dX7_bestJump_62 : decode cX7_bestJump 62 = .ok (.iload 4, 2) := by decide +kernel
theorem dX7_bestJump_64 : decode cX7_bestJump 64 = .ok (.if_icmp .ge 10, 3) := by decide +kernel
theorem dX7_bestJump_67 : decode cX7_bestJump 67 = .ok (.iload 5, 2) := by decide +kernel
theorem dX7_bestJump_69 : decode cX7_bestJump 69 = .ok (.istore_n 3, 1) := by decide +kernel
theorem dX7_bestJump_70 : decode cX7_bestJump 70 = .ok (.iload 6, 2) := by decide +kernel
theorem dX7_bestJump_72 : decode cX7_bestJump 72 = .ok (.istore 4, 2) := by decide +kernel
theorem dX7_bestJump_74 : decode cX7_bestJump 74 = .ok (.iinc 5 1, 3) := by decide +kernel
theorem dX7_bestJump_77 : decode cX7_bestJump 77 = .ok (.goto (-43), 3) := by decide +kernel
theorem dX7_bestJump_80 : decode cX7_bestJump 80 = .ok (.iload_n 2, 1) := by decide +kernel
theorem dX7_bestJump_81 : decode cX7_bestJump 81 = .ok (.ifCond .ne 7, 3) := by decide +kernel
theorem dX7_bestJump_84 : decode cX7_bestJump 84 = .ok (.iload_n 3, 1) := by decide +kernel
theorem dX7_bestJump_85 : decode cX7_bestJump 85 = .ok (.goto 5, 3) := by decide +kernel
theorem dX7_bestJump_88 : decode cX7_bestJump 88 = .ok (.iload 4, 2) := by decide +kernel
theorem dX7_bestJump_90 : decode cX7_bestJump 90 = .ok (.ireturn, 1) := by decide +kernel
theorem dX7_plans_0 : decode cX7_plans 0 = .ok (.aload_n 0, 1) := by decide +kernel
theorem dX7_plans_1 : decode cX7_plans 1 = .ok (.iconst 0, 1) := by decide +kernel
theorem dX7_plans_2 : decode cX7_plans 2 = .ok (.putfield 75, 3) := by decide +kernel
theorem dX7_plans_5 : decode cX7_plans 5 = .ok (.aload_n 0, 1) := by decide +kernel
theorem dX7_plans_6 : decode cX7_plans 6 = .ok (.iload_n 1, 1) := by decide +kernel
theorem dX7_plans_7 : decode cX7_plans 7 = .ok (.invokevirtual 159, 3) := by decide +kernel
theorem dX7_plans_10 : decode cX7_plans 10 = .ok (.ifCond .eq 14, 3) := by decide +kernel
theorem dX7_plans_13 : decode cX7_plans 13 = .ok (.iload_n 2, 1) := by decide +kernel
theorem dX7_plans_14 : decode cX7_plans 14 = .ok (.bipush (-9), 2) := by decide +kernel
theorem dX7_plans_16 : decode cX7_plans 16 = .ok (.bipush 9, 2) := by decide +kernel
theorem dX7_plans_18 : decode cX7_plans 18 = .ok (.invokestatic 78, 3) := by decide +kernel
theorem dX7_plans_21 : decode cX7_plans 21 = .ok (.ifCond .ne 5, 3) := by decide +kernel
theorem dX7_plans_24 : decode cX7_plans 24 = .ok (.iconst (-1), 1) := by decide +kernel
theorem dX7_plans_25 : decode cX7_plans 25 = .ok (.ireturn, 1) := by decide +kernel
theorem dX7_plans_26 : decode cX7_plans 26 = .ok (.aload_n 0, 1) := by decide +kernel
theorem dX7_plans_27 : decode cX7_plans 27 = .ok (.getfield 153, 3) := by decide +kernel
theorem dX7_plans_30 : decode cX7_plans 30 = .ok (.iconst 5, 1) := by decide +kernel
theorem dX7_plans_31 : decode cX7_plans 31 = .ok (.if_icmp .ne 6, 3) := by decide +kernel
theorem dX7_plans_34 : decode cX7_plans 34 = .ok (.bipush (-3), 2) := by decide +kernel
theorem dX7_plans_36 : decode cX7_plans 36 = .ok (.ireturn, 1) := by decide +kernel
theorem dX7_plans_37 : decode cX7_plans 37 = .ok (.aload_n 0, 1) := by decide +kernel
theorem dX7_plans_38 : decode cX7_plans 38 = .ok (.getfield 44, 3) := by decide +kernel
theorem dX7_plans_41 : decode cX7_plans 41 = .ok (.aload_n 0, 1) := by decide +kernel
theorem dX7_plans_42 : decode cX7_plans 42 = .ok (.getfield 153, 3) := by decide +kernel
theorem dX7_plans_45 : decode cX7_plans 45 = .ok (.iload_n 1, 1) := by decide +kernel
theorem dX7_plans_46 : decode cX7_plans 46 = .ok (.iastore, 1) := by decide +kernel
theorem dX7_plans_47 : decode cX7_plans 47 = .ok (.aload_n 0, 1) := by decide +kernel
theorem dX7_plans_48 : decode cX7_plans 48 = .ok (.getfield 47, 3) := by decide +kernel
theorem dX7_plans_51 : decode cX7_plans 51 = .ok (.aload_n 0, 1) := by decide +kernel
theorem dX7_plans_52 : decode cX7_plans 52 = .ok (.getfield 153, 3) := by decide +kernel
theorem dX7_plans_55 : decode cX7_plans 55 = .ok (.iload_n 2, 1) := by decide +kernel
theorem dX7_plans_56 : decode cX7_plans 56 = .ok (.iastore, 1) := by decide +kernel
theorem dX7_plans_57 : decode cX7_plans 57 = .ok (.aload_n 0, 1) := by decide +kernel
theorem dX7_plans_58 : decode cX7_plans 58 = .ok (.dup, 1) := by decide +kernel
theorem dX7_plans_59 : decode cX7_plans 59 = .ok (.getfield 153, 3) := by decide +kernel
theorem dX7_plans_62 : decode cX7_plans 62 = .ok (.iconst 1, 1) := by decide +kernel
theorem dX7_plans_63 : decode cX7_plans 63 = .ok (.iadd, 1) := by decide +kernel
theorem dX7_plans_64 : decode cX7_plans 64 = .ok (.putfield 153, 3) := by decide +kernel
theorem dX7_plans_67 : decode cX7_plans 67 = .ok (.aload_n 0, 1) := by decide +kernel
theorem dX7_plans_68 : decode cX7_plans 68 = .ok (.getfield 153, 3) := by decide +kernel
theorem dX7_plans_71 : decode cX7_plans 71 = .ok (.ireturn, 1) := by decide +kernel
theorem dX7_drop_0 : decode cX7_drop 0 = .ok (.aload_n 0, 1) := by decide +kernel
theorem dX7_drop_1 : decode cX7_drop 1 = .ok (.iconst 0, 1) := by decide +kernel
theorem dX7_drop_2 : decode cX7_drop 2 = .ok (.putfield 75, 3) := by decide +kernel
theorem dX7_drop_5 : decode cX7_drop 5 = .ok (.aload_n 0, 1) := by decide +kernel
theorem dX7_drop_6 : decode cX7_drop 6 = .ok (.getfield 153, 3) := by decide +kernel
theorem dX7_drop_9 : decode cX7_drop 9 = .ok (.istore_n 1, 1) := by decide +kernel
theorem dX7_drop_10 : decode cX7_drop 10 = .ok (.aload_n 0, 1) := by decide +kernel
theorem dX7_drop_11 : decode cX7_drop 11 = .ok (.iconst 0, 1) := by decide +kernel
theorem dX7_drop_12 : decode cX7_drop 12 = .ok (.putfield 153, 3) := by decide +kernel
theorem dX7_drop_15 : decode cX7_drop 15 = .ok (.iload_n 1, 1) := by decide +kernel
theorem dX7_drop_16 : decode cX7_drop 16 = .ok (.ireturn, 1) := by decide +kernel
theorem dX7_isOrder_0 : decode cX7_isOrder 0 = .ok (.iconst 0, 1) := by decide +kernel
theorem dX7_isOrder_1 : decode cX7_isOrder 1 = .ok (.istore 5, 2) := by decide +kernel
theorem dX7_isOrder_3 : decode cX7_isOrder 3 = .ok (.iload_n 2, 1) := by decide +kernel
theorem dX7_isOrder_4 : decode cX7_isOrder 4 = .ok (.istore 6, 2) := by decide +kernel
theorem dX7_isOrder_6 : decode cX7_isOrder 6 = .ok (.iload_n 3, 1) := by decide +kernel
theorem dX7_isOrder_7 : decode cX7_isOrder 7 = .ok (.iconst 1, 1) := by decide +kernel
theorem dX7_isOrder_8 : decode cX7_isOrder 8 = .ok (.isub, 1) := by decide +kernel
theorem dX7_isOrder_9 : decode cX7_isOrder 9 = .ok (.istore 7, 2) := by decide +kernel
theorem dX7_isOrder_11 : decode cX7_isOrder 11 = .ok (.iload 7, 2) := by decide +kernel
theorem dX7_isOrder_13 : decode cX7_isOrder 13 = .ok (.ifCond .lt 46, 3) := by decide +kernel
theorem dX7_isOrder_16 : decode cX7_isOrder 16 = .ok (.aload_n 0, 1) := by decide +kernel
theorem dX7_isOrder_17 : decode cX7_isOrder 17 = .ok (.getfield 59, 3) := by decide +kernel
theorem dX7_isOrder_20 : decode cX7_isOrder 20 = .ok (.iload 7, 2) := by decide +kernel
theorem dX7_isOrder_22 : decode cX7_isOrder 22 = .ok (.iload 6, 2) := by decide +kernel
theorem dX7_isOrder_24 : decode cX7_isOrder 24 = .ok (.aload_n 0, 1) := by decide +kernel
theorem dX7_isOrder_25 : decode cX7_isOrder 25 = .ok (.getfield 153, 3) := by decide +kernel
theorem dX7_isOrder_28 : decode cX7_isOrder 28 = .ok (.irem, 1) := by decide +kernel
theorem dX7_isOrder_29 : decode cX7_isOrder 29 = .ok (.iastore, 1) := by decide +kernel
theorem dX7_isOrder_30 : decode cX7_isOrder 30 = .ok (.iload 5, 2) := by decide +kernel
theorem dX7_isOrder_32 : decode cX7_isOrder 32 = .ok (.iconst 1, 1) := by decide +kernel
theorem dX7_isOrder_33 : decode cX7_isOrder 33 = .ok (.aload_n 0, 1) := by decide +kernel
theorem dX7_isOrder_34 : decode cX7_isOrder 34 = .ok (.getfield 59, 3) := by decide +kernel
theorem dX7_isOrder_37 : decode cX7_isOrder 37 = .ok (.iload 7, 2) := by decide +kernel
theorem dX7_isOrder_39 : decode cX7_isOrder 39 = .ok (.iaload, 1) := by decide +kernel
theorem dX7_isOrder_40 : decode cX7_isOrder 40 = .ok (.ishl, 1) := by decide +kernel
theorem dX7_isOrder_41 : decode cX7_isOrder 41 = .ok (.ior, 1) := by decide +kernel
theorem dX7_isOrder_42 : decode cX7_isOrder 42 = .ok (.istore 5, 2) := by decide +kernel
theorem dX7_isOrder_44 : decode cX7_isOrder 44 = .ok (.iload 6, 2) := by decide +kernel
theorem dX7_isOrder_46 : decode cX7_isOrder 46 = .ok (.aload_n 0, 1) := by decide +kernel
theorem dX7_isOrder_47 : decode cX7_isOrder 47 = .ok (.getfield 153, 3) := by decide +kernel
theorem dX7_isOrder_50 : decode cX7_isOrder 50 = .ok (.idiv, 1) := by decide +kernel
theorem dX7_isOrder_51 : decode cX7_isOrder 51 = .ok (.istore 6, 2) := by decide +kernel
theorem dX7_isOrder_53 : decode cX7_isOrder 53 = .ok (.iinc 7 (-1), 3) := by decide +kernel
theorem dX7_isOrder_56 : decode cX7_isOrder 56 = .ok (.goto (-45), 3) := by decide +kernel
theorem dX7_isOrder_59 : decode cX7_isOrder 59 = .ok (.iload 4, 2) := by decide +kernel
theorem dX7_isOrder_61 : decode cX7_isOrder 61 = .ok (.bipush (-9), 2) := by decide +kernel
theorem dX7_isOrder_63 : decode cX7_isOrder 63 = .ok (.if_icmp .ne 14, 3) := by decide +kernel
theorem dX7_isOrder_66 : decode cX7_isOrder 66 = .ok (.iconst 1, 1) := by decide +kernel
theorem dX7_isOrder_67 : decode cX7_isOrder 67 = .ok (.aload_n 0, 1) := by decide +kernel
theorem dX7_isOrder_68 : decode cX7_isOrder 68 = .ok (.getfield 153, 3) := by decide +kernel
theorem dX7_isOrder_71 : decode cX7_isOrder 71 = .ok (.ishl, 1) := by decide +kernel
theorem dX7_isOrder_72 : decode cX7_isOrder 72 = .ok (.iconst 1, 1) := by decide +kernel
theorem dX7_isOrder_73 : decode cX7_isOrder 73 = .ok (.isub, 1) := by decide +kernel
theorem dX7_isOrder_74 : decode cX7_isOrder 74 = .ok (.goto 18, 3) := by decide +kernel
theorem dX7_isOrder_77 : decode cX7_isOrder 77 = .ok (.iconst 1, 1) := by decide +kernel
theorem dX7_isOrder_78 : decode cX7_isOrder 78 = .ok (.aload_n 0, 1) := by decide +kernel
theorem dX7_isOrder_79 : decode cX7_isOrder 79 = .ok (.getfield 153, 3) := by decide +kernel
theorem dX7_isOrder_82 : decode cX7_isOrder 82 = .ok (.ishl, 1) := by decide +kernel
theorem dX7_isOrder_83 : decode cX7_isOrder 83 = .ok (.iconst 1, 1) := by decide +kernel
theorem dX7_isOrder_84 : decode cX7_isOrder 84 = .ok (.isub, 1) := by decide +kernel
theorem dX7_isOrder_85 : decode cX7_isOrder 85 = .ok (.iconst 1, 1) := by decide +kernel
theorem dX7_isOrder_86 : decode cX7_isOrder 86 = .ok (.iload 4, 2) := by decide +kernel
theorem dX7_isOrder_88 : decode cX7_isOrder 88 = .ok (.ishl, 1) := by decide +kernel
theorem dX7_isOrder_89 : decode cX7_isOrder 89 = .ok (.iconst (-1), 1) := by decide +kernel
theorem dX7_isOrder_90 : decode cX7_isOrder 90 = .ok (.ixor, 1) := by decide +kernel
theorem dX7_isOrder_91 : decode cX7_isOrder 91 = .ok (.iand, 1) := by decide +kernel
theorem dX7_isOrder_92 : decode cX7_isOrder 92 = .ok (.istore 7, 2) := by decide +kernel
theorem dX7_isOrder_94 : decode cX7_isOrder 94 = .ok (.iload 5, 2) := by decide +kernel
theorem dX7_isOrder_96 : decode cX7_isOrder 96 = .ok (.iload 7, 2) := by decide +kernel
theorem dX7_isOrder_98 : decode cX7_isOrder 98 = .ok (.if_icmp .eq 5, 3) := by decide +kernel
theorem dX7_isOrder_101 : decode cX7_isOrder 101 = .ok (.iconst 0, 1) := by decide +kernel
theorem dX7_isOrder_102 : decode cX7_isOrder 102 = .ok (.ireturn, 1) := by decide +kernel
theorem dX7_isOrder_103 : decode cX7_isOrder 103 = .ok (.aload_n 0, 1) := by decide +kernel
theorem dX7_isOrder_104 : decode cX7_isOrder 104 = .ok (.invokevirtual 211, 3) := by decide +kernel
theorem dX7_isOrder_107 : decode cX7_isOrder 107 = .ok (.iconst 0, 1) := by decide +kernel
theorem dX7_isOrder_108 : decode cX7_isOrder 108 = .ok (.istore 8, 2) := by decide +kernel
theorem dX7_isOrder_110 : decode cX7_isOrder 110 = .ok (.iload 8, 2) := by decide +kernel
theorem dX7_isOrder_112 : decode cX7_isOrder 112 = .ok (.iload_n 3, 1) := by decide +kernel
theorem dX7_isOrder_113 : decode cX7_isOrder 113 = .ok (.if_icmp .ge 93, 3) := by decide +kernel
theorem dX7_isOrder_116 : decode cX7_isOrder 116 = .ok (.bipush 8, 2) := by decide +kernel
theorem dX7_isOrder_118 : decode cX7_isOrder 118 = .ok (.iconst 4, 1) := by decide +kernel
theorem dX7_isOrder_119 : decode cX7_isOrder 119 = .ok (.iload_n 1, 1) := by decide +kernel
theorem dX7_isOrder_120 : decode cX7_isOrder 120 = .ok (.imul, 1) := by decide +kernel
theorem dX7_isOrder_121 : decode cX7_isOrder 121 = .ok (.iadd, 1) := by decide +kernel
theorem dX7_isOrder_122 : decode cX7_isOrder 122 = .ok (.aload_n 0, 1) := by decide +kernel
theorem dX7_isOrder_123 : decode cX7_isOrder 123 = .ok (.getfield 44, 3) := by decide +kernel
theorem dX7_isOrder_126 : decode cX7_isOrder 126 = .ok (.aload_n 0, 1) := by decide +kernel
theorem dX7_isOrder_127 : decode cX7_isOrder 127 = .ok (.getfield 59, 3) := by decide +kernel
theorem dX7_isOrder_130 : decode cX7_isOrder 130 = .ok (.iload 8, 2) := by decide +kernel
theorem dX7_isOrder_132 : decode cX7_isOrder 132 = .ok (.iaload, 1) := by decide +kernel
theorem dX7_isOrder_133 : decode cX7_isOrder 133 = .ok (.iaload, 1) := by decide +kernel
theorem dX7_isOrder_134 : decode cX7_isOrder 134 = .ok (.iadd, 1) := by decide +kernel
theorem dX7_isOrder_135 : decode cX7_isOrder 135 = .ok (.istore 9, 2) := by decide +kernel
theorem dX7_isOrder_137 : decode cX7_isOrder 137 = .ok (.aload_n 0, 1) := by decide +kernel
theorem dX7_isOrder_138 : decode cX7_isOrder 138 = .ok (.getfield 31, 3) := by decide +kernel
theorem dX7_isOrder_141 : decode cX7_isOrder 141 = .ok (.iload 9, 2) := by decide +kernel
theorem dX7_isOrder_143 : decode cX7_isOrder 143 = .ok (.aload_n 0, 1) := by decide +kernel
theorem dX7_isOrder_144 : decode cX7_isOrder 144 = .ok (.getfield 31, 3) := by decide +kernel
theorem dX7_isOrder_147 : decode cX7_isOrder 147 = .ok (.iload 9, 2) := by decide +kernel
theorem dX7_isOrder_149 : decode cX7_isOrder 149 = .ok (.iaload, 1) := by decide +kernel
theorem dX7_isOrder_150 : decode cX7_isOrder 150 = .ok (.aload_n 0, 1) := by decide +kernel
theorem dX7_isOrder_151 : decode cX7_isOrder 151 = .ok (.getfield 47, 3) := by decide +kernel
theorem dX7_isOrder_154 : decode cX7_isOrder 154 = .ok (.aload_n 0, 1) := by decide +kernel
theorem dX7_isOrder_155 : decode cX7_isOrder 155 = .ok (.getfield 59, 3) := by decide +kernel
theorem dX7_isOrder_158 : decode cX7_isOrder 158 = .ok (.iload 8, 2) := by decide +kernel
theorem dX7_isOrder_160 : decode cX7_isOrder 160 = .ok (.iaload, 1) := by decide +kernel
theorem dX7_isOrder_161 : decode cX7_isOrder 161 = .ok (.iaload, 1) := by decide +kernel
theorem dX7_isOrder_162 : decode cX7_isOrder 162 = .ok (.iadd, 1) := by decide +kernel
theorem dX7_isOrder_163 : decode cX7_isOrder 163 = .ok (.aload_n 0, 1) := by decide +kernel
theorem dX7_isOrder_164 : decode cX7_isOrder 164 = .ok (.getfield 13, 3) := by decide +kernel
theorem dX7_isOrder_167 : decode cX7_isOrder 167 = .ok (.aload_n 0, 1) := by decide +kernel
theorem dX7_isOrder_168 : decode cX7_isOrder 168 = .ok (.getfield 44, 3) := by decide +kernel
theorem dX7_isOrder_171 : decode cX7_isOrder 171 = .ok (.aload_n 0, 1) := by decide +kernel
theorem dX7_isOrder_172 : decode cX7_isOrder 172 = .ok (.getfield 59, 3) := by decide +kernel
theorem dX7_isOrder_175 : decode cX7_isOrder 175 = .ok (.iload 8, 2) := by decide +kernel
theorem dX7_isOrder_177 : decode cX7_isOrder 177 = .ok (.iaload, 1) := by decide +kernel
theorem dX7_isOrder_178 : decode cX7_isOrder 178 = .ok (.iaload, 1) := by decide +kernel
theorem dX7_isOrder_179 : decode cX7_isOrder 179 = .ok (.iaload, 1) := by decide +kernel
theorem dX7_isOrder_180 : decode cX7_isOrder 180 = .ok (.invokestatic 180, 3) := by decide +kernel
theorem dX7_isOrder_183 : decode cX7_isOrder 183 = .ok (.iastore, 1) := by decide +kernel
theorem dX7_isOrder_184 : decode cX7_isOrder 184 = .ok (.aload_n 0, 1) := by decide +kernel
theorem dX7_isOrder_185 : decode cX7_isOrder 185 = .ok (.aload_n 0, 1) := by decide +kernel
theorem dX7_isOrder_186 : decode cX7_isOrder 186 = .ok (.getfield 31, 3) := by decide +kernel
theorem dX7_isOrder_189 : decode cX7_isOrder 189 = .ok (.iload_n 1, 1) := by decide +kernel
theorem dX7_isOrder_190 : decode cX7_isOrder 190 = .ok (.invokevirtual 190, 3) := by decide +kernel
theorem dX7_isOrder_193 : decode cX7_isOrder 193 = .ok (.bipush (-9), 2) := by decide +kernel
theorem dX7_isOrder_195 : decode cX7_isOrder 195 = .ok (.if_icmp .eq 5, 3) := by decide +kernel
theorem dX7_isOrder_198 : decode cX7_isOrder 198 = .ok (.iconst 0, 1) := by decide +kernel
theorem dX7_isOrder_199 : decode cX7_isOrder 199 = .ok (.ireturn, 1) := by decide +kernel
theorem dX7_isOrder_200 : decode cX7_isOrder 200 = .ok (.iinc 8 1, 3) := by decide +kernel
theorem dX7_isOrder_203 : decode cX7_isOrder 203 = .ok (.goto (-93), 3) := by decide +kernel
theorem dX7_isOrder_206 : decode cX7_isOrder 206 = .ok (.iconst 1, 1) := by decide +kernel
theorem dX7_isOrder_207 : decode cX7_isOrder 207 = .ok (.ireturn, 1) := by decide +kernel
theorem dX7_ordersOf_0 : decode cX7_ordersOf 0 = .ok (.iload_n 2, 1) := by decide +kernel
theorem dX7_ordersOf_1 : decode cX7_ordersOf 1 = .ok (.bipush (-9), 2) := by decide +kernel
theorem dX7_ordersOf_3 : decode cX7_ordersOf 3 = .ok (.if_icmp .ne 10, 3) := by decide +kernel
theorem dX7_ordersOf_6 : decode cX7_ordersOf 6 = .ok (.aload_n 0, 1) := by decide +kernel
theorem dX7_ordersOf_7 : decode cX7_ordersOf 7 = .ok (.getfield 153, 3) := by decide +kernel
theorem dX7_ordersOf_10 : decode cX7_ordersOf 10 = .ok (.goto 9, 3) := by decide +kernel
theorem dX7_ordersOf_13 : decode cX7_ordersOf 13 = .ok (.aload_n 0, 1) := by decide +kernel
theorem dX7_ordersOf_14 : decode cX7_ordersOf 14 = .ok (.getfield 153, 3) := by decide +kernel
theorem dX7_ordersOf_17 : decode cX7_ordersOf 17 = .ok (.iconst 1, 1) := by decide +kernel
theorem dX7_ordersOf_18 : decode cX7_ordersOf 18 = .ok (.isub, 1) := by decide +kernel
theorem dX7_ordersOf_19 : decode cX7_ordersOf 19 = .ok (.istore_n 3, 1) := by decide +kernel
theorem dX7_ordersOf_20 : decode cX7_ordersOf 20 = .ok (.iconst 1, 1) := by decide +kernel
theorem dX7_ordersOf_21 : decode cX7_ordersOf 21 = .ok (.istore 4, 2) := by decide +kernel
theorem dX7_ordersOf_23 : decode cX7_ordersOf 23 = .ok (.iconst 0, 1) := by decide +kernel
theorem dX7_ordersOf_24 : decode cX7_ordersOf 24 = .ok (.istore 5, 2) := by decide +kernel
theorem dX7_ordersOf_26 : decode cX7_ordersOf 26 = .ok (.iload 5, 2) := by decide +kernel
theorem dX7_ordersOf_28 : decode cX7_ordersOf 28 = .ok (.iload_n 3, 1) := by decide +kernel
theorem dX7_ordersOf_29 : decode cX7_ordersOf 29 = .ok (.if_icmp .ge 18, 3) := by decide +kernel
theorem dX7_ordersOf_32 : decode cX7_ordersOf 32 = .ok (.iload 4, 2) := by decide +kernel
theorem dX7_ordersOf_34 : decode cX7_ordersOf 34 = .ok (.aload_n 0, 1) := by decide +kernel
theorem dX7_ordersOf_35 : decode cX7_ordersOf 35 = .ok (.getfield 153, 3) := by decide +kernel
theorem dX7_ordersOf_38 : decode cX7_ordersOf 38 = .ok (.imul, 1) := by decide +kernel
theorem dX7_ordersOf_39 : decode cX7_ordersOf 39 = .ok (.istore 4, 2) := by decide +kernel
theorem dX7_ordersOf_41 : decode cX7_ordersOf 41 = .ok (.iinc 5 1, 3) := by decide +kernel
theorem dX7_ordersOf_44 : decode cX7_ordersOf 44 = .ok (.goto (-18), 3) := by decide +kernel
theorem dX7_ordersOf_47 : decode cX7_ordersOf 47 = .ok (.iconst 0, 1) := by decide +kernel
theorem dX7_ordersOf_48 : decode cX7_ordersOf 48 = .ok (.istore 5, 2) := by decide +kernel
theorem dX7_ordersOf_50 : decode cX7_ordersOf 50 = .ok (.iconst 0, 1) := by decide +kernel
theorem dX7_ordersOf_51 : decode cX7_ordersOf 51 = .ok (.istore 6, 2) := by decide +kernel
theorem dX7_ordersOf_53 : decode cX7_ordersOf 53 = .ok (.iload 6, 2) := by decide +kernel
theorem dX7_ordersOf_55 : decode cX7_ordersOf 55 = .ok (.iload 4, 2) := by decide +kernel
theorem dX7_ordersOf_57 : decode cX7_ordersOf 57 = .ok (.if_icmp .ge 58, 3) := by decide +kernel
theorem dX7_ordersOf_60 : decode cX7_ordersOf 60 = .ok (.aload_n 0, 1) := by decide +kernel
theorem dX7_ordersOf_61 : decode cX7_ordersOf 61 = .ok (.iload_n 1, 1) := by decide +kernel
theorem dX7_ordersOf_62 : decode cX7_ordersOf 62 = .ok (.iload 6, 2) := by decide +kernel
theorem dX7_ordersOf_64 : decode cX7_ordersOf 64 = .ok (.iload_n 3, 1) := by decide +kernel
theorem dX7_ordersOf_65 : decode cX7_ordersOf 65 = .ok (.iload_n 2, 1) := by decide +kernel
theorem dX7_ordersOf_66 : decode cX7_ordersOf 66 = .ok (.invokevirtual 221, 3) := by decide +kernel
theorem dX7_ordersOf_69 : decode cX7_ordersOf 69 = .ok (.ifCond .eq 40, 3) := by decide +kernel
theorem dX7_ordersOf_72 : decode cX7_ordersOf 72 = .ok (.iconst 0, 1) := by decide +kernel
theorem dX7_ordersOf_73 : decode cX7_ordersOf 73 = .ok (.istore 7, 2) := by decide +kernel
theorem dX7_ordersOf_75 : decode cX7_ordersOf 75 = .ok (.iload 7, 2) := by decide +kernel
theorem dX7_ordersOf_77 : decode cX7_ordersOf 77 = .ok (.iload_n 3, 1) := by decide +kernel
theorem dX7_ordersOf_78 : decode cX7_ordersOf 78 = .ok (.if_icmp .ge 28, 3) := by decide +kernel
theorem dX7_ordersOf_81 : decode cX7_ordersOf 81 = .ok (.iload 5, 2) := by decide +kernel
theorem dX7_ordersOf_83 : decode cX7_ordersOf 83 = .ok (.ifCond .ne 23, 3) := by decide +kernel
theorem dX7_ordersOf_86 : decode cX7_ordersOf 86 = .ok (.aload_n 0, 1) := by decide +kernel
theorem dX7_ordersOf_87 : decode cX7_ordersOf 87 = .ok (.getfield 62, 3) := by decide +kernel
theorem dX7_ordersOf_90 : decode cX7_ordersOf 90 = .ok (.iload 7, 2) := by decide +kernel
theorem dX7_ordersOf_92 : decode cX7_ordersOf 92 = .ok (.aload_n 0, 1) := by decide +kernel
theorem dX7_ordersOf_93 : decode cX7_ordersOf 93 = .ok (.getfield 59, 3) := by decide +kernel
theorem dX7_ordersOf_96 : decode cX7_ordersOf 96 = .ok (.iload 7, 2) := by decide +kernel
theorem dX7_ordersOf_98 : decode cX7_ordersOf 98 = .ok (.iaload, 1) := by decide +kernel
theorem dX7_ordersOf_99 : decode cX7_ordersOf 99 = .ok (.iastore, 1) := by decide +kernel
theorem dX7_ordersOf_100 : decode cX7_ordersOf 100 = .ok (.iinc 7 1, 3) := by decide +kernel
theorem dX7_ordersOf_103 : decode cX7_ordersOf 103 = .ok (.goto (-28), 3) := by decide +kernel
theorem dX7_ordersOf_106 : decode cX7_ordersOf 106 = .ok (.iinc 5 1, 3) := by decide +kernel
theorem dX7_ordersOf_109 : decode cX7_ordersOf 109 = .ok (.iinc 6 1, 3) := by decide +kernel
theorem dX7_ordersOf_112 : decode cX7_ordersOf 112 = .ok (.goto (-59), 3) := by decide +kernel
theorem dX7_ordersOf_115 : decode cX7_ordersOf 115 = .ok (.iload 5, 2) := by decide +kernel
theorem dX7_ordersOf_117 : decode cX7_ordersOf 117 = .ok (.ireturn, 1) := by decide +kernel
theorem dX7_orders_0 : decode cX7_orders 0 = .ok (.aload_n 0, 1) := by decide +kernel
theorem dX7_orders_1 : decode cX7_orders 1 = .ok (.iconst 0, 1) := by decide +kernel
theorem dX7_orders_2 : decode cX7_orders 2 = .ok (.putfield 75, 3) := by decide +kernel
theorem dX7_orders_5 : decode cX7_orders 5 = .ok (.aload_n 0, 1) := by decide +kernel
theorem dX7_orders_6 : decode cX7_orders 6 = .ok (.iload_n 1, 1) := by decide +kernel
theorem dX7_orders_7 : decode cX7_orders 7 = .ok (.invokevirtual 171, 3) := by decide +kernel
theorem dX7_orders_10 : decode cX7_orders 10 = .ok (.ifCond .eq 8, 3) := by decide +kernel
theorem dX7_orders_13 : decode cX7_orders 13 = .ok (.iload_n 2, 1) := by decide +kernel
theorem dX7_orders_14 : decode cX7_orders 14 = .ok (.iconst (-1), 1) := by decide +kernel
theorem dX7_orders_15 : decode cX7_orders 15 = .ok (.if_icmp .ge 5, 3) := by decide +kernel
theorem dX7_orders_18 : decode cX7_orders 18 = .ok (.iconst (-1), 1) := by decide +kernel
theorem dX7_orders_19 : decode cX7_orders 19 = .ok (.ireturn, 1) := by decide +kernel
theorem dX7_orders_20 : decode cX7_orders 20 = .ok (.aload_n 0, 1) := by decide +kernel
theorem dX7_orders_21 : decode cX7_orders 21 = .ok (.iload_n 1, 1) := by decide +kernel
theorem dX7_orders_22 : decode cX7_orders 22 = .ok (.bipush (-9), 2) := by decide +kernel
theorem dX7_orders_24 : decode cX7_orders 24 = .ok (.invokevirtual 225, 3) := by decide +kernel
theorem dX7_orders_27 : decode cX7_orders 27 = .ok (.istore_n 3, 1) := by decide +kernel
theorem dX7_orders_28 : decode cX7_orders 28 = .ok (.iload_n 2, 1) := by decide +kernel
theorem dX7_orders_29 : decode cX7_orders 29 = .ok (.ifCond .ge 5, 3) := by decide +kernel
theorem dX7_orders_32 : decode cX7_orders 32 = .ok (.iload_n 3, 1) := by decide +kernel
theorem dX7_orders_33 : decode cX7_orders 33 = .ok (.ireturn, 1) := by decide +kernel
theorem dX7_orders_34 : decode cX7_orders 34 = .ok (.iload_n 3, 1) := by decide +kernel
theorem dX7_orders_35 : decode cX7_orders 35 = .ok (.ifCond .ne 8, 3) := by decide +kernel
theorem dX7_orders_38 : decode cX7_orders 38 = .ok (.bipush (-9), 2) := by decide +kernel
theorem dX7_orders_40 : decode cX7_orders 40 = .ok (.goto 22, 3) := by decide +kernel
theorem dX7_orders_43 : decode cX7_orders 43 = .ok (.iload_n 2, 1) := by decide +kernel
theorem dX7_orders_44 : decode cX7_orders 44 = .ok (.aload_n 0, 1) := by decide +kernel
theorem dX7_orders_45 : decode cX7_orders 45 = .ok (.getfield 153, 3) := by decide +kernel
theorem dX7_orders_48 : decode cX7_orders 48 = .ok (.if_icmp .ge 12, 3) := by decide +kernel
theorem dX7_orders_51 : decode cX7_orders 51 = .ok (.aload_n 0, 1) := by decide +kernel
theorem dX7_orders_52 : decode cX7_orders 52 = .ok (.getfield 62, 3) := by decide +kernel
theorem dX7_orders_55 : decode cX7_orders 55 = .ok (.iload_n 2, 1) := by decide +kernel
theorem dX7_orders_56 : decode cX7_orders 56 = .ok (.iaload, 1) := by decide +kernel
theorem dX7_orders_57 : decode cX7_orders 57 = .ok (.goto 5, 3) := by decide +kernel
theorem dX7_orders_60 : decode cX7_orders 60 = .ok (.bipush (-5), 2) := by decide +kernel
theorem dX7_orders_62 : decode cX7_orders 62 = .ok (.ireturn, 1) := by decide +kernel
theorem dX7_bars_0 : decode cX7_bars 0 = .ok (.aload_n 0, 1) := by decide +kernel
theorem dX7_bars_1 : decode cX7_bars 1 = .ok (.iconst 0, 1) := by decide +kernel
theorem dX7_bars_2 : decode cX7_bars 2 = .ok (.putfield 75, 3) := by decide +kernel
theorem dX7_bars_5 : decode cX7_bars 5 = .ok (.aload_n 0, 1) := by decide +kernel
theorem dX7_bars_6 : decode cX7_bars 6 = .ok (.iload_n 1, 1) := by decide +kernel
theorem dX7_bars_7 : decode cX7_bars 7 = .ok (.invokevirtual 171, 3) := by decide +kernel
theorem dX7_bars_10 : decode cX7_bars 10 = .ok (.ifCond .ne 5, 3) := by decide +kernel
theorem dX7_bars_13 : decode cX7_bars 13 = .ok (.iconst (-1), 1) := by decide +kernel
theorem dX7_bars_14 : decode cX7_bars 14 = .ok (.ireturn, 1) := by decide +kernel
theorem dX7_bars_15 : decode cX7_bars 15 = .ok (.aload_n 0, 1) := by decide +kernel
theorem dX7_bars_16 : decode cX7_bars 16 = .ok (.iload_n 1, 1) := by decide +kernel
theorem dX7_bars_17 : decode cX7_bars 17 = .ok (.bipush (-9), 2) := by decide +kernel
theorem dX7_bars_19 : decode cX7_bars 19 = .ok (.invokevirtual 225, 3) := by decide +kernel
theorem dX7_bars_22 : decode cX7_bars 22 = .ok (.ifCond .le 6, 3) := by decide +kernel
theorem dX7_bars_25 : decode cX7_bars 25 = .ok (.bipush (-9), 2) := by decide +kernel
theorem dX7_bars_27 : decode cX7_bars 27 = .ok (.ireturn, 1) := by decide +kernel
theorem dX7_bars_28 : decode cX7_bars 28 = .ok (.iconst 0, 1) := by decide +kernel
theorem dX7_bars_29 : decode cX7_bars 29 = .ok (.istore_n 2, 1) := by decide +kernel
theorem dX7_bars_30 : decode cX7_bars 30 = .ok (.iload_n 2, 1) := by decide +kernel
theorem dX7_bars_31 : decode cX7_bars 31 = .ok (.aload_n 0, 1) := by decide +kernel
theorem dX7_bars_32 : decode cX7_bars 32 = .ok (.getfield 153, 3) := by decide +kernel
theorem dX7_bars_35 : decode cX7_bars 35 = .ok (.if_icmp .ge 20, 3) := by decide +kernel
theorem dX7_bars_38 : decode cX7_bars 38 = .ok (.aload_n 0, 1) := by decide +kernel
theorem dX7_bars_39 : decode cX7_bars 39 = .ok (.iload_n 1, 1) := by decide +kernel
theorem dX7_bars_40 : decode cX7_bars 40 = .ok (.iload_n 2, 1) := by decide +kernel
theorem dX7_bars_41 : decode cX7_bars 41 = .ok (.invokevirtual 225, 3) := by decide +kernel
theorem dX7_bars_44 : decode cX7_bars 44 = .ok (.ifCond .le 5, 3) := by decide +kernel
theorem dX7_bars_47 : decode cX7_bars 47 = .ok (.iload_n 2, 1) := by decide +kernel
theorem dX7_bars_48 : decode cX7_bars 48 = .ok (.ireturn, 1) := by decide +kernel
theorem dX7_bars_49 : decode cX7_bars 49 = .ok (.iinc 2 1, 3) := by decide +kernel
theorem dX7_bars_52 : decode cX7_bars 52 = .ok (.goto (-22), 3) := by decide +kernel
theorem dX7_bars_55 : decode cX7_bars 55 = .ok (.bipush (-9), 2) := by decide +kernel
theorem dX7_bars_57 : decode cX7_bars 57 = .ok (.ireturn, 1) := by decide +kernel
theorem dX7_canJump_0 : decode cX7_canJump 0 = .ok (.aload_n 0, 1) := by decide +kernel
theorem dX7_canJump_1 : decode cX7_canJump 1 = .ok (.getfield 25, 3) := by decide +kernel
theorem dX7_canJump_4 : decode cX7_canJump 4 = .ok (.iload_n 2, 1) := by decide +kernel
theorem dX7_canJump_5 : decode cX7_canJump 5 = .ok (.iaload, 1) := by decide +kernel
theorem dX7_canJump_6 : decode cX7_canJump 6 = .ok (.aload_n 0, 1) := by decide +kernel
theorem dX7_canJump_7 : decode cX7_canJump 7 = .ok (.getfield 25, 3) := by decide +kernel
theorem dX7_canJump_10 : decode cX7_canJump 10 = .ok (.iload_n 3, 1) := by decide +kernel
theorem dX7_canJump_11 : decode cX7_canJump 11 = .ok (.iaload, 1) := by decide +kernel
theorem dX7_canJump_12 : decode cX7_canJump 12 = .ok (.if_icmp .ge 19, 3) := by decide +kernel
theorem dX7_canJump_15 : decode cX7_canJump 15 = .ok (.aload_n 0, 1) := by decide +kernel
theorem dX7_canJump_16 : decode cX7_canJump 16 = .ok (.getfield 25, 3) := by decide +kernel
theorem dX7_canJump_19 : decode cX7_canJump 19 = .ok (.iload_n 3, 1) := by decide +kernel
theorem dX7_canJump_20 : decode cX7_canJump 20 = .ok (.iaload, 1) := by decide +kernel
theorem dX7_canJump_21 : decode cX7_canJump 21 = .ok (.aload_n 0, 1) := by decide +kernel
theorem dX7_canJump_22 : decode cX7_canJump 22 = .ok (.getfield 25, 3) := by decide +kernel
theorem dX7_canJump_25 : decode cX7_canJump 25 = .ok (.iload_n 2, 1) := by decide +kernel
theorem dX7_canJump_26 : decode cX7_canJump 26 = .ok (.iaload, 1) := by decide +kernel
theorem dX7_canJump_27 : decode cX7_canJump 27 = .ok (.isub, 1) := by decide +kernel
theorem dX7_canJump_28 : decode cX7_canJump 28 = .ok (.goto 16, 3) := by decide +kernel
theorem dX7_canJump_31 : decode cX7_canJump 31 = .ok (.aload_n 0, 1) := by decide +kernel
theorem dX7_canJump_32 : decode cX7_canJump 32 = .ok (.getfield 25, 3) := by decide +kernel
theorem dX7_canJump_35 : decode cX7_canJump 35 = .ok (.iload_n 2, 1) := by decide +kernel
theorem dX7_canJump_36 : decode cX7_canJump 36 = .ok (.iaload, 1) := by decide +kernel
theorem dX7_canJump_37 : decode cX7_canJump 37 = .ok (.aload_n 0, 1) := by decide +kernel
theorem dX7_canJump_38 : decode cX7_canJump 38 = .ok (.getfield 25, 3) := by decide +kernel
theorem dX7_canJump_41 : decode cX7_canJump 41 = .ok (.iload_n 3, 1) := by decide +kernel
theorem dX7_canJump_42 : decode cX7_canJump 42 = .ok (.iaload, 1) := by decide +kernel
theorem dX7_canJump_43 : decode cX7_canJump 43 = .ok (.isub, 1) := by decide +kernel
theorem dX7_canJump_44 : decode cX7_canJump 44 = .ok (.istore 4, 2) := by decide +kernel
theorem dX7_canJump_46 : decode cX7_canJump 46 = .ok (.iload_n 2, 1) := by decide +kernel
theorem dX7_canJump_47 : decode cX7_canJump 47 = .ok (.iload_n 3, 1) := by decide +kernel
theorem dX7_canJump_48 : decode cX7_canJump 48 = .ok (.if_icmp .eq 33, 3) := by decide +kernel
theorem dX7_canJump_51 : decode cX7_canJump 51 = .ok (.iload 4, 2) := by decide +kernel
theorem dX7_canJump_53 : decode cX7_canJump 53 = .ok (.aload_n 0, 1) := by decide +kernel
theorem dX7_canJump_54 : decode cX7_canJump 54 = .ok (.getfield 13, 3) := by decide +kernel
theorem dX7_canJump_57 : decode cX7_canJump 57 = .ok (.iload_n 1, 1) := by decide +kernel
theorem dX7_canJump_58 : decode cX7_canJump 58 = .ok (.iaload, 1) := by decide +kernel
theorem dX7_canJump_59 : decode cX7_canJump 59 = .ok (.if_icmp .gt 22, 3) := by decide +kernel
theorem dX7_canJump_62 : decode cX7_canJump 62 = .ok (.aload_n 0, 1) := by decide +kernel
theorem dX7_canJump_63 : decode cX7_canJump 63 = .ok (.aload_n 0, 1) := by decide +kernel
theorem dX7_canJump_64 : decode cX7_canJump 64 = .ok (.getfield 28, 3) := by decide +kernel
theorem dX7_canJump_67 : decode cX7_canJump 67 = .ok (.iload_n 1, 1) := by decide +kernel
theorem dX7_canJump_68 : decode cX7_canJump 68 = .ok (.iload 4, 2) := by decide +kernel
theorem dX7_canJump_70 : decode cX7_canJump 70 = .ok (.invokevirtual 167, 3) := by decide +kernel
theorem dX7_canJump_73 : decode cX7_canJump 73 = .ok (.iconst 3, 1) := by decide +kernel
theorem dX7_canJump_74 : decode cX7_canJump 74 = .ok (.if_icmp .eq 7, 3) := by decide +kernel
theorem dX7_canJump_77 : decode cX7_canJump 77 = .ok (.iconst 1, 1) := by decide +kernel
theorem dX7_canJump_78 : decode cX7_canJump 78 = .ok (.goto 4, 3) := by decide +kernel
theorem dX7_canJump_81 : decode cX7_canJump 81 = .ok (.iconst 0, 1) := by decide +kernel
theorem dX7_canJump_82 : decode cX7_canJump 82 = .ok (.ireturn, 1) := by decide +kernel
theorem dX7_measures_0 : decode cX7_measures 0 = .ok (.iconst 0, 1) := by decide +kernel
theorem dX7_measures_1 : decode cX7_measures 1 = .ok (.istore_n 3, 1) := by decide +kernel
theorem dX7_measures_2 : decode cX7_measures 2 = .ok (.iload_n 3, 1) := by decide +kernel
theorem dX7_measures_3 : decode cX7_measures 3 = .ok (.aload_n 0, 1) := by decide +kernel
theorem dX7_measures_4 : decode cX7_measures 4 = .ok (.getfield 147, 3) := by decide +kernel
theorem dX7_measures_7 : decode cX7_measures 7 = .ok (.if_icmp .ge 26, 3) := by decide +kernel
theorem dX7_measures_10 : decode cX7_measures 10 = .ok (.aload_n 0, 1) := by decide +kernel
theorem dX7_measures_11 : decode cX7_measures 11 = .ok (.getfield 65, 3) := by decide +kernel
theorem dX7_measures_14 : decode cX7_measures 14 = .ok (.iload_n 3, 1) := by decide +kernel
theorem dX7_measures_15 : decode cX7_measures 15 = .ok (.iload_n 3, 1) := by decide +kernel
theorem dX7_measures_16 : decode cX7_measures 16 = .ok (.iload_n 2, 1) := by decide +kernel
theorem dX7_measures_17 : decode cX7_measures 17 = .ok (.if_icmp .ne 7, 3) := by decide +kernel
theorem dX7_measures_20 : decode cX7_measures 20 = .ok (.iconst 0, 1) := by decide +kernel
theorem dX7_measures_21 : decode cX7_measures 21 = .ok (.goto 5, 3) := by decide +kernel
theorem dX7_measures_24 : decode cX7_measures 24 = .ok (.bipush (-9), 2) := by decide +kernel
theorem dX7_measures_26 : decode cX7_measures 26 = .ok (.iastore, 1) := by decide +kernel
theorem dX7_measures_27 : decode cX7_measures 27 = .ok (.iinc 3 1, 3) := by decide +kernel
theorem dX7_measures_30 : decode cX7_measures 30 = .ok (.goto (-28), 3) := by decide +kernel
theorem dX7_measures_33 : decode cX7_measures 33 = .ok (.iconst 0, 1) := by decide +kernel
theorem dX7_measures_34 : decode cX7_measures 34 = .ok (.istore_n 3, 1) := by decide +kernel
theorem dX7_measures_35 : decode cX7_measures 35 = .ok (.iload_n 3, 1) := by decide +kernel
theorem dX7_measures_36 : decode cX7_measures 36 = .ok (.aload_n 0, 1) := by decide +kernel
theorem dX7_measures_37 : decode cX7_measures 37 = .ok (.getfield 147, 3) := by decide +kernel
theorem dX7_measures_40 : decode cX7_measures 40 = .ok (.if_icmp .ge 90, 3) := by decide +kernel
theorem dX7_measures_43 : decode cX7_measures 43 = .ok (.iconst 0, 1) := by decide +kernel
theorem dX7_measures_44 : decode cX7_measures 44 = .ok (.istore 4, 2) := by decide +kernel
theorem dX7_measures_46 : decode cX7_measures 46 = .ok (.iload 4, 2) := by decide +kernel
theorem dX7_measures_48 : decode cX7_measures 48 = .ok (.aload_n 0, 1) := by decide +kernel
theorem dX7_measures_49 : decode cX7_measures 49 = .ok (.getfield 147, 3) := by decide +kernel
theorem dX7_measures_52 : decode cX7_measures 52 = .ok (.if_icmp .ge 72, 3) := by decide +kernel
theorem dX7_measures_55 : decode cX7_measures 55 = .ok (.iconst 0, 1) := by decide +kernel
theorem dX7_measures_56 : decode cX7_measures 56 = .ok (.istore 5, 2) := by decide +kernel
theorem dX7_measures_58 : decode cX7_measures 58 = .ok (.iload 5, 2) := by decide +kernel
theorem dX7_measures_60 : decode cX7_measures 60 = .ok (.aload_n 0, 1) := by decide +kernel
theorem dX7_measures_61 : decode cX7_measures 61 = .ok (.getfield 147, 3) := by decide +kernel
theorem dX7_measures_64 : decode cX7_measures 64 = .ok (.if_icmp .ge 54, 3) := by decide +kernel
theorem dX7_measures_67 : decode cX7_measures 67 = .ok (.aload_n 0, 1) := by decide +kernel
theorem dX7_measures_68 : decode cX7_measures 68 = .ok (.getfield 65, 3) := by decide +kernel
theorem dX7_measures_71 : decode cX7_measures 71 = .ok (.iload 4, 2) := by decide +kernel
theorem dX7_measures_73 : decode cX7_measures 73 = .ok (.iaload, 1) := by decide +kernel
theorem dX7_measures_74 : decode cX7_measures 74 = .ok (.iload_n 3, 1) := by decide +kernel
theorem dX7_measures_75 : decode cX7_measures 75 = .ok (.if_icmp .ne 37, 3) := by decide +kernel
theorem dX7_measures_78 : decode cX7_measures 78 = .ok (.aload_n 0, 1) := by decide +kernel
theorem dX7_measures_79 : decode cX7_measures 79 = .ok (.getfield 65, 3) := by decide +kernel
theorem dX7_measures_82 : decode cX7_measures 82 = .ok (.iload 5, 2) := by decide +kernel
theorem dX7_measures_84 : decode cX7_measures 84 = .ok (.iaload, 1) := by decide +kernel
theorem dX7_measures_85 : decode cX7_measures 85 = .ok (.bipush (-9), 2) := by decide +kernel
theorem dX7_measures_87 : decode cX7_measures 87 = .ok (.if_icmp .ne 25, 3) := by decide +kernel
theorem dX7_measures_90 : decode cX7_measures 90 = .ok (.aload_n 0, 1) := by decide +kernel
theorem dX7_measures_91 : decode cX7_measures 91 = .ok (.iload_n 1, 1) := by decide +kernel
theorem dX7_measures_92 : decode cX7_measures 92 = .ok (.iload 4, 2) := by decide +kernel
theorem dX7_measures_94 : decode cX7_measures 94 = .ok (.iload 5, 2) := by decide +kernel
theorem dX7_measures_96 : decode cX7_measures 96 = .ok (.invokevirtual 228, 3) := by decide +kernel
theorem dX7_measures_99 : decode cX7_measures 99 = .ok (.ifCond .eq 13, 3) := by decide +kernel
theorem dX7_measures_102 : decode cX7_measures 102 = .ok (.aload_n 0, 1) := by decide +kernel
theorem dX7_measures_103 : decode cX7_measures 103 = .ok (.getfield 65, 3) := by decide +kernel
theorem dX7_measures_106 : decode cX7_measures 106 = .ok (.iload 5, 2) := by decide +kernel
theorem dX7_measures_108 : decode cX7_measures 108 = .ok (.iload_n 3, 1) := by decide +kernel
theorem dX7_measures_109 : decode cX7_measures 109 = .ok (.iconst 1, 1) := by decide +kernel
theorem dX7_measures_110 : decode cX7_measures 110 = .ok (.iadd, 1) := by decide +kernel
theorem dX7_measures_111 : decode cX7_measures 111 = .ok (.iastore, 1) := by decide +kernel
theorem dX7_measures_112 : decode cX7_measures 112 = .ok (.iinc 5 1, 3) := by decide +kernel
theorem dX7_measures_115 : decode cX7_measures 115 = .ok (.goto (-57), 3) := by decide +kernel
theorem dX7_measures_118 : decode cX7_measures 118 = .ok (.iinc 4 1, 3) := by decide +kernel
theorem dX7_measures_121 : decode cX7_measures 121 = .ok (.goto (-75), 3) := by decide +kernel
theorem dX7_measures_124 : decode cX7_measures 124 = .ok (.iinc 3 1, 3) := by decide +kernel
theorem dX7_measures_127 : decode cX7_measures 127 = .ok (.goto (-92), 3) := by decide +kernel
theorem dX7_measures_130 : decode cX7_measures 130 = .ok (.return_, 1) := by decide +kernel
theorem dX7_trip_0 : decode cX7_trip 0 = .ok (.aload_n 0, 1) := by decide +kernel
theorem dX7_trip_1 : decode cX7_trip 1 = .ok (.iconst 0, 1) := by decide +kernel
theorem dX7_trip_2 : decode cX7_trip 2 = .ok (.putfield 75, 3) := by decide +kernel
theorem dX7_trip_5 : decode cX7_trip 5 = .ok (.aload_n 0, 1) := by decide +kernel
theorem dX7_trip_6 : decode cX7_trip 6 = .ok (.iload_n 1, 1) := by decide +kernel
theorem dX7_trip_7 : decode cX7_trip 7 = .ok (.invokevirtual 159, 3) := by decide +kernel
theorem dX7_trip_10 : decode cX7_trip 10 = .ok (.ifCond .eq 29, 3) := by decide +kernel
theorem dX7_trip_13 : decode cX7_trip 13 = .ok (.aload_n 0, 1) := by decide +kernel
theorem dX7_trip_14 : decode cX7_trip 14 = .ok (.iload_n 2, 1) := by decide +kernel
theorem dX7_trip_15 : decode cX7_trip 15 = .ok (.invokevirtual 177, 3) := by decide +kernel
theorem dX7_trip_18 : decode cX7_trip 18 = .ok (.ifCond .eq 21, 3) := by decide +kernel
theorem dX7_trip_21 : decode cX7_trip 21 = .ok (.aload_n 0, 1) := by decide +kernel
theorem dX7_trip_22 : decode cX7_trip 22 = .ok (.iload_n 3, 1) := by decide +kernel
theorem dX7_trip_23 : decode cX7_trip 23 = .ok (.invokevirtual 177, 3) := by decide +kernel
theorem dX7_trip_26 : decode cX7_trip 26 = .ok (.ifCond .eq 13, 3) := by decide +kernel
theorem dX7_trip_29 : decode cX7_trip 29 = .ok (.iload 4, 2) := by decide +kernel
theorem dX7_trip_31 : decode cX7_trip 31 = .ok (.iconst 0, 1) := by decide +kernel
theorem dX7_trip_32 : decode cX7_trip 32 = .ok (.iconst 1, 1) := by decide +kernel
theorem dX7_trip_33 : decode cX7_trip 33 = .ok (.invokestatic 78, 3) := by decide +kernel
theorem dX7_trip_36 : decode cX7_trip 36 = .ok (.ifCond .ne 5, 3) := by decide +kernel
theorem dX7_trip_39 : decode cX7_trip 39 = .ok (.iconst (-1), 1) := by decide +kernel
theorem dX7_trip_40 : decode cX7_trip 40 = .ok (.ireturn, 1) := by decide +kernel
theorem dX7_trip_41 : decode cX7_trip 41 = .ok (.aload_n 0, 1) := by decide +kernel
theorem dX7_trip_42 : decode cX7_trip 42 = .ok (.iload_n 1, 1) := by decide +kernel
theorem dX7_trip_43 : decode cX7_trip 43 = .ok (.iload_n 3, 1) := by decide +kernel
theorem dX7_trip_44 : decode cX7_trip 44 = .ok (.invokevirtual 231, 3) := by decide +kernel
theorem dX7_trip_47 : decode cX7_trip 47 = .ok (.iload 4, 2) := by decide +kernel
theorem dX7_trip_49 : decode cX7_trip 49 = .ok (.ifCond .ne 10, 3) := by decide +kernel
theorem dX7_trip_52 : decode cX7_trip 52 = .ok (.aload_n 0, 1) := by decide +kernel
theorem dX7_trip_53 : decode cX7_trip 53 = .ok (.getfield 65, 3) := by decide +kernel
theorem dX7_trip_56 : decode cX7_trip 56 = .ok (.iload_n 2, 1) := by decide +kernel
theorem dX7_trip_57 : decode cX7_trip 57 = .ok (.iaload, 1) := by decide +kernel
theorem dX7_trip_58 : decode cX7_trip 58 = .ok (.ireturn, 1) := by decide +kernel
theorem dX7_trip_59 : decode cX7_trip 59 = .ok (.iconst 0, 1) := by decide +kernel
theorem dX7_trip_60 : decode cX7_trip 60 = .ok (.istore 5, 2) := by decide +kernel
theorem dX7_trip_62 : decode cX7_trip 62 = .ok (.iload 5, 2) := by decide +kernel
theorem dX7_trip_64 : decode cX7_trip 64 = .ok (.aload_n 0, 1) := by decide +kernel
theorem dX7_trip_65 : decode cX7_trip 65 = .ok (.getfield 147, 3) := by decide +kernel
theorem dX7_trip_68 : decode cX7_trip 68 = .ok (.if_icmp .ge 50, 3) := by decide +kernel
theorem dX7_trip_71 : decode cX7_trip 71 = .ok (.aload_n 0, 1) := by decide +kernel
theorem dX7_trip_72 : decode cX7_trip 72 = .ok (.getfield 65, 3) := by decide +kernel
theorem dX7_trip_75 : decode cX7_trip 75 = .ok (.iload_n 2, 1) := by decide +kernel
theorem dX7_trip_76 : decode cX7_trip 76 = .ok (.iaload, 1) := by decide +kernel
theorem dX7_trip_77 : decode cX7_trip 77 = .ok (.ifCond .le 35, 3) := by decide +kernel
theorem dX7_trip_80 : decode cX7_trip 80 = .ok (.aload_n 0, 1) := by decide +kernel
theorem dX7_trip_81 : decode cX7_trip 81 = .ok (.getfield 65, 3) := by decide +kernel
theorem dX7_trip_84 : decode cX7_trip 84 = .ok (.iload 5, 2) := by decide +kernel
theorem dX7_trip_86 : decode cX7_trip 86 = .ok (.iaload, 1) := by decide +kernel
theorem dX7_trip_87 : decode cX7_trip 87 = .ok (.aload_n 0, 1) := by decide +kernel
theorem dX7_trip_88 : decode cX7_trip 88 = .ok (.getfield 65, 3) := by decide +kernel
theorem dX7_trip_91 : decode cX7_trip 91 = .ok (.iload_n 2, 1) := by decide +kernel
theorem dX7_trip_92 : decode cX7_trip 92 = .ok (.iaload, 1) := by decide +kernel
theorem dX7_trip_93 : decode cX7_trip 93 = .ok (.iconst 1, 1) := by decide +kernel
theorem dX7_trip_94 : decode cX7_trip 94 = .ok (.isub, 1) := by decide +kernel
theorem dX7_trip_95 : decode cX7_trip 95 = .ok (.if_icmp .ne 17, 3) := by decide +kernel
theorem dX7_trip_98 : decode cX7_trip 98 = .ok (.aload_n 0, 1) := by decide +kernel
theorem dX7_trip_99 : decode cX7_trip 99 = .ok (.iload_n 1, 1) := by decide +kernel
theorem dX7_trip_100 : decode cX7_trip 100 = .ok (.iload_n 2, 1) := by decide +kernel
theorem dX7_trip_101 : decode cX7_trip 101 = .ok (.iload 5, 2) := by decide +kernel
theorem dX7_trip_103 : decode cX7_trip 103 = .ok (.invokevirtual 228, 3) := by decide +kernel
theorem dX7_trip_106 : decode cX7_trip 106 = .ok (.ifCond .eq 6, 3) := by decide +kernel
theorem dX7_trip_109 : decode cX7_trip 109 = .ok (.iload 5, 2) := by decide +kernel
theorem dX7_trip_111 : decode cX7_trip 111 = .ok (.ireturn, 1) := by decide +kernel
theorem dX7_trip_112 : decode cX7_trip 112 = .ok (.iinc 5 1, 3) := by decide +kernel
theorem dX7_trip_115 : decode cX7_trip 115 = .ok (.goto (-53), 3) := by decide +kernel
theorem dX7_trip_118 : decode cX7_trip 118 = .ok (.bipush (-9), 2) := by decide +kernel
theorem dX7_trip_120 : decode cX7_trip 120 = .ok (.ireturn, 1) := by decide +kernel
theorem dX7_isPart_0 : decode cX7_isPart 0 = .ok (.iload_n 2, 1) := by decide +kernel
theorem dX7_isPart_1 : decode cX7_isPart 1 = .ok (.iconst 1, 1) := by decide +kernel
theorem dX7_isPart_2 : decode cX7_isPart 2 = .ok (.aload_n 0, 1) := by decide +kernel
theorem dX7_isPart_3 : decode cX7_isPart 3 = .ok (.getfield 13, 3) := by decide +kernel
theorem dX7_isPart_6 : decode cX7_isPart 6 = .ok (.iload_n 1, 1) := by decide +kernel
theorem dX7_isPart_7 : decode cX7_isPart 7 = .ok (.iaload, 1) := by decide +kernel
theorem dX7_isPart_8 : decode cX7_isPart 8 = .ok (.invokestatic 78, 3) := by decide +kernel
theorem dX7_isPart_11 : decode cX7_isPart 11 = .ok (.ifCond .eq 21, 3) := by decide +kernel
theorem dX7_isPart_14 : decode cX7_isPart 14 = .ok (.aload_n 0, 1) := by decide +kernel
theorem dX7_isPart_15 : decode cX7_isPart 15 = .ok (.aload_n 0, 1) := by decide +kernel
theorem dX7_isPart_16 : decode cX7_isPart 16 = .ok (.getfield 28, 3) := by decide +kernel
theorem dX7_isPart_19 : decode cX7_isPart 19 = .ok (.iload_n 1, 1) := by decide +kernel
theorem dX7_isPart_20 : decode cX7_isPart 20 = .ok (.iload_n 2, 1) := by decide +kernel
theorem dX7_isPart_21 : decode cX7_isPart 21 = .ok (.invokevirtual 167, 3) := by decide +kernel
theorem dX7_isPart_24 : decode cX7_isPart 24 = .ok (.iconst 3, 1) := by decide +kernel
theorem dX7_isPart_25 : decode cX7_isPart 25 = .ok (.if_icmp .eq 7, 3) := by decide +kernel
theorem dX7_isPart_28 : decode cX7_isPart 28 = .ok (.iconst 1, 1) := by decide +kernel
theorem dX7_isPart_29 : decode cX7_isPart 29 = .ok (.goto 4, 3) := by decide +kernel
theorem dX7_isPart_32 : decode cX7_isPart 32 = .ok (.iconst 0, 1) := by decide +kernel
theorem dX7_isPart_33 : decode cX7_isPart 33 = .ok (.ireturn, 1) := by decide +kernel
theorem dX7_shares_0 : decode cX7_shares 0 = .ok (.aload_n 0, 1) := by decide +kernel
theorem dX7_shares_1 : decode cX7_shares 1 = .ok (.getfield 68, 3) := by decide +kernel
theorem dX7_shares_4 : decode cX7_shares 4 = .ok (.iconst 0, 1) := by decide +kernel
theorem dX7_shares_5 : decode cX7_shares 5 = .ok (.iconst 0, 1) := by decide +kernel
theorem dX7_shares_6 : decode cX7_shares 6 = .ok (.iastore, 1) := by decide +kernel
theorem dX7_shares_7 : decode cX7_shares 7 = .ok (.iconst 1, 1) := by decide +kernel
theorem dX7_shares_8 : decode cX7_shares 8 = .ok (.istore_n 3, 1) := by decide +kernel
theorem dX7_shares_9 : decode cX7_shares 9 = .ok (.iload_n 3, 1) := by decide +kernel
theorem dX7_shares_10 : decode cX7_shares 10 = .ok (.iload_n 2, 1) := by decide +kernel
theorem dX7_shares_11 : decode cX7_shares 11 = .ok (.if_icmp .gt 125, 3) := by decide +kernel
theorem dX7_shares_14 : decode cX7_shares 14 = .ok (.aload_n 0, 1) := by decide +kernel
theorem dX7_shares_15 : decode cX7_shares 15 = .ok (.getfield 68, 3) := by decide +kernel
theorem dX7_shares_18 : decode cX7_shares 18 = .ok (.iload_n 3, 1) := by decide +kernel
theorem dX7_shares_19 : decode cX7_shares 19 = .ok (.bipush (-9), 2) := by decide +kernel
theorem dX7_shares_21 : decode cX7_shares 21 = .ok (.iastore, 1) := by decide +kernel
theorem dX7_shares_22 : decode cX7_shares 22 = .ok (.iconst 1, 1) := by decide +kernel
theorem dX7_shares_23 : decode cX7_shares 23 = .ok (.istore 4, 2) := by decide +kernel
theorem dX7_shares_25 : decode cX7_shares 25 = .ok (.iload 4, 2) := by decide +kernel
theorem dX7_shares_27 : decode cX7_shares 27 = .ok (.iload_n 3, 1) := by decide +kernel
theorem dX7_shares_28 : decode cX7_shares 28 = .ok (.if_icmp .gt 102, 3) := by decide +kernel
theorem dX7_shares_31 : decode cX7_shares 31 = .ok (.aload_n 0, 1) := by decide +kernel
theorem dX7_shares_32 : decode cX7_shares 32 = .ok (.iload_n 1, 1) := by decide +kernel
theorem dX7_shares_33 : decode cX7_shares 33 = .ok (.iload 4, 2) := by decide +kernel
theorem dX7_shares_35 : decode cX7_shares 35 = .ok (.invokevirtual 235, 3) := by decide +kernel
theorem dX7_shares_38 : decode cX7_shares 38 = .ok (.ifCond .eq 21, 3) := by decide +kernel
theorem dX7_shares_41 : decode cX7_shares 41 = .ok (.aload_n 0, 1) := by decide +kernel
theorem dX7_shares_42 : decode cX7_shares 42 = .ok (.getfield 68, 3) := by decide +kernel
theorem dX7_shares_45 : decode cX7_shares 45 = .ok (.iload_n 3, 1) := by decide +kernel
theorem dX7_shares_46 : decode cX7_shares 46 = .ok (.iload 4, 2) := by decide +kernel
theorem dX7_shares_48 : decode cX7_shares 48 = .ok (.isub, 1) := by decide +kernel
theorem dX7_shares_49 : decode cX7_shares 49 = .ok (.iaload, 1) := by decide +kernel
theorem dX7_shares_50 : decode cX7_shares 50 = .ok (.bipush (-9), 2) := by decide +kernel
theorem dX7_shares_52 : decode cX7_shares 52 = .ok (.if_icmp .eq 7, 3) := by decide +kernel
theorem dX7_shares_55 : decode cX7_shares 55 = .ok (.iconst 1, 1) := by decide +kernel
theorem dX7_shares_56 : decode cX7_shares 56 = .ok (.goto 4, 3) := by decide +kernel
theorem dX7_shares_59 : decode cX7_shares 59 = .ok (.iconst 0, 1) := by decide +kernel
theorem dX7_shares_60 : decode cX7_shares 60 = .ok (.istore 5, 2) := by decide +kernel
theorem dX7_shares_62 : decode cX7_shares 62 = .ok (.aload_n 0, 1) := by decide +kernel
theorem dX7_shares_63 : decode cX7_shares 63 = .ok (.getfield 68, 3) := by decide +kernel
theorem dX7_shares_66 : decode cX7_shares 66 = .ok (.iload_n 3, 1) := by decide +kernel
theorem dX7_shares_67 : decode cX7_shares 67 = .ok (.iload 5, 2) := by decide +kernel
theorem dX7_shares_69 : decode cX7_shares 69 = .ok (.ifCond .eq 48, 3) := by decide +kernel
theorem dX7_shares_72 : decode cX7_shares 72 = .ok (.aload_n 0, 1) := by decide +kernel
theorem dX7_shares_73 : decode cX7_shares 73 = .ok (.getfield 68, 3) := by decide +kernel
theorem dX7_shares_76 : decode cX7_shares 76 = .ok (.iload_n 3, 1) := by decide +kernel
theorem dX7_shares_77 : decode cX7_shares 77 = .ok (.iaload, 1) := by decide +kernel
theorem dX7_shares_78 : decode cX7_shares 78 = .ok (.bipush (-9), 2) := by decide +kernel
theorem dX7_shares_80 : decode cX7_shares 80 = .ok (.if_icmp .eq 23, 3) := by decide +kernel
theorem dX7_shares_83 : decode cX7_shares 83 = .ok (.aload_n 0, 1) := by decide +kernel
theorem dX7_shares_84 : decode cX7_shares 84 = .ok (.getfield 68, 3) := by decide +kernel
theorem dX7_shares_87 : decode cX7_shares 87 = .ok (.iload_n 3, 1) := by decide +kernel
theorem dX7_shares_88 : decode cX7_shares 88 = .ok (.iload 4, 2) := by decide +kernel
theorem dX7_shares_90 : decode cX7_shares 90 = .ok (.isub, 1) := by decide +kernel
theorem dX7_shares_91 : decode cX7_shares 91 = .ok (.iaload, 1) := by decide +kernel
theorem dX7_shares_92 : decode cX7_shares 92 = .ok (.iconst 1, 1) := by decide +kernel
theorem dX7_shares_93 : decode cX7_shares 93 = .ok (.iadd, 1) := by decide +kernel
theorem dX7_shares_94 : decode cX7_shares 94 = .ok (.aload_n 0, 1) := by decide +kernel
theorem dX7_shares_95 : decode cX7_shares 95 = .ok (.getfield 68, 3) := by decide +kernel
theorem dX7_shares_98 : decode cX7_shares 98 = .ok (.iload_n 3, 1) := by decide +kernel
theorem dX7_shares_99 : decode cX7_shares 99 = .ok (.iaload, 1) := by decide +kernel
theorem dX7_shares_100 : decode cX7_shares 100 = .ok (.if_icmp .ge 17, 3) := by decide +kernel
theorem dX7_shares_103 : decode cX7_shares 103 = .ok (.aload_n 0, 1) := by decide +kernel
theorem dX7_shares_104 : decode cX7_shares 104 = .ok (.getfield 68, 3) := by decide +kernel
theorem dX7_shares_107 : decode cX7_shares 107 = .ok (.iload_n 3, 1) := by decide +kernel
theorem dX7_shares_108 : decode cX7_shares 108 = .ok (.iload 4, 2) := by decide +kernel
theorem dX7_shares_110 : decode cX7_shares 110 = .ok (.isub, 1) := by decide +kernel
theorem dX7_shares_111 : decode cX7_shares 111 = .ok (.iaload, 1) := by decide +kernel
theorem dX7_shares_112 : decode cX7_shares 112 = .ok (.iconst 1, 1) := by decide +kernel
theorem dX7_shares_113 : decode cX7_shares 113 = .ok (.iadd, 1) := by decide +kernel
theorem dX7_shares_114 : decode cX7_shares 114 = .ok (.goto 9, 3) := by decide +kernel
theorem dX7_shares_117 : decode cX7_shares 117 = .ok (.aload_n 0, 1) := by decide +kernel
theorem dX7_shares_118 : decode cX7_shares 118 = .ok (.getfield 68, 3) := by decide +kernel
theorem dX7_shares_121 : decode cX7_shares 121 = .ok (.iload_n 3, 1) := by decide +kernel
theorem dX7_shares_122 : decode cX7_shares 122 = .ok (.iaload, 1) := by decide +kernel
theorem dX7_shares_123 : decode cX7_shares 123 = .ok (.iastore, 1) := by decide +kernel
theorem dX7_shares_124 : decode cX7_shares 124 = .ok (.iinc 4 1, 3) := by decide +kernel
theorem dX7_shares_127 : decode cX7_shares 127 = .ok (.goto (-102), 3) := by decide +kernel
theorem dX7_shares_130 : decode cX7_shares 130 = .ok (.iinc 3 1, 3) := by decide +kernel
theorem dX7_shares_133 : decode cX7_shares 133 = .ok (.goto (-124), 3) := by decide +kernel
theorem dX7_shares_136 : decode cX7_shares 136 = .ok (.return_, 1) := by decide +kernel
theorem dX7_parts_0 : decode cX7_parts 0 = .ok (.aload_n 0, 1) := by decide +kernel
theorem dX7_parts_1 : decode cX7_parts 1 = .ok (.iconst 0, 1) := by decide +kernel
theorem dX7_parts_2 : decode cX7_parts 2 = .ok (.putfield 75, 3) := by decide +kernel
theorem dX7_parts_5 : decode cX7_parts 5 = .ok (.aload_n 0, 1) := by decide +kernel
theorem dX7_parts_6 : decode cX7_parts 6 = .ok (.iload_n 1, 1) := by decide +kernel
theorem dX7_parts_7 : decode cX7_parts 7 = .ok (.invokevirtual 159, 3) := by decide +kernel
theorem dX7_parts_10 : decode cX7_parts 10 = .ok (.ifCond .eq 22, 3) := by decide +kernel
theorem dX7_parts_13 : decode cX7_parts 13 = .ok (.iload_n 2, 1) := by decide +kernel
theorem dX7_parts_14 : decode cX7_parts 14 = .ok (.iconst 1, 1) := by decide +kernel
theorem dX7_parts_15 : decode cX7_parts 15 = .ok (.bipush 99, 2) := by decide +kernel
theorem dX7_parts_17 : decode cX7_parts 17 = .ok (.invokestatic 78, 3) := by decide +kernel
theorem dX7_parts_20 : decode cX7_parts 20 = .ok (.ifCond .eq 12, 3) := by decide +kernel
theorem dX7_parts_23 : decode cX7_parts 23 = .ok (.iload_n 3, 1) := by decide +kernel
theorem dX7_parts_24 : decode cX7_parts 24 = .ok (.iconst 0, 1) := by decide +kernel
theorem dX7_parts_25 : decode cX7_parts 25 = .ok (.iconst 1, 1) := by decide +kernel
theorem dX7_parts_26 : decode cX7_parts 26 = .ok (.invokestatic 78, 3) := by decide +kernel
theorem dX7_parts_29 : decode cX7_parts 29 = .ok (.ifCond .ne 5, 3) := by decide +kernel
theorem dX7_parts_32 : decode cX7_parts 32 = .ok (.iconst (-1), 1) := by decide +kernel
theorem dX7_parts_33 : decode cX7_parts 33 = .ok (.ireturn, 1) := by decide +kernel
theorem dX7_parts_34 : decode cX7_parts 34 = .ok (.aload_n 0, 1) := by decide +kernel
theorem dX7_parts_35 : decode cX7_parts 35 = .ok (.iload_n 1, 1) := by decide +kernel
theorem dX7_parts_36 : decode cX7_parts 36 = .ok (.iload_n 2, 1) := by decide +kernel
theorem dX7_parts_37 : decode cX7_parts 37 = .ok (.invokevirtual 239, 3) := by decide +kernel
theorem dX7_parts_40 : decode cX7_parts 40 = .ok (.iload_n 3, 1) := by decide +kernel
theorem dX7_parts_41 : decode cX7_parts 41 = .ok (.ifCond .eq 14, 3) := by decide +kernel
theorem dX7_parts_44 : decode cX7_parts 44 = .ok (.aload_n 0, 1) := by decide +kernel
theorem dX7_parts_45 : decode cX7_parts 45 = .ok (.getfield 68, 3) := by decide +kernel
theorem dX7_parts_48 : decode cX7_parts 48 = .ok (.iload_n 2, 1) := by decide +kernel
theorem dX7_parts_49 : decode cX7_parts 49 = .ok (.iaload, 1) := by decide +kernel
theorem dX7_parts_50 : decode cX7_parts 50 = .ok (.bipush (-9), 2) := by decide +kernel
theorem dX7_parts_52 : decode cX7_parts 52 = .ok (.if_icmp .ne 10, 3) := by decide +kernel
theorem dX7_parts_55 : decode cX7_parts 55 = .ok (.aload_n 0, 1) := by decide +kernel
theorem dX7_parts_56 : decode cX7_parts 56 = .ok (.getfield 68, 3) := by decide +kernel
theorem dX7_parts_59 : decode cX7_parts 59 = .ok (.iload_n 2, 1) := by decide +kernel
theorem dX7_parts_60 : decode cX7_parts 60 = .ok (.iaload, 1) := by decide +kernel
theorem dX7_parts_61 : decode cX7_parts 61 = .ok (.ireturn, 1) := by decide +kernel
theorem dX7_parts_62 : decode cX7_parts 62 = .ok (.bipush (-9), 2) := by decide +kernel
theorem dX7_parts_64 : decode cX7_parts 64 = .ok (.istore 4, 2) := by decide +kernel
theorem dX7_parts_66 : decode cX7_parts 66 = .ok (.iconst 1, 1) := by decide +kernel
theorem dX7_parts_67 : decode cX7_parts 67 = .ok (.istore 5, 2) := by decide +kernel
theorem dX7_parts_69 : decode cX7_parts 69 = .ok (.iload 5, 2) := by decide +kernel
theorem dX7_parts_71 : decode cX7_parts 71 = .ok (.iload_n 2, 1) := by decide +kernel
theorem dX7_parts_72 : decode cX7_parts 72 = .ok (.if_icmp .gt 48, 3) := by decide +kernel
theorem dX7_parts_75 : decode cX7_parts 75 = .ok (.aload_n 0, 1) := by decide +kernel
theorem dX7_parts_76 : decode cX7_parts 76 = .ok (.iload_n 1, 1) := by decide +kernel
theorem dX7_parts_77 : decode cX7_parts 77 = .ok (.iload 5, 2) := by decide +kernel
theorem dX7_parts_79 : decode cX7_parts 79 = .ok (.invokevirtual 235, 3) := by decide +kernel
theorem dX7_parts_82 : decode cX7_parts 82 = .ok (.ifCond .eq 28, 3) := by decide +kernel
theorem dX7_parts_85 : decode cX7_parts 85 = .ok (.aload_n 0, 1) := by decide +kernel
theorem dX7_parts_86 : decode cX7_parts 86 = .ok (.getfield 68, 3) := by decide +kernel
theorem dX7_parts_89 : decode cX7_parts 89 = .ok (.iload_n 2, 1) := by decide +kernel
theorem dX7_parts_90 : decode cX7_parts 90 = .ok (.iload 5, 2) := by decide +kernel
theorem dX7_parts_92 : decode cX7_parts 92 = .ok (.isub, 1) := by decide +kernel
theorem dX7_parts_93 : decode cX7_parts 93 = .ok (.iaload, 1) := by decide +kernel
theorem dX7_parts_94 : decode cX7_parts 94 = .ok (.aload_n 0, 1) := by decide +kernel
theorem dX7_parts_95 : decode cX7_parts 95 = .ok (.getfield 68, 3) := by decide +kernel
theorem dX7_parts_98 : decode cX7_parts 98 = .ok (.iload_n 2, 1) := by decide +kernel
theorem dX7_parts_99 : decode cX7_parts 99 = .ok (.iaload, 1) := by decide +kernel
theorem dX7_parts_100 : decode cX7_parts 100 = .ok (.iconst 1, 1) := by decide +kernel
theorem dX7_parts_101 : decode cX7_parts 101 = .ok (.isub, 1) := by decide +kernel
theorem dX7_parts_102 : decode cX7_parts 102 = .ok (.if_icmp .ne 8, 3) := by decide +kernel
theorem dX7_parts_105 : decode cX7_parts 105 = .ok (.iload 5, 2) := by decide +kernel
theorem dX7_parts_107 : decode cX7_parts 107 = .ok (.goto 5, 3) := by decide +kernel
theorem dX7_parts_110 : decode cX7_parts 110 = .ok (.iload 4, 2) := by decide +kernel
theorem dX7_parts_112 : decode cX7_parts 112 = .ok (.istore 4, 2) := by decide +kernel
theorem dX7_parts_114 : decode cX7_parts 114 = .ok (.iinc 5 1, 3) := by decide +kernel
theorem dX7_parts_117 : decode cX7_parts 117 = .ok (.goto (-48), 3) := by decide +kernel
theorem dX7_parts_120 : decode cX7_parts 120 = .ok (.iload 4, 2) := by decide +kernel
theorem dX7_parts_122 : decode cX7_parts 122 = .ok (.ireturn, 1) := by decide +kernel
theorem dX7_books_0 : decode cX7_books 0 = .ok (.aload_n 0, 1) := by decide +kernel
theorem dX7_books_1 : decode cX7_books 1 = .ok (.iconst 0, 1) := by decide +kernel
theorem dX7_books_2 : decode cX7_books 2 = .ok (.putfield 75, 3) := by decide +kernel
theorem dX7_books_5 : decode cX7_books 5 = .ok (.aload_n 0, 1) := by decide +kernel
theorem dX7_books_6 : decode cX7_books 6 = .ok (.iload_n 1, 1) := by decide +kernel
theorem dX7_books_7 : decode cX7_books 7 = .ok (.invokevirtual 159, 3) := by decide +kernel
theorem dX7_books_10 : decode cX7_books 10 = .ok (.ifCond .eq 22, 3) := by decide +kernel
theorem dX7_books_13 : decode cX7_books 13 = .ok (.iload_n 2, 1) := by decide +kernel
theorem dX7_books_14 : decode cX7_books 14 = .ok (.iconst 0, 1) := by decide +kernel
theorem dX7_books_15 : decode cX7_books 15 = .ok (.bipush 60, 2) := by decide +kernel
theorem dX7_books_17 : decode cX7_books 17 = .ok (.invokestatic 78, 3) := by decide +kernel
theorem dX7_books_20 : decode cX7_books 20 = .ok (.ifCond .eq 12, 3) := by decide +kernel
theorem dX7_books_23 : decode cX7_books 23 = .ok (.iload_n 3, 1) := by decide +kernel
theorem dX7_books_24 : decode cX7_books 24 = .ok (.iconst 0, 1) := by decide +kernel
theorem dX7_books_25 : decode cX7_books 25 = .ok (.iconst 3, 1) := by decide +kernel
theorem dX7_books_26 : decode cX7_books 26 = .ok (.invokestatic 78, 3) := by decide +kernel
theorem dX7_books_29 : decode cX7_books 29 = .ok (.ifCond .ne 5, 3) := by decide +kernel
theorem dX7_books_32 : decode cX7_books 32 = .ok (.iconst (-1), 1) := by decide +kernel
theorem dX7_books_33 : decode cX7_books 33 = .ok (.ireturn, 1) := by decide +kernel
theorem dX7_books_34 : decode cX7_books 34 = .ok (.aload_n 0, 1) := by decide +kernel
theorem dX7_books_35 : decode cX7_books 35 = .ok (.getfield 156, 3) := by decide +kernel
theorem dX7_books_38 : decode cX7_books 38 = .ok (.bipush 6, 2) := by decide +kernel
theorem dX7_books_40 : decode cX7_books 40 = .ok (.if_icmp .ne 6, 3) := by decide +kernel
theorem dX7_books_43 : decode cX7_books 43 = .ok (.bipush (-3), 2) := by decide +kernel
theorem dX7_books_45 : decode cX7_books 45 = .ok (.ireturn, 1) := by decide +kernel
theorem dX7_books_46 : decode cX7_books 46 = .ok (.aload_n 0, 1) := by decide +kernel
theorem dX7_books_47 : decode cX7_books 47 = .ok (.getfield 50, 3) := by decide +kernel
theorem dX7_books_50 : decode cX7_books 50 = .ok (.aload_n 0, 1) := by decide +kernel
theorem dX7_books_51 : decode cX7_books 51 = .ok (.getfield 156, 3) := by decide +kernel
theorem dX7_books_54 : decode cX7_books 54 = .ok (.iload_n 1, 1) := by decide +kernel
theorem dX7_books_55 : decode cX7_books 55 = .ok (.iastore, 1) := by decide +kernel
theorem dX7_books_56 : decode cX7_books 56 = .ok (.aload_n 0, 1) := by decide +kernel
theorem dX7_books_57 : decode cX7_books 57 = .ok (.getfield 53, 3) := by decide +kernel
theorem dX7_books_60 : decode cX7_books 60 = .ok (.aload_n 0, 1) := by decide +kernel
theorem dX7_books_61 : decode cX7_books 61 = .ok (.getfield 156, 3) := by decide +kernel
theorem dX7_books_64 : decode cX7_books 64 = .ok (.iload_n 2, 1) := by decide +kernel
theorem dX7_books_65 : decode cX7_books 65 = .ok (.iastore, 1) := by decide +kernel
theorem dX7_books_66 : decode cX7_books 66 = .ok (.aload_n 0, 1) := by decide +kernel
theorem dX7_books_67 : decode cX7_books 67 = .ok (.getfield 56, 3) := by decide +kernel
theorem dX7_books_70 : decode cX7_books 70 = .ok (.aload_n 0, 1) := by decide +kernel
theorem dX7_books_71 : decode cX7_books 71 = .ok (.getfield 156, 3) := by decide +kernel
theorem dX7_books_74 : decode cX7_books 74 = .ok (.iload_n 3, 1) := by decide +kernel
theorem dX7_books_75 : decode cX7_books 75 = .ok (.iastore, 1) := by decide +kernel
theorem dX7_books_76 : decode cX7_books 76 = .ok (.aload_n 0, 1) := by decide +kernel
theorem dX7_books_77 : decode cX7_books 77 = .ok (.dup, 1) := by decide +kernel
theorem dX7_books_78 : decode cX7_books 78 = .ok (.getfield 156, 3) := by decide +kernel
theorem dX7_books_81 : decode cX7_books 81 = .ok (.iconst 1, 1) := by decide +kernel
theorem dX7_books_82 : decode cX7_books 82 = .ok (.iadd, 1) := by decide +kernel
theorem dX7_books_83 : decode cX7_books 83 = .ok (.putfield 156, 3) := by decide +kernel
theorem dX7_books_86 : decode cX7_books 86 = .ok (.aload_n 0, 1) := by decide +kernel
theorem dX7_books_87 : decode cX7_books 87 = .ok (.getfield 156, 3) := by decide +kernel
theorem dX7_books_90 : decode cX7_books 90 = .ok (.ireturn, 1) := by decide +kernel
theorem dX7_burn_0 : decode cX7_burn 0 = .ok (.aload_n 0, 1) := by decide +kernel
theorem dX7_burn_1 : decode cX7_burn 1 = .ok (.iconst 0, 1) := by decide +kernel
theorem dX7_burn_2 : decode cX7_burn 2 = .ok (.putfield 75, 3) := by decide +kernel
theorem dX7_burn_5 : decode cX7_burn 5 = .ok (.aload_n 0, 1) := by decide +kernel
theorem dX7_burn_6 : decode cX7_burn 6 = .ok (.getfield 156, 3) := by decide +kernel
theorem dX7_burn_9 : decode cX7_burn 9 = .ok (.istore_n 1, 1) := by decide +kernel
theorem dX7_burn_10 : decode cX7_burn 10 = .ok (.aload_n 0, 1) := by decide +kernel
theorem dX7_burn_11 : decode cX7_burn 11 = .ok (.iconst 0, 1) := by decide +kernel
theorem dX7_burn_12 : decode cX7_burn 12 = .ok (.putfield 156, 3) := by decide +kernel
theorem dX7_burn_15 : decode cX7_burn 15 = .ok (.iload_n 1, 1) := by decide +kernel
theorem dX7_burn_16 : decode cX7_burn 16 = .ok (.ireturn, 1) := by decide +kernel
theorem dX7_endBehind_0 : decode cX7_endBehind 0 = .ok (.iload_n 2, 1) := by decide +kernel
theorem dX7_endBehind_1 : decode cX7_endBehind 1 = .ok (.istore 5, 2) := by decide +kernel
theorem dX7_endBehind_3 : decode cX7_endBehind 3 = .ok (.iconst 0, 1) := by decide +kernel
theorem dX7_endBehind_4 : decode cX7_endBehind 4 = .ok (.istore 6, 2) := by decide +kernel
theorem dX7_endBehind_6 : decode cX7_endBehind 6 = .ok (.iload 6, 2) := by decide +kernel
theorem dX7_endBehind_8 : decode cX7_endBehind 8 = .ok (.iload 4, 2) := by decide +kernel
theorem dX7_endBehind_10 : decode cX7_endBehind 10 = .ok (.if_icmp .ge 24, 3) := by decide +kernel
theorem dX7_endBehind_13 : decode cX7_endBehind 13 = .ok (.iload 5, 2) := by decide +kernel
theorem dX7_endBehind_15 : decode cX7_endBehind 15 = .ok (.iload_n 3, 1) := by decide +kernel
theorem dX7_endBehind_16 : decode cX7_endBehind 16 = .ok (.iadd, 1) := by decide +kernel
theorem dX7_endBehind_17 : decode cX7_endBehind 17 = .ok (.aload_n 0, 1) := by decide +kernel
theorem dX7_endBehind_18 : decode cX7_endBehind 18 = .ok (.getfield 13, 3) := by decide +kernel
theorem dX7_endBehind_21 : decode cX7_endBehind 21 = .ok (.iload_n 1, 1) := by decide +kernel
theorem dX7_endBehind_22 : decode cX7_endBehind 22 = .ok (.iaload, 1) := by decide +kernel
theorem dX7_endBehind_23 : decode cX7_endBehind 23 = .ok (.invokestatic 180, 3) := by decide +kernel
theorem dX7_endBehind_26 : decode cX7_endBehind 26 = .ok (.istore 5, 2) := by decide +kernel
theorem dX7_endBehind_28 : decode cX7_endBehind 28 = .ok (.iinc 6 1, 3) := by decide +kernel
theorem dX7_endBehind_31 : decode cX7_endBehind 31 = .ok (.goto (-25), 3) := by decide +kernel
theorem dX7_endBehind_34 : decode cX7_endBehind 34 = .ok (.aload_n 0, 1) := by decide +kernel
theorem dX7_endBehind_35 : decode cX7_endBehind 35 = .ok (.aload_n 0, 1) := by decide +kernel
theorem dX7_endBehind_36 : decode cX7_endBehind 36 = .ok (.getfield 28, 3) := by decide +kernel
theorem dX7_endBehind_39 : decode cX7_endBehind 39 = .ok (.iload_n 1, 1) := by decide +kernel
theorem dX7_endBehind_40 : decode cX7_endBehind 40 = .ok (.iload 5, 2) := by decide +kernel
theorem dX7_endBehind_42 : decode cX7_endBehind 42 = .ok (.invokevirtual 167, 3) := by decide +kernel
theorem dX7_endBehind_45 : decode cX7_endBehind 45 = .ok (.ireturn, 1) := by decide +kernel
theorem dX7_isAsBooked_0 : decode cX7_isAsBooked 0 = .ok (.iconst 1, 1) := by decide +kernel
theorem dX7_isAsBooked_1 : decode cX7_isAsBooked 1 = .ok (.istore 4, 2) := by decide +kernel
theorem dX7_isAsBooked_3 : decode cX7_isAsBooked 3 = .ok (.iconst 0, 1) := by decide +kernel
theorem dX7_isAsBooked_4 : decode cX7_isAsBooked 4 = .ok (.istore 5, 2) := by decide +kernel
theorem dX7_isAsBooked_6 : decode cX7_isAsBooked 6 = .ok (.iload 5, 2) := by decide +kernel
theorem dX7_isAsBooked_8 : decode cX7_isAsBooked 8 = .ok (.aload_n 0, 1) := by decide +kernel
theorem dX7_isAsBooked_9 : decode cX7_isAsBooked 9 = .ok (.getfield 156, 3) := by decide +kernel
theorem dX7_isAsBooked_12 : decode cX7_isAsBooked 12 = .ok (.if_icmp .ge 56, 3) := by decide +kernel
theorem dX7_isAsBooked_15 : decode cX7_isAsBooked 15 = .ok (.iload 4, 2) := by decide +kernel
theorem dX7_isAsBooked_17 : decode cX7_isAsBooked 17 = .ok (.ifCond .eq 51, 3) := by decide +kernel
theorem dX7_isAsBooked_20 : decode cX7_isAsBooked 20 = .ok (.aload_n 0, 1) := by decide +kernel
theorem dX7_isAsBooked_21 : decode cX7_isAsBooked 21 = .ok (.getfield 50, 3) := by decide +kernel
theorem dX7_isAsBooked_24 : decode cX7_isAsBooked 24 = .ok (.iload 5, 2) := by decide +kernel
theorem dX7_isAsBooked_26 : decode cX7_isAsBooked 26 = .ok (.iaload, 1) := by decide +kernel
theorem dX7_isAsBooked_27 : decode cX7_isAsBooked 27 = .ok (.iload_n 1, 1) := by decide +kernel
theorem dX7_isAsBooked_28 : decode cX7_isAsBooked 28 = .ok (.if_icmp .ne 27, 3) := by decide +kernel
theorem dX7_isAsBooked_31 : decode cX7_isAsBooked 31 = .ok (.aload_n 0, 1) := by decide +kernel
theorem dX7_isAsBooked_32 : decode cX7_isAsBooked 32 = .ok (.iload_n 1, 1) := by decide +kernel
theorem dX7_isAsBooked_33 : decode cX7_isAsBooked 33 = .ok (.iload_n 2, 1) := by decide +kernel
theorem dX7_isAsBooked_34 : decode cX7_isAsBooked 34 = .ok (.iload_n 3, 1) := by decide +kernel
theorem dX7_isAsBooked_35 : decode cX7_isAsBooked 35 = .ok (.aload_n 0, 1) := by decide +kernel
theorem dX7_isAsBooked_36 : decode cX7_isAsBooked 36 = .ok (.getfield 53, 3) := by decide +kernel
theorem dX7_isAsBooked_39 : decode cX7_isAsBooked 39 = .ok (.iload 5, 2) := by decide +kernel
theorem dX7_isAsBooked_41 : decode cX7_isAsBooked 41 = .ok (.iaload, 1) := by decide +kernel
theorem dX7_isAsBooked_42 : decode cX7_isAsBooked 42 = .ok (.invokevirtual 242, 3) := by decide +kernel
theorem dX7_isAsBooked_45 : decode cX7_isAsBooked 45 = .ok (.aload_n 0, 1) := by decide +kernel
theorem dX7_isAsBooked_46 : decode cX7_isAsBooked 46 = .ok (.getfield 56, 3) := by decide +kernel
theorem dX7_isAsBooked_49 : decode cX7_isAsBooked 49 = .ok (.iload 5, 2) := by decide +kernel
theorem dX7_isAsBooked_51 : decode cX7_isAsBooked 51 = .ok (.iaload, 1) := by decide +kernel
theorem dX7_isAsBooked_52 : decode cX7_isAsBooked 52 = .ok (.if_icmp .ne 7, 3) := by decide +kernel
theorem dX7_isAsBooked_55 : decode cX7_isAsBooked 55 = .ok (.iconst 1, 1) := by decide +kernel
theorem dX7_isAsBooked_56 : decode cX7_isAsBooked 56 = .ok (.goto 4, 3) := by decide +kernel
theorem dX7_isAsBooked_59 : decode cX7_isAsBooked 59 = .ok (.iconst 0, 1) := by decide +kernel
theorem dX7_isAsBooked_60 : decode cX7_isAsBooked 60 = .ok (.istore 4, 2) := by decide +kernel
theorem dX7_isAsBooked_62 : decode cX7_isAsBooked 62 = .ok (.iinc 5 1, 3) := by decide +kernel
theorem dX7_isAsBooked_65 : decode cX7_isAsBooked 65 = .ok (.goto (-59), 3) := by decide +kernel
theorem dX7_isAsBooked_68 : decode cX7_isAsBooked 68 = .ok (.iload 4, 2) := by decide +kernel
theorem dX7_isAsBooked_70 : decode cX7_isAsBooked 70 = .ok (.ireturn, 1) := by decide +kernel
theorem dX7_fits_0 : decode cX7_fits 0 = .ok (.aload_n 0, 1) := by decide +kernel
theorem dX7_fits_1 : decode cX7_fits 1 = .ok (.iconst 0, 1) := by decide +kernel
theorem dX7_fits_2 : decode cX7_fits 2 = .ok (.putfield 75, 3) := by decide +kernel
theorem dX7_fits_5 : decode cX7_fits 5 = .ok (.aload_n 0, 1) := by decide +kernel
theorem dX7_fits_6 : decode cX7_fits 6 = .ok (.iload_n 1, 1) := by decide +kernel
theorem dX7_fits_7 : decode cX7_fits 7 = .ok (.invokevirtual 159, 3) := by decide +kernel
theorem dX7_fits_10 : decode cX7_fits 10 = .ok (.ifCond .ne 5, 3) := by decide +kernel
theorem dX7_fits_13 : decode cX7_fits 13 = .ok (.iconst (-1), 1) := by decide +kernel
theorem dX7_fits_14 : decode cX7_fits 14 = .ok (.ireturn, 1) := by decide +kernel
theorem dX7_fits_15 : decode cX7_fits 15 = .ok (.iconst 0, 1) := by decide +kernel
theorem dX7_fits_16 : decode cX7_fits 16 = .ok (.istore_n 2, 1) := by decide +kernel
theorem dX7_fits_17 : decode cX7_fits 17 = .ok (.iconst 0, 1) := by decide +kernel
theorem dX7_fits_18 : decode cX7_fits 18 = .ok (.istore_n 3, 1) := by decide +kernel
theorem dX7_fits_19 : decode cX7_fits 19 = .ok (.iload_n 3, 1) := by decide +kernel
theorem dX7_fits_20 : decode cX7_fits 20 = .ok (.aload_n 0, 1) := by decide +kernel
theorem dX7_fits_21 : decode cX7_fits 21 = .ok (.getfield 13, 3) := by decide +kernel
theorem dX7_fits_24 : decode cX7_fits 24 = .ok (.iload_n 1, 1) := by decide +kernel
theorem dX7_fits_25 : decode cX7_fits 25 = .ok (.iaload, 1) := by decide +kernel
theorem dX7_fits_26 : decode cX7_fits 26 = .ok (.if_icmp .gt 44, 3) := by decide +kernel
theorem dX7_fits_29 : decode cX7_fits 29 = .ok (.bipush (-3), 2) := by decide +kernel
theorem dX7_fits_31 : decode cX7_fits 31 = .ok (.istore 4, 2) := by decide +kernel
theorem dX7_fits_33 : decode cX7_fits 33 = .ok (.iload 4, 2) := by decide +kernel
theorem dX7_fits_35 : decode cX7_fits 35 = .ok (.iconst 4, 1) := by decide +kernel
theorem dX7_fits_36 : decode cX7_fits 36 = .ok (.if_icmp .ge 28, 3) := by decide +kernel
theorem dX7_fits_39 : decode cX7_fits 39 = .ok (.iload_n 2, 1) := by decide +kernel
theorem dX7_fits_40 : decode cX7_fits 40 = .ok (.aload_n 0, 1) := by decide +kernel
theorem dX7_fits_41 : decode cX7_fits 41 = .ok (.iload_n 1, 1) := by decide +kernel
theorem dX7_fits_42 : decode cX7_fits 42 = .ok (.iload_n 3, 1) := by decide +kernel
theorem dX7_fits_43 : decode cX7_fits 43 = .ok (.iload 4, 2) := by decide +kernel
theorem dX7_fits_45 : decode cX7_fits 45 = .ok (.invokevirtual 245, 3) := by decide +kernel
theorem dX7_fits_48 : decode cX7_fits 48 = .ok (.ifCond .eq 7, 3) := by decide +kernel
theorem dX7_fits_51 : decode cX7_fits 51 = .ok (.iconst 1, 1) := by decide +kernel
theorem dX7_fits_52 : decode cX7_fits 52 = .ok (.goto 4, 3) := by decide +kernel
theorem dX7_fits_55 : decode cX7_fits 55 = .ok (.iconst 0, 1) := by decide +kernel
theorem dX7_fits_56 : decode cX7_fits 56 = .ok (.iadd, 1) := by decide +kernel
theorem dX7_fits_57 : decode cX7_fits 57 = .ok (.istore_n 2, 1) := by decide +kernel
theorem dX7_fits_58 : decode cX7_fits 58 = .ok (.iinc 4 1, 3) := by decide +kernel
theorem dX7_fits_61 : decode cX7_fits 61 = .ok (.goto (-28), 3) := by decide +kernel
theorem dX7_fits_64 : decode cX7_fits 64 = .ok (.iinc 3 1, 3) := by decide +kernel
theorem dX7_fits_67 : decode cX7_fits 67 = .ok (.goto (-48), 3) := by decide +kernel
theorem dX7_fits_70 : decode cX7_fits 70 = .ok (.iload_n 2, 1) := by decide +kernel
theorem dX7_fits_71 : decode cX7_fits 71 = .ok (.ireturn, 1) := by decide +kernel
theorem dX7_sure_0 : decode cX7_sure 0 = .ok (.aload_n 0, 1) := by decide +kernel
theorem dX7_sure_1 : decode cX7_sure 1 = .ok (.iconst 0, 1) := by decide +kernel
theorem dX7_sure_2 : decode cX7_sure 2 = .ok (.putfield 75, 3) := by decide +kernel
theorem dX7_sure_5 : decode cX7_sure 5 = .ok (.aload_n 0, 1) := by decide +kernel
theorem dX7_sure_6 : decode cX7_sure 6 = .ok (.iload_n 1, 1) := by decide +kernel
theorem dX7_sure_7 : decode cX7_sure 7 = .ok (.invokevirtual 159, 3) := by decide +kernel
theorem dX7_sure_10 : decode cX7_sure 10 = .ok (.ifCond .eq 13, 3) := by decide +kernel
theorem dX7_sure_13 : decode cX7_sure 13 = .ok (.iload_n 2, 1) := by decide +kernel
theorem dX7_sure_14 : decode cX7_sure 14 = .ok (.iconst 0, 1) := by decide +kernel
theorem dX7_sure_15 : decode cX7_sure 15 = .ok (.bipush 60, 2) := by decide +kernel
theorem dX7_sure_17 : decode cX7_sure 17 = .ok (.invokestatic 78, 3) := by decide +kernel
theorem dX7_sure_20 : decode cX7_sure 20 = .ok (.ifCond .ne 5, 3) := by decide +kernel
theorem dX7_sure_23 : decode cX7_sure 23 = .ok (.iconst (-1), 1) := by decide +kernel
theorem dX7_sure_24 : decode cX7_sure 24 = .ok (.ireturn, 1) := by decide +kernel
theorem dX7_sure_25 : decode cX7_sure 25 = .ok (.bipush (-9), 2) := by decide +kernel
theorem dX7_sure_27 : decode cX7_sure 27 = .ok (.istore_n 3, 1) := by decide +kernel
theorem dX7_sure_28 : decode cX7_sure 28 = .ok (.iconst 0, 1) := by decide +kernel
theorem dX7_sure_29 : decode cX7_sure 29 = .ok (.istore 4, 2) := by decide +kernel
theorem dX7_sure_31 : decode cX7_sure 31 = .ok (.iload 4, 2) := by decide +kernel
theorem dX7_sure_33 : decode cX7_sure 33 = .ok (.aload_n 0, 1) := by decide +kernel
theorem dX7_sure_34 : decode cX7_sure 34 = .ok (.getfield 13, 3) := by decide +kernel
theorem dX7_sure_37 : decode cX7_sure 37 = .ok (.iload_n 1, 1) := by decide +kernel
theorem dX7_sure_38 : decode cX7_sure 38 = .ok (.iaload, 1) := by decide +kernel
theorem dX7_sure_39 : decode cX7_sure 39 = .ok (.if_icmp .gt 69, 3) := by decide +kernel
theorem dX7_sure_42 : decode cX7_sure 42 = .ok (.bipush (-3), 2) := by decide +kernel
theorem dX7_sure_44 : decode cX7_sure 44 = .ok (.istore 5, 2) := by decide +kernel
theorem dX7_sure_46 : decode cX7_sure 46 = .ok (.iload 5, 2) := by decide +kernel
theorem dX7_sure_48 : decode cX7_sure 48 = .ok (.iconst 4, 1) := by decide +kernel
theorem dX7_sure_49 : decode cX7_sure 49 = .ok (.if_icmp .ge 53, 3) := by decide +kernel
theorem dX7_sure_52 : decode cX7_sure 52 = .ok (.aload_n 0, 1) := by decide +kernel
theorem dX7_sure_53 : decode cX7_sure 53 = .ok (.iload_n 1, 1) := by decide +kernel
theorem dX7_sure_54 : decode cX7_sure 54 = .ok (.iload 4, 2) := by decide +kernel
theorem dX7_sure_56 : decode cX7_sure 56 = .ok (.iload 5, 2) := by decide +kernel
theorem dX7_sure_58 : decode cX7_sure 58 = .ok (.invokevirtual 245, 3) := by decide +kernel
theorem dX7_sure_61 : decode cX7_sure 61 = .ok (.ifCond .eq 35, 3) := by decide +kernel
theorem dX7_sure_64 : decode cX7_sure 64 = .ok (.aload_n 0, 1) := by decide +kernel
theorem dX7_sure_65 : decode cX7_sure 65 = .ok (.iload_n 1, 1) := by decide +kernel
theorem dX7_sure_66 : decode cX7_sure 66 = .ok (.iload 4, 2) := by decide +kernel
theorem dX7_sure_68 : decode cX7_sure 68 = .ok (.iload 5, 2) := by decide +kernel
theorem dX7_sure_70 : decode cX7_sure 70 = .ok (.iload_n 2, 1) := by decide +kernel
theorem dX7_sure_71 : decode cX7_sure 71 = .ok (.invokevirtual 242, 3) := by decide +kernel
theorem dX7_sure_74 : decode cX7_sure 74 = .ok (.istore 6, 2) := by decide +kernel
theorem dX7_sure_76 : decode cX7_sure 76 = .ok (.iload_n 3, 1) := by decide +kernel
theorem dX7_sure_77 : decode cX7_sure 77 = .ok (.bipush (-9), 2) := by decide +kernel
theorem dX7_sure_79 : decode cX7_sure 79 = .ok (.if_icmp .eq 9, 3) := by decide +kernel
theorem dX7_sure_82 : decode cX7_sure 82 = .ok (.iload_n 3, 1) := by decide +kernel
theorem dX7_sure_83 : decode cX7_sure 83 = .ok (.iload 6, 2) := by decide +kernel
theorem dX7_sure_85 : decode cX7_sure 85 = .ok (.if_icmp .ne 8, 3) := by decide +kernel
theorem dX7_sure_88 : decode cX7_sure 88 = .ok (.iload 6, 2) := by decide +kernel
theorem dX7_sure_90 : decode cX7_sure 90 = .ok (.goto 5, 3) := by decide +kernel
theorem dX7_sure_93 : decode cX7_sure 93 = .ok (.bipush (-5), 2) := by decide +kernel
theorem dX7_sure_95 : decode cX7_sure 95 = .ok (.istore_n 3, 1) := by decide +kernel
theorem dX7_sure_96 : decode cX7_sure 96 = .ok (.iinc 5 1, 3) := by decide +kernel
theorem dX7_sure_99 : decode cX7_sure 99 = .ok (.goto (-53), 3) := by decide +kernel
theorem dX7_sure_102 : decode cX7_sure 102 = .ok (.iinc 4 1, 3) := by decide +kernel
theorem dX7_sure_105 : decode cX7_sure 105 = .ok (.goto (-74), 3) := by decide +kernel
theorem dX7_sure_108 : decode cX7_sure 108 = .ok (.iload_n 3, 1) := by decide +kernel
theorem dX7_sure_109 : decode cX7_sure 109 = .ok (.ireturn, 1) := by decide +kernel
theorem dX7_isClash_0 : decode cX7_isClash 0 = .ok (.iconst 0, 1) := by decide +kernel
theorem dX7_isClash_1 : decode cX7_isClash 1 = .ok (.istore_n 3, 1) := by decide +kernel
theorem dX7_isClash_2 : decode cX7_isClash 2 = .ok (.iconst 0, 1) := by decide +kernel
theorem dX7_isClash_3 : decode cX7_isClash 3 = .ok (.istore 4, 2) := by decide +kernel
theorem dX7_isClash_5 : decode cX7_isClash 5 = .ok (.iload 4, 2) := by decide +kernel
theorem dX7_isClash_7 : decode cX7_isClash 7 = .ok (.aload_n 0, 1) := by decide +kernel
theorem dX7_isClash_8 : decode cX7_isClash 8 = .ok (.getfield 13, 3) := by decide +kernel
theorem dX7_isClash_11 : decode cX7_isClash 11 = .ok (.iload_n 1, 1) := by decide +kernel
theorem dX7_isClash_12 : decode cX7_isClash 12 = .ok (.iaload, 1) := by decide +kernel
theorem dX7_isClash_13 : decode cX7_isClash 13 = .ok (.if_icmp .gt 82, 3) := by decide +kernel
theorem dX7_isClash_16 : decode cX7_isClash 16 = .ok (.aload_n 0, 1) := by decide +kernel
theorem dX7_isClash_17 : decode cX7_isClash 17 = .ok (.getfield 13, 3) := by decide +kernel
theorem dX7_isClash_20 : decode cX7_isClash 20 = .ok (.iload_n 1, 1) := by decide +kernel
theorem dX7_isClash_21 : decode cX7_isClash 21 = .ok (.iaload, 1) := by decide +kernel
theorem dX7_isClash_22 : decode cX7_isClash 22 = .ok (.aload_n 0, 1) := by decide +kernel
theorem dX7_isClash_23 : decode cX7_isClash 23 = .ok (.getfield 13, 3) := by decide +kernel
theorem dX7_isClash_26 : decode cX7_isClash 26 = .ok (.iload_n 2, 1) := by decide +kernel
theorem dX7_isClash_27 : decode cX7_isClash 27 = .ok (.iaload, 1) := by decide +kernel
theorem dX7_isClash_28 : decode cX7_isClash 28 = .ok (.if_icmp .ne 67, 3) := by decide +kernel
theorem dX7_isClash_31 : decode cX7_isClash 31 = .ok (.aload_n 0, 1) := by decide +kernel
theorem dX7_isClash_32 : decode cX7_isClash 32 = .ok (.aload_n 0, 1) := by decide +kernel
theorem dX7_isClash_33 : decode cX7_isClash 33 = .ok (.getfield 28, 3) := by decide +kernel
theorem dX7_isClash_36 : decode cX7_isClash 36 = .ok (.iload_n 1, 1) := by decide +kernel
theorem dX7_isClash_37 : decode cX7_isClash 37 = .ok (.iload 4, 2) := by decide +kernel
theorem dX7_isClash_39 : decode cX7_isClash 39 = .ok (.invokevirtual 167, 3) := by decide +kernel
theorem dX7_isClash_42 : decode cX7_isClash 42 = .ok (.istore 5, 2) := by decide +kernel
theorem dX7_isClash_44 : decode cX7_isClash 44 = .ok (.aload_n 0, 1) := by decide +kernel
theorem dX7_isClash_45 : decode cX7_isClash 45 = .ok (.aload_n 0, 1) := by decide +kernel
theorem dX7_isClash_46 : decode cX7_isClash 46 = .ok (.getfield 28, 3) := by decide +kernel
theorem dX7_isClash_49 : decode cX7_isClash 49 = .ok (.iload_n 2, 1) := by decide +kernel
theorem dX7_isClash_50 : decode cX7_isClash 50 = .ok (.iload 4, 2) := by decide +kernel
theorem dX7_isClash_52 : decode cX7_isClash 52 = .ok (.invokevirtual 167, 3) := by decide +kernel
theorem dX7_isClash_55 : decode cX7_isClash 55 = .ok (.istore 6, 2) := by decide +kernel
theorem dX7_isClash_57 : decode cX7_isClash 57 = .ok (.iload_n 3, 1) := by decide +kernel
theorem dX7_isClash_58 : decode cX7_isClash 58 = .ok (.ifCond .ne 25, 3) := by decide +kernel
theorem dX7_isClash_61 : decode cX7_isClash 61 = .ok (.iload 5, 2) := by decide +kernel
theorem dX7_isClash_63 : decode cX7_isClash 63 = .ok (.ifCond .ne 9, 3) := by decide +kernel
theorem dX7_isClash_66 : decode cX7_isClash 66 = .ok (.iload 6, 2) := by decide +kernel
theorem dX7_isClash_68 : decode cX7_isClash 68 = .ok (.iconst 1, 1) := by decide +kernel
theorem dX7_isClash_69 : decode cX7_isClash 69 = .ok (.if_icmp .eq 14, 3) := by decide +kernel
theorem dX7_isClash_72 : decode cX7_isClash 72 = .ok (.iload 5, 2) := by decide +kernel
theorem dX7_isClash_74 : decode cX7_isClash 74 = .ok (.iconst 1, 1) := by decide +kernel
theorem dX7_isClash_75 : decode cX7_isClash 75 = .ok (.if_icmp .ne 12, 3) := by decide +kernel
theorem dX7_isClash_78 : decode cX7_isClash 78 = .ok (.iload 6, 2) := by decide +kernel
theorem dX7_isClash_80 : decode cX7_isClash 80 = .ok (.ifCond .ne 7, 3) := by decide +kernel
theorem dX7_isClash_83 : decode cX7_isClash 83 = .ok (.iconst 1, 1) := by decide +kernel
theorem dX7_isClash_84 : decode cX7_isClash 84 = .ok (.goto 4, 3) := by decide +kernel
theorem dX7_isClash_87 : decode cX7_isClash 87 = .ok (.iconst 0, 1) := by decide +kernel
theorem dX7_isClash_88 : decode cX7_isClash 88 = .ok (.istore_n 3, 1) := by decide +kernel
theorem dX7_isClash_89 : decode cX7_isClash 89 = .ok (.iinc 4 1, 3) := by decide +kernel
theorem dX7_isClash_92 : decode cX7_isClash 92 = .ok (.goto (-87), 3) := by decide +kernel
theorem dX7_isClash_95 : decode cX7_isClash 95 = .ok (.iload_n 3, 1) := by decide +kernel
theorem dX7_isClash_96 : decode cX7_isClash 96 = .ok (.ireturn, 1) := by decide +kernel
theorem dX7_clash_0 : decode cX7_clash 0 = .ok (.aload_n 0, 1) := by decide +kernel
theorem dX7_clash_1 : decode cX7_clash 1 = .ok (.iconst 0, 1) := by decide +kernel
theorem dX7_clash_2 : decode cX7_clash 2 = .ok (.putfield 75, 3) := by decide +kernel
theorem dX7_clash_5 : decode cX7_clash 5 = .ok (.iconst 0, 1) := by decide +kernel
theorem dX7_clash_6 : decode cX7_clash 6 = .ok (.istore_n 1, 1) := by decide +kernel
theorem dX7_clash_7 : decode cX7_clash 7 = .ok (.iload_n 1, 1) := by decide +kernel
theorem dX7_clash_8 : decode cX7_clash 8 = .ok (.aload_n 0, 1) := by decide +kernel
theorem dX7_clash_9 : decode cX7_clash 9 = .ok (.getfield 141, 3) := by decide +kernel
theorem dX7_clash_12 : decode cX7_clash 12 = .ok (.if_icmp .ge 43, 3) := by decide +kernel
theorem dX7_clash_15 : decode cX7_clash 15 = .ok (.iload_n 1, 1) := by decide +kernel
theorem dX7_clash_16 : decode cX7_clash 16 = .ok (.iconst 1, 1) := by decide +kernel
theorem dX7_clash_17 : decode cX7_clash 17 = .ok (.iadd, 1) := by decide +kernel
theorem dX7_clash_18 : decode cX7_clash 18 = .ok (.istore_n 2, 1) := by decide +kernel
theorem dX7_clash_19 : decode cX7_clash 19 = .ok (.iload_n 2, 1) := by decide +kernel
theorem dX7_clash_20 : decode cX7_clash 20 = .ok (.aload_n 0, 1) := by decide +kernel
theorem dX7_clash_21 : decode cX7_clash 21 = .ok (.getfield 141, 3) := by decide +kernel
theorem dX7_clash_24 : decode cX7_clash 24 = .ok (.if_icmp .ge 25, 3) := by decide +kernel
theorem dX7_clash_27 : decode cX7_clash 27 = .ok (.aload_n 0, 1) := by decide +kernel
theorem dX7_clash_28 : decode cX7_clash 28 = .ok (.iload_n 1, 1) := by decide +kernel
theorem dX7_clash_29 : decode cX7_clash 29 = .ok (.iload_n 2, 1) := by decide +kernel
theorem dX7_clash_30 : decode cX7_clash 30 = .ok (.invokevirtual 248, 3) := by decide +kernel
theorem dX7_clash_33 : decode cX7_clash 33 = .ok (.ifCond .eq 10, 3) := by decide +kernel
theorem dX7_clash_36 : decode cX7_clash 36 = .ok (.bipush 10, 2) := by decide +kernel
theorem dX7_clash_38 : decode cX7_clash 38 = .ok (.iload_n 1, 1) := by decide +kernel
theorem dX7_clash_39 : decode cX7_clash 39 = .ok (.imul, 1) := by decide +kernel
theorem dX7_clash_40 : decode cX7_clash 40 = .ok (.iload_n 2, 1) := by decide +kernel
theorem dX7_clash_41 : decode cX7_clash 41 = .ok (.iadd, 1) := by decide +kernel
theorem dX7_clash_42 : decode cX7_clash 42 = .ok (.ireturn, 1) := by decide +kernel
theorem dX7_clash_43 : decode cX7_clash 43 = .ok (.iinc 2 1, 3) := by decide +kernel
theorem dX7_clash_46 : decode cX7_clash 46 = .ok (.goto (-27), 3) := by decide +kernel
theorem dX7_clash_49 : decode cX7_clash 49 = .ok (.iinc 1 1, 3) := by decide +kernel
theorem dX7_clash_52 : decode cX7_clash 52 = .ok (.goto (-45), 3) := by decide +kernel
theorem dX7_clash_55 : decode cX7_clash 55 = .ok (.bipush (-9), 2) := by decide +kernel
theorem dX7_clash_57 : decode cX7_clash 57 = .ok (.ireturn, 1) := by decide +kernel
theorem dX7_rate_0 : decode cX7_rate 0 = .ok (.aload_n 0, 1) := by decide +kernel
theorem dX7_rate_1 : decode cX7_rate 1 = .ok (.iconst 0, 1) := by decide +kernel
theorem dX7_rate_2 : decode cX7_rate 2 = .ok (.putfield 75, 3) := by decide +kernel
theorem dX7_rate_5 : decode cX7_rate 5 = .ok (.iload_n 1, 1) := by decide +kernel
theorem dX7_rate_6 : decode cX7_rate 6 = .ok (.iconst 0, 1) := by decide +kernel
theorem dX7_rate_7 : decode cX7_rate 7 = .ok (.iconst 5, 1) := by decide +kernel
theorem dX7_rate_8 : decode cX7_rate 8 = .ok (.invokestatic 78, 3) := by decide +kernel
theorem dX7_rate_11 : decode cX7_rate 11 = .ok (.ifCond .eq 11, 3) := by decide +kernel
theorem dX7_rate_14 : decode cX7_rate 14 = .ok (.aload_n 0, 1) := by decide +kernel
theorem dX7_rate_15 : decode cX7_rate 15 = .ok (.iload_n 2, 1) := by decide +kernel
theorem dX7_rate_16 : decode cX7_rate 16 = .ok (.invokevirtual 171, 3) := by decide +kernel
theorem dX7_rate_19 : decode cX7_rate 19 = .ok (.ifCond .ne 6, 3) := by decide +kernel
theorem dX7_rate_22 : decode cX7_rate 22 = .ok (.ldc 214, 2) := by decide +kernel
theorem dX7_rate_24 : decode cX7_rate 24 = .ok (.ireturn, 1) := by decide +kernel
theorem dX7_rate_25 : decode cX7_rate 25 = .ok (.iconst 0, 1) := by decide +kernel
theorem dX7_rate_26 : decode cX7_rate 26 = .ok (.istore_n 3, 1) := by decide +kernel
theorem dX7_rate_27 : decode cX7_rate 27 = .ok (.iconst 0, 1) := by decide +kernel
theorem dX7_rate_28 : decode cX7_rate 28 = .ok (.istore 4, 2) := by decide +kernel
theorem dX7_rate_30 : decode cX7_rate 30 = .ok (.iload 4, 2) := by decide +kernel
theorem dX7_rate_32 : decode cX7_rate 32 = .ok (.aload_n 0, 1) := by decide +kernel
theorem dX7_rate_33 : decode cX7_rate 33 = .ok (.getfield 141, 3) := by decide +kernel
theorem dX7_rate_36 : decode cX7_rate 36 = .ok (.if_icmp .ge 26, 3) := by decide +kernel
theorem dX7_rate_39 : decode cX7_rate 39 = .ok (.iload_n 3, 1) := by decide +kernel
theorem dX7_rate_40 : decode cX7_rate 40 = .ok (.aload_n 0, 1) := by decide +kernel
theorem dX7_rate_41 : decode cX7_rate 41 = .ok (.getfield 28, 3) := by decide +kernel
theorem dX7_rate_44 : decode cX7_rate 44 = .ok (.bipush 8, 2) := by decide +kernel
theorem dX7_rate_46 : decode cX7_rate 46 = .ok (.iconst 4, 1) := by decide +kernel
theorem dX7_rate_47 : decode cX7_rate 47 = .ok (.iload_n 2, 1) := by decide +kernel
theorem dX7_rate_48 : decode cX7_rate 48 = .ok (.imul, 1) := by decide +kernel
theorem dX7_rate_49 : decode cX7_rate 49 = .ok (.iadd, 1) := by decide +kernel
theorem dX7_rate_50 : decode cX7_rate 50 = .ok (.iload 4, 2) := by decide +kernel
theorem dX7_rate_52 : decode cX7_rate 52 = .ok (.iadd, 1) := by decide +kernel
theorem dX7_rate_53 : decode cX7_rate 53 = .ok (.iaload, 1) := by decide +kernel
theorem dX7_rate_54 : decode cX7_rate 54 = .ok (.iadd, 1) := by decide +kernel
theorem dX7_rate_55 : decode cX7_rate 55 = .ok (.istore_n 3, 1) := by decide +kernel
theorem dX7_rate_56 : decode cX7_rate 56 = .ok (.iinc 4 1, 3) := by decide +kernel
theorem dX7_rate_59 : decode cX7_rate 59 = .ok (.goto (-29), 3) := by decide +kernel
theorem dX7_rate_62 : decode cX7_rate 62 = .ok (.iload_n 3, 1) := by decide +kernel
theorem dX7_rate_63 : decode cX7_rate 63 = .ok (.aload_n 0, 1) := by decide +kernel
theorem dX7_rate_64 : decode cX7_rate 64 = .ok (.iload_n 2, 1) := by decide +kernel
theorem dX7_rate_65 : decode cX7_rate 65 = .ok (.iconst 1, 1) := by decide +kernel
theorem dX7_rate_66 : decode cX7_rate 66 = .ok (.invokevirtual 204, 3) := by decide +kernel
theorem dX7_rate_69 : decode cX7_rate 69 = .ok (.iadd, 1) := by decide +kernel
theorem dX7_rate_70 : decode cX7_rate 70 = .ok (.istore 4, 2) := by decide +kernel
theorem dX7_rate_72 : decode cX7_rate 72 = .ok (.iload_n 3, 1) := by decide +kernel
theorem dX7_rate_73 : decode cX7_rate 73 = .ok (.aload_n 0, 1) := by decide +kernel
theorem dX7_rate_74 : decode cX7_rate 74 = .ok (.iload_n 2, 1) := by decide +kernel
theorem dX7_rate_75 : decode cX7_rate 75 = .ok (.iconst 2, 1) := by decide +kernel
theorem dX7_rate_76 : decode cX7_rate 76 = .ok (.invokevirtual 204, 3) := by decide +kernel
theorem dX7_rate_79 : decode cX7_rate 79 = .ok (.isub, 1) := by decide +kernel
theorem dX7_rate_80 : decode cX7_rate 80 = .ok (.istore 5, 2) := by decide +kernel
theorem dX7_rate_82 : decode cX7_rate 82 = .ok (.aload_n 0, 1) := by decide +kernel
theorem dX7_rate_83 : decode cX7_rate 83 = .ok (.dup, 1) := by decide +kernel
theorem dX7_rate_84 : decode cX7_rate 84 = .ok (.getfield 251, 3) := by decide +kernel
theorem dX7_rate_87 : decode cX7_rate 87 = .ok (.iload_n 1, 1) := by decide +kernel
theorem dX7_rate_88 : decode cX7_rate 88 = .ok (.ifCond .ne 7, 3) := by decide +kernel
theorem dX7_rate_91 : decode cX7_rate 91 = .ok (.lconst 1, 1) := by decide +kernel
theorem dX7_rate_92 : decode cX7_rate 92 = .ok (.goto 50, 3) := by decide +kernel
theorem dX7_rate_95 : decode cX7_rate 95 = .ok (.iload_n 1, 1) := by decide +kernel
theorem dX7_rate_96 : decode cX7_rate 96 = .ok (.iconst 1, 1) := by decide +kernel
theorem dX7_rate_97 : decode cX7_rate 97 = .ok (.if_icmp .ne 9, 3) := by decide +kernel
theorem dX7_rate_100 : decode cX7_rate 100 = .ok (.ldc2_w 255, 3) := by decide +kernel
theorem dX7_rate_103 : decode cX7_rate 103 = .ok (.goto 39, 3) := by decide +kernel
theorem dX7_rate_106 : decode cX7_rate 106 = .ok (.iload_n 1, 1) := by decide +kernel
theorem dX7_rate_107 : decode cX7_rate 107 = .ok (.iconst 2, 1) := by decide +kernel
theorem dX7_rate_108 : decode cX7_rate 108 = .ok (.if_icmp .ne 9, 3) := by decide +kernel
theorem dX7_rate_111 : decode cX7_rate 111 = .ok (.ldc2_w 257, 3) := by decide +kernel
theorem dX7_rate_114 : decode cX7_rate 114 = .ok (.goto 28, 3) := by decide +kernel
theorem dX7_rate_117 : decode cX7_rate 117 = .ok (.iload_n 1, 1) := by decide +kernel
theorem dX7_rate_118 : decode cX7_rate 118 = .ok (.iconst 3, 1) := by decide +kernel
theorem dX7_rate_119 : decode cX7_rate 119 = .ok (.if_icmp .ne 9, 3) := by decide +kernel
theorem dX7_rate_122 : decode cX7_rate 122 = .ok (.ldc2_w 259, 3) := by decide +kernel
theorem dX7_rate_125 : decode cX7_rate 125 = .ok (.goto 17, 3) := by decide +kernel
theorem dX7_rate_128 : decode cX7_rate 128 = .ok (.iload_n 1, 1) := by decide +kernel
theorem dX7_rate_129 : decode cX7_rate 129 = .ok (.iconst 4, 1) := by decide +kernel
theorem dX7_rate_130 : decode cX7_rate 130 = .ok (.if_icmp .ne 9, 3) := by decide +kernel
theorem dX7_rate_133 : decode cX7_rate 133 = .ok (.ldc2_w 261, 3) := by decide +kernel
theorem dX7_rate_136 : decode cX7_rate 136 = .ok (.goto 6, 3) := by decide +kernel
theorem dX7_rate_139 : decode cX7_rate 139 = .ok (.ldc2_w 263, 3) := by decide +kernel
theorem dX7_rate_142 : decode cX7_rate 142 = .ok (.ladd, 1) := by decide +kernel
theorem dX7_rate_143 : decode cX7_rate 143 = .ok (.putfield 251, 3) := by decide +kernel
theorem dX7_rate_146 : decode cX7_rate 146 = .ok (.iload_n 1, 1) := by decide +kernel
theorem dX7_rate_147 : decode cX7_rate 147 = .ok (.ifCond .ne 7, 3) := by decide +kernel
theorem dX7_rate_150 : decode cX7_rate 150 = .ok (.iload_n 3, 1) := by decide +kernel
theorem dX7_rate_151 : decode cX7_rate 151 = .ok (.goto 53, 3) := by decide +kernel
theorem dX7_rate_154 : decode cX7_rate 154 = .ok (.iload_n 1, 1) := by decide +kernel
theorem dX7_rate_155 : decode cX7_rate 155 = .ok (.iconst 1, 1) := by decide +kernel
theorem dX7_rate_156 : decode cX7_rate 156 = .ok (.if_icmp .ne 8, 3) := by decide +kernel
theorem dX7_rate_159 : decode cX7_rate 159 = .ok (.iload 4, 2) := by decide +kernel
theorem dX7_rate_161 : decode cX7_rate 161 = .ok (.goto 43, 3) := by decide +kernel
theorem dX7_rate_164 : decode cX7_rate 164 = .ok (.iload_n 1, 1) := by decide +kernel
theorem dX7_rate_165 : decode cX7_rate 165 = .ok (.iconst 2, 1) := by decide +kernel
theorem dX7_rate_166 : decode cX7_rate 166 = .ok (.if_icmp .ne 8, 3) := by decide +kernel
theorem dX7_rate_169 : decode cX7_rate 169 = .ok (.iload 5, 2) := by decide +kernel
theorem dX7_rate_171 : decode cX7_rate 171 = .ok (.goto 33, 3) := by decide +kernel
theorem dX7_rate_174 : decode cX7_rate 174 = .ok (.iload_n 1, 1) := by decide +kernel
theorem dX7_rate_175 : decode cX7_rate 175 = .ok (.iconst 3, 1) := by decide +kernel
theorem dX7_rate_176 : decode cX7_rate 176 = .ok (.if_icmp .ne 10, 3) := by decide +kernel
theorem dX7_rate_179 : decode cX7_rate 179 = .ok (.iconst 2, 1) := by decide +kernel
theorem dX7_rate_180 : decode cX7_rate 180 = .ok (.iload 4, 2) := by decide +kernel
theorem dX7_rate_182 : decode cX7_rate 182 = .ok (.imul, 1) := by decide +kernel
theorem dX7_rate_183 : decode cX7_rate 183 = .ok (.goto 21, 3) := by decide +kernel
theorem dX7_rate_186 : decode cX7_rate 186 = .ok (.iload_n 1, 1) := by decide +kernel
theorem dX7_rate_187 : decode cX7_rate 187 = .ok (.iconst 4, 1) := by decide +kernel
theorem dX7_rate_188 : decode cX7_rate 188 = .ok (.if_icmp .ne 10, 3) := by decide +kernel
theorem dX7_rate_191 : decode cX7_rate 191 = .ok (.iload 5, 2) := by decide +kernel
theorem dX7_rate_193 : decode cX7_rate 193 = .ok (.iload_n 2, 1) := by decide +kernel
theorem dX7_rate_194 : decode cX7_rate 194 = .ok (.iadd, 1) := by decide +kernel
theorem dX7_rate_195 : decode cX7_rate 195 = .ok (.goto 9, 3) := by decide +kernel
theorem dX7_rate_198 : decode cX7_rate 198 = .ok (.iload_n 3, 1) := by decide +kernel
theorem dX7_rate_199 : decode cX7_rate 199 = .ok (.aload_n 0, 1) := by decide +kernel
theorem dX7_rate_200 : decode cX7_rate 200 = .ok (.getfield 71, 3) := by decide +kernel
theorem dX7_rate_203 : decode cX7_rate 203 = .ok (.iadd, 1) := by decide +kernel
theorem dX7_rate_204 : decode cX7_rate 204 = .ok (.ireturn, 1) := by decide +kernel
theorem dX7_keep_0 : decode cX7_keep 0 = .ok (.aload_n 0, 1) := by decide +kernel
theorem dX7_keep_1 : decode cX7_keep 1 = .ok (.iconst 0, 1) := by decide +kernel
theorem dX7_keep_2 : decode cX7_keep 2 = .ok (.putfield 75, 3) := by decide +kernel
theorem dX7_keep_5 : decode cX7_keep 5 = .ok (.iload_n 1, 1) := by decide +kernel
theorem dX7_keep_6 : decode cX7_keep 6 = .ok (.iconst 0, 1) := by decide +kernel
theorem dX7_keep_7 : decode cX7_keep 7 = .ok (.iconst 1, 1) := by decide +kernel
theorem dX7_keep_8 : decode cX7_keep 8 = .ok (.invokestatic 78, 3) := by decide +kernel
theorem dX7_keep_11 : decode cX7_keep 11 = .ok (.ifCond .ne 5, 3) := by decide +kernel
theorem dX7_keep_14 : decode cX7_keep 14 = .ok (.iconst (-1), 1) := by decide +kernel
theorem dX7_keep_15 : decode cX7_keep 15 = .ok (.ireturn, 1) := by decide +kernel
theorem dX7_keep_16 : decode cX7_keep 16 = .ok (.iconst 0, 1) := by decide +kernel
theorem dX7_keep_17 : decode cX7_keep 17 = .ok (.istore_n 2, 1) := by decide +kernel
theorem dX7_keep_18 : decode cX7_keep 18 = .ok (.iload_n 2, 1) := by decide +kernel
theorem dX7_keep_19 : decode cX7_keep 19 = .ok (.bipush 26, 2) := by decide +kernel
theorem dX7_keep_21 : decode cX7_keep 21 = .ok (.if_icmp .ge 26, 3) := by decide +kernel
theorem dX7_keep_24 : decode cX7_keep 24 = .ok (.aload_n 0, 1) := by decide +kernel
theorem dX7_keep_25 : decode cX7_keep 25 = .ok (.getfield 34, 3) := by decide +kernel
theorem dX7_keep_28 : decode cX7_keep 28 = .ok (.bipush 26, 2) := by decide +kernel
theorem dX7_keep_30 : decode cX7_keep 30 = .ok (.iload_n 1, 1) := by decide +kernel
theorem dX7_keep_31 : decode cX7_keep 31 = .ok (.imul, 1) := by decide +kernel
theorem dX7_keep_32 : decode cX7_keep 32 = .ok (.iload_n 2, 1) := by decide +kernel
theorem dX7_keep_33 : decode cX7_keep 33 = .ok (.iadd, 1) := by decide +kernel
theorem dX7_keep_34 : decode cX7_keep 34 = .ok (.aload_n 0, 1) := by decide +kernel
theorem dX7_keep_35 : decode cX7_keep 35 = .ok (.getfield 28, 3) := by decide +kernel
theorem dX7_keep_38 : decode cX7_keep 38 = .ok (.iload_n 2, 1) := by decide +kernel
theorem dX7_keep_39 : decode cX7_keep 39 = .ok (.iaload, 1) := by decide +kernel
theorem dX7_keep_40 : decode cX7_keep 40 = .ok (.iastore, 1) := by decide +kernel
theorem dX7_keep_41 : decode cX7_keep 41 = .ok (.iinc 2 1, 3) := by decide +kernel
theorem dX7_keep_44 : decode cX7_keep 44 = .ok (.goto (-26), 3) := by decide +kernel
theorem dX7_keep_47 : decode cX7_keep 47 = .ok (.aload_n 0, 1) := by decide +kernel
theorem dX7_keep_48 : decode cX7_keep 48 = .ok (.getfield 37, 3) := by decide +kernel
theorem dX7_keep_51 : decode cX7_keep 51 = .ok (.iload_n 1, 1) := by decide +kernel
theorem dX7_keep_52 : decode cX7_keep 52 = .ok (.iconst 1, 1) := by decide +kernel
theorem dX7_keep_53 : decode cX7_keep 53 = .ok (.bastore, 1) := by decide +kernel
theorem dX7_keep_54 : decode cX7_keep 54 = .ok (.aload_n 0, 1) := by decide +kernel
theorem dX7_keep_55 : decode cX7_keep 55 = .ok (.getfield 28, 3) := by decide +kernel
theorem dX7_keep_58 : decode cX7_keep 58 = .ok (.bipush 24, 2) := by decide +kernel
theorem dX7_keep_60 : decode cX7_keep 60 = .ok (.iaload, 1) := by decide +kernel
theorem dX7_keep_61 : decode cX7_keep 61 = .ok (.ireturn, 1) := by decide +kernel
theorem dX7_back_0 : decode cX7_back 0 = .ok (.aload_n 0, 1) := by decide +kernel
theorem dX7_back_1 : decode cX7_back 1 = .ok (.iconst 0, 1) := by decide +kernel
theorem dX7_back_2 : decode cX7_back 2 = .ok (.putfield 75, 3) := by decide +kernel
theorem dX7_back_5 : decode cX7_back 5 = .ok (.iload_n 1, 1) := by decide +kernel
theorem dX7_back_6 : decode cX7_back 6 = .ok (.iconst 0, 1) := by decide +kernel
theorem dX7_back_7 : decode cX7_back 7 = .ok (.iconst 1, 1) := by decide +kernel
theorem dX7_back_8 : decode cX7_back 8 = .ok (.invokestatic 78, 3) := by decide +kernel
theorem dX7_back_11 : decode cX7_back 11 = .ok (.ifCond .ne 5, 3) := by decide +kernel
theorem dX7_back_14 : decode cX7_back 14 = .ok (.iconst (-1), 1) := by decide +kernel
theorem dX7_back_15 : decode cX7_back 15 = .ok (.ireturn, 1) := by decide +kernel
theorem dX7_back_16 : decode cX7_back 16 = .ok (.aload_n 0, 1) := by decide +kernel
theorem dX7_back_17 : decode cX7_back 17 = .ok (.getfield 37, 3) := by decide +kernel
theorem dX7_back_20 : decode cX7_back 20 = .ok (.iload_n 1, 1) := by decide +kernel
theorem dX7_back_21 : decode cX7_back 21 = .ok (.baload, 1) := by decide +kernel
theorem dX7_back_22 : decode cX7_back 22 = .ok (.ifCond .ne 6, 3) := by decide +kernel
theorem dX7_back_25 : decode cX7_back 25 = .ok (.bipush (-2), 2) := by decide +kernel
theorem dX7_back_27 : decode cX7_back 27 = .ok (.ireturn, 1) := by decide +kernel
theorem dX7_back_28 : decode cX7_back 28 = .ok (.iconst 0, 1) := by decide +kernel
theorem dX7_back_29 : decode cX7_back 29 = .ok (.istore_n 2, 1) := by decide +kernel
theorem dX7_back_30 : decode cX7_back 30 = .ok (.iload_n 2, 1) := by decide +kernel
theorem dX7_back_31 : decode cX7_back 31 = .ok (.bipush 26, 2) := by decide +kernel
theorem dX7_back_33 : decode cX7_back 33 = .ok (.if_icmp .ge 26, 3) := by decide +kernel
theorem dX7_back_36 : decode cX7_back 36 = .ok (.aload_n 0, 1) := by decide +kernel
theorem dX7_back_37 : decode cX7_back 37 = .ok (.getfield 28, 3) := by decide +kernel
theorem dX7_back_40 : decode cX7_back 40 = .ok (.iload_n 2, 1) := by decide +kernel
theorem dX7_back_41 : decode cX7_back 41 = .ok (.aload_n 0, 1) := by decide +kernel
theorem dX7_back_42 : decode cX7_back 42 = .ok (.getfield 34, 3) := by decide +kernel
theorem dX7_back_45 : decode cX7_back 45 = .ok (.bipush 26, 2) := by decide +kernel
theorem dX7_back_47 : decode cX7_back 47 = .ok (.iload_n 1, 1) := by decide +kernel
theorem dX7_back_48 : decode cX7_back 48 = .ok (.imul, 1) := by decide +kernel
theorem dX7_back_49 : decode cX7_back 49 = .ok (.iload_n 2, 1) := by decide +kernel
theorem dX7_back_50 : decode cX7_back 50 = .ok (.iadd, 1) := by decide +kernel
theorem dX7_back_51 : decode cX7_back 51 = .ok (.iaload, 1) := by decide +kernel
theorem dX7_back_52 : decode cX7_back 52 = .ok (.iastore, 1) := by decide +kernel
theorem dX7_back_53 : decode cX7_back 53 = .ok (.iinc 2 1, 3) := by decide +kernel
theorem dX7_back_56 : decode cX7_back 56 = .ok (.goto (-26), 3) := by decide +kernel
theorem dX7_back_59 : decode cX7_back 59 = .ok (.aload_n 0, 1) := by decide +kernel
theorem dX7_back_60 : decode cX7_back 60 = .ok (.iconst 0, 1) := by decide +kernel
theorem dX7_back_61 : decode cX7_back 61 = .ok (.putfield 150, 3) := by decide +kernel
theorem dX7_back_64 : decode cX7_back 64 = .ok (.aload_n 0, 1) := by decide +kernel
theorem dX7_back_65 : decode cX7_back 65 = .ok (.getfield 28, 3) := by decide +kernel
theorem dX7_back_68 : decode cX7_back 68 = .ok (.bipush 24, 2) := by decide +kernel
theorem dX7_back_70 : decode cX7_back 70 = .ok (.iaload, 1) := by decide +kernel
theorem dX7_back_71 : decode cX7_back 71 = .ok (.ireturn, 1) := by decide +kernel
theorem dX7_count_0 : decode cX7_count 0 = .ok (.aload_n 0, 1) := by decide +kernel
theorem dX7_count_1 : decode cX7_count 1 = .ok (.iconst 0, 1) := by decide +kernel
theorem dX7_count_2 : decode cX7_count 2 = .ok (.putfield 75, 3) := by decide +kernel
theorem dX7_count_5 : decode cX7_count 5 = .ok (.iload_n 1, 1) := by decide +kernel
theorem dX7_count_6 : decode cX7_count 6 = .ok (.iconst 3, 1) := by decide +kernel
theorem dX7_count_7 : decode cX7_count 7 = .ok (.if_icmp .ge 40, 3) := by decide +kernel
theorem dX7_count_10 : decode cX7_count 10 = .ok (.iload_n 1, 1) := by decide +kernel
theorem dX7_count_11 : decode cX7_count 11 = .ok (.ifCond .ne 10, 3) := by decide +kernel
theorem dX7_count_14 : decode cX7_count 14 = .ok (.aload_n 0, 1) := by decide +kernel
theorem dX7_count_15 : decode cX7_count 15 = .ok (.getfield 141, 3) := by decide +kernel
theorem dX7_count_18 : decode cX7_count 18 = .ok (.goto 28, 3) := by decide +kernel
theorem dX7_count_21 : decode cX7_count 21 = .ok (.iload_n 1, 1) := by decide +kernel
theorem dX7_count_22 : decode cX7_count 22 = .ok (.iconst 1, 1) := by decide +kernel
theorem dX7_count_23 : decode cX7_count 23 = .ok (.if_icmp .ne 10, 3) := by decide +kernel
theorem dX7_count_26 : decode cX7_count 26 = .ok (.aload_n 0, 1) := by decide +kernel
theorem dX7_count_27 : decode cX7_count 27 = .ok (.getfield 144, 3) := by decide +kernel
theorem dX7_count_30 : decode cX7_count 30 = .ok (.goto 16, 3) := by decide +kernel
theorem dX7_count_33 : decode cX7_count 33 = .ok (.iload_n 1, 1) := by decide +kernel
theorem dX7_count_34 : decode cX7_count 34 = .ok (.iconst 2, 1) := by decide +kernel
theorem dX7_count_35 : decode cX7_count 35 = .ok (.if_icmp .ne 10, 3) := by decide +kernel
theorem dX7_count_38 : decode cX7_count 38 = .ok (.aload_n 0, 1) := by decide +kernel
theorem dX7_count_39 : decode cX7_count 39 = .ok (.getfield 147, 3) := by decide +kernel
theorem dX7_count_42 : decode cX7_count 42 = .ok (.goto 4, 3) := by decide +kernel
theorem dX7_count_45 : decode cX7_count 45 = .ok (.iconst (-1), 1) := by decide +kernel
theorem dX7_count_46 : decode cX7_count 46 = .ok (.ireturn, 1) := by decide +kernel
theorem dX7_count_47 : decode cX7_count 47 = .ok (.iload_n 1, 1) := by decide +kernel
theorem dX7_count_48 : decode cX7_count 48 = .ok (.iconst 3, 1) := by decide +kernel
theorem dX7_count_49 : decode cX7_count 49 = .ok (.if_icmp .ne 10, 3) := by decide +kernel
theorem dX7_count_52 : decode cX7_count 52 = .ok (.aload_n 0, 1) := by decide +kernel
theorem dX7_count_53 : decode cX7_count 53 = .ok (.getfield 153, 3) := by decide +kernel
theorem dX7_count_56 : decode cX7_count 56 = .ok (.goto 41, 3) := by decide +kernel
theorem dX7_count_59 : decode cX7_count 59 = .ok (.iload_n 1, 1) := by decide +kernel
theorem dX7_count_60 : decode cX7_count 60 = .ok (.iconst 4, 1) := by decide +kernel
theorem dX7_count_61 : decode cX7_count 61 = .ok (.if_icmp .ne 10, 3) := by decide +kernel
theorem dX7_count_64 : decode cX7_count 64 = .ok (.aload_n 0, 1) := by decide +kernel
theorem dX7_count_65 : decode cX7_count 65 = .ok (.getfield 156, 3) := by decide +kernel
theorem dX7_count_68 : decode cX7_count 68 = .ok (.goto 29, 3) := by decide +kernel
theorem dX7_count_71 : decode cX7_count 71 = .ok (.iload_n 1, 1) := by decide +kernel
theorem dX7_count_72 : decode cX7_count 72 = .ok (.iconst 5, 1) := by decide +kernel
theorem dX7_count_73 : decode cX7_count 73 = .ok (.if_icmp .ne 10, 3) := by decide +kernel
theorem dX7_count_76 : decode cX7_count 76 = .ok (.aload_n 0, 1) := by decide +kernel
theorem dX7_count_77 : decode cX7_count 77 = .ok (.getfield 82, 3) := by decide +kernel
theorem dX7_count_80 : decode cX7_count 80 = .ok (.goto 17, 3) := by decide +kernel
theorem dX7_count_83 : decode cX7_count 83 = .ok (.iload_n 1, 1) := by decide +kernel
theorem dX7_count_84 : decode cX7_count 84 = .ok (.bipush 6, 2) := by decide +kernel
theorem dX7_count_86 : decode cX7_count 86 = .ok (.if_icmp .ne 10, 3) := by decide +kernel
theorem dX7_count_89 : decode cX7_count 89 = .ok (.aload_n 0, 1) := by decide +kernel
theorem dX7_count_90 : decode cX7_count 90 = .ok (.getfield 71, 3) := by decide +kernel
theorem dX7_count_93 : decode cX7_count 93 = .ok (.goto 4, 3) := by decide +kernel
theorem dX7_count_96 : decode cX7_count 96 = .ok (.iconst (-1), 1) := by decide +kernel
theorem dX7_count_97 : decode cX7_count 97 = .ok (.ireturn, 1) := by decide +kernel
theorem dX7_trace_0 : decode cX7_trace 0 = .ok (.aload_n 0, 1) := by decide +kernel
theorem dX7_trace_1 : decode cX7_trace 1 = .ok (.iconst 0, 1) := by decide +kernel
theorem dX7_trace_2 : decode cX7_trace 2 = .ok (.putfield 75, 3) := by decide +kernel
theorem dX7_trace_5 : decode cX7_trace 5 = .ok (.aload_n 0, 1) := by decide +kernel
theorem dX7_trace_6 : decode cX7_trace 6 = .ok (.getfield 251, 3) := by decide +kernel
theorem dX7_trace_9 : decode cX7_trace 9 = .ok (.lreturn, 1) := by decide +kernel
end
section
theorem dL_law_0 : decode cL_law 0 = .ok (.new 7, 3) := by decide +kernel
theorem dL_law_3 : decode cL_law 3 = .ok (.dup, 1) := by decide +kernel
theorem dL_law_4 : decode cL_law 4 = .ok (.invokespecial 9, 3) := by decide +kernel
theorem dL_law_7 : decode cL_law 7 = .ok (.astore_n 1, 1) := by decide +kernel
theorem dL_law_8 : decode cL_law 8 = .ok (.new 10, 3) := by decide +kernel
theorem dL_law_11 : decode cL_law 11 = .ok (.dup, 1) := by decide +kernel
theorem dL_law_12 : decode cL_law 12 = .ok (.invokespecial 12, 3) := by decide +kernel
theorem dL_law_15 : decode cL_law 15 = .ok (.astore_n 2, 1) := by decide +kernel
theorem dL_law_16 : decode cL_law 16 = .ok (.iconst 0, 1) := by decide +kernel
theorem dL_law_17 : decode cL_law 17 = .ok (.istore_n 3, 1) := by decide +kernel
theorem dL_law_18 : decode cL_law 18 = .ok (.iload_n 3, 1) := by decide +kernel
theorem dL_law_19 : decode cL_law 19 = .ok (.aload_n 0, 1) := by decide +kernel
theorem dL_law_20 : decode cL_law 20 = .ok (.arraylength, 1) := by decide +kernel
theorem dL_law_21 : decode cL_law 21 = .ok (.iconst 5, 1) := by decide +kernel
theorem dL_law_22 : decode cL_law 22 = .ok (.isub, 1) := by decide +kernel
theorem dL_law_23 : decode cL_law 23 = .ok (.if_icmp .gt 1076, 3) := by decide +kernel
theorem dL_law_26 : decode cL_law 26 = .ok (.aload_n 0, 1) := by decide +kernel
theorem dL_law_27 : decode cL_law 27 = .ok (.iload_n 3, 1) := by decide +kernel
theorem dL_law_28 : decode cL_law 28 = .ok (.iaload, 1) := by decide +kernel
theorem dL_law_29 : decode cL_law 29 = .ok (.bipush 31, 2) := by decide +kernel
theorem dL_law_31 : decode cL_law 31 = .ok (.iand, 1) := by decide +kernel
theorem dL_law_32 : decode cL_law 32 = .ok (.tableswitch 1061 0 31 #[144, 167, 180, 193, 226, 269, 302, 325, 348, 391, 434, 447, 470, 513, 546, 589, 622, 655, 668, 701, 724, 777, 820, 863, 876, 899, 932, 945, 978, 1001, 1024, 1047], 144) := by decide +kernel
theorem dL_law_176 : decode cL_law 176 = .ok (.aload_n 1, 1) := by decide +kernel
theorem dL_law_177 : decode cL_law 177 = .ok (.aload_n 0, 1) := by decide +kernel
theorem dL_law_178 : decode cL_law 178 = .ok (.iload_n 3, 1) := by decide +kernel
theorem dL_law_179 : decode cL_law 179 = .ok (.iconst 1, 1) := by decide +kernel
theorem dL_law_180 : decode cL_law 180 = .ok (.iadd, 1) := by decide +kernel
theorem dL_law_181 : decode cL_law 181 = .ok (.iaload, 1) := by decide +kernel
theorem dL_law_182 : decode cL_law 182 = .ok (.invokevirtual 13, 3) := by decide +kernel
theorem dL_law_185 : decode cL_law 185 = .ok (.aload_n 2, 1) := by decide +kernel
theorem dL_law_186 : decode cL_law 186 = .ok (.aload_n 0, 1) := by decide +kernel
theorem dL_law_187 : decode cL_law 187 = .ok (.iload_n 3, 1) := by decide +kernel
theorem dL_law_188 : decode cL_law 188 = .ok (.iconst 1, 1) := by decide +kernel
theorem dL_law_189 : decode cL_law 189 = .ok (.iadd, 1) := by decide +kernel
theorem dL_law_190 : decode cL_law 190 = .ok (.iaload, 1) := by decide +kernel
theorem dL_law_191 : decode cL_law 191 = .ok (.invokevirtual 17, 3) := by decide +kernel
theorem dL_law_194 : decode cL_law 194 = .ok (.if_icmp .eq 899, 3) := by decide +kernel
theorem dL_law_197 : decode cL_law 197 = .ok (.iconst 0, 1) := by decide +kernel
theorem dL_law_198 : decode cL_law 198 = .ok (.ireturn, 1) := by decide +kernel
theorem dL_law_199 : decode cL_law 199 = .ok (.aload_n 1, 1) := by decide +kernel
theorem dL_law_200 : decode cL_law 200 = .ok (.invokevirtual 18, 3) := by decide +kernel
theorem dL_law_203 : decode cL_law 203 = .ok (.aload_n 2, 1) := by decide +kernel
theorem dL_law_204 : decode cL_law 204 = .ok (.invokevirtual 22, 3) := by decide +kernel
theorem dL_law_207 : decode cL_law 207 = .ok (.if_icmp .eq 886, 3) := by decide +kernel
theorem dL_law_210 : decode cL_law 210 = .ok (.iconst 0, 1) := by decide +kernel
theorem dL_law_211 : decode cL_law 211 = .ok (.ireturn, 1) := by decide +kernel
theorem dL_law_212 : decode cL_law 212 = .ok (.aload_n 1, 1) := by decide +kernel
theorem dL_law_213 : decode cL_law 213 = .ok (.invokevirtual 23, 3) := by decide +kernel
theorem dL_law_216 : decode cL_law 216 = .ok (.aload_n 2, 1) := by decide +kernel
theorem dL_law_217 : decode cL_law 217 = .ok (.invokevirtual 26, 3) := by decide +kernel
theorem dL_law_220 : decode cL_law 220 = .ok (.if_icmp .eq 873, 3) := by decide +kernel
theorem dL_law_223 : decode cL_law 223 = .ok (.iconst 0, 1) := by decide +kernel
theorem dL_law_224 : decode cL_law 224 = .ok (.ireturn, 1) := by decide +kernel
theorem dL_law_225 : decode cL_law 225 = .ok (.aload_n 1, 1) := by decide +kernel
theorem dL_law_226 : decode cL_law 226 = .ok (.aload_n 0, 1) := by decide +kernel
theorem dL_law_227 : decode cL_law 227 = .ok (.iload_n 3, 1) := by decide +kernel
theorem dL_law_228 : decode cL_law 228 = .ok (.iconst 1, 1) := by decide +kernel
theorem dL_law_229 : decode cL_law 229 = .ok (.iadd, 1) := by decide +kernel
theorem dL_law_230 : decode cL_law 230 = .ok (.iaload, 1) := by decide +kernel
theorem dL_law_231 : decode cL_law 231 = .ok (.aload_n 0, 1) := by decide +kernel
theorem dL_law_232 : decode cL_law 232 = .ok (.iload_n 3, 1) := by decide +kernel
theorem dL_law_233 : decode cL_law 233 = .ok (.iconst 2, 1) := by decide +kernel
theorem dL_law_234 : decode cL_law 234 = .ok (.iadd, 1) := by decide +kernel
theorem dL_law_235 : decode cL_law 235 = .ok (.iaload, 1) := by decide +kernel
theorem dL_law_236 : decode cL_law 236 = .ok (.invokevirtual 27, 3) := by decide +kernel
theorem dL_law_239 : decode cL_law 239 = .ok (.aload_n 2, 1) := by decide +kernel
theorem dL_law_240 : decode cL_law 240 = .ok (.aload_n 0, 1) := by decide +kernel
theorem dL_law_241 : decode cL_law 241 = .ok (.iload_n 3, 1) := by decide +kernel
theorem dL_law_242 : decode cL_law 242 = .ok (.iconst 1, 1) := by decide +kernel
theorem dL_law_243 : decode cL_law 243 = .ok (.iadd, 1) := by decide +kernel
theorem dL_law_244 : decode cL_law 244 = .ok (.iaload, 1) := by decide +kernel
theorem dL_law_245 : decode cL_law 245 = .ok (.aload_n 0, 1) := by decide +kernel
theorem dL_law_246 : decode cL_law 246 = .ok (.iload_n 3, 1) := by decide +kernel
theorem dL_law_247 : decode cL_law 247 = .ok (.iconst 2, 1) := by decide +kernel
theorem dL_law_248 : decode cL_law 248 = .ok (.iadd, 1) := by decide +kernel
theorem dL_law_249 : decode cL_law 249 = .ok (.iaload, 1) := by decide +kernel
theorem dL_law_250 : decode cL_law 250 = .ok (.invokevirtual 31, 3) := by decide +kernel
theorem dL_law_253 : decode cL_law 253 = .ok (.if_icmp .eq 840, 3) := by decide +kernel
theorem dL_law_256 : decode cL_law 256 = .ok (.iconst 0, 1) := by decide +kernel
theorem dL_law_257 : decode cL_law 257 = .ok (.ireturn, 1) := by decide +kernel
theorem dL_law_258 : decode cL_law 258 = .ok (.aload_n 1, 1) := by decide +kernel
theorem dL_law_259 : decode cL_law 259 = .ok (.aload_n 0, 1) := by decide +kernel
theorem dL_law_260 : decode cL_law 260 = .ok (.iload_n 3, 1) := by decide +kernel
theorem dL_law_261 : decode cL_law 261 = .ok (.iconst 1, 1) := by decide +kernel
theorem dL_law_262 : decode cL_law 262 = .ok (.iadd, 1) := by decide +kernel
theorem dL_law_263 : decode cL_law 263 = .ok (.iaload, 1) := by decide +kernel
theorem dL_law_264 : decode cL_law 264 = .ok (.aload_n 0, 1) := by decide +kernel
theorem dL_law_265 : decode cL_law 265 = .ok (.iload_n 3, 1) := by decide +kernel
theorem dL_law_266 : decode cL_law 266 = .ok (.iconst 2, 1) := by decide +kernel
theorem dL_law_267 : decode cL_law 267 = .ok (.iadd, 1) := by decide +kernel
theorem dL_law_268 : decode cL_law 268 = .ok (.iaload, 1) := by decide +kernel
theorem dL_law_269 : decode cL_law 269 = .ok (.aload_n 0, 1) := by decide +kernel
theorem dL_law_270 : decode cL_law 270 = .ok (.iload_n 3, 1) := by decide +kernel
theorem dL_law_271 : decode cL_law 271 = .ok (.iconst 3, 1) := by decide +kernel
theorem dL_law_272 : decode cL_law 272 = .ok (.iadd, 1) := by decide +kernel
theorem dL_law_273 : decode cL_law 273 = .ok (.iaload, 1) := by decide +kernel
theorem dL_law_274 : decode cL_law 274 = .ok (.invokevirtual 32, 3) := by decide +kernel
theorem dL_law_277 : decode cL_law 277 = .ok (.aload_n 2, 1) := by decide +kernel
theorem dL_law_278 : decode cL_law 278 = .ok (.aload_n 0, 1) := by decide +kernel
theorem dL_law_279 : decode cL_law 279 = .ok (.iload_n 3, 1) := by decide +kernel
theorem dL_law_280 : decode cL_law 280 = .ok (.iconst 1, 1) := by decide +kernel
theorem dL_law_281 : decode cL_law 281 = .ok (.iadd, 1) := by decide +kernel
theorem dL_law_282 : decode cL_law 282 = .ok (.iaload, 1) := by decide +kernel
theorem dL_law_283 : decode cL_law 283 = .ok (.aload_n 0, 1) := by decide +kernel
theorem dL_law_284 : decode cL_law 284 = .ok (.iload_n 3, 1) := by decide +kernel
theorem dL_law_285 : decode cL_law 285 = .ok (.iconst 2, 1) := by decide +kernel
theorem dL_law_286 : decode cL_law 286 = .ok (.iadd, 1) := by decide +kernel
theorem dL_law_287 : decode cL_law 287 = .ok (.iaload, 1) := by decide +kernel
theorem dL_law_288 : decode cL_law 288 = .ok (.aload_n 0, 1) := by decide +kernel
theorem dL_law_289 : decode cL_law 289 = .ok (.iload_n 3, 1) := by decide +kernel
theorem dL_law_290 : decode cL_law 290 = .ok (.iconst 3, 1) := by decide +kernel
theorem dL_law_291 : decode cL_law 291 = .ok (.iadd, 1) := by decide +kernel
theorem dL_law_292 : decode cL_law 292 = .ok (.iaload, 1) := by decide +kernel
theorem dL_law_293 : decode cL_law 293 = .ok (.invokevirtual 36, 3) := by decide +kernel
theorem dL_law_296 : decode cL_law 296 = .ok (.if_icmp .eq 797, 3) := by decide +kernel
theorem dL_law_299 : decode cL_law 299 = .ok (.iconst 0, 1) := by decide +kernel
theorem dL_law_300 : decode cL_law 300 = .ok (.ireturn, 1) := by decide +kernel
theorem dL_law_301 : decode cL_law 301 = .ok (.aload_n 1, 1) := by decide +kernel
theorem dL_law_302 : decode cL_law 302 = .ok (.aload_n 0, 1) := by decide +kernel
theorem dL_law_303 : decode cL_law 303 = .ok (.iload_n 3, 1) := by decide +kernel
theorem dL_law_304 : decode cL_law 304 = .ok (.iconst 1, 1) := by decide +kernel
theorem dL_law_305 : decode cL_law 305 = .ok (.iadd, 1) := by decide +kernel
theorem dL_law_306 : decode cL_law 306 = .ok (.iaload, 1) := by decide +kernel
theorem dL_law_307 : decode cL_law 307 = .ok (.aload_n 0, 1) := by decide +kernel
theorem dL_law_308 : decode cL_law 308 = .ok (.iload_n 3, 1) := by decide +kernel
theorem dL_law_309 : decode cL_law 309 = .ok (.iconst 2, 1) := by decide +kernel
theorem dL_law_310 : decode cL_law 310 = .ok (.iadd, 1) := by decide +kernel
theorem dL_law_311 : decode cL_law 311 = .ok (.iaload, 1) := by decide +kernel
theorem dL_law_312 : decode cL_law 312 = .ok (.invokevirtual 37, 3) := by decide +kernel
theorem dL_law_315 : decode cL_law 315 = .ok (.aload_n 2, 1) := by decide +kernel
theorem dL_law_316 : decode cL_law 316 = .ok (.aload_n 0, 1) := by decide +kernel
theorem dL_law_317 : decode cL_law 317 = .ok (.iload_n 3, 1) := by decide +kernel
theorem dL_law_318 : decode cL_law 318 = .ok (.iconst 1, 1) := by decide +kernel
theorem dL_law_319 : decode cL_law 319 = .ok (.iadd, 1) := by decide +kernel
theorem dL_law_320 : decode cL_law 320 = .ok (.iaload, 1) := by decide +kernel
theorem dL_law_321 : decode cL_law 321 = .ok (.aload_n 0, 1) := by decide +kernel
theorem dL_law_322 : decode cL_law 322 = .ok (.iload_n 3, 1) := by decide +kernel
theorem dL_law_323 : decode cL_law 323 = .ok (.iconst 2, 1) := by decide +kernel
theorem dL_law_324 : decode cL_law 324 = .ok (.iadd, 1) := by decide +kernel
theorem dL_law_325 : decode cL_law 325 = .ok (.iaload, 1) := by decide +kernel
theorem dL_law_326 : decode cL_law 326 = .ok (.invokevirtual 40, 3) := by decide +kernel
theorem dL_law_329 : decode cL_law 329 = .ok (.if_icmp .eq 764, 3) := by decide +kernel
theorem dL_law_332 : decode cL_law 332 = .ok (.iconst 0, 1) := by decide +kernel
theorem dL_law_333 : decode cL_law 333 = .ok (.ireturn, 1) := by decide +kernel
theorem dL_law_334 : decode cL_law 334 = .ok (.aload_n 1, 1) := by decide +kernel
theorem dL_law_335 : decode cL_law 335 = .ok (.aload_n 0, 1) := by decide +kernel
theorem dL_law_336 : decode cL_law 336 = .ok (.iload_n 3, 1) := by decide +kernel
theorem dL_law_337 : decode cL_law 337 = .ok (.iconst 1, 1) := by decide +kernel
theorem dL_law_338 : decode cL_law 338 = .ok (.iadd, 1) := by decide +kernel
theorem dL_law_339 : decode cL_law 339 = .ok (.iaload, 1) := by decide +kernel
theorem dL_law_340 : decode cL_law 340 = .ok (.invokevirtual 41, 3) := by decide +kernel
theorem dL_law_343 : decode cL_law 343 = .ok (.aload_n 2, 1) := by decide +kernel
theorem dL_law_344 : decode cL_law 344 = .ok (.aload_n 0, 1) := by decide +kernel
theorem dL_law_345 : decode cL_law 345 = .ok (.iload_n 3, 1) := by decide +kernel
theorem dL_law_346 : decode cL_law 346 = .ok (.iconst 1, 1) := by decide +kernel
theorem dL_law_347 : decode cL_law 347 = .ok (.iadd, 1) := by decide +kernel
theorem dL_law_348 : decode cL_law 348 = .ok (.iaload, 1) := by decide +kernel
theorem dL_law_349 : decode cL_law 349 = .ok (.invokevirtual 44, 3) := by decide +kernel
theorem dL_law_352 : decode cL_law 352 = .ok (.if_icmp .eq 741, 3) := by decide +kernel
theorem dL_law_355 : decode cL_law 355 = .ok (.iconst 0, 1) := by decide +kernel
theorem dL_law_356 : decode cL_law 356 = .ok (.ireturn, 1) := by decide +kernel
theorem dL_law_357 : decode cL_law 357 = .ok (.aload_n 1, 1) := by decide +kernel
theorem dL_law_358 : decode cL_law 358 = .ok (.aload_n 0, 1) := by decide +kernel
theorem dL_law_359 : decode cL_law 359 = .ok (.iload_n 3, 1) := by decide +kernel
theorem dL_law_360 : decode cL_law 360 = .ok (.iconst 1, 1) := by decide +kernel
theorem dL_law_361 : decode cL_law 361 = .ok (.iadd, 1) := by decide +kernel
theorem dL_law_362 : decode cL_law 362 = .ok (.iaload, 1) := by decide +kernel
theorem dL_law_363 : decode cL_law 363 = .ok (.invokevirtual 45, 3) := by decide +kernel
theorem dL_law_366 : decode cL_law 366 = .ok (.aload_n 2, 1) := by decide +kernel
theorem dL_law_367 : decode cL_law 367 = .ok (.aload_n 0, 1) := by decide +kernel
theorem dL_law_368 : decode cL_law 368 = .ok (.iload_n 3, 1) := by decide +kernel
theorem dL_law_369 : decode cL_law 369 = .ok (.iconst 1, 1) := by decide +kernel
theorem dL_law_370 : decode cL_law 370 = .ok (.iadd, 1) := by decide +kernel
theorem dL_law_371 : decode cL_law 371 = .ok (.iaload, 1) := by decide +kernel
theorem dL_law_372 : decode cL_law 372 = .ok (.invokevirtual 48, 3) := by decide +kernel
theorem dL_law_375 : decode cL_law 375 = .ok (.if_icmp .eq 718, 3) := by decide +kernel
theorem dL_law_378 : decode cL_law 378 = .ok (.iconst 0, 1) := by decide +kernel
theorem dL_law_379 : decode cL_law 379 = .ok (.ireturn, 1) := by decide +kernel
theorem dL_law_380 : decode cL_law 380 = .ok (.aload_n 1, 1) := by decide +kernel
theorem dL_law_381 : decode cL_law 381 = .ok (.aload_n 0, 1) := by decide +kernel
theorem dL_law_382 : decode cL_law 382 = .ok (.iload_n 3, 1) := by decide +kernel
theorem dL_law_383 : decode cL_law 383 = .ok (.iconst 1, 1) := by decide +kernel
theorem dL_law_384 : decode cL_law 384 = .ok (.iadd, 1) := by decide +kernel
theorem dL_law_385 : decode cL_law 385 = .ok (.iaload, 1) := by decide +kernel
theorem dL_law_386 : decode cL_law 386 = .ok (.aload_n 0, 1) := by decide +kernel
theorem dL_law_387 : decode cL_law 387 = .ok (.iload_n 3, 1) := by decide +kernel
theorem dL_law_388 : decode cL_law 388 = .ok (.iconst 2, 1) := by decide +kernel
theorem dL_law_389 : decode cL_law 389 = .ok (.iadd, 1) := by decide +kernel
theorem dL_law_390 : decode cL_law 390 = .ok (.iaload, 1) := by decide +kernel
theorem dL_law_391 : decode cL_law 391 = .ok (.aload_n 0, 1) := by decide +kernel
theorem dL_law_392 : decode cL_law 392 = .ok (.iload_n 3, 1) := by decide +kernel
theorem dL_law_393 : decode cL_law 393 = .ok (.iconst 3, 1) := by decide +kernel
theorem dL_law_394 : decode cL_law 394 = .ok (.iadd, 1) := by decide +kernel
theorem dL_law_395 : decode cL_law 395 = .ok (.iaload, 1) := by decide +kernel
theorem dL_law_396 : decode cL_law 396 = .ok (.invokevirtual 49, 3) := by decide +kernel
theorem dL_law_399 : decode cL_law 399 = .ok (.aload_n 2, 1) := by decide +kernel
theorem dL_law_400 : decode cL_law 400 = .ok (.aload_n 0, 1) := by decide +kernel
theorem dL_law_401 : decode cL_law 401 = .ok (.iload_n 3, 1) := by decide +kernel
theorem dL_law_402 : decode cL_law 402 = .ok (.iconst 1, 1) := by decide +kernel
theorem dL_law_403 : decode cL_law 403 = .ok (.iadd, 1) := by decide +kernel
theorem dL_law_404 : decode cL_law 404 = .ok (.iaload, 1) := by decide +kernel
theorem dL_law_405 : decode cL_law 405 = .ok (.aload_n 0, 1) := by decide +kernel
theorem dL_law_406 : decode cL_law 406 = .ok (.iload_n 3, 1) := by decide +kernel
theorem dL_law_407 : decode cL_law 407 = .ok (.iconst 2, 1) := by decide +kernel
theorem dL_law_408 : decode cL_law 408 = .ok (.iadd, 1) := by decide +kernel
theorem dL_law_409 : decode cL_law 409 = .ok (.iaload, 1) := by decide +kernel
theorem dL_law_410 : decode cL_law 410 = .ok (.aload_n 0, 1) := by decide +kernel
theorem dL_law_411 : decode cL_law 411 = .ok (.iload_n 3, 1) := by decide +kernel
theorem dL_law_412 : decode cL_law 412 = .ok (.iconst 3, 1) := by decide +kernel
theorem dL_law_413 : decode cL_law 413 = .ok (.iadd, 1) := by decide +kernel
theorem dL_law_414 : decode cL_law 414 = .ok (.iaload, 1) := by decide +kernel
theorem dL_law_415 : decode cL_law 415 = .ok (.invokevirtual 52, 3) := by decide +kernel
theorem dL_law_418 : decode cL_law 418 = .ok (.if_icmp .eq 675, 3) := by decide +kernel
theorem dL_law_421 : decode cL_law 421 = .ok (.iconst 0, 1) := by decide +kernel
theorem dL_law_422 : decode cL_law 422 = .ok (.ireturn, 1) := by decide +kernel
theorem dL_law_423 : decode cL_law 423 = .ok (.aload_n 1, 1) := by decide +kernel
theorem dL_law_424 : decode cL_law 424 = .ok (.aload_n 0, 1) := by decide +kernel
theorem dL_law_425 : decode cL_law 425 = .ok (.iload_n 3, 1) := by decide +kernel
theorem dL_law_426 : decode cL_law 426 = .ok (.iconst 1, 1) := by decide +kernel
theorem dL_law_427 : decode cL_law 427 = .ok (.iadd, 1) := by decide +kernel
theorem dL_law_428 : decode cL_law 428 = .ok (.iaload, 1) := by decide +kernel
theorem dL_law_429 : decode cL_law 429 = .ok (.aload_n 0, 1) := by decide +kernel
theorem dL_law_430 : decode cL_law 430 = .ok (.iload_n 3, 1) := by decide +kernel
theorem dL_law_431 : decode cL_law 431 = .ok (.iconst 2, 1) := by decide +kernel
theorem dL_law_432 : decode cL_law 432 = .ok (.iadd, 1) := by decide +kernel
theorem dL_law_433 : decode cL_law 433 = .ok (.iaload, 1) := by decide +kernel
theorem dL_law_434 : decode cL_law 434 = .ok (.aload_n 0, 1) := by decide +kernel
theorem dL_law_435 : decode cL_law 435 = .ok (.iload_n 3, 1) := by decide +kernel
theorem dL_law_436 : decode cL_law 436 = .ok (.iconst 3, 1) := by decide +kernel
theorem dL_law_437 : decode cL_law 437 = .ok (.iadd, 1) := by decide +kernel
theorem dL_law_438 : decode cL_law 438 = .ok (.iaload, 1) := by decide +kernel
theorem dL_law_439 : decode cL_law 439 = .ok (.invokevirtual 53, 3) := by decide +kernel
theorem dL_law_442 : decode cL_law 442 = .ok (.aload_n 2, 1) := by decide +kernel
theorem dL_law_443 : decode cL_law 443 = .ok (.aload_n 0, 1) := by decide +kernel
theorem dL_law_444 : decode cL_law 444 = .ok (.iload_n 3, 1) := by decide +kernel
theorem dL_law_445 : decode cL_law 445 = .ok (.iconst 1, 1) := by decide +kernel
theorem dL_law_446 : decode cL_law 446 = .ok (.iadd, 1) := by decide +kernel
theorem dL_law_447 : decode cL_law 447 = .ok (.iaload, 1) := by decide +kernel
theorem dL_law_448 : decode cL_law 448 = .ok (.aload_n 0, 1) := by decide +kernel
theorem dL_law_449 : decode cL_law 449 = .ok (.iload_n 3, 1) := by decide +kernel
theorem dL_law_450 : decode cL_law 450 = .ok (.iconst 2, 1) := by decide +kernel
theorem dL_law_451 : decode cL_law 451 = .ok (.iadd, 1) := by decide +kernel
theorem dL_law_452 : decode cL_law 452 = .ok (.iaload, 1) := by decide +kernel
theorem dL_law_453 : decode cL_law 453 = .ok (.aload_n 0, 1) := by decide +kernel
theorem dL_law_454 : decode cL_law 454 = .ok (.iload_n 3, 1) := by decide +kernel
theorem dL_law_455 : decode cL_law 455 = .ok (.iconst 3, 1) := by decide +kernel
theorem dL_law_456 : decode cL_law 456 = .ok (.iadd, 1) := by decide +kernel
theorem dL_law_457 : decode cL_law 457 = .ok (.iaload, 1) := by decide +kernel
theorem dL_law_458 : decode cL_law 458 = .ok (.invokevirtual 56, 3) := by decide +kernel
theorem dL_law_461 : decode cL_law 461 = .ok (.if_icmp .eq 632, 3) := by decide +kernel
theorem dL_law_464 : decode cL_law 464 = .ok (.iconst 0, 1) := by decide +kernel
theorem dL_law_465 : decode cL_law 465 = .ok (.ireturn, 1) := by decide +kernel
theorem dL_law_466 : decode cL_law 466 = .ok (.aload_n 1, 1) := by decide +kernel
theorem dL_law_467 : decode cL_law 467 = .ok (.invokevirtual 57, 3) := by decide +kernel
theorem dL_law_470 : decode cL_law 470 = .ok (.aload_n 2, 1) := by decide +kernel
theorem dL_law_471 : decode cL_law 471 = .ok (.invokevirtual 60, 3) := by decide +kernel
theorem dL_law_474 : decode cL_law 474 = .ok (.if_icmp .eq 619, 3) := by decide +kernel
theorem dL_law_477 : decode cL_law 477 = .ok (.iconst 0, 1) := by decide +kernel
theorem dL_law_478 : decode cL_law 478 = .ok (.ireturn, 1) := by decide +kernel
theorem dL_law_479 : decode cL_law 479 = .ok (.aload_n 1, 1) := by decide +kernel
theorem dL_law_480 : decode cL_law 480 = .ok (.aload_n 0, 1) := by decide +kernel
theorem dL_law_481 : decode cL_law 481 = .ok (.iload_n 3, 1) := by decide +kernel
theorem dL_law_482 : decode cL_law 482 = .ok (.iconst 1, 1) := by decide +kernel
theorem dL_law_483 : decode cL_law 483 = .ok (.iadd, 1) := by decide +kernel
theorem dL_law_484 : decode cL_law 484 = .ok (.iaload, 1) := by decide +kernel
theorem dL_law_485 : decode cL_law 485 = .ok (.invokevirtual 61, 3) := by decide +kernel
theorem dL_law_488 : decode cL_law 488 = .ok (.aload_n 2, 1) := by decide +kernel
theorem dL_law_489 : decode cL_law 489 = .ok (.aload_n 0, 1) := by decide +kernel
theorem dL_law_490 : decode cL_law 490 = .ok (.iload_n 3, 1) := by decide +kernel
theorem dL_law_491 : decode cL_law 491 = .ok (.iconst 1, 1) := by decide +kernel
theorem dL_law_492 : decode cL_law 492 = .ok (.iadd, 1) := by decide +kernel
theorem dL_law_493 : decode cL_law 493 = .ok (.iaload, 1) := by decide +kernel
theorem dL_law_494 : decode cL_law 494 = .ok (.invokevirtual 64, 3) := by decide +kernel
theorem dL_law_497 : decode cL_law 497 = .ok (.if_icmp .eq 596, 3) := by decide +kernel
theorem dL_law_500 : decode cL_law 500 = .ok (.iconst 0, 1) := by decide +kernel
theorem dL_law_501 : decode cL_law 501 = .ok (.ireturn, 1) := by decide +kernel
theorem dL_law_502 : decode cL_law 502 = .ok (.aload_n 1, 1) := by decide +kernel
theorem dL_law_503 : decode cL_law 503 = .ok (.aload_n 0, 1) := by decide +kernel
theorem dL_law_504 : decode cL_law 504 = .ok (.iload_n 3, 1) := by decide +kernel
theorem dL_law_505 : decode cL_law 505 = .ok (.iconst 1, 1) := by decide +kernel
theorem dL_law_506 : decode cL_law 506 = .ok (.iadd, 1) := by decide +kernel
theorem dL_law_507 : decode cL_law 507 = .ok (.iaload, 1) := by decide +kernel
theorem dL_law_508 : decode cL_law 508 = .ok (.aload_n 0, 1) := by decide +kernel
theorem dL_law_509 : decode cL_law 509 = .ok (.iload_n 3, 1) := by decide +kernel
theorem dL_law_510 : decode cL_law 510 = .ok (.iconst 2, 1) := by decide +kernel
theorem dL_law_511 : decode cL_law 511 = .ok (.iadd, 1) := by decide +kernel
theorem dL_law_512 : decode cL_law 512 = .ok (.iaload, 1) := by decide +kernel
theorem dL_law_513 : decode cL_law 513 = .ok (.aload_n 0, 1) := by decide +kernel
theorem dL_law_514 : decode cL_law 514 = .ok (.iload_n 3, 1) := by decide +kernel
theorem dL_law_515 : decode cL_law 515 = .ok (.iconst 3, 1) := by decide +kernel
theorem dL_law_516 : decode cL_law 516 = .ok (.iadd, 1) := by decide +kernel
theorem dL_law_517 : decode cL_law 517 = .ok (.iaload, 1) := by decide +kernel
theorem dL_law_518 : decode cL_law 518 = .ok (.invokevirtual 65, 3) := by decide +kernel
theorem dL_law_521 : decode cL_law 521 = .ok (.aload_n 2, 1) := by decide +kernel
theorem dL_law_522 : decode cL_law 522 = .ok (.aload_n 0, 1) := by decide +kernel
theorem dL_law_523 : decode cL_law 523 = .ok (.iload_n 3, 1) := by decide +kernel
theorem dL_law_524 : decode cL_law 524 = .ok (.iconst 1, 1) := by decide +kernel
theorem dL_law_525 : decode cL_law 525 = .ok (.iadd, 1) := by decide +kernel
theorem dL_law_526 : decode cL_law 526 = .ok (.iaload, 1) := by decide +kernel
theorem dL_law_527 : decode cL_law 527 = .ok (.aload_n 0, 1) := by decide +kernel
theorem dL_law_528 : decode cL_law 528 = .ok (.iload_n 3, 1) := by decide +kernel
theorem dL_law_529 : decode cL_law 529 = .ok (.iconst 2, 1) := by decide +kernel
theorem dL_law_530 : decode cL_law 530 = .ok (.iadd, 1) := by decide +kernel
theorem dL_law_531 : decode cL_law 531 = .ok (.iaload, 1) := by decide +kernel
theorem dL_law_532 : decode cL_law 532 = .ok (.aload_n 0, 1) := by decide +kernel
theorem dL_law_533 : decode cL_law 533 = .ok (.iload_n 3, 1) := by decide +kernel
theorem dL_law_534 : decode cL_law 534 = .ok (.iconst 3, 1) := by decide +kernel
theorem dL_law_535 : decode cL_law 535 = .ok (.iadd, 1) := by decide +kernel
theorem dL_law_536 : decode cL_law 536 = .ok (.iaload, 1) := by decide +kernel
theorem dL_law_537 : decode cL_law 537 = .ok (.invokevirtual 68, 3) := by decide +kernel
theorem dL_law_540 : decode cL_law 540 = .ok (.if_icmp .eq 553, 3) := by decide +kernel
theorem dL_law_543 : decode cL_law 543 = .ok (.iconst 0, 1) := by decide +kernel
theorem dL_law_544 : decode cL_law 544 = .ok (.ireturn, 1) := by decide +kernel
theorem dL_law_545 : decode cL_law 545 = .ok (.aload_n 1, 1) := by decide +kernel
theorem dL_law_546 : decode cL_law 546 = .ok (.aload_n 0, 1) := by decide +kernel
theorem dL_law_547 : decode cL_law 547 = .ok (.iload_n 3, 1) := by decide +kernel
theorem dL_law_548 : decode cL_law 548 = .ok (.iconst 1, 1) := by decide +kernel
theorem dL_law_549 : decode cL_law 549 = .ok (.iadd, 1) := by decide +kernel
theorem dL_law_550 : decode cL_law 550 = .ok (.iaload, 1) := by decide +kernel
theorem dL_law_551 : decode cL_law 551 = .ok (.aload_n 0, 1) := by decide +kernel
theorem dL_law_552 : decode cL_law 552 = .ok (.iload_n 3, 1) := by decide +kernel
theorem dL_law_553 : decode cL_law 553 = .ok (.iconst 2, 1) := by decide +kernel
theorem dL_law_554 : decode cL_law 554 = .ok (.iadd, 1) := by decide +kernel
theorem dL_law_555 : decode cL_law 555 = .ok (.iaload, 1) := by decide +kernel
theorem dL_law_556 : decode cL_law 556 = .ok (.invokevirtual 69, 3) := by decide +kernel
theorem dL_law_559 : decode cL_law 559 = .ok (.aload_n 2, 1) := by decide +kernel
theorem dL_law_560 : decode cL_law 560 = .ok (.aload_n 0, 1) := by decide +kernel
theorem dL_law_561 : decode cL_law 561 = .ok (.iload_n 3, 1) := by decide +kernel
theorem dL_law_562 : decode cL_law 562 = .ok (.iconst 1, 1) := by decide +kernel
theorem dL_law_563 : decode cL_law 563 = .ok (.iadd, 1) := by decide +kernel
theorem dL_law_564 : decode cL_law 564 = .ok (.iaload, 1) := by decide +kernel
theorem dL_law_565 : decode cL_law 565 = .ok (.aload_n 0, 1) := by decide +kernel
theorem dL_law_566 : decode cL_law 566 = .ok (.iload_n 3, 1) := by decide +kernel
theorem dL_law_567 : decode cL_law 567 = .ok (.iconst 2, 1) := by decide +kernel
theorem dL_law_568 : decode cL_law 568 = .ok (.iadd, 1) := by decide +kernel
theorem dL_law_569 : decode cL_law 569 = .ok (.iaload, 1) := by decide +kernel
theorem dL_law_570 : decode cL_law 570 = .ok (.invokevirtual 72, 3) := by decide +kernel
theorem dL_law_573 : decode cL_law 573 = .ok (.if_icmp .eq 520, 3) := by decide +kernel
theorem dL_law_576 : decode cL_law 576 = .ok (.iconst 0, 1) := by decide +kernel
theorem dL_law_577 : decode cL_law 577 = .ok (.ireturn, 1) := by decide +kernel
theorem dL_law_578 : decode cL_law 578 = .ok (.aload_n 1, 1) := by decide +kernel
theorem dL_law_579 : decode cL_law 579 = .ok (.aload_n 0, 1) := by decide +kernel
theorem dL_law_580 : decode cL_law 580 = .ok (.iload_n 3, 1) := by decide +kernel
theorem dL_law_581 : decode cL_law 581 = .ok (.iconst 1, 1) := by decide +kernel
theorem dL_law_582 : decode cL_law 582 = .ok (.iadd, 1) := by decide +kernel
theorem dL_law_583 : decode cL_law 583 = .ok (.iaload, 1) := by decide +kernel
theorem dL_law_584 : decode cL_law 584 = .ok (.aload_n 0, 1) := by decide +kernel
theorem dL_law_585 : decode cL_law 585 = .ok (.iload_n 3, 1) := by decide +kernel
theorem dL_law_586 : decode cL_law 586 = .ok (.iconst 2, 1) := by decide +kernel
theorem dL_law_587 : decode cL_law 587 = .ok (.iadd, 1) := by decide +kernel
theorem dL_law_588 : decode cL_law 588 = .ok (.iaload, 1) := by decide +kernel
theorem dL_law_589 : decode cL_law 589 = .ok (.aload_n 0, 1) := by decide +kernel
theorem dL_law_590 : decode cL_law 590 = .ok (.iload_n 3, 1) := by decide +kernel
theorem dL_law_591 : decode cL_law 591 = .ok (.iconst 3, 1) := by decide +kernel
theorem dL_law_592 : decode cL_law 592 = .ok (.iadd, 1) := by decide +kernel
theorem dL_law_593 : decode cL_law 593 = .ok (.iaload, 1) := by decide +kernel
theorem dL_law_594 : decode cL_law 594 = .ok (.invokevirtual 73, 3) := by decide +kernel
theorem dL_law_597 : decode cL_law 597 = .ok (.aload_n 2, 1) := by decide +kernel
theorem dL_law_598 : decode cL_law 598 = .ok (.aload_n 0, 1) := by decide +kernel
theorem dL_law_599 : decode cL_law 599 = .ok (.iload_n 3, 1) := by decide +kernel
theorem dL_law_600 : decode cL_law 600 = .ok (.iconst 1, 1) := by decide +kernel
theorem dL_law_601 : decode cL_law 601 = .ok (.iadd, 1) := by decide +kernel
theorem dL_law_602 : decode cL_law 602 = .ok (.iaload, 1) := by decide +kernel
theorem dL_law_603 : decode cL_law 603 = .ok (.aload_n 0, 1) := by decide +kernel
theorem dL_law_604 : decode cL_law 604 = .ok (.iload_n 3, 1) := by decide +kernel
theorem dL_law_605 : decode cL_law 605 = .ok (.iconst 2, 1) := by decide +kernel
theorem dL_law_606 : decode cL_law 606 = .ok (.iadd, 1) := by decide +kernel
theorem dL_law_607 : decode cL_law 607 = .ok (.iaload, 1) := by decide +kernel
theorem dL_law_608 : decode cL_law 608 = .ok (.aload_n 0, 1) := by decide +kernel
theorem dL_law_609 : decode cL_law 609 = .ok (.iload_n 3, 1) := by decide +kernel
theorem dL_law_610 : decode cL_law 610 = .ok (.iconst 3, 1) := by decide +kernel
theorem dL_law_611 : decode cL_law 611 = .ok (.iadd, 1) := by decide +kernel
theorem dL_law_612 : decode cL_law 612 = .ok (.iaload, 1) := by decide +kernel
theorem dL_law_613 : decode cL_law 613 = .ok (.invokevirtual 76, 3) := by decide +kernel
theorem dL_law_616 : decode cL_law 616 = .ok (.if_icmp .eq 477, 3) := by decide +kernel
theorem dL_law_619 : decode cL_law 619 = .ok (.iconst 0, 1) := by decide +kernel
theorem dL_law_620 : decode cL_law 620 = .ok (.ireturn, 1) := by decide +kernel
theorem dL_law_621 : decode cL_law 621 = .ok (.aload_n 1, 1) := by decide +kernel
theorem dL_law_622 : decode cL_law 622 = .ok (.aload_n 0, 1) := by decide +kernel
theorem dL_law_623 : decode cL_law 623 = .ok (.iload_n 3, 1) := by decide +kernel
theorem dL_law_624 : decode cL_law 624 = .ok (.iconst 1, 1) := by decide +kernel
theorem dL_law_625 : decode cL_law 625 = .ok (.iadd, 1) := by decide +kernel
theorem dL_law_626 : decode cL_law 626 = .ok (.iaload, 1) := by decide +kernel
theorem dL_law_627 : decode cL_law 627 = .ok (.aload_n 0, 1) := by decide +kernel
theorem dL_law_628 : decode cL_law 628 = .ok (.iload_n 3, 1) := by decide +kernel
theorem dL_law_629 : decode cL_law 629 = .ok (.iconst 2, 1) := by decide +kernel
theorem dL_law_630 : decode cL_law 630 = .ok (.iadd, 1) := by decide +kernel
theorem dL_law_631 : decode cL_law 631 = .ok (.iaload, 1) := by decide +kernel
theorem dL_law_632 : decode cL_law 632 = .ok (.invokevirtual 77, 3) := by decide +kernel
theorem dL_law_635 : decode cL_law 635 = .ok (.aload_n 2, 1) := by decide +kernel
theorem dL_law_636 : decode cL_law 636 = .ok (.aload_n 0, 1) := by decide +kernel
theorem dL_law_637 : decode cL_law 637 = .ok (.iload_n 3, 1) := by decide +kernel
theorem dL_law_638 : decode cL_law 638 = .ok (.iconst 1, 1) := by decide +kernel
theorem dL_law_639 : decode cL_law 639 = .ok (.iadd, 1) := by decide +kernel
theorem dL_law_640 : decode cL_law 640 = .ok (.iaload, 1) := by decide +kernel
theorem dL_law_641 : decode cL_law 641 = .ok (.aload_n 0, 1) := by decide +kernel
theorem dL_law_642 : decode cL_law 642 = .ok (.iload_n 3, 1) := by decide +kernel
theorem dL_law_643 : decode cL_law 643 = .ok (.iconst 2, 1) := by decide +kernel
theorem dL_law_644 : decode cL_law 644 = .ok (.iadd, 1) := by decide +kernel
theorem dL_law_645 : decode cL_law 645 = .ok (.iaload, 1) := by decide +kernel
theorem dL_law_646 : decode cL_law 646 = .ok (.invokevirtual 80, 3) := by decide +kernel
theorem dL_law_649 : decode cL_law 649 = .ok (.if_icmp .eq 444, 3) := by decide +kernel
theorem dL_law_652 : decode cL_law 652 = .ok (.iconst 0, 1) := by decide +kernel
theorem dL_law_653 : decode cL_law 653 = .ok (.ireturn, 1) := by decide +kernel
theorem dL_law_654 : decode cL_law 654 = .ok (.aload_n 1, 1) := by decide +kernel
theorem dL_law_655 : decode cL_law 655 = .ok (.aload_n 0, 1) := by decide +kernel
theorem dL_law_656 : decode cL_law 656 = .ok (.iload_n 3, 1) := by decide +kernel
theorem dL_law_657 : decode cL_law 657 = .ok (.iconst 1, 1) := by decide +kernel
theorem dL_law_658 : decode cL_law 658 = .ok (.iadd, 1) := by decide +kernel
theorem dL_law_659 : decode cL_law 659 = .ok (.iaload, 1) := by decide +kernel
theorem dL_law_660 : decode cL_law 660 = .ok (.aload_n 0, 1) := by decide +kernel
theorem dL_law_661 : decode cL_law 661 = .ok (.iload_n 3, 1) := by decide +kernel
theorem dL_law_662 : decode cL_law 662 = .ok (.iconst 2, 1) := by decide +kernel
theorem dL_law_663 : decode cL_law 663 = .ok (.iadd, 1) := by decide +kernel
theorem dL_law_664 : decode cL_law 664 = .ok (.iaload, 1) := by decide +kernel
theorem dL_law_665 : decode cL_law 665 = .ok (.invokevirtual 81, 3) := by decide +kernel
theorem dL_law_668 : decode cL_law 668 = .ok (.aload_n 2, 1) := by decide +kernel
theorem dL_law_669 : decode cL_law 669 = .ok (.aload_n 0, 1) := by decide +kernel
theorem dL_law_670 : decode cL_law 670 = .ok (.iload_n 3, 1) := by decide +kernel
theorem dL_law_671 : decode cL_law 671 = .ok (.iconst 1, 1) := by decide +kernel
theorem dL_law_672 : decode cL_law 672 = .ok (.iadd, 1) := by decide +kernel
theorem dL_law_673 : decode cL_law 673 = .ok (.iaload, 1) := by decide +kernel
theorem dL_law_674 : decode cL_law 674 = .ok (.aload_n 0, 1) := by decide +kernel
theorem dL_law_675 : decode cL_law 675 = .ok (.iload_n 3, 1) := by decide +kernel
theorem dL_law_676 : decode cL_law 676 = .ok (.iconst 2, 1) := by decide +kernel
theorem dL_law_677 : decode cL_law 677 = .ok (.iadd, 1) := by decide +kernel
theorem dL_law_678 : decode cL_law 678 = .ok (.iaload, 1) := by decide +kernel
theorem dL_law_679 : decode cL_law 679 = .ok (.invokevirtual 84, 3) := by decide +kernel
theorem dL_law_682 : decode cL_law 682 = .ok (.if_icmp .eq 411, 3) := by decide +kernel
theorem dL_law_685 : decode cL_law 685 = .ok (.iconst 0, 1) := by decide +kernel
theorem dL_law_686 : decode cL_law 686 = .ok (.ireturn, 1) := by decide +kernel
theorem dL_law_687 : decode cL_law 687 = .ok (.aload_n 1, 1) := by decide +kernel
theorem dL_law_688 : decode cL_law 688 = .ok (.invokevirtual 85, 3) := by decide +kernel
theorem dL_law_691 : decode cL_law 691 = .ok (.aload_n 2, 1) := by decide +kernel
theorem dL_law_692 : decode cL_law 692 = .ok (.invokevirtual 88, 3) := by decide +kernel
theorem dL_law_695 : decode cL_law 695 = .ok (.if_icmp .eq 398, 3) := by decide +kernel
theorem dL_law_698 : decode cL_law 698 = .ok (.iconst 0, 1) := by decide +kernel
theorem dL_law_699 : decode cL_law 699 = .ok (.ireturn, 1) := by decide +kernel
theorem dL_law_700 : decode cL_law 700 = .ok (.aload_n 1, 1) := by decide +kernel
theorem dL_law_701 : decode cL_law 701 = .ok (.aload_n 0, 1) := by decide +kernel
theorem dL_law_702 : decode cL_law 702 = .ok (.iload_n 3, 1) := by decide +kernel
theorem dL_law_703 : decode cL_law 703 = .ok (.iconst 1, 1) := by decide +kernel
theorem dL_law_704 : decode cL_law 704 = .ok (.iadd, 1) := by decide +kernel
theorem dL_law_705 : decode cL_law 705 = .ok (.iaload, 1) := by decide +kernel
theorem dL_law_706 : decode cL_law 706 = .ok (.aload_n 0, 1) := by decide +kernel
theorem dL_law_707 : decode cL_law 707 = .ok (.iload_n 3, 1) := by decide +kernel
theorem dL_law_708 : decode cL_law 708 = .ok (.iconst 2, 1) := by decide +kernel
theorem dL_law_709 : decode cL_law 709 = .ok (.iadd, 1) := by decide +kernel
theorem dL_law_710 : decode cL_law 710 = .ok (.iaload, 1) := by decide +kernel
theorem dL_law_711 : decode cL_law 711 = .ok (.invokevirtual 89, 3) := by decide +kernel
theorem dL_law_714 : decode cL_law 714 = .ok (.aload_n 2, 1) := by decide +kernel
theorem dL_law_715 : decode cL_law 715 = .ok (.aload_n 0, 1) := by decide +kernel
theorem dL_law_716 : decode cL_law 716 = .ok (.iload_n 3, 1) := by decide +kernel
theorem dL_law_717 : decode cL_law 717 = .ok (.iconst 1, 1) := by decide +kernel
theorem dL_law_718 : decode cL_law 718 = .ok (.iadd, 1) := by decide +kernel
theorem dL_law_719 : decode cL_law 719 = .ok (.iaload, 1) := by decide +kernel
theorem dL_law_720 : decode cL_law 720 = .ok (.aload_n 0, 1) := by decide +kernel
theorem dL_law_721 : decode cL_law 721 = .ok (.iload_n 3, 1) := by decide +kernel
theorem dL_law_722 : decode cL_law 722 = .ok (.iconst 2, 1) := by decide +kernel
theorem dL_law_723 : decode cL_law 723 = .ok (.iadd, 1) := by decide +kernel
theorem dL_law_724 : decode cL_law 724 = .ok (.iaload, 1) := by decide +kernel
theorem dL_law_725 : decode cL_law 725 = .ok (.invokevirtual 92, 3) := by decide +kernel
theorem dL_law_728 : decode cL_law 728 = .ok (.if_icmp .eq 365, 3) := by decide +kernel
theorem dL_law_731 : decode cL_law 731 = .ok (.iconst 0, 1) := by decide +kernel
theorem dL_law_732 : decode cL_law 732 = .ok (.ireturn, 1) := by decide +kernel
theorem dL_law_733 : decode cL_law 733 = .ok (.aload_n 1, 1) := by decide +kernel
theorem dL_law_734 : decode cL_law 734 = .ok (.aload_n 0, 1) := by decide +kernel
theorem dL_law_735 : decode cL_law 735 = .ok (.iload_n 3, 1) := by decide +kernel
theorem dL_law_736 : decode cL_law 736 = .ok (.iconst 1, 1) := by decide +kernel
theorem dL_law_737 : decode cL_law 737 = .ok (.iadd, 1) := by decide +kernel
theorem dL_law_738 : decode cL_law 738 = .ok (.iaload, 1) := by decide +kernel
theorem dL_law_739 : decode cL_law 739 = .ok (.invokevirtual 93, 3) := by decide +kernel
theorem dL_law_742 : decode cL_law 742 = .ok (.aload_n 2, 1) := by decide +kernel
theorem dL_law_743 : decode cL_law 743 = .ok (.aload_n 0, 1) := by decide +kernel
theorem dL_law_744 : decode cL_law 744 = .ok (.iload_n 3, 1) := by decide +kernel
theorem dL_law_745 : decode cL_law 745 = .ok (.iconst 1, 1) := by decide +kernel
theorem dL_law_746 : decode cL_law 746 = .ok (.iadd, 1) := by decide +kernel
theorem dL_law_747 : decode cL_law 747 = .ok (.iaload, 1) := by decide +kernel
theorem dL_law_748 : decode cL_law 748 = .ok (.invokevirtual 96, 3) := by decide +kernel
theorem dL_law_751 : decode cL_law 751 = .ok (.if_icmp .eq 342, 3) := by decide +kernel
theorem dL_law_754 : decode cL_law 754 = .ok (.iconst 0, 1) := by decide +kernel
theorem dL_law_755 : decode cL_law 755 = .ok (.ireturn, 1) := by decide +kernel
theorem dL_law_756 : decode cL_law 756 = .ok (.aload_n 1, 1) := by decide +kernel
theorem dL_law_757 : decode cL_law 757 = .ok (.aload_n 0, 1) := by decide +kernel
theorem dL_law_758 : decode cL_law 758 = .ok (.iload_n 3, 1) := by decide +kernel
theorem dL_law_759 : decode cL_law 759 = .ok (.iconst 1, 1) := by decide +kernel
theorem dL_law_760 : decode cL_law 760 = .ok (.iadd, 1) := by decide +kernel
theorem dL_law_761 : decode cL_law 761 = .ok (.iaload, 1) := by decide +kernel
theorem dL_law_762 : decode cL_law 762 = .ok (.aload_n 0, 1) := by decide +kernel
theorem dL_law_763 : decode cL_law 763 = .ok (.iload_n 3, 1) := by decide +kernel
theorem dL_law_764 : decode cL_law 764 = .ok (.iconst 2, 1) := by decide +kernel
theorem dL_law_765 : decode cL_law 765 = .ok (.iadd, 1) := by decide +kernel
theorem dL_law_766 : decode cL_law 766 = .ok (.iaload, 1) := by decide +kernel
theorem dL_law_767 : decode cL_law 767 = .ok (.aload_n 0, 1) := by decide +kernel
theorem dL_law_768 : decode cL_law 768 = .ok (.iload_n 3, 1) := by decide +kernel
theorem dL_law_769 : decode cL_law 769 = .ok (.iconst 3, 1) := by decide +kernel
theorem dL_law_770 : decode cL_law 770 = .ok (.iadd, 1) := by decide +kernel
theorem dL_law_771 : decode cL_law 771 = .ok (.iaload, 1) := by decide +kernel
theorem dL_law_772 : decode cL_law 772 = .ok (.aload_n 0, 1) := by decide +kernel
theorem dL_law_773 : decode cL_law 773 = .ok (.iload_n 3, 1) := by decide +kernel
theorem dL_law_774 : decode cL_law 774 = .ok (.iconst 4, 1) := by decide +kernel
theorem dL_law_775 : decode cL_law 775 = .ok (.iadd, 1) := by decide +kernel
theorem dL_law_776 : decode cL_law 776 = .ok (.iaload, 1) := by decide +kernel
theorem dL_law_777 : decode cL_law 777 = .ok (.invokevirtual 97, 3) := by decide +kernel
theorem dL_law_780 : decode cL_law 780 = .ok (.aload_n 2, 1) := by decide +kernel
theorem dL_law_781 : decode cL_law 781 = .ok (.aload_n 0, 1) := by decide +kernel
theorem dL_law_782 : decode cL_law 782 = .ok (.iload_n 3, 1) := by decide +kernel
theorem dL_law_783 : decode cL_law 783 = .ok (.iconst 1, 1) := by decide +kernel
theorem dL_law_784 : decode cL_law 784 = .ok (.iadd, 1) := by decide +kernel
theorem dL_law_785 : decode cL_law 785 = .ok (.iaload, 1) := by decide +kernel
theorem dL_law_786 : decode cL_law 786 = .ok (.aload_n 0, 1) := by decide +kernel
theorem dL_law_787 : decode cL_law 787 = .ok (.iload_n 3, 1) := by decide +kernel
theorem dL_law_788 : decode cL_law 788 = .ok (.iconst 2, 1) := by decide +kernel
theorem dL_law_789 : decode cL_law 789 = .ok (.iadd, 1) := by decide +kernel
theorem dL_law_790 : decode cL_law 790 = .ok (.iaload, 1) := by decide +kernel
theorem dL_law_791 : decode cL_law 791 = .ok (.aload_n 0, 1) := by decide +kernel
theorem dL_law_792 : decode cL_law 792 = .ok (.iload_n 3, 1) := by decide +kernel
theorem dL_law_793 : decode cL_law 793 = .ok (.iconst 3, 1) := by decide +kernel
theorem dL_law_794 : decode cL_law 794 = .ok (.iadd, 1) := by decide +kernel
theorem dL_law_795 : decode cL_law 795 = .ok (.iaload, 1) := by decide +kernel
theorem dL_law_796 : decode cL_law 796 = .ok (.aload_n 0, 1) := by decide +kernel
theorem dL_law_797 : decode cL_law 797 = .ok (.iload_n 3, 1) := by decide +kernel
theorem dL_law_798 : decode cL_law 798 = .ok (.iconst 4, 1) := by decide +kernel
theorem dL_law_799 : decode cL_law 799 = .ok (.iadd, 1) := by decide +kernel
theorem dL_law_800 : decode cL_law 800 = .ok (.iaload, 1) := by decide +kernel
theorem dL_law_801 : decode cL_law 801 = .ok (.invokevirtual 101, 3) := by decide +kernel
theorem dL_law_804 : decode cL_law 804 = .ok (.if_icmp .eq 289, 3) := by decide +kernel
theorem dL_law_807 : decode cL_law 807 = .ok (.iconst 0, 1) := by decide +kernel
theorem dL_law_808 : decode cL_law 808 = .ok (.ireturn, 1) := by decide +kernel
theorem dL_law_809 : decode cL_law 809 = .ok (.aload_n 1, 1) := by decide +kernel
theorem dL_law_810 : decode cL_law 810 = .ok (.aload_n 0, 1) := by decide +kernel
theorem dL_law_811 : decode cL_law 811 = .ok (.iload_n 3, 1) := by decide +kernel
theorem dL_law_812 : decode cL_law 812 = .ok (.iconst 1, 1) := by decide +kernel
theorem dL_law_813 : decode cL_law 813 = .ok (.iadd, 1) := by decide +kernel
theorem dL_law_814 : decode cL_law 814 = .ok (.iaload, 1) := by decide +kernel
theorem dL_law_815 : decode cL_law 815 = .ok (.aload_n 0, 1) := by decide +kernel
theorem dL_law_816 : decode cL_law 816 = .ok (.iload_n 3, 1) := by decide +kernel
theorem dL_law_817 : decode cL_law 817 = .ok (.iconst 2, 1) := by decide +kernel
theorem dL_law_818 : decode cL_law 818 = .ok (.iadd, 1) := by decide +kernel
theorem dL_law_819 : decode cL_law 819 = .ok (.iaload, 1) := by decide +kernel
theorem dL_law_820 : decode cL_law 820 = .ok (.aload_n 0, 1) := by decide +kernel
theorem dL_law_821 : decode cL_law 821 = .ok (.iload_n 3, 1) := by decide +kernel
theorem dL_law_822 : decode cL_law 822 = .ok (.iconst 3, 1) := by decide +kernel
theorem dL_law_823 : decode cL_law 823 = .ok (.iadd, 1) := by decide +kernel
theorem dL_law_824 : decode cL_law 824 = .ok (.iaload, 1) := by decide +kernel
theorem dL_law_825 : decode cL_law 825 = .ok (.invokevirtual 102, 3) := by decide +kernel
theorem dL_law_828 : decode cL_law 828 = .ok (.aload_n 2, 1) := by decide +kernel
theorem dL_law_829 : decode cL_law 829 = .ok (.aload_n 0, 1) := by decide +kernel
theorem dL_law_830 : decode cL_law 830 = .ok (.iload_n 3, 1) := by decide +kernel
theorem dL_law_831 : decode cL_law 831 = .ok (.iconst 1, 1) := by decide +kernel
theorem dL_law_832 : decode cL_law 832 = .ok (.iadd, 1) := by decide +kernel
theorem dL_law_833 : decode cL_law 833 = .ok (.iaload, 1) := by decide +kernel
theorem dL_law_834 : decode cL_law 834 = .ok (.aload_n 0, 1) := by decide +kernel
theorem dL_law_835 : decode cL_law 835 = .ok (.iload_n 3, 1) := by decide +kernel
theorem dL_law_836 : decode cL_law 836 = .ok (.iconst 2, 1) := by decide +kernel
theorem dL_law_837 : decode cL_law 837 = .ok (.iadd, 1) := by decide +kernel
theorem dL_law_838 : decode cL_law 838 = .ok (.iaload, 1) := by decide +kernel
theorem dL_law_839 : decode cL_law 839 = .ok (.aload_n 0, 1) := by decide +kernel
theorem dL_law_840 : decode cL_law 840 = .ok (.iload_n 3, 1) := by decide +kernel
theorem dL_law_841 : decode cL_law 841 = .ok (.iconst 3, 1) := by decide +kernel
theorem dL_law_842 : decode cL_law 842 = .ok (.iadd, 1) := by decide +kernel
theorem dL_law_843 : decode cL_law 843 = .ok (.iaload, 1) := by decide +kernel
theorem dL_law_844 : decode cL_law 844 = .ok (.invokevirtual 105, 3) := by decide +kernel
theorem dL_law_847 : decode cL_law 847 = .ok (.if_icmp .eq 246, 3) := by decide +kernel
theorem dL_law_850 : decode cL_law 850 = .ok (.iconst 0, 1) := by decide +kernel
theorem dL_law_851 : decode cL_law 851 = .ok (.ireturn, 1) := by decide +kernel
theorem dL_law_852 : decode cL_law 852 = .ok (.aload_n 1, 1) := by decide +kernel
theorem dL_law_853 : decode cL_law 853 = .ok (.aload_n 0, 1) := by decide +kernel
theorem dL_law_854 : decode cL_law 854 = .ok (.iload_n 3, 1) := by decide +kernel
theorem dL_law_855 : decode cL_law 855 = .ok (.iconst 1, 1) := by decide +kernel
theorem dL_law_856 : decode cL_law 856 = .ok (.iadd, 1) := by decide +kernel
theorem dL_law_857 : decode cL_law 857 = .ok (.iaload, 1) := by decide +kernel
theorem dL_law_858 : decode cL_law 858 = .ok (.aload_n 0, 1) := by decide +kernel
theorem dL_law_859 : decode cL_law 859 = .ok (.iload_n 3, 1) := by decide +kernel
theorem dL_law_860 : decode cL_law 860 = .ok (.iconst 2, 1) := by decide +kernel
theorem dL_law_861 : decode cL_law 861 = .ok (.iadd, 1) := by decide +kernel
theorem dL_law_862 : decode cL_law 862 = .ok (.iaload, 1) := by decide +kernel
theorem dL_law_863 : decode cL_law 863 = .ok (.aload_n 0, 1) := by decide +kernel
theorem dL_law_864 : decode cL_law 864 = .ok (.iload_n 3, 1) := by decide +kernel
theorem dL_law_865 : decode cL_law 865 = .ok (.iconst 3, 1) := by decide +kernel
theorem dL_law_866 : decode cL_law 866 = .ok (.iadd, 1) := by decide +kernel
theorem dL_law_867 : decode cL_law 867 = .ok (.iaload, 1) := by decide +kernel
theorem dL_law_868 : decode cL_law 868 = .ok (.invokevirtual 106, 3) := by decide +kernel
theorem dL_law_871 : decode cL_law 871 = .ok (.aload_n 2, 1) := by decide +kernel
theorem dL_law_872 : decode cL_law 872 = .ok (.aload_n 0, 1) := by decide +kernel
theorem dL_law_873 : decode cL_law 873 = .ok (.iload_n 3, 1) := by decide +kernel
theorem dL_law_874 : decode cL_law 874 = .ok (.iconst 1, 1) := by decide +kernel
theorem dL_law_875 : decode cL_law 875 = .ok (.iadd, 1) := by decide +kernel
theorem dL_law_876 : decode cL_law 876 = .ok (.iaload, 1) := by decide +kernel
theorem dL_law_877 : decode cL_law 877 = .ok (.aload_n 0, 1) := by decide +kernel
theorem dL_law_878 : decode cL_law 878 = .ok (.iload_n 3, 1) := by decide +kernel
theorem dL_law_879 : decode cL_law 879 = .ok (.iconst 2, 1) := by decide +kernel
theorem dL_law_880 : decode cL_law 880 = .ok (.iadd, 1) := by decide +kernel
theorem dL_law_881 : decode cL_law 881 = .ok (.iaload, 1) := by decide +kernel
theorem dL_law_882 : decode cL_law 882 = .ok (.aload_n 0, 1) := by decide +kernel
theorem dL_law_883 : decode cL_law 883 = .ok (.iload_n 3, 1) := by decide +kernel
theorem dL_law_884 : decode cL_law 884 = .ok (.iconst 3, 1) := by decide +kernel
theorem dL_law_885 : decode cL_law 885 = .ok (.iadd, 1) := by decide +kernel
theorem dL_law_886 : decode cL_law 886 = .ok (.iaload, 1) := by decide +kernel
theorem dL_law_887 : decode cL_law 887 = .ok (.invokevirtual 109, 3) := by decide +kernel
theorem dL_law_890 : decode cL_law 890 = .ok (.if_icmp .eq 203, 3) := by decide +kernel
theorem dL_law_893 : decode cL_law 893 = .ok (.iconst 0, 1) := by decide +kernel
theorem dL_law_894 : decode cL_law 894 = .ok (.ireturn, 1) := by decide +kernel
theorem dL_law_895 : decode cL_law 895 = .ok (.aload_n 1, 1) := by decide +kernel
theorem dL_law_896 : decode cL_law 896 = .ok (.invokevirtual 110, 3) := by decide +kernel
theorem dL_law_899 : decode cL_law 899 = .ok (.aload_n 2, 1) := by decide +kernel
theorem dL_law_900 : decode cL_law 900 = .ok (.invokevirtual 113, 3) := by decide +kernel
theorem dL_law_903 : decode cL_law 903 = .ok (.if_icmp .eq 190, 3) := by decide +kernel
theorem dL_law_906 : decode cL_law 906 = .ok (.iconst 0, 1) := by decide +kernel
theorem dL_law_907 : decode cL_law 907 = .ok (.ireturn, 1) := by decide +kernel
theorem dL_law_908 : decode cL_law 908 = .ok (.aload_n 1, 1) := by decide +kernel
theorem dL_law_909 : decode cL_law 909 = .ok (.aload_n 0, 1) := by decide +kernel
theorem dL_law_910 : decode cL_law 910 = .ok (.iload_n 3, 1) := by decide +kernel
theorem dL_law_911 : decode cL_law 911 = .ok (.iconst 1, 1) := by decide +kernel
theorem dL_law_912 : decode cL_law 912 = .ok (.iadd, 1) := by decide +kernel
theorem dL_law_913 : decode cL_law 913 = .ok (.iaload, 1) := by decide +kernel
theorem dL_law_914 : decode cL_law 914 = .ok (.invokevirtual 114, 3) := by decide +kernel
theorem dL_law_917 : decode cL_law 917 = .ok (.aload_n 2, 1) := by decide +kernel
theorem dL_law_918 : decode cL_law 918 = .ok (.aload_n 0, 1) := by decide +kernel
theorem dL_law_919 : decode cL_law 919 = .ok (.iload_n 3, 1) := by decide +kernel
theorem dL_law_920 : decode cL_law 920 = .ok (.iconst 1, 1) := by decide +kernel
theorem dL_law_921 : decode cL_law 921 = .ok (.iadd, 1) := by decide +kernel
theorem dL_law_922 : decode cL_law 922 = .ok (.iaload, 1) := by decide +kernel
theorem dL_law_923 : decode cL_law 923 = .ok (.invokevirtual 117, 3) := by decide +kernel
theorem dL_law_926 : decode cL_law 926 = .ok (.if_icmp .eq 167, 3) := by decide +kernel
theorem dL_law_929 : decode cL_law 929 = .ok (.iconst 0, 1) := by decide +kernel
theorem dL_law_930 : decode cL_law 930 = .ok (.ireturn, 1) := by decide +kernel
theorem dL_law_931 : decode cL_law 931 = .ok (.aload_n 1, 1) := by decide +kernel
theorem dL_law_932 : decode cL_law 932 = .ok (.aload_n 0, 1) := by decide +kernel
theorem dL_law_933 : decode cL_law 933 = .ok (.iload_n 3, 1) := by decide +kernel
theorem dL_law_934 : decode cL_law 934 = .ok (.iconst 1, 1) := by decide +kernel
theorem dL_law_935 : decode cL_law 935 = .ok (.iadd, 1) := by decide +kernel
theorem dL_law_936 : decode cL_law 936 = .ok (.iaload, 1) := by decide +kernel
theorem dL_law_937 : decode cL_law 937 = .ok (.aload_n 0, 1) := by decide +kernel
theorem dL_law_938 : decode cL_law 938 = .ok (.iload_n 3, 1) := by decide +kernel
theorem dL_law_939 : decode cL_law 939 = .ok (.iconst 2, 1) := by decide +kernel
theorem dL_law_940 : decode cL_law 940 = .ok (.iadd, 1) := by decide +kernel
theorem dL_law_941 : decode cL_law 941 = .ok (.iaload, 1) := by decide +kernel
theorem dL_law_942 : decode cL_law 942 = .ok (.invokevirtual 118, 3) := by decide +kernel
theorem dL_law_945 : decode cL_law 945 = .ok (.aload_n 2, 1) := by decide +kernel
theorem dL_law_946 : decode cL_law 946 = .ok (.aload_n 0, 1) := by decide +kernel
theorem dL_law_947 : decode cL_law 947 = .ok (.iload_n 3, 1) := by decide +kernel
theorem dL_law_948 : decode cL_law 948 = .ok (.iconst 1, 1) := by decide +kernel
theorem dL_law_949 : decode cL_law 949 = .ok (.iadd, 1) := by decide +kernel
theorem dL_law_950 : decode cL_law 950 = .ok (.iaload, 1) := by decide +kernel
theorem dL_law_951 : decode cL_law 951 = .ok (.aload_n 0, 1) := by decide +kernel
theorem dL_law_952 : decode cL_law 952 = .ok (.iload_n 3, 1) := by decide +kernel
theorem dL_law_953 : decode cL_law 953 = .ok (.iconst 2, 1) := by decide +kernel
theorem dL_law_954 : decode cL_law 954 = .ok (.iadd, 1) := by decide +kernel
theorem dL_law_955 : decode cL_law 955 = .ok (.iaload, 1) := by decide +kernel
theorem dL_law_956 : decode cL_law 956 = .ok (.invokevirtual 121, 3) := by decide +kernel
theorem dL_law_959 : decode cL_law 959 = .ok (.if_icmp .eq 134, 3) := by decide +kernel
theorem dL_law_962 : decode cL_law 962 = .ok (.iconst 0, 1) := by decide +kernel
theorem dL_law_963 : decode cL_law 963 = .ok (.ireturn, 1) := by decide +kernel
theorem dL_law_964 : decode cL_law 964 = .ok (.aload_n 1, 1) := by decide +kernel
theorem dL_law_965 : decode cL_law 965 = .ok (.invokevirtual 122, 3) := by decide +kernel
theorem dL_law_968 : decode cL_law 968 = .ok (.aload_n 2, 1) := by decide +kernel
theorem dL_law_969 : decode cL_law 969 = .ok (.invokevirtual 125, 3) := by decide +kernel
theorem dL_law_972 : decode cL_law 972 = .ok (.if_icmp .eq 121, 3) := by decide +kernel
theorem dL_law_975 : decode cL_law 975 = .ok (.iconst 0, 1) := by decide +kernel
theorem dL_law_976 : decode cL_law 976 = .ok (.ireturn, 1) := by decide +kernel
theorem dL_law_977 : decode cL_law 977 = .ok (.aload_n 1, 1) := by decide +kernel
theorem dL_law_978 : decode cL_law 978 = .ok (.aload_n 0, 1) := by decide +kernel
theorem dL_law_979 : decode cL_law 979 = .ok (.iload_n 3, 1) := by decide +kernel
theorem dL_law_980 : decode cL_law 980 = .ok (.iconst 1, 1) := by decide +kernel
theorem dL_law_981 : decode cL_law 981 = .ok (.iadd, 1) := by decide +kernel
theorem dL_law_982 : decode cL_law 982 = .ok (.iaload, 1) := by decide +kernel
theorem dL_law_983 : decode cL_law 983 = .ok (.aload_n 0, 1) := by decide +kernel
theorem dL_law_984 : decode cL_law 984 = .ok (.iload_n 3, 1) := by decide +kernel
theorem dL_law_985 : decode cL_law 985 = .ok (.iconst 2, 1) := by decide +kernel
theorem dL_law_986 : decode cL_law 986 = .ok (.iadd, 1) := by decide +kernel
theorem dL_law_987 : decode cL_law 987 = .ok (.iaload, 1) := by decide +kernel
theorem dL_law_988 : decode cL_law 988 = .ok (.invokevirtual 126, 3) := by decide +kernel
theorem dL_law_991 : decode cL_law 991 = .ok (.aload_n 2, 1) := by decide +kernel
theorem dL_law_992 : decode cL_law 992 = .ok (.aload_n 0, 1) := by decide +kernel
theorem dL_law_993 : decode cL_law 993 = .ok (.iload_n 3, 1) := by decide +kernel
theorem dL_law_994 : decode cL_law 994 = .ok (.iconst 1, 1) := by decide +kernel
theorem dL_law_995 : decode cL_law 995 = .ok (.iadd, 1) := by decide +kernel
theorem dL_law_996 : decode cL_law 996 = .ok (.iaload, 1) := by decide +kernel
theorem dL_law_997 : decode cL_law 997 = .ok (.aload_n 0, 1) := by decide +kernel
theorem dL_law_998 : decode cL_law 998 = .ok (.iload_n 3, 1) := by decide +kernel
theorem dL_law_999 : decode cL_law 999 = .ok (.iconst 2, 1) := by decide +kernel
theorem dL_law_1000 : decode cL_law 1000 = .ok (.iadd, 1) := by decide +kernel
theorem dL_law_1001 : decode cL_law 1001 = .ok (.iaload, 1) := by decide +kernel
theorem dL_law_1002 : decode cL_law 1002 = .ok (.invokevirtual 129, 3) := by decide +kernel
theorem dL_law_1005 : decode cL_law 1005 = .ok (.if_icmp .eq 88, 3) := by decide +kernel
theorem dL_law_1008 : decode cL_law 1008 = .ok (.iconst 0, 1) := by decide +kernel
theorem dL_law_1009 : decode cL_law 1009 = .ok (.ireturn, 1) := by decide +kernel
theorem dL_law_1010 : decode cL_law 1010 = .ok (.aload_n 1, 1) := by decide +kernel
theorem dL_law_1011 : decode cL_law 1011 = .ok (.aload_n 0, 1) := by decide +kernel
theorem dL_law_1012 : decode cL_law 1012 = .ok (.iload_n 3, 1) := by decide +kernel
theorem dL_law_1013 : decode cL_law 1013 = .ok (.iconst 1, 1) := by decide +kernel
theorem dL_law_1014 : decode cL_law 1014 = .ok (.iadd, 1) := by decide +kernel
theorem dL_law_1015 : decode cL_law 1015 = .ok (.iaload, 1) := by decide +kernel
theorem dL_law_1016 : decode cL_law 1016 = .ok (.invokevirtual 130, 3) := by decide +kernel
theorem dL_law_1019 : decode cL_law 1019 = .ok (.aload_n 2, 1) := by decide +kernel
theorem dL_law_1020 : decode cL_law 1020 = .ok (.aload_n 0, 1) := by decide +kernel
theorem dL_law_1021 : decode cL_law 1021 = .ok (.iload_n 3, 1) := by decide +kernel
theorem dL_law_1022 : decode cL_law 1022 = .ok (.iconst 1, 1) := by decide +kernel
theorem dL_law_1023 : decode cL_law 1023 = .ok (.iadd, 1) := by decide +kernel
theorem dL_law_1024 : decode cL_law 1024 = .ok (.iaload, 1) := by decide +kernel
theorem dL_law_1025 : decode cL_law 1025 = .ok (.invokevirtual 133, 3) := by decide +kernel
theorem dL_law_1028 : decode cL_law 1028 = .ok (.if_icmp .eq 65, 3) := by decide +kernel
theorem dL_law_1031 : decode cL_law 1031 = .ok (.iconst 0, 1) := by decide +kernel
theorem dL_law_1032 : decode cL_law 1032 = .ok (.ireturn, 1) := by decide +kernel
theorem dL_law_1033 : decode cL_law 1033 = .ok (.aload_n 1, 1) := by decide +kernel
theorem dL_law_1034 : decode cL_law 1034 = .ok (.aload_n 0, 1) := by decide +kernel
theorem dL_law_1035 : decode cL_law 1035 = .ok (.iload_n 3, 1) := by decide +kernel
theorem dL_law_1036 : decode cL_law 1036 = .ok (.iconst 1, 1) := by decide +kernel
theorem dL_law_1037 : decode cL_law 1037 = .ok (.iadd, 1) := by decide +kernel
theorem dL_law_1038 : decode cL_law 1038 = .ok (.iaload, 1) := by decide +kernel
theorem dL_law_1039 : decode cL_law 1039 = .ok (.invokevirtual 134, 3) := by decide +kernel
theorem dL_law_1042 : decode cL_law 1042 = .ok (.aload_n 2, 1) := by decide +kernel
theorem dL_law_1043 : decode cL_law 1043 = .ok (.aload_n 0, 1) := by decide +kernel
theorem dL_law_1044 : decode cL_law 1044 = .ok (.iload_n 3, 1) := by decide +kernel
theorem dL_law_1045 : decode cL_law 1045 = .ok (.iconst 1, 1) := by decide +kernel
theorem dL_law_1046 : decode cL_law 1046 = .ok (.iadd, 1) := by decide +kernel
theorem dL_law_1047 : decode cL_law 1047 = .ok (.iaload, 1) := by decide +kernel
theorem dL_law_1048 : decode cL_law 1048 = .ok (.invokevirtual 137, 3) := by decide +kernel
theorem dL_law_1051 : decode cL_law 1051 = .ok (.if_icmp .eq 42, 3) := by decide +kernel
theorem dL_law_1054 : decode cL_law 1054 = .ok (.iconst 0, 1) := by decide +kernel
theorem dL_law_1055 : decode cL_law 1055 = .ok (.ireturn, 1) := by decide +kernel
theorem dL_law_1056 : decode cL_law 1056 = .ok (.aload_n 1, 1) := by decide +kernel
theorem dL_law_1057 : decode cL_law 1057 = .ok (.aload_n 0, 1) := by decide +kernel
theorem dL_law_1058 : decode cL_law 1058 = .ok (.iload_n 3, 1) := by decide +kernel
theorem dL_law_1059 : decode cL_law 1059 = .ok (.iconst 1, 1) := by decide +kernel
theorem dL_law_1060 : decode cL_law 1060 = .ok (.iadd, 1) := by decide +kernel
theorem dL_law_1061 : decode cL_law 1061 = .ok (.iaload, 1) := by decide +kernel
theorem dL_law_1062 : decode cL_law 1062 = .ok (.invokevirtual 138, 3) := by decide +kernel
theorem dL_law_1065 : decode cL_law 1065 = .ok (.aload_n 2, 1) := by decide +kernel
theorem dL_law_1066 : decode cL_law 1066 = .ok (.aload_n 0, 1) := by decide +kernel
theorem dL_law_1067 : decode cL_law 1067 = .ok (.iload_n 3, 1) := by decide +kernel
theorem dL_law_1068 : decode cL_law 1068 = .ok (.iconst 1, 1) := by decide +kernel
theorem dL_law_1069 : decode cL_law 1069 = .ok (.iadd, 1) := by decide +kernel
theorem dL_law_1070 : decode cL_law 1070 = .ok (.iaload, 1) := by decide +kernel
theorem dL_law_1071 : decode cL_law 1071 = .ok (.invokevirtual 141, 3) := by decide +kernel
theorem dL_law_1074 : decode cL_law 1074 = .ok (.if_icmp .eq 19, 3) := by decide +kernel
theorem dL_law_1077 : decode cL_law 1077 = .ok (.iconst 0, 1) := by decide +kernel
theorem dL_law_1078 : decode cL_law 1078 = .ok (.ireturn, 1) := by decide +kernel
theorem dL_law_1079 : decode cL_law 1079 = .ok (.aload_n 1, 1) := by decide +kernel
theorem dL_law_1080 : decode cL_law 1080 = .ok (.invokevirtual 142, 3) := by decide +kernel
theorem dL_law_1083 : decode cL_law 1083 = .ok (.aload_n 2, 1) := by decide +kernel
theorem dL_law_1084 : decode cL_law 1084 = .ok (.invokevirtual 146, 3) := by decide +kernel
theorem dL_law_1087 : decode cL_law 1087 = .ok (.lcmp, 1) := by decide +kernel
theorem dL_law_1088 : decode cL_law 1088 = .ok (.ifCond .eq 5, 3) := by decide +kernel
theorem dL_law_1091 : decode cL_law 1091 = .ok (.iconst 0, 1) := by decide +kernel
theorem dL_law_1092 : decode cL_law 1092 = .ok (.ireturn, 1) := by decide +kernel
theorem dL_law_1093 : decode cL_law 1093 = .ok (.iinc 3 5, 3) := by decide +kernel
theorem dL_law_1096 : decode cL_law 1096 = .ok (.goto (-1078), 3) := by decide +kernel
theorem dL_law_1099 : decode cL_law 1099 = .ok (.iconst 1, 1) := by decide +kernel
theorem dL_law_1100 : decode cL_law 1100 = .ok (.ireturn, 1) := by decide +kernel
end
section
/-! THE ABSTRACT MACHINE: values are whole numbers in range, references are places in a fixed list of cells, the memory is a function (cell, slot). -/
abbrev Mem : Type := Nat → Int → Int
abbrev AV : Type := Int ⊕ (Nat ⊕ Int)
abbrev aI (x : Int) : AV := .inl x
abbrev aR (i : Nat) : AV := .inr (.inl i)
abbrev aL (z : Int) : AV := .inr (.inr z)
abbrev okI (x : Int) : Prop := -2147483648 ≤ x ∧ x < 2147483648
def okV (v : AV) : Prop := match v with
  | .inl x => okI x
  | .inr _ => True
def okM (μ : Mem) : Prop := ∀ (c : Nat) (j : Int), c < 1000 → okI (μ c j)
def cv (ad : Nat → Nat) (v : AV) : Value := match v with
  | .inl x => .int (Int32.ofInt x)
  | .inr (.inl i) => .ref (ad i)
  | .inr (.inr z) => .long (Int64.ofInt z)
abbrev Sh : Type := (Nat × List Nat) ⊕ (Nat × Nat × List Nat)
def fV (ad : Nat → Nat) (μ : Mem) (c : Nat) (k : Nat) (code : Nat) : Value := match code with
  | 0 => .int (Int32.ofInt (μ c k))
  | 1 => .long (Int64.ofInt (μ (1000 + c) k))
  | j + 2 => .ref (ad j)
def cE (ad : Nat → Nat) (cA : Nat → ClassId) (μ : Mem) (c : Nat) (sh : Sh) : va_E := match sh with
  | .inl o => .inr (o.1, o.2.mapIdx (fun k code => fV ad μ c k code))
  | .inr a => if a.1 = 2 then .inl (cA 2, a.2.1, .inr (.inr (.inr (.inr (fun j => (a.2.2[j]?).map ad))))) else .inl (cA a.1, a.2.1, .inl (fun j => Int32.ofInt (μ c j)))
def wOf (T : List Sh) (ad : Nat → Nat) (cA : Nat → ClassId) (μ : Mem) : va_W := T.mapIdx (fun i sh => (ad i, cE ad cA μ i sh))
def up (μ : Mem) (c : Nat) (j : Int) (v : Int) : Mem := fun c' j' => if c' = c ∧ j' = j then v else μ c' j'
/-- the first n of array a into array b -/
def cpy (μ : Mem) (a b : Nat) (n : Int) : Mem := fun c j => if c = b ∧ 0 ≤ j ∧ j < n then μ a j else μ c j
theorem wOf_at {T : List Sh} {ad : Nat → Nat} {cA : Nat → ClassId} {μ : Mem} {i : Nat} {sh : Sh} (h : T[i]? = some sh) : (wOf T ad cA μ)[i]? = some (ad i, cE ad cA μ i sh) := by
  simp [wOf, List.getElem?_mapIdx, h]
theorem cE_congr {ad : Nat → Nat} {cA : Nat → ClassId} {μ μ' : Mem} {c : Nat} {sh : Sh} (h1 : μ' c = μ c) (h2 : μ' (1000 + c) = μ (1000 + c)) : cE ad cA μ' c sh = cE ad cA μ c sh := by
  have h : fV ad μ' c = fV ad μ c := by
    funext k code
    match code with
    | 0 => simp only [fV, h1]
    | 1 => simp only [fV, h2]
    | j + 2 => rfl
  cases sh <;> simp only [cE, h, h1]
theorem wOf_set {T : List Sh} {ad : Nat → Nat} {cA : Nat → ClassId} {μ μ' : Mem} {i : Nat} {sh : Sh} {e : va_E} (hT : T.length ≤ 1000) (h : T[i]? = some sh) (he : e = cE ad cA μ' i sh) (hm : ∀ c, c ≠ i → c < 1000 → μ' c = μ c ∧ μ' (1000 + c) = μ (1000 + c)) : (wOf T ad cA μ).set i (ad i, e) = wOf T ad cA μ' := by
  subst he
  have hi : i < T.length := (List.getElem?_eq_some_iff.mp h).1
  apply List.ext_getElem?
  intro c
  by_cases hc : c = i
  · subst hc
    rw [List.getElem?_set_self (by simp [wOf]; exact hi), wOf_at h]
  · rw [List.getElem?_set_ne (Ne.symm hc)]
    cases hT' : T[c]? with
    | none => simp [wOf, List.getElem?_mapIdx, hT']
    | some sh' =>
      rw [wOf_at hT', wOf_at hT']
      have hcl : c < 1000 := Nat.lt_of_lt_of_le (List.getElem?_eq_some_iff.mp hT').1 hT
      obtain ⟨h1, h2⟩ := hm c hc hcl
      rw [cE_congr h1 h2]
theorem fset {codes : List Nat} {μ μ' : Mem} {ad : Nat → Nat} {c k code : Nat} {v : Value} (hk : codes[k]? = some code) (hv : fV ad μ' c k code = v) (ho : ∀ j code', j ≠ k → fV ad μ' c j code' = fV ad μ c j code') : (codes.mapIdx (fun k code => fV ad μ c k code)).set k v = codes.mapIdx (fun k code => fV ad μ' c k code) := by
  have hl := (List.getElem?_eq_some_iff.mp hk).1
  apply List.ext_getElem?
  intro j
  by_cases hj : j = k
  · subst hj
    rw [List.getElem?_set_self (by simpa using hl)]
    simp [List.getElem?_mapIdx, hk, hv]
  · rw [List.getElem?_set_ne (Ne.symm hj)]
    simp only [List.getElem?_mapIdx]
    cases codes[j]? with
    | none => rfl
    | some z => simp [ho j z hj]
theorem fat {codes : List Nat} {μ : Mem} {ad : Nat → Nat} {c k code : Nat} (hk : codes[k]? = some code) : (codes.mapIdx (fun k code => fV ad μ c k code))[k]? = some (fV ad μ c k code) := by
  simp [List.getElem?_mapIdx, hk]
theorem toI {x : Int} (h : okI x) : (Int32.ofInt x).toInt = x := Int32.toInt_ofInt_of_le (by have := h.1; omega) (by have := h.2; omega)
theorem i32_lt {x y : Int} (hx : okI x) (hy : okI y) : Int32.ofInt x < Int32.ofInt y ↔ x < y := by rw [Int32.lt_iff_toInt_lt, toI hx, toI hy]
theorem i32_le {x y : Int} (hx : okI x) (hy : okI y) : Int32.ofInt x ≤ Int32.ofInt y ↔ x ≤ y := by rw [Int32.le_iff_toInt_le, toI hx, toI hy]
theorem i32_eq {x y : Int} (hx : okI x) (hy : okI y) : Int32.ofInt x = Int32.ofInt y ↔ x = y := ⟨fun h => by have := congrArg Int32.toInt h; rwa [toI hx, toI hy] at this, fun h => by rw [h]⟩
theorem ok0 : okI 0 := by decide
theorem i32_0 : (0 : Int32) = Int32.ofInt 0 := rfl
theorem okTo (x : Int32) : okI x.toInt := ⟨by have := Int32.le_toInt x; omega, by have := Int32.toInt_lt x; omega⟩
theorem toNI {x : Int} (h : okI x) : (Int32.ofInt x).toNatClampNeg = x.toNat := by
  show (Int32.ofInt x).toInt.toNat = x.toNat
  rw [toI h]
theorem vpin {x : Int} {n : Nat} (h : okI x) (h0 : 0 ≤ x) (h1 : x < n) : vp_in (Int32.ofInt x) n := by
  intro q
  rcases q with q | q
  · rw [i32_0, i32_lt h ok0] at q
    omega
  · rw [toNI h] at q
    omega
def hasL (ad : Nat → Nat) (ls : Array Slot) (nL : Nat) (L : List (Option AV)) : Prop := ls.size = nL ∧ lv_wf ls ∧ ∀ (i : Nat) (v : AV), L[i]? = some (some v) → ls[i]? = some (.val (cv ad v)) ∧ (cv ad v).category = 1
def lvOf (ad : Nat → Nat) (L : List (Option AV)) : List (Nat × Value) := (List.range L.length).filterMap (fun i => match L[i]? with
  | some (some v) => some (i, cv ad v)
  | _ => none)
theorem lvOf_mem {ad : Nat → Nat} {L : List (Option AV)} {i : Nat} {v : AV} (h : L[i]? = some (some v)) : (i, cv ad v) ∈ lvOf ad L :=
  List.mem_filterMap.mpr ⟨i, List.mem_range.mpr (List.getElem?_eq_some_iff.mp h).1, by rw [h]⟩
theorem hasL.lv {ad : Nat → Nat} {ls : Array Slot} {nL : Nat} {L : List (Option AV)} (h : hasL ad ls nL L) : lv_has ls nL (lvOf ad L) := ⟨h.1, h.2.1, fun q hq => by
  obtain ⟨i, -, hi⟩ := List.mem_filterMap.mp hq
  cases hv : L[i]? with
  | none => rw [hv] at hi; cases hi
  | some o =>
    cases o with
    | none => rw [hv] at hi; cases hi
    | some v =>
      rw [hv] at hi
      cases hi
      exact (h.2.2 i v hv).1⟩
theorem hasL.set {ad : Nat → Nat} {ls ls' : Array Slot} {nL : Nat} {L : List (Option AV)} {i : Nat} {v : AV} (h : hasL ad ls nL L) (hl : lv_has ls' nL ((i, cv ad v) :: (lvOf ad L).filter (fun q => !(q.1 == i) && !(q.1 + 1 == i && q.2.category == 2)))) (hc : (cv ad v).category = 1) : hasL ad ls' nL (L.set i (some v)) := by
  refine ⟨hl.1, hl.2.1, fun j w hw => ?_⟩
  by_cases hj : j = i
  · subst hj
    rw [List.getElem?_set, if_pos rfl] at hw
    split at hw
    · cases hw
      exact ⟨hl.2.2 _ List.mem_cons_self, hc⟩
    · cases hw
  · rw [List.getElem?_set_ne (Ne.symm hj)] at hw
    have h0 := h.2.2 j w hw
    exact ⟨hl.2.2 (j, cv ad w) (List.mem_cons_of_mem _ (List.mem_filter.mpr ⟨lvOf_mem hw, by simp [hj, h0.2]⟩)), h0.2⟩
theorem okL_set {L : List (Option AV)} {i : Nat} {v : AV} (h : ∀ w, some w ∈ L → okV w) (hv : okV v) : ∀ w, some w ∈ L.set i (some v) → okV w := by
  intro w hw
  rcases List.mem_or_eq_of_mem_set hw with h1 | h1
  · exact h w h1
  · cases h1; exact hv
abbrev Cx : Type := Program × Launch × Env × Room × State × MethodId × Array Value × List Frame × Method × Code × va_G × (Nat → Nat) × (Nat → ClassId) × (Nat → Prop) × (Option AV → Mem → Prop)
def PostX (X : Cx) : Option AV → Mem → Prop := X.2.2.2.2.2.2.2.2.2.2.2.2.2.2
def tysOf (cA : Nat → ClassId) : List (ClassId × FieldType) := [(cA 0, .int), (cA 1, .boolean), (cA 2, .object RX2)]
def QC (T : List Sh) (ad : Nat → Nat) (cA : Nat → ClassId) (D : va_G) (A : Nat → Prop) (Post : Option AV → Mem → Prop) : Array Value → State → Outcome → State → Prop := fun _ st oc t => (∃ (r : Option AV) (μ' : Mem), oc = .returned (r.map (cv ad)) ∧ Post r μ' ∧ (∀ v, r = some v → okV v) ∧ okM μ' ∧ va_P D vwCl (wOf T ad cA μ') t.heap) ∧ va_F A st t
/-- at this place of the code, with these locals, this stack and this memory, the method comes to an end as its contract says -/
def J (T : List Sh) (X : Cx) (nL : Nat) (pc : Nat) (L : List (Option AV)) (st : List AV) (μ : Mem) : Prop := match X with
  | (p, l, e, R, s, m, args, below, meth, c, D, ad, cA, A, Post) => ∀ (H : Heap) (locs : List Loc) (ls : Array Slot), va_P D vwCl (wOf T ad cA μ) H → va_S A s.heap H locs → hasL ad ls nL L → (∀ v, some v ∈ L → okV v) → (∀ v ∈ st, okV v) → okM μ → W p l e R s m args below meth c H locs 0 0 (MQ below (QC T ad cA D A Post) args s 0 0 A) (F0 m pc ls (st.map (cv ad)))
/-- what stands fast in a method's body -/
def G (T : List Sh) (X : Cx) (own : String) (cc : ByteArray) (nL fr lo : Nat) (ret : Option FieldType) : Prop := match X with
  | (p, _, _, R, s, m, args, _, meth, c, D, ad, cA, A, _) => p.tables.exec = Jvm.exec ∧ c.code = cc ∧ c.maxLocals = nL ∧ s.vm.findClass own = some m.cls ∧ (∀ w ∈ BIG, w.before args s = true) ∧ va_K D vwCl (tysOf cA) s ∧ (∀ μ, va_D A (wOf T ad cA μ)) ∧ (∀ q, s.heap.size ≤ q → A q) ∧ R = ({ frames := fr, cells := 0, slots := 0, locals := lo } : Room) ∧ meth.sig.returnType = ret ∧ meth.locks = false ∧ T.length ≤ 1000 ∧ (∀ w ∈ nestW, va_Nw w s) ∧ (∀ i j, i < T.length → j < T.length → ad i = ad j → i = j)
section JR
variable {T : List Sh} {X : Cx} {own : String} {cc : ByteArray} {nL fr lo : Nat} {ret : Option FieldType} {pc : Nat} {L : List (Option AV)} {st : List AV} {μ : Mem}
/-- the top of the stack is in range -/
theorem J.okT {x : Int} (kk : okI x → J T X nL pc L (aI x :: st) μ) : J T X nL pc L (aI x :: st) μ := by
  obtain ⟨p, l, e, R, s, m, args, below, meth, c, D, ad, cA, A, Post⟩ := X
  intro H locs ls hP hS hL oL oS oM
  exact kk (List.forall_mem_cons.mp oS).1 H locs ls hP hS hL oL oS oM
theorem J.okLoc {x : Int} (i : Nat) (hi : L[i]? = some (some (aI x))) (kk : okI x → J T X nL pc L st μ) : J T X nL pc L st μ := by
  obtain ⟨p, l, e, R, s, m, args, below, meth, c, D, ad, cA, A, Post⟩ := X
  intro H locs ls hP hS hL oL oS oM
  exact kk (oL (aI x) (List.mem_of_getElem? hi)) H locs ls hP hS hL oL oS oM
theorem J.okMem (kk : okM μ → J T X nL pc L st μ) : J T X nL pc L st μ := by
  obtain ⟨p, l, e, R, s, m, args, below, meth, c, D, ad, cA, A, Post⟩ := X
  intro H locs ls hP hS hL oL oS oM
  exact kk oM H locs ls hP hS hL oL oS oM
/-- fewer locals -/
theorem J.less {L' : List (Option AV)} (h : ∀ (i : Nat) (v : AV), L'[i]? = some (some v) → L[i]? = some (some v)) (kk : J T X nL pc L' st μ) : J T X nL pc L st μ := by
  obtain ⟨p, l, e, R, s, m, args, below, meth, c, D, ad, cA, A, Post⟩ := X
  intro H locs ls hP hS hL oL oS oM
  refine kk H locs ls hP hS ⟨hL.1, hL.2.1, fun i v q => hL.2.2 i v (h i v q)⟩ (fun v hv => ?_) oS oM
  obtain ⟨i, hi⟩ := List.getElem?_of_mem hv
  exact oL v (List.mem_of_getElem? (h i v hi))
theorem J.iconst (hG : G T X own cc nL fr lo ret) {n : Int} (dg : decode cc pc = .ok (.iconst n, 1)) (ho : okI n) (kk : J T X nL (pc + 1) L (aI n :: st) μ) : J T X nL pc L (st) μ := by
  obtain ⟨p, l, e, R, s, m, args, below, meth, c, D, ad, cA, A, Post⟩ := X
  obtain ⟨hx, hb, hml, hown, hts, hK, hD, hA, hR, hret, hlocks, hT, hN, had⟩ := hG
  intro H locs ls hP hS hL oL oS oM
  exact lv_iconst (v := Int32.ofInt n) hx hb dg rfl (kk H locs ls hP hS hL oL (List.forall_mem_cons.mpr ⟨ho, oS⟩) oM)
theorem J.bipush (hG : G T X own cc nL fr lo ret) {n : Int} (dg : decode cc pc = .ok (.bipush n, 2)) (hv : (Int8.ofInt n).toInt32 = Int32.ofInt n) (ho : okI n) (kk : J T X nL (pc + 2) L (aI n :: st) μ) : J T X nL pc L (st) μ := by
  obtain ⟨p, l, e, R, s, m, args, below, meth, c, D, ad, cA, A, Post⟩ := X
  obtain ⟨hx, hb, hml, hown, hts, hK, hD, hA, hR, hret, hlocks, hT, hN, had⟩ := hG
  intro H locs ls hP hS hL oL oS oM
  exact lv_bipush hx hb dg hv (kk H locs ls hP hS hL oL (List.forall_mem_cons.mpr ⟨ho, oS⟩) oM)
theorem J.sipush (hG : G T X own cc nL fr lo ret) {n : Int} (dg : decode cc pc = .ok (.sipush n, 3)) (hv : (Int16.ofInt n).toInt32 = Int32.ofInt n) (ho : okI n) (kk : J T X nL (pc + 3) L (aI n :: st) μ) : J T X nL pc L (st) μ := by
  obtain ⟨p, l, e, R, s, m, args, below, meth, c, D, ad, cA, A, Post⟩ := X
  obtain ⟨hx, hb, hml, hown, hts, hK, hD, hA, hR, hret, hlocks, hT, hN, had⟩ := hG
  intro H locs ls hP hS hL oL oS oM
  exact lv_sipush hx hb dg hv (kk H locs ls hP hS hL oL (List.forall_mem_cons.mpr ⟨ho, oS⟩) oM)
theorem J.ldc (hG : G T X own cc nL fr lo ret) {n : Int} {v : Int32} {idx : Nat} (dg : decode cc pc = .ok (.ldc idx, 2)) (hl : Cond.constant own idx v ∈ BIG) (hv : v = Int32.ofInt n) (ho : okI n) (kk : J T X nL (pc + 2) L (aI n :: st) μ) : J T X nL pc L (st) μ := by
  obtain ⟨p, l, e, R, s, m, args, below, meth, c, D, ad, cA, A, Post⟩ := X
  obtain ⟨hx, hb, hml, hown, hts, hK, hD, hA, hR, hret, hlocks, hT, hN, had⟩ := hG
  intro H locs ls hP hS hL oL oS oM
  subst hv
  exact lv_ldc hx hb hown (hts _ hl) dg (kk H locs ls hP hS hL oL (List.forall_mem_cons.mpr ⟨ho, oS⟩) oM)
theorem J.ldc2 (hG : G T X own cc nL fr lo ret) {n : Int} {v : Int64} {idx : Nat} (dg : decode cc pc = .ok (.ldc2_w idx, 3)) (hl : Cond.constantLong own idx v ∈ BIG) (hv : v = Int64.ofInt n) (kk : J T X nL (pc + 3) L (aL n :: st) μ) : J T X nL pc L (st) μ := by
  obtain ⟨p, l, e, R, s, m, args, below, meth, c, D, ad, cA, A, Post⟩ := X
  obtain ⟨hx, hb, hml, hown, hts, hK, hD, hA, hR, hret, hlocks, hT, hN, had⟩ := hG
  intro H locs ls hP hS hL oL oS oM
  subst hv
  exact lv_ldc2 hx hb hown (hts _ hl) dg (kk H locs ls hP hS hL oL (List.forall_mem_cons.mpr ⟨trivial, oS⟩) oM)
theorem J.lconst (hG : G T X own cc nL fr lo ret) {n : Fin 2} {z : Int} (dg : decode cc pc = .ok (.lconst n, 1)) (hv : Int64.ofNat (n : Nat) = Int64.ofInt z) (kk : J T X nL (pc + 1) L (aL z :: st) μ) : J T X nL pc L (st) μ := by
  obtain ⟨p, l, e, R, s, m, args, below, meth, c, D, ad, cA, A, Post⟩ := X
  obtain ⟨hx, hb, hml, hown, hts, hK, hD, hA, hR, hret, hlocks, hT, hN, had⟩ := hG
  intro H locs ls hP hS hL oL oS oM
  exact lv_lconst hx hb dg hv (kk H locs ls hP hS hL oL (List.forall_mem_cons.mpr ⟨trivial, oS⟩) oM)
theorem J.iload_n (hG : G T X own cc nL fr lo ret) {k : Fin 4} {i : Nat} {x : Int} (dg : decode cc pc = .ok (.iload_n k, 1)) (hi : (k : Nat) = i) (hl : L[i]? = some (some (aI x))) (kk : J T X nL (pc + 1) L (aI x :: st) μ) : J T X nL pc L (st) μ := by
  obtain ⟨p, l, e, R, s, m, args, below, meth, c, D, ad, cA, A, Post⟩ := X
  obtain ⟨hx, hb, hml, hown, hts, hK, hD, hA, hR, hret, hlocks, hT, hN, had⟩ := hG
  intro H locs ls hP hS hL oL oS oM
  exact lv_iload_n hx hb dg hi (hL.2.2 i (aI x) hl).1 (kk H locs ls hP hS hL oL (List.forall_mem_cons.mpr ⟨oL _ (List.mem_of_getElem? hl), oS⟩) oM)
theorem J.iload (hG : G T X own cc nL fr lo ret)  {i : Nat} {x : Int} (dg : decode cc pc = .ok (.iload i, 2)) (hl : L[i]? = some (some (aI x))) (kk : J T X nL (pc + 2) L (aI x :: st) μ) : J T X nL pc L (st) μ := by
  obtain ⟨p, l, e, R, s, m, args, below, meth, c, D, ad, cA, A, Post⟩ := X
  obtain ⟨hx, hb, hml, hown, hts, hK, hD, hA, hR, hret, hlocks, hT, hN, had⟩ := hG
  intro H locs ls hP hS hL oL oS oM
  exact lv_iload hx hb dg (hL.2.2 i (aI x) hl).1 (kk H locs ls hP hS hL oL (List.forall_mem_cons.mpr ⟨oL _ (List.mem_of_getElem? hl), oS⟩) oM)
theorem J.aload_n (hG : G T X own cc nL fr lo ret) {k : Fin 4} {i : Nat} {x : Nat} (dg : decode cc pc = .ok (.aload_n k, 1)) (hi : (k : Nat) = i) (hl : L[i]? = some (some (aR x))) (kk : J T X nL (pc + 1) L (aR x :: st) μ) : J T X nL pc L (st) μ := by
  obtain ⟨p, l, e, R, s, m, args, below, meth, c, D, ad, cA, A, Post⟩ := X
  obtain ⟨hx, hb, hml, hown, hts, hK, hD, hA, hR, hret, hlocks, hT, hN, had⟩ := hG
  intro H locs ls hP hS hL oL oS oM
  exact lv_aload_n hx hb dg hi (hL.2.2 i (aR x) hl).1 (kk H locs ls hP hS hL oL (List.forall_mem_cons.mpr ⟨trivial, oS⟩) oM)
theorem J.aload (hG : G T X own cc nL fr lo ret)  {i : Nat} {x : Nat} (dg : decode cc pc = .ok (.aload i, 2)) (hl : L[i]? = some (some (aR x))) (kk : J T X nL (pc + 2) L (aR x :: st) μ) : J T X nL pc L (st) μ := by
  obtain ⟨p, l, e, R, s, m, args, below, meth, c, D, ad, cA, A, Post⟩ := X
  obtain ⟨hx, hb, hml, hown, hts, hK, hD, hA, hR, hret, hlocks, hT, hN, had⟩ := hG
  intro H locs ls hP hS hL oL oS oM
  exact lv_aload hx hb dg (hL.2.2 i (aR x) hl).1 (kk H locs ls hP hS hL oL (List.forall_mem_cons.mpr ⟨trivial, oS⟩) oM)
theorem J.istore_n (hG : G T X own cc nL fr lo ret) {k : Fin 4} {i : Nat} {x : Int} (dg : decode cc pc = .ok (.istore_n k, 1)) (hi : (k : Nat) = i) (hn : i < nL) (kk : J T X nL (pc + 1) (L.set i (some (aI x))) (st) μ) : J T X nL pc L (aI x :: st) μ := by
  obtain ⟨p, l, e, R, s, m, args, below, meth, c, D, ad, cA, A, Post⟩ := X
  obtain ⟨hx, hb, hml, hown, hts, hK, hD, hA, hR, hret, hlocks, hT, hN, had⟩ := hG
  intro H locs ls hP hS hL oL oS oM
  exact lv_istore_n (x := Int32.ofInt x) (lv := lvOf ad L) hx hb dg hi hL.lv hn rfl (fun ls1 hl1 => kk H locs ls1 hP hS (hL.set (v := aI x) hl1 rfl) (okL_set oL (List.forall_mem_cons.mp oS).1) (List.forall_mem_cons.mp oS).2 oM)
theorem J.istore (hG : G T X own cc nL fr lo ret)  {i : Nat} {x : Int} (dg : decode cc pc = .ok (.istore i, 2)) (hn : i < nL) (kk : J T X nL (pc + 2) (L.set i (some (aI x))) (st) μ) : J T X nL pc L (aI x :: st) μ := by
  obtain ⟨p, l, e, R, s, m, args, below, meth, c, D, ad, cA, A, Post⟩ := X
  obtain ⟨hx, hb, hml, hown, hts, hK, hD, hA, hR, hret, hlocks, hT, hN, had⟩ := hG
  intro H locs ls hP hS hL oL oS oM
  exact lv_istore (x := Int32.ofInt x) (lv := lvOf ad L) hx hb dg hL.lv hn rfl (fun ls1 hl1 => kk H locs ls1 hP hS (hL.set (v := aI x) hl1 rfl) (okL_set oL (List.forall_mem_cons.mp oS).1) (List.forall_mem_cons.mp oS).2 oM)
theorem J.iinc (hG : G T X own cc nL fr lo ret) {i : Nat} {n x : Int} (dg : decode cc pc = .ok (.iinc i n, 3)) (hn : i < nL) (hl : L[i]? = some (some (aI x))) (ho : okI x → okI (x + n)) (kk : J T X nL (pc + 3) (L.set i (some (aI (x + n)))) (st) μ) : J T X nL pc L (st) μ := by
  obtain ⟨p, l, e, R, s, m, args, below, meth, c, D, ad, cA, A, Post⟩ := X
  obtain ⟨hx, hb, hml, hown, hts, hK, hD, hA, hR, hret, hlocks, hT, hN, had⟩ := hG
  intro H locs ls hP hS hL oL oS oM
  have ox : okI x := oL (aI x) (List.mem_of_getElem? hl)
  obtain ⟨k, hk⟩ := List.getElem?_of_mem (lvOf_mem (ad := ad) hl)
  exact lv_iinc (lv := lvOf ad L) (v := Int32.ofInt (x + n)) hx hb dg hL.lv (k := k) hk (by rw [Int32.ofInt_add]) hn rfl (fun ls1 hl1 => kk H locs ls1 hP hS (hL.set (v := aI (x + n)) hl1 rfl) (okL_set oL (ho ox)) oS oM)
theorem J.iadd (hG : G T X own cc nL fr lo ret) {x y : Int} (dg : decode cc pc = .ok (.iadd, 1)) (ho : okI x → okI y → okI (x + y)) (kk : J T X nL (pc + 1) L (aI (x + y) :: st) μ) : J T X nL pc L (aI y :: aI x :: st) μ := by
  obtain ⟨p, l, e, R, s, m, args, below, meth, c, D, ad, cA, A, Post⟩ := X
  obtain ⟨hx, hb, hml, hown, hts, hK, hD, hA, hR, hret, hlocks, hT, hN, had⟩ := hG
  intro H locs ls hP hS hL oL oS oM
  obtain ⟨oy, oS⟩ := List.forall_mem_cons.mp oS
  obtain ⟨ox, oS⟩ := List.forall_mem_cons.mp oS
  have k := kk H locs ls hP hS hL oL (List.forall_mem_cons.mpr ⟨ho ox oy, oS⟩) oM
  have e : cv ad (aI (x + y)) = .int (Int32.ofInt x + Int32.ofInt y) := by show Value.int _ = _; rw [Int32.ofInt_add]
  rw [List.map_cons, e] at k
  exact lv_iadd hx hb dg k
theorem J.isub (hG : G T X own cc nL fr lo ret) {x y : Int} (dg : decode cc pc = .ok (.isub, 1)) (ho : okI x → okI y → okI (x - y)) (kk : J T X nL (pc + 1) L (aI (x - y) :: st) μ) : J T X nL pc L (aI y :: aI x :: st) μ := by
  obtain ⟨p, l, e, R, s, m, args, below, meth, c, D, ad, cA, A, Post⟩ := X
  obtain ⟨hx, hb, hml, hown, hts, hK, hD, hA, hR, hret, hlocks, hT, hN, had⟩ := hG
  intro H locs ls hP hS hL oL oS oM
  obtain ⟨oy, oS⟩ := List.forall_mem_cons.mp oS
  obtain ⟨ox, oS⟩ := List.forall_mem_cons.mp oS
  have k := kk H locs ls hP hS hL oL (List.forall_mem_cons.mpr ⟨ho ox oy, oS⟩) oM
  have e : cv ad (aI (x - y)) = .int (Int32.ofInt x - Int32.ofInt y) := by show Value.int _ = _; rw [Int32.ofInt_sub]
  rw [List.map_cons, e] at k
  exact lv_isub hx hb dg k
theorem J.imul (hG : G T X own cc nL fr lo ret) {x y : Int} (dg : decode cc pc = .ok (.imul, 1)) (ho : okI x → okI y → okI (x * y)) (kk : J T X nL (pc + 1) L (aI (x * y) :: st) μ) : J T X nL pc L (aI y :: aI x :: st) μ := by
  obtain ⟨p, l, e, R, s, m, args, below, meth, c, D, ad, cA, A, Post⟩ := X
  obtain ⟨hx, hb, hml, hown, hts, hK, hD, hA, hR, hret, hlocks, hT, hN, had⟩ := hG
  intro H locs ls hP hS hL oL oS oM
  obtain ⟨oy, oS⟩ := List.forall_mem_cons.mp oS
  obtain ⟨ox, oS⟩ := List.forall_mem_cons.mp oS
  have k := kk H locs ls hP hS hL oL (List.forall_mem_cons.mpr ⟨ho ox oy, oS⟩) oM
  have e : cv ad (aI (x * y)) = .int (Int32.ofInt x * Int32.ofInt y) := by show Value.int _ = _; rw [Int32.ofInt_mul]
  rw [List.map_cons, e] at k
  exact lv_imul hx hb dg k
theorem J.ineg (hG : G T X own cc nL fr lo ret) {x : Int} (dg : decode cc pc = .ok (.ineg, 1)) (ho : okI x → okI (-x)) (kk : J T X nL (pc + 1) L (aI (-x) :: st) μ) : J T X nL pc L (aI x :: st) μ := by
  obtain ⟨p, l, e, R, s, m, args, below, meth, c, D, ad, cA, A, Post⟩ := X
  obtain ⟨hx, hb, hml, hown, hts, hK, hD, hA, hR, hret, hlocks, hT, hN, had⟩ := hG
  intro H locs ls hP hS hL oL oS oM
  obtain ⟨ox, oS⟩ := List.forall_mem_cons.mp oS
  have k := kk H locs ls hP hS hL oL (List.forall_mem_cons.mpr ⟨ho ox, oS⟩) oM
  have e : cv ad (aI (-x)) = .int (0 - Int32.ofInt x) := by
    show Value.int _ = _
    rw [i32_0, ← Int32.ofInt_sub, Int.zero_sub]
  rw [List.map_cons, e] at k
  exact lv_ineg hx hb dg k
theorem J.ladd (hG : G T X own cc nL fr lo ret) {x y : Int} (dg : decode cc pc = .ok (.ladd, 1)) (kk : J T X nL (pc + 1) L (aL (x + y) :: st) μ) : J T X nL pc L (aL y :: aL x :: st) μ := by
  obtain ⟨p, l, e, R, s, m, args, below, meth, c, D, ad, cA, A, Post⟩ := X
  obtain ⟨hx, hb, hml, hown, hts, hK, hD, hA, hR, hret, hlocks, hT, hN, had⟩ := hG
  intro H locs ls hP hS hL oL oS oM
  obtain ⟨oy, oS⟩ := List.forall_mem_cons.mp oS
  obtain ⟨ox, oS⟩ := List.forall_mem_cons.mp oS
  have k := kk H locs ls hP hS hL oL (List.forall_mem_cons.mpr ⟨trivial, oS⟩) oM
  have e : cv ad (aL (x + y)) = .long (Int64.ofInt x + Int64.ofInt y) := by show Value.long _ = _; rw [Int64.ofInt_add]
  rw [List.map_cons, e] at k
  exact lv_ladd hx hb dg k
theorem J.iand (hG : G T X own cc nL fr lo ret) {x y : Int} (z : Int) (dg : decode cc pc = .ok (.iand, 1)) (hz : okI x → okI y → (Int32.ofInt x &&& Int32.ofInt y).toInt = z) (kk : J T X nL (pc + 1) L (aI z :: st) μ) : J T X nL pc L (aI y :: aI x :: st) μ := by
  obtain ⟨p, l, e, R, s, m, args, below, meth, c, D, ad, cA, A, Post⟩ := X
  obtain ⟨hx, hb, hml, hown, hts, hK, hD, hA, hR, hret, hlocks, hT, hN, had⟩ := hG
  intro H locs ls hP hS hL oL oS oM
  obtain ⟨oy, oS⟩ := List.forall_mem_cons.mp oS
  obtain ⟨ox, oS⟩ := List.forall_mem_cons.mp oS
  have hz := hz ox oy
  have k := kk H locs ls hP hS hL oL (List.forall_mem_cons.mpr ⟨by rw [← hz]; exact okTo _, oS⟩) oM
  have e : cv ad (aI z) = .int (Int32.ofInt x &&& Int32.ofInt y) := by show Value.int _ = _; rw [← hz, Int32.ofInt_toInt]
  rw [List.map_cons, e] at k
  exact lv_iand hx hb dg k
theorem J.ior (hG : G T X own cc nL fr lo ret) {x y : Int} (z : Int) (dg : decode cc pc = .ok (.ior, 1)) (hz : okI x → okI y → (Int32.ofInt x ||| Int32.ofInt y).toInt = z) (kk : J T X nL (pc + 1) L (aI z :: st) μ) : J T X nL pc L (aI y :: aI x :: st) μ := by
  obtain ⟨p, l, e, R, s, m, args, below, meth, c, D, ad, cA, A, Post⟩ := X
  obtain ⟨hx, hb, hml, hown, hts, hK, hD, hA, hR, hret, hlocks, hT, hN, had⟩ := hG
  intro H locs ls hP hS hL oL oS oM
  obtain ⟨oy, oS⟩ := List.forall_mem_cons.mp oS
  obtain ⟨ox, oS⟩ := List.forall_mem_cons.mp oS
  have hz := hz ox oy
  have k := kk H locs ls hP hS hL oL (List.forall_mem_cons.mpr ⟨by rw [← hz]; exact okTo _, oS⟩) oM
  have e : cv ad (aI z) = .int (Int32.ofInt x ||| Int32.ofInt y) := by show Value.int _ = _; rw [← hz, Int32.ofInt_toInt]
  rw [List.map_cons, e] at k
  exact lv_ior hx hb dg k
theorem J.ixor (hG : G T X own cc nL fr lo ret) {x y : Int} (z : Int) (dg : decode cc pc = .ok (.ixor, 1)) (hz : okI x → okI y → (Int32.ofInt x ^^^ Int32.ofInt y).toInt = z) (kk : J T X nL (pc + 1) L (aI z :: st) μ) : J T X nL pc L (aI y :: aI x :: st) μ := by
  obtain ⟨p, l, e, R, s, m, args, below, meth, c, D, ad, cA, A, Post⟩ := X
  obtain ⟨hx, hb, hml, hown, hts, hK, hD, hA, hR, hret, hlocks, hT, hN, had⟩ := hG
  intro H locs ls hP hS hL oL oS oM
  obtain ⟨oy, oS⟩ := List.forall_mem_cons.mp oS
  obtain ⟨ox, oS⟩ := List.forall_mem_cons.mp oS
  have hz := hz ox oy
  have k := kk H locs ls hP hS hL oL (List.forall_mem_cons.mpr ⟨by rw [← hz]; exact okTo _, oS⟩) oM
  have e : cv ad (aI z) = .int (Int32.ofInt x ^^^ Int32.ofInt y) := by show Value.int _ = _; rw [← hz, Int32.ofInt_toInt]
  rw [List.map_cons, e] at k
  exact lv_ixor hx hb dg k
theorem J.ishl (hG : G T X own cc nL fr lo ret) {x y : Int} (z : Int) (dg : decode cc pc = .ok (.ishl, 1)) (hz : okI x → okI y → (Int32.ofInt x <<< (Int32.ofInt y &&& 31)).toInt = z) (kk : J T X nL (pc + 1) L (aI z :: st) μ) : J T X nL pc L (aI y :: aI x :: st) μ := by
  obtain ⟨p, l, e, R, s, m, args, below, meth, c, D, ad, cA, A, Post⟩ := X
  obtain ⟨hx, hb, hml, hown, hts, hK, hD, hA, hR, hret, hlocks, hT, hN, had⟩ := hG
  intro H locs ls hP hS hL oL oS oM
  obtain ⟨oy, oS⟩ := List.forall_mem_cons.mp oS
  obtain ⟨ox, oS⟩ := List.forall_mem_cons.mp oS
  have hz := hz ox oy
  have k := kk H locs ls hP hS hL oL (List.forall_mem_cons.mpr ⟨by rw [← hz]; exact okTo _, oS⟩) oM
  have e : cv ad (aI z) = .int (Int32.ofInt x <<< (Int32.ofInt y &&& 31)) := by show Value.int _ = _; rw [← hz, Int32.ofInt_toInt]
  rw [List.map_cons, e] at k
  exact lv_ishl hx hb dg k
theorem J.ishr (hG : G T X own cc nL fr lo ret) {x y : Int} (z : Int) (dg : decode cc pc = .ok (.ishr, 1)) (hz : okI x → okI y → (Int32.ofInt x >>> (Int32.ofInt y &&& 31)).toInt = z) (kk : J T X nL (pc + 1) L (aI z :: st) μ) : J T X nL pc L (aI y :: aI x :: st) μ := by
  obtain ⟨p, l, e, R, s, m, args, below, meth, c, D, ad, cA, A, Post⟩ := X
  obtain ⟨hx, hb, hml, hown, hts, hK, hD, hA, hR, hret, hlocks, hT, hN, had⟩ := hG
  intro H locs ls hP hS hL oL oS oM
  obtain ⟨oy, oS⟩ := List.forall_mem_cons.mp oS
  obtain ⟨ox, oS⟩ := List.forall_mem_cons.mp oS
  have hz := hz ox oy
  have k := kk H locs ls hP hS hL oL (List.forall_mem_cons.mpr ⟨by rw [← hz]; exact okTo _, oS⟩) oM
  have e : cv ad (aI z) = .int (Int32.ofInt x >>> (Int32.ofInt y &&& 31)) := by show Value.int _ = _; rw [← hz, Int32.ofInt_toInt]
  rw [List.map_cons, e] at k
  exact lv_ishr hx hb dg k
theorem J.iushr (hG : G T X own cc nL fr lo ret) {x y : Int} (z : Int) (dg : decode cc pc = .ok (.iushr, 1)) (hz : okI x → okI y → ((Int32.ofInt x).toUInt32 >>> ((Int32.ofInt y).toUInt32 &&& Int32.toUInt32 31)).toInt32.toInt = z) (kk : J T X nL (pc + 1) L (aI z :: st) μ) : J T X nL pc L (aI y :: aI x :: st) μ := by
  obtain ⟨p, l, e, R, s, m, args, below, meth, c, D, ad, cA, A, Post⟩ := X
  obtain ⟨hx, hb, hml, hown, hts, hK, hD, hA, hR, hret, hlocks, hT, hN, had⟩ := hG
  intro H locs ls hP hS hL oL oS oM
  obtain ⟨oy, oS⟩ := List.forall_mem_cons.mp oS
  obtain ⟨ox, oS⟩ := List.forall_mem_cons.mp oS
  have hz := hz ox oy
  have k := kk H locs ls hP hS hL oL (List.forall_mem_cons.mpr ⟨by rw [← hz]; exact okTo _, oS⟩) oM
  exact lv_iushr (v := Int32.ofInt z) hx hb dg (by rw [← hz, Int32.ofInt_toInt]) k
theorem J.idiv (hG : G T X own cc nL fr lo ret) {x y : Int} (dg : decode cc pc = .ok (.idiv, 1)) (h0 : 0 ≤ x) (h1 : 0 < y) (kk : J T X nL (pc + 1) L (aI (x / y) :: st) μ) : J T X nL pc L (aI y :: aI x :: st) μ := by
  obtain ⟨p, l, e, R, s, m, args, below, meth, c, D, ad, cA, A, Post⟩ := X
  obtain ⟨hx, hb, hml, hown, hts, hK, hD, hA, hR, hret, hlocks, hT, hN, had⟩ := hG
  intro H locs ls hP hS hL oL oS oM
  obtain ⟨oy, oS⟩ := List.forall_mem_cons.mp oS
  obtain ⟨ox, oS⟩ := List.forall_mem_cons.mp oS
  have ox : okI x := ox
  have oy : okI y := oy
  have hmn : Int32.minValue.toInt = -2147483648 := by decide
  have hmx : Int32.maxValue.toInt = 2147483647 := by decide
  have hle : x / y ≤ x := Int.ediv_le_self y h0
  have hge : 0 ≤ x / y := Int.ediv_nonneg h0 (by omega)
  have oz : okI (x / y) := ⟨by omega, by have := ox.2; omega⟩
  have k := kk H locs ls hP hS hL oL (List.forall_mem_cons.mpr ⟨oz, oS⟩) oM
  have e : cv ad (aI (x / y)) = .int (Int32.ofInt x / Int32.ofInt y) := by
    show Value.int _ = _
    rw [← Int.tdiv_eq_ediv_of_nonneg h0, Int32.ofInt_tdiv (by omega) (by omega) (by omega) (by omega)]
  rw [List.map_cons, e] at k
  exact lv_idiv hx hb dg (by rw [i32_0, i32_eq oy ok0]; omega) k
theorem J.irem (hG : G T X own cc nL fr lo ret) {x y : Int} (dg : decode cc pc = .ok (.irem, 1)) (h0 : 0 ≤ x) (h1 : 0 < y) (kk : J T X nL (pc + 1) L (aI (x % y) :: st) μ) : J T X nL pc L (aI y :: aI x :: st) μ := by
  obtain ⟨p, l, e, R, s, m, args, below, meth, c, D, ad, cA, A, Post⟩ := X
  obtain ⟨hx, hb, hml, hown, hts, hK, hD, hA, hR, hret, hlocks, hT, hN, had⟩ := hG
  intro H locs ls hP hS hL oL oS oM
  obtain ⟨oy, oS⟩ := List.forall_mem_cons.mp oS
  obtain ⟨ox, oS⟩ := List.forall_mem_cons.mp oS
  have ox : okI x := ox
  have oy : okI y := oy
  have hmn : Int32.minValue.toInt = -2147483648 := by decide
  have hmx : Int32.maxValue.toInt = 2147483647 := by decide
  have hle : x % y < y := Int.emod_lt_of_pos x h1
  have hge : 0 ≤ x % y := Int.emod_nonneg x (by omega)
  have oz : okI (x % y) := ⟨by omega, by have := oy.2; omega⟩
  have k := kk H locs ls hP hS hL oL (List.forall_mem_cons.mpr ⟨oz, oS⟩) oM
  have e : cv ad (aI (x % y)) = .int (Int32.ofInt x - Int32.ofInt x / Int32.ofInt y * Int32.ofInt y) := by
    show Value.int _ = _
    rw [← Int32.ofInt_tdiv (by omega) (by omega) (by omega) (by omega), ← Int32.ofInt_mul, ← Int32.ofInt_sub, Int.tdiv_eq_ediv_of_nonneg h0]
    congr 2
    have := Int.mul_ediv_add_emod x y
    rw [Int.mul_comm] at this
    omega
  rw [List.map_cons, e] at k
  exact lv_irem hx hb dg (by rw [i32_0, i32_eq oy ok0]; omega) k
theorem J.dup (hG : G T X own cc nL fr lo ret) {v : AV} (dg : decode cc pc = .ok (.dup, 1)) (hc : ∀ ad, (cv ad v).category = 1) (kk : J T X nL (pc + 1) L (v :: v :: st) μ) : J T X nL pc L (v :: st) μ := by
  obtain ⟨p, l, e, R, s, m, args, below, meth, c, D, ad, cA, A, Post⟩ := X
  obtain ⟨hx, hb, hml, hown, hts, hK, hD, hA, hR, hret, hlocks, hT, hN, had⟩ := hG
  intro H locs ls hP hS hL oL oS oM
  exact lv_dup hx hb dg (hc ad) (kk H locs ls hP hS hL oL (List.forall_mem_cons.mpr ⟨(List.forall_mem_cons.mp oS).1, oS⟩) oM)
theorem J.pop (hG : G T X own cc nL fr lo ret) {v : AV} (dg : decode cc pc = .ok (.pop, 1)) (hc : ∀ ad, (cv ad v).category = 1) (kk : J T X nL (pc + 1) L (st) μ) : J T X nL pc L (v :: st) μ := by
  obtain ⟨p, l, e, R, s, m, args, below, meth, c, D, ad, cA, A, Post⟩ := X
  obtain ⟨hx, hb, hml, hown, hts, hK, hD, hA, hR, hret, hlocks, hT, hN, had⟩ := hG
  intro H locs ls hP hS hL oL oS oM
  exact lv_pop hx hb dg (hc ad) (kk H locs ls hP hS hL oL (List.forall_mem_cons.mp oS).2 oM)
theorem J.dup2 (hG : G T X own cc nL fr lo ret) {v w : AV} (dg : decode cc pc = .ok (.dup2, 1)) (hc : ∀ ad, (cv ad v).category = 1) (hw : ∀ ad, (cv ad w).category = 1) (kk : J T X nL (pc + 1) L (v :: w :: v :: w :: st) μ) : J T X nL pc L (v :: w :: st) μ := by
  obtain ⟨p, l, e, R, s, m, args, below, meth, c, D, ad, cA, A, Post⟩ := X
  obtain ⟨hx, hb, hml, hown, hts, hK, hD, hA, hR, hret, hlocks, hT, hN, had⟩ := hG
  intro H locs ls hP hS hL oL oS oM
  have o1 := List.forall_mem_cons.mp oS
  have o2 := List.forall_mem_cons.mp o1.2
  exact lv_dup2_11 hx hb dg (hc ad) (hw ad) (kk H locs ls hP hS hL oL (List.forall_mem_cons.mpr ⟨o1.1, List.forall_mem_cons.mpr ⟨o2.1, oS⟩⟩) oM)
theorem J.if_eq (hG : G T X own cc nL fr lo ret) {x : Int} {off : Int} (tgt : Nat) (dg : decode cc pc = .ok (.ifCond .eq off, 3)) (ht : (pc : Int) + off = (tgt : Int)) (kt : x = 0 → J T X nL tgt L st μ) (kf : ¬ x = 0 → J T X nL (pc + 3) L st μ) : J T X nL pc L (aI x :: st) μ := by
  obtain ⟨p, l, e, R, s, m, args, below, meth, c, D, ad, cA, A, Post⟩ := X
  obtain ⟨hx, hb, hml, hown, hts, hK, hD, hA, hR, hret, hlocks, hT, hN, had⟩ := hG
  intro H locs ls hP hS hL oL oS oM
  obtain ⟨ox, oS⟩ := List.forall_mem_cons.mp oS
  exact lv_if_eq hx hb dg ht (fun h => kt ((i32_eq ox ok0).mp h) H locs ls hP hS hL oL oS oM) (fun h => kf (fun q => h ((i32_eq ox ok0).mpr q)) H locs ls hP hS hL oL oS oM)
theorem J.if_ne (hG : G T X own cc nL fr lo ret) {x : Int} {off : Int} (tgt : Nat) (dg : decode cc pc = .ok (.ifCond .ne off, 3)) (ht : (pc : Int) + off = (tgt : Int)) (kt : ¬ x = 0 → J T X nL tgt L st μ) (kf : x = 0 → J T X nL (pc + 3) L st μ) : J T X nL pc L (aI x :: st) μ := by
  obtain ⟨p, l, e, R, s, m, args, below, meth, c, D, ad, cA, A, Post⟩ := X
  obtain ⟨hx, hb, hml, hown, hts, hK, hD, hA, hR, hret, hlocks, hT, hN, had⟩ := hG
  intro H locs ls hP hS hL oL oS oM
  obtain ⟨ox, oS⟩ := List.forall_mem_cons.mp oS
  exact lv_if_ne hx hb dg ht (fun h => kt ((not_congr (i32_eq ox ok0)).mp h) H locs ls hP hS hL oL oS oM) (fun h => kf ((i32_eq ox ok0).mp h) H locs ls hP hS hL oL oS oM)
theorem J.if_lt (hG : G T X own cc nL fr lo ret) {x : Int} {off : Int} (tgt : Nat) (dg : decode cc pc = .ok (.ifCond .lt off, 3)) (ht : (pc : Int) + off = (tgt : Int)) (kt : x < 0 → J T X nL tgt L st μ) (kf : ¬ x < 0 → J T X nL (pc + 3) L st μ) : J T X nL pc L (aI x :: st) μ := by
  obtain ⟨p, l, e, R, s, m, args, below, meth, c, D, ad, cA, A, Post⟩ := X
  obtain ⟨hx, hb, hml, hown, hts, hK, hD, hA, hR, hret, hlocks, hT, hN, had⟩ := hG
  intro H locs ls hP hS hL oL oS oM
  obtain ⟨ox, oS⟩ := List.forall_mem_cons.mp oS
  exact lv_if_lt hx hb dg ht (fun h => kt ((i32_lt ox ok0).mp h) H locs ls hP hS hL oL oS oM) (fun h => kf (fun q => h ((i32_lt ox ok0).mpr q)) H locs ls hP hS hL oL oS oM)
theorem J.if_ge (hG : G T X own cc nL fr lo ret) {x : Int} {off : Int} (tgt : Nat) (dg : decode cc pc = .ok (.ifCond .ge off, 3)) (ht : (pc : Int) + off = (tgt : Int)) (kt : 0 ≤ x → J T X nL tgt L st μ) (kf : ¬ 0 ≤ x → J T X nL (pc + 3) L st μ) : J T X nL pc L (aI x :: st) μ := by
  obtain ⟨p, l, e, R, s, m, args, below, meth, c, D, ad, cA, A, Post⟩ := X
  obtain ⟨hx, hb, hml, hown, hts, hK, hD, hA, hR, hret, hlocks, hT, hN, had⟩ := hG
  intro H locs ls hP hS hL oL oS oM
  obtain ⟨ox, oS⟩ := List.forall_mem_cons.mp oS
  exact lv_if_ge hx hb dg ht (fun h => kt ((i32_le ok0 ox).mp h) H locs ls hP hS hL oL oS oM) (fun h => kf (fun q => h ((i32_le ok0 ox).mpr q)) H locs ls hP hS hL oL oS oM)
theorem J.if_gt (hG : G T X own cc nL fr lo ret) {x : Int} {off : Int} (tgt : Nat) (dg : decode cc pc = .ok (.ifCond .gt off, 3)) (ht : (pc : Int) + off = (tgt : Int)) (kt : 0 < x → J T X nL tgt L st μ) (kf : ¬ 0 < x → J T X nL (pc + 3) L st μ) : J T X nL pc L (aI x :: st) μ := by
  obtain ⟨p, l, e, R, s, m, args, below, meth, c, D, ad, cA, A, Post⟩ := X
  obtain ⟨hx, hb, hml, hown, hts, hK, hD, hA, hR, hret, hlocks, hT, hN, had⟩ := hG
  intro H locs ls hP hS hL oL oS oM
  obtain ⟨ox, oS⟩ := List.forall_mem_cons.mp oS
  exact lv_if_gt hx hb dg ht (fun h => kt ((i32_lt ok0 ox).mp h) H locs ls hP hS hL oL oS oM) (fun h => kf (fun q => h ((i32_lt ok0 ox).mpr q)) H locs ls hP hS hL oL oS oM)
theorem J.if_le (hG : G T X own cc nL fr lo ret) {x : Int} {off : Int} (tgt : Nat) (dg : decode cc pc = .ok (.ifCond .le off, 3)) (ht : (pc : Int) + off = (tgt : Int)) (kt : x ≤ 0 → J T X nL tgt L st μ) (kf : ¬ x ≤ 0 → J T X nL (pc + 3) L st μ) : J T X nL pc L (aI x :: st) μ := by
  obtain ⟨p, l, e, R, s, m, args, below, meth, c, D, ad, cA, A, Post⟩ := X
  obtain ⟨hx, hb, hml, hown, hts, hK, hD, hA, hR, hret, hlocks, hT, hN, had⟩ := hG
  intro H locs ls hP hS hL oL oS oM
  obtain ⟨ox, oS⟩ := List.forall_mem_cons.mp oS
  exact lv_if_le hx hb dg ht (fun h => kt ((i32_le ox ok0).mp h) H locs ls hP hS hL oL oS oM) (fun h => kf (fun q => h ((i32_le ox ok0).mpr q)) H locs ls hP hS hL oL oS oM)
theorem J.icmp_eq (hG : G T X own cc nL fr lo ret) {x y : Int} {off : Int} (tgt : Nat) (dg : decode cc pc = .ok (.if_icmp .eq off, 3)) (ht : (pc : Int) + off = (tgt : Int)) (kt : x = y → J T X nL tgt L st μ) (kf : ¬ x = y → J T X nL (pc + 3) L st μ) : J T X nL pc L (aI y :: aI x :: st) μ := by
  obtain ⟨p, l, e, R, s, m, args, below, meth, c, D, ad, cA, A, Post⟩ := X
  obtain ⟨hx, hb, hml, hown, hts, hK, hD, hA, hR, hret, hlocks, hT, hN, had⟩ := hG
  intro H locs ls hP hS hL oL oS oM
  obtain ⟨oy, oS⟩ := List.forall_mem_cons.mp oS
  obtain ⟨ox, oS⟩ := List.forall_mem_cons.mp oS
  exact lv_icmp_eq hx hb dg ht (fun h => kt ((i32_eq ox oy).mp h) H locs ls hP hS hL oL oS oM) (fun h => kf (fun q => h ((i32_eq ox oy).mpr q)) H locs ls hP hS hL oL oS oM)
theorem J.icmp_ne (hG : G T X own cc nL fr lo ret) {x y : Int} {off : Int} (tgt : Nat) (dg : decode cc pc = .ok (.if_icmp .ne off, 3)) (ht : (pc : Int) + off = (tgt : Int)) (kt : ¬ x = y → J T X nL tgt L st μ) (kf : x = y → J T X nL (pc + 3) L st μ) : J T X nL pc L (aI y :: aI x :: st) μ := by
  obtain ⟨p, l, e, R, s, m, args, below, meth, c, D, ad, cA, A, Post⟩ := X
  obtain ⟨hx, hb, hml, hown, hts, hK, hD, hA, hR, hret, hlocks, hT, hN, had⟩ := hG
  intro H locs ls hP hS hL oL oS oM
  obtain ⟨oy, oS⟩ := List.forall_mem_cons.mp oS
  obtain ⟨ox, oS⟩ := List.forall_mem_cons.mp oS
  exact lv_icmp_ne hx hb dg ht (fun h => kt ((not_congr (i32_eq ox oy)).mp h) H locs ls hP hS hL oL oS oM) (fun h => kf ((i32_eq ox oy).mp h) H locs ls hP hS hL oL oS oM)
theorem J.icmp_lt (hG : G T X own cc nL fr lo ret) {x y : Int} {off : Int} (tgt : Nat) (dg : decode cc pc = .ok (.if_icmp .lt off, 3)) (ht : (pc : Int) + off = (tgt : Int)) (kt : x < y → J T X nL tgt L st μ) (kf : ¬ x < y → J T X nL (pc + 3) L st μ) : J T X nL pc L (aI y :: aI x :: st) μ := by
  obtain ⟨p, l, e, R, s, m, args, below, meth, c, D, ad, cA, A, Post⟩ := X
  obtain ⟨hx, hb, hml, hown, hts, hK, hD, hA, hR, hret, hlocks, hT, hN, had⟩ := hG
  intro H locs ls hP hS hL oL oS oM
  obtain ⟨oy, oS⟩ := List.forall_mem_cons.mp oS
  obtain ⟨ox, oS⟩ := List.forall_mem_cons.mp oS
  exact lv_icmp_lt hx hb dg ht (fun h => kt ((i32_lt ox oy).mp h) H locs ls hP hS hL oL oS oM) (fun h => kf (fun q => h ((i32_lt ox oy).mpr q)) H locs ls hP hS hL oL oS oM)
theorem J.icmp_ge (hG : G T X own cc nL fr lo ret) {x y : Int} {off : Int} (tgt : Nat) (dg : decode cc pc = .ok (.if_icmp .ge off, 3)) (ht : (pc : Int) + off = (tgt : Int)) (kt : y ≤ x → J T X nL tgt L st μ) (kf : ¬ y ≤ x → J T X nL (pc + 3) L st μ) : J T X nL pc L (aI y :: aI x :: st) μ := by
  obtain ⟨p, l, e, R, s, m, args, below, meth, c, D, ad, cA, A, Post⟩ := X
  obtain ⟨hx, hb, hml, hown, hts, hK, hD, hA, hR, hret, hlocks, hT, hN, had⟩ := hG
  intro H locs ls hP hS hL oL oS oM
  obtain ⟨oy, oS⟩ := List.forall_mem_cons.mp oS
  obtain ⟨ox, oS⟩ := List.forall_mem_cons.mp oS
  exact lv_icmp_ge hx hb dg ht (fun h => kt ((i32_le oy ox).mp h) H locs ls hP hS hL oL oS oM) (fun h => kf (fun q => h ((i32_le oy ox).mpr q)) H locs ls hP hS hL oL oS oM)
theorem J.icmp_gt (hG : G T X own cc nL fr lo ret) {x y : Int} {off : Int} (tgt : Nat) (dg : decode cc pc = .ok (.if_icmp .gt off, 3)) (ht : (pc : Int) + off = (tgt : Int)) (kt : y < x → J T X nL tgt L st μ) (kf : ¬ y < x → J T X nL (pc + 3) L st μ) : J T X nL pc L (aI y :: aI x :: st) μ := by
  obtain ⟨p, l, e, R, s, m, args, below, meth, c, D, ad, cA, A, Post⟩ := X
  obtain ⟨hx, hb, hml, hown, hts, hK, hD, hA, hR, hret, hlocks, hT, hN, had⟩ := hG
  intro H locs ls hP hS hL oL oS oM
  obtain ⟨oy, oS⟩ := List.forall_mem_cons.mp oS
  obtain ⟨ox, oS⟩ := List.forall_mem_cons.mp oS
  exact lv_icmp_gt hx hb dg ht (fun h => kt ((i32_lt oy ox).mp h) H locs ls hP hS hL oL oS oM) (fun h => kf (fun q => h ((i32_lt oy ox).mpr q)) H locs ls hP hS hL oL oS oM)
theorem J.icmp_le (hG : G T X own cc nL fr lo ret) {x y : Int} {off : Int} (tgt : Nat) (dg : decode cc pc = .ok (.if_icmp .le off, 3)) (ht : (pc : Int) + off = (tgt : Int)) (kt : x ≤ y → J T X nL tgt L st μ) (kf : ¬ x ≤ y → J T X nL (pc + 3) L st μ) : J T X nL pc L (aI y :: aI x :: st) μ := by
  obtain ⟨p, l, e, R, s, m, args, below, meth, c, D, ad, cA, A, Post⟩ := X
  obtain ⟨hx, hb, hml, hown, hts, hK, hD, hA, hR, hret, hlocks, hT, hN, had⟩ := hG
  intro H locs ls hP hS hL oL oS oM
  obtain ⟨oy, oS⟩ := List.forall_mem_cons.mp oS
  obtain ⟨ox, oS⟩ := List.forall_mem_cons.mp oS
  exact lv_icmp_le hx hb dg ht (fun h => kt ((i32_le ox oy).mp h) H locs ls hP hS hL oL oS oM) (fun h => kf (fun q => h ((i32_le ox oy).mpr q)) H locs ls hP hS hL oL oS oM)
theorem J.goto (hG : G T X own cc nL fr lo ret) {off : Int} (tgt : Nat) (dg : decode cc pc = .ok (.goto off, 3)) (ht : (pc : Int) + off = (tgt : Int)) (kk : J T X nL tgt L st μ) : J T X nL pc L st μ := by
  obtain ⟨p, l, e, R, s, m, args, below, meth, c, D, ad, cA, A, Post⟩ := X
  obtain ⟨hx, hb, hml, hown, hts, hK, hD, hA, hR, hret, hlocks, hT, hN, had⟩ := hG
  intro H locs ls hP hS hL oL oS oM
  exact lv_goto hx hb dg ht (kk H locs ls hP hS hL oL oS oM)
theorem J.tabIn (hG : G T X own cc nL fr lo ret) {dflt lw hi : Int} {offs : Array Int} {len : Nat} {x off : Int} (tgt : Nat) (dg : decode cc pc = .ok (.tableswitch dflt lw hi offs, len)) (h1 : lw ≤ x) (h2 : x ≤ hi) (ho : offs[(x - lw).toNat]? = some off) (ht : (pc : Int) + off = (tgt : Int)) (kk : J T X nL tgt L st μ) : J T X nL pc L (aI x :: st) μ := by
  obtain ⟨p, l, e, R, s, m, args, below, meth, c, D, ad, cA, A, Post⟩ := X
  obtain ⟨hx, hb, hml, hown, hts, hK, hD, hA, hR, hret, hlocks, hT, hN, had⟩ := hG
  intro H locs ls hP hS hL oL oS oM
  obtain ⟨ox, oS⟩ := List.forall_mem_cons.mp oS
  exact lv_tableIn hx hb dg (by rw [toI ox]; omega) (by rw [toI ox]; omega) (by rw [toI ox]; exact ho) ht (kk H locs ls hP hS hL oL oS oM)
theorem J.tabOut (hG : G T X own cc nL fr lo ret) {dflt lw hi : Int} {offs : Array Int} {len : Nat} {x : Int} (tgt : Nat) (dg : decode cc pc = .ok (.tableswitch dflt lw hi offs, len)) (h : x < lw ∨ hi < x) (ht : (pc : Int) + dflt = (tgt : Int)) (kk : J T X nL tgt L st μ) : J T X nL pc L (aI x :: st) μ := by
  obtain ⟨p, l, e, R, s, m, args, below, meth, c, D, ad, cA, A, Post⟩ := X
  obtain ⟨hx, hb, hml, hown, hts, hK, hD, hA, hR, hret, hlocks, hT, hN, had⟩ := hG
  intro H locs ls hP hS hL oL oS oM
  obtain ⟨ox, oS⟩ := List.forall_mem_cons.mp oS
  exact lv_tableOut hx hb dg (by rw [toI ox]; exact h) ht (kk H locs ls hP hS hL oL oS oM)
theorem J.lookup (hG : G T X own cc nL fr lo ret) {dflt : Int} {ps : Array (Int × Int)} {len : Nat} {x off : Int} (tgt : Nat) (dg : decode cc pc = .ok (.lookupswitch dflt ps, len)) (hp : (ps.toList.zip (ps.toList.drop 1)).all (fun (a, next) => a.1 < next.1) = true) (ho : Op.lookupswitch.offset ps.toList dflt x = off) (ht : (pc : Int) + off = (tgt : Int)) (kk : J T X nL tgt L st μ) : J T X nL pc L (aI x :: st) μ := by
  obtain ⟨p, l, e, R, s, m, args, below, meth, c, D, ad, cA, A, Post⟩ := X
  obtain ⟨hx, hb, hml, hown, hts, hK, hD, hA, hR, hret, hlocks, hT, hN, had⟩ := hG
  intro H locs ls hP hS hL oL oS oM
  obtain ⟨ox, oS⟩ := List.forall_mem_cons.mp oS
  exact lv_lookup hx hb dg hp (by rw [toI ox]; exact ho) ht (kk H locs ls hP hS hL oL oS oM)
end JR
end
section
def CI (ci : Nat) (C : String) (TT : u_T) (N : Nat) (ty : Nat → FieldType) : Prop := vwCl[ci]? = some (C, TT, N) ∧ (∀ w ∈ u_ws C TT N, w ∈ BIG) ∧ (∀ k, k < N → parseFieldDescriptor (TT k).2.2.1 = some (ty k)) ∧ (∀ a, a < N → ∀ b, b < N → a ≠ b → (TT a).2.1 ≠ (TT b).2.1)
theorem ciX0 : CI 0 RX0 TX0 6 tyX0 := ⟨rfl, lay_X0, tyX0_ok, nmX0⟩
theorem ciX1 : CI 1 RX1 TX1 7 tyX1 := ⟨rfl, lay_X1, tyX1_ok, nmX1⟩
theorem ciX2 : CI 2 RX2 TX2 5 tyX2 := ⟨rfl, lay_X2, tyX2_ok, nmX2⟩
theorem ciX3 : CI 3 RX3 TX3 3 tyX3 := ⟨rfl, lay_X3, tyX3_ok, nmX3⟩
theorem ciX4 : CI 4 RX4 TX4 4 tyX4 := ⟨rfl, lay_X4, tyX4_ok, nmX4⟩
theorem ciX5 : CI 5 RX5 TX5 10 tyX5 := ⟨rfl, lay_X5, tyX5_ok, nmX5⟩
theorem ciX6 : CI 6 RX6 TX6 11 tyX6 := ⟨rfl, lay_X6, tyX6_ok, nmX6⟩
theorem ciX7 : CI 7 RX7 TX7 39 tyX7 := ⟨rfl, lay_X7, tyX7_ok, nmX7⟩
theorem up_self (μ : Mem) (c : Nat) (j v : Int) : up μ c j v c j = v := by simp [up]
theorem up_ne (μ : Mem) {c c' : Nat} {j j' v : Int} (h : ¬ (c' = c ∧ j' = j)) : up μ c j v c' j' = μ c' j' := by simp only [up, if_neg h]
theorem up_cell (μ : Mem) {c c' : Nat} (j v : Int) (h : c' ≠ c) : up μ c j v c' = μ c' := by
  funext j'
  exact up_ne μ (fun q => h q.1)
theorem okM_up {μ : Mem} {c : Nat} {j v : Int} (h : okM μ) (hv : okI v) : okM (up μ c j v) := by
  intro c' j' hc
  by_cases q : c' = c ∧ j' = j
  · rw [q.1, q.2, up_self]; exact hv
  · rw [up_ne μ q]; exact h c' j' hc
theorem okM_upL {μ : Mem} {c : Nat} {j v : Int} (h : okM μ) (hc : 1000 ≤ c) : okM (up μ c j v) := by
  intro c' j' hc'
  rw [up_ne μ (fun q => by omega)]
  exact h c' j' hc'
theorem okM_cpy {μ : Mem} {a b : Nat} {n : Int} (h : okM μ) (ha : a < 1000) : okM (cpy μ a b n) := by
  intro c j hc
  unfold cpy
  split
  · exact h a j ha
  · exact h c j hc
theorem cpy_ne (μ : Mem) {a b c : Nat} (n : Int) (h : c ≠ b) : cpy μ a b n c = μ c := by
  funext j
  simp only [cpy, if_neg (fun q : c = b ∧ 0 ≤ j ∧ j < n => h q.1)]
theorem cE_arr (ad : Nat → Nat) (cA : Nat → ClassId) (μ : Mem) (i t n : Nat) (refs : List Nat) (h : t ≠ 2) : cE ad cA μ i (.inr (t, n, refs)) = .inl (cA t, n, .inl (fun j => Int32.ofInt (μ i j))) := by
  simp only [cE, if_neg h]
theorem cE_put (ad : Nat → Nat) (cA : Nat → ClassId) (μ : Mem) {i ci k : Nat} {codes : List Nat} {x : Int} (hi : i < 1000) (hc : codes[k]? = some 0) : (Sum.inr (ci, (codes.mapIdx (fun k code => fV ad μ i k code)).set k (.int (Int32.ofInt x))) : va_E) = cE ad cA (up μ i k x) i (.inl (ci, codes)) := by
  show (Sum.inr (ci, _) : va_E) = Sum.inr (ci, _)
  rw [fset (μ' := up μ i k x) hc (by show Value.int (Int32.ofInt (up μ i k x i k)) = _; rw [up_self]) (fun j code hj => by
    match code with
    | 0 =>
      show Value.int (Int32.ofInt (up μ i k x i j)) = Value.int (Int32.ofInt (μ i j))
      rw [up_ne μ (fun q => hj (by omega))]
    | 1 =>
      show Value.long (Int64.ofInt (up μ i k x (1000 + i) j)) = Value.long (Int64.ofInt (μ (1000 + i) j))
      rw [up_ne μ (fun q => by omega)]
    | z + 2 => rfl)]
theorem cE_putL (ad : Nat → Nat) (cA : Nat → ClassId) (μ : Mem) {i ci k : Nat} {codes : List Nat} {x : Int} (hi : i < 1000) (hc : codes[k]? = some 1) : (Sum.inr (ci, (codes.mapIdx (fun k code => fV ad μ i k code)).set k (.long (Int64.ofInt x))) : va_E) = cE ad cA (up μ (1000 + i) k x) i (.inl (ci, codes)) := by
  show (Sum.inr (ci, _) : va_E) = Sum.inr (ci, _)
  rw [fset (μ' := up μ (1000 + i) k x) hc (by show Value.long (Int64.ofInt (up μ (1000 + i) k x (1000 + i) k)) = _; rw [up_self]) (fun j code hj => by
    match code with
    | 0 =>
      show Value.int (Int32.ofInt (up μ (1000 + i) k x i j)) = Value.int (Int32.ofInt (μ i j))
      rw [up_ne μ (fun q => by omega)]
    | 1 =>
      show Value.long (Int64.ofInt (up μ (1000 + i) k x (1000 + i) j)) = Value.long (Int64.ofInt (μ (1000 + i) j))
      rw [up_ne μ (fun q => hj (by omega))]
    | z + 2 => rfl)]
theorem cE_ast (ad : Nat → Nat) (cA : Nat → ClassId) (μ : Mem) {i t n : Nat} {refs : List Nat} {j x : Int} (ht : t ≠ 2) (oj : okI j) (h0 : 0 ≤ j) : (Sum.inl (cA t, n, .inl (upd (fun j => Int32.ofInt (μ i j)) (Int32.ofInt j).toNatClampNeg (Int32.ofInt x))) : va_E) = cE ad cA (up μ i j x) i (.inr (t, n, refs)) := by
  rw [cE_arr _ _ _ _ _ _ _ ht]
  congr 4
  funext q
  unfold upd
  rw [toNI oj]
  by_cases hq : q = j.toNat
  · rw [if_pos hq, hq, Int.toNat_of_nonneg h0, up_self]
  · rw [if_neg hq, up_ne μ (fun z => hq (by omega))]
theorem cats (ad : Nat → Nat) (st : List AV) : ((st.map (cv ad)).map fun v => v.category).sum ≤ 2 * st.length := by
  induction st with
  | nil => simp
  | cons a l ih =>
    have h : (cv ad a).category ≤ 2 := by rcases lv_cat (cv ad a) with q | q <;> omega
    simp only [List.map_cons, List.sum_cons, List.length_cons]
    omega
theorem cd_max : Cond.code Lib.Math.max.name Lib.Math.max.code 2 (some .int) ∈ BIG := big_in 447 (by decide +kernel) rfl
theorem cd_min : Cond.code Lib.Math.min.name Lib.Math.min.code 2 (some .int) ∈ BIG := big_in 444 (by decide +kernel) rfl
theorem cd_abs : Cond.code Lib.Math.abs.name Lib.Math.abs.code 1 (some .int) ∈ BIG := big_in 631 (by decide +kernel) rfl
theorem nest_tab : nestW.all (fun w => w.onTables) = true := by decide +kernel
theorem nest_warm {s U : State} (hW : s.WarmedH U.vm) (h : ∀ w ∈ nestW, va_Nw w s) : ∀ w ∈ nestW, va_Nw w U := by
  have h2 : ∀ w ∈ nestW, ∃ a i x b, w = Cond.methodLinkNest a i x b := by
    intro w hw
    simp only [nestW, List.mem_cons, List.not_mem_nil, or_false] at hw
    rcases hw with rfl | rfl | rfl | rfl | rfl | rfl | rfl | rfl | rfl | rfl <;> exact ⟨_, _, _, _, rfl⟩
  intro w hw
  obtain ⟨a, i, x, b, rfl⟩ := h2 w hw
  exact va_Nw.warmM hW (h _ hw)
theorem nest_same {s U : State} (hv : s.vm = U.vm) (h : ∀ w ∈ nestW, va_Nw w s) : ∀ w ∈ nestW, va_Nw w U := fun w hw => va_Nw.same (List.all_eq_true.mp nest_tab w hw) hv (h w hw)
section JF
variable {T : List Sh} {X : Cx} {own : String} {cc : ByteArray} {nL fr lo : Nat} {ret : Option FieldType} {pc : Nat} {L : List (Option AV)} {st : List AV} {μ : Mem}
theorem J.getI (hG : G T X own cc nL fr lo ret) {ci : Nat} {C : String} {TT : u_T} {N : Nat} {ty : Nat → FieldType} (hC : CI ci C TT N ty) {i : Nat} {codes : List Nat} (hi : T[i]? = some (.inl (ci, codes))) (k : Nat) (kI : Int) (hkI : (k : Int) = kI) (hk : k < N) (hc : codes[k]? = some (0)) {idx : Nat} (hl : Cond.fieldLink own idx (TT k).1 (TT k).2.1 (TT k).2.2.1 ∈ BIG) (dg : decode cc pc = .ok (.getfield idx, 3)) (kk : J T X nL (pc + 3) L (aI (μ i kI) :: st) μ) : J T X nL pc L (aR i :: st) μ := by
  obtain ⟨p, l, e, R, s, m, args, below, meth, c, D, ad, cA, A, Post⟩ := X
  obtain ⟨hx, hb, hml, hown, hts, hK, hD, hA, hR, hret, hlocks, hT, hN, had⟩ := hG
  intro H locs ls hP hS hL oL oS oM
  subst hkI
  have oi : okI (μ i k) := oM i k (Nat.lt_of_lt_of_le (List.getElem?_eq_some_iff.mp hi).1 hT)
  exact va_get (D := D) (ci := ci) (fs := codes.mapIdx (fun k code => fV ad μ i k code)) (v := .int (Int32.ofInt (μ i k))) hx hb hts hC.2.1 hown hK hP i (wOf_at hi) hC.1 k hk (hts _ hl) (fun _ h => h) (fat hc) dg (kk H locs ls hP hS hL oL (List.forall_mem_cons.mpr ⟨oi, (List.forall_mem_cons.mp oS).2⟩) oM)
theorem J.getL (hG : G T X own cc nL fr lo ret) {ci : Nat} {C : String} {TT : u_T} {N : Nat} {ty : Nat → FieldType} (hC : CI ci C TT N ty) {i : Nat} {codes : List Nat} (hi : T[i]? = some (.inl (ci, codes))) (k : Nat) (kI : Int) (hkI : (k : Int) = kI) (hk : k < N) (cI : Nat) (hcI : 1000 + i = cI) (hc : codes[k]? = some (1)) {idx : Nat} (hl : Cond.fieldLink own idx (TT k).1 (TT k).2.1 (TT k).2.2.1 ∈ BIG) (dg : decode cc pc = .ok (.getfield idx, 3)) (kk : J T X nL (pc + 3) L (aL (μ cI kI) :: st) μ) : J T X nL pc L (aR i :: st) μ := by
  obtain ⟨p, l, e, R, s, m, args, below, meth, c, D, ad, cA, A, Post⟩ := X
  obtain ⟨hx, hb, hml, hown, hts, hK, hD, hA, hR, hret, hlocks, hT, hN, had⟩ := hG
  intro H locs ls hP hS hL oL oS oM
  subst hkI
  subst hcI
  have oi : okI (μ i k) := oM i k (Nat.lt_of_lt_of_le (List.getElem?_eq_some_iff.mp hi).1 hT)
  exact va_get (D := D) (ci := ci) (fs := codes.mapIdx (fun k code => fV ad μ i k code)) (v := .long (Int64.ofInt (μ (1000 + i) k))) hx hb hts hC.2.1 hown hK hP i (wOf_at hi) hC.1 k hk (hts _ hl) (fun _ h => h) (fat hc) dg (kk H locs ls hP hS hL oL (List.forall_mem_cons.mpr ⟨trivial, (List.forall_mem_cons.mp oS).2⟩) oM)
theorem J.getR (hG : G T X own cc nL fr lo ret) {ci : Nat} {C : String} {TT : u_T} {N : Nat} {ty : Nat → FieldType} (hC : CI ci C TT N ty) {i : Nat} {codes : List Nat} (hi : T[i]? = some (.inl (ci, codes))) (k : Nat) (kI : Int) (hkI : (k : Int) = kI) (hk : k < N) {q : Nat} (hc : codes[k]? = some (q + 2)) {idx : Nat} (hl : Cond.fieldLink own idx (TT k).1 (TT k).2.1 (TT k).2.2.1 ∈ BIG) (dg : decode cc pc = .ok (.getfield idx, 3)) (kk : J T X nL (pc + 3) L (aR q :: st) μ) : J T X nL pc L (aR i :: st) μ := by
  obtain ⟨p, l, e, R, s, m, args, below, meth, c, D, ad, cA, A, Post⟩ := X
  obtain ⟨hx, hb, hml, hown, hts, hK, hD, hA, hR, hret, hlocks, hT, hN, had⟩ := hG
  intro H locs ls hP hS hL oL oS oM
  subst hkI
  have oi : okI (μ i k) := oM i k (Nat.lt_of_lt_of_le (List.getElem?_eq_some_iff.mp hi).1 hT)
  exact va_get (D := D) (ci := ci) (fs := codes.mapIdx (fun k code => fV ad μ i k code)) (v := .ref (ad q)) hx hb hts hC.2.1 hown hK hP i (wOf_at hi) hC.1 k hk (hts _ hl) (fun _ h => h) (fat hc) dg (kk H locs ls hP hS hL oL (List.forall_mem_cons.mpr ⟨trivial, (List.forall_mem_cons.mp oS).2⟩) oM)
theorem J.putI (hG : G T X own cc nL fr lo ret) {ci : Nat} {C : String} {TT : u_T} {N : Nat} {ty : Nat → FieldType} (hC : CI ci C TT N ty) {i : Nat} {codes : List Nat} (hi : T[i]? = some (.inl (ci, codes))) (k : Nat) (kI : Int) (hkI : (k : Int) = kI) (hk : k < N) {x : Int} (hc : codes[k]? = some (0)) {idx : Nat} (hl : Cond.fieldLink own idx (TT k).1 (TT k).2.1 (TT k).2.2.1 ∈ BIG) (hfin : (TT k).2.2.2 = false) (hty : ty k = .int) (dg : decode cc pc = .ok (.putfield idx, 3)) (kk : J T X nL (pc + 3) L (st) (up μ i kI x)) : J T X nL pc L (aI x :: aR i :: st) μ := by
  obtain ⟨p, l, e, R, s, m, args, below, meth, c, D, ad, cA, A, Post⟩ := X
  obtain ⟨hx, hb, hml, hown, hts, hK, hD, hA, hR, hret, hlocks, hT, hN, had⟩ := hG
  intro H locs ls hP hS hL oL oS oM
  subst hkI
  obtain ⟨ov, oS⟩ := List.forall_mem_cons.mp oS
  obtain ⟨-, oS⟩ := List.forall_mem_cons.mp oS
  have hil : i < 1000 := Nat.lt_of_lt_of_le (List.getElem?_eq_some_iff.mp hi).1 hT
  refine va_put (D := D) (ci := ci) (fs := codes.mapIdx (fun k code => fV ad μ i k code)) (v := .int (Int32.ofInt x)) (ty := .int) hx hb hts hC.2.1 ty hC.2.2.1 hC.2.2.2 hown hK hP (hD μ) hS i (wOf_at hi) hC.1 k hk (hts _ hl) (fun _ h => h) hfin (by rw [hC.2.2.1 k hk, hty]) rfl rfl (by simpa using (List.getElem?_eq_some_iff.mp hc).1) dg (fun H1 locs1 hP1 hD1 hS1 => ?_)
  rw [wOf_set (μ' := up μ i k x) hT hi (cE_put ad cA μ hil hc) (fun c h1 h2 => ⟨up_cell μ _ _ (by omega), up_cell μ _ _ (by omega)⟩)] at hP1
  exact kk H1 locs1 ls hP1 hS1 hL oL oS (okM_up oM ov)
theorem J.putZ (hG : G T X own cc nL fr lo ret) {ci : Nat} {C : String} {TT : u_T} {N : Nat} {ty : Nat → FieldType} (hC : CI ci C TT N ty) {i : Nat} {codes : List Nat} (hi : T[i]? = some (.inl (ci, codes))) (k : Nat) (kI : Int) (hkI : (k : Int) = kI) (hk : k < N) {x : Int} (hz : x = 0 ∨ x = 1) (hc : codes[k]? = some (0)) {idx : Nat} (hl : Cond.fieldLink own idx (TT k).1 (TT k).2.1 (TT k).2.2.1 ∈ BIG) (hfin : (TT k).2.2.2 = false) (hty : ty k = .boolean) (dg : decode cc pc = .ok (.putfield idx, 3)) (kk : J T X nL (pc + 3) L (st) (up μ i kI x)) : J T X nL pc L (aI x :: aR i :: st) μ := by
  obtain ⟨p, l, e, R, s, m, args, below, meth, c, D, ad, cA, A, Post⟩ := X
  obtain ⟨hx, hb, hml, hown, hts, hK, hD, hA, hR, hret, hlocks, hT, hN, had⟩ := hG
  intro H locs ls hP hS hL oL oS oM
  subst hkI
  obtain ⟨ov, oS⟩ := List.forall_mem_cons.mp oS
  obtain ⟨-, oS⟩ := List.forall_mem_cons.mp oS
  have hil : i < 1000 := Nat.lt_of_lt_of_le (List.getElem?_eq_some_iff.mp hi).1 hT
  refine va_put (D := D) (ci := ci) (fs := codes.mapIdx (fun k code => fV ad μ i k code)) (v := .int (Int32.ofInt x)) (ty := .boolean) hx hb hts hC.2.1 ty hC.2.2.1 hC.2.2.2 hown hK hP (hD μ) hS i (wOf_at hi) hC.1 k hk (hts _ hl) (fun _ h => h) hfin (by rw [hC.2.2.1 k hk, hty]) (by rcases hz with rfl | rfl <;> rfl) (by rcases hz with rfl | rfl <;> rfl) (by simpa using (List.getElem?_eq_some_iff.mp hc).1) dg (fun H1 locs1 hP1 hD1 hS1 => ?_)
  rw [wOf_set (μ' := up μ i k x) hT hi (cE_put ad cA μ hil hc) (fun c h1 h2 => ⟨up_cell μ _ _ (by omega), up_cell μ _ _ (by omega)⟩)] at hP1
  exact kk H1 locs1 ls hP1 hS1 hL oL oS (okM_up oM ov)
theorem J.putL (hG : G T X own cc nL fr lo ret) {ci : Nat} {C : String} {TT : u_T} {N : Nat} {ty : Nat → FieldType} (hC : CI ci C TT N ty) {i : Nat} {codes : List Nat} (hi : T[i]? = some (.inl (ci, codes))) (k : Nat) (kI : Int) (hkI : (k : Int) = kI) (hk : k < N) {x : Int} (cI : Nat) (hcI : 1000 + i = cI) (hc : codes[k]? = some (1)) {idx : Nat} (hl : Cond.fieldLink own idx (TT k).1 (TT k).2.1 (TT k).2.2.1 ∈ BIG) (hfin : (TT k).2.2.2 = false) (hty : ty k = .long) (dg : decode cc pc = .ok (.putfield idx, 3)) (kk : J T X nL (pc + 3) L (st) (up μ cI kI x)) : J T X nL pc L (aL x :: aR i :: st) μ := by
  obtain ⟨p, l, e, R, s, m, args, below, meth, c, D, ad, cA, A, Post⟩ := X
  obtain ⟨hx, hb, hml, hown, hts, hK, hD, hA, hR, hret, hlocks, hT, hN, had⟩ := hG
  intro H locs ls hP hS hL oL oS oM
  subst hkI
  subst hcI
  obtain ⟨ov, oS⟩ := List.forall_mem_cons.mp oS
  obtain ⟨-, oS⟩ := List.forall_mem_cons.mp oS
  have hil : i < 1000 := Nat.lt_of_lt_of_le (List.getElem?_eq_some_iff.mp hi).1 hT
  refine va_put (D := D) (ci := ci) (fs := codes.mapIdx (fun k code => fV ad μ i k code)) (v := .long (Int64.ofInt x)) (ty := .long) hx hb hts hC.2.1 ty hC.2.2.1 hC.2.2.2 hown hK hP (hD μ) hS i (wOf_at hi) hC.1 k hk (hts _ hl) (fun _ h => h) hfin (by rw [hC.2.2.1 k hk, hty]) rfl rfl (by simpa using (List.getElem?_eq_some_iff.mp hc).1) dg (fun H1 locs1 hP1 hD1 hS1 => ?_)
  rw [wOf_set (μ' := up μ (1000 + i) k x) hT hi (cE_putL ad cA μ hil hc) (fun c h1 h2 => ⟨up_cell μ _ _ (by omega), up_cell μ _ _ (by omega)⟩)] at hP1
  exact kk H1 locs1 ls hP1 hS1 hL oL oS (okM_upL oM (by omega))
theorem J.iald (hG : G T X own cc nL fr lo ret) {i n : Nat} {refs : List Nat} (hi : T[i]? = some (.inr (0, n, refs))) {j : Int} (h0 : 0 ≤ j) (h1 : j < n) (dg : decode cc pc = .ok (.iaload, 1)) (kk : J T X nL (pc + 1) L (aI (μ i j) :: st) μ) : J T X nL pc L (aI j :: aR i :: st) μ := by
  obtain ⟨p, l, e, R, s, m, args, below, meth, c, D, ad, cA, A, Post⟩ := X
  obtain ⟨hx, hb, hml, hown, hts, hK, hD, hA, hR, hret, hlocks, hT, hN, had⟩ := hG
  intro H locs ls hP hS hL oL oS oM
  obtain ⟨oj, oS⟩ := List.forall_mem_cons.mp oS
  obtain ⟨-, oS⟩ := List.forall_mem_cons.mp oS
  have oj : okI j := oj
  have k := kk H locs ls hP hS hL oL (List.forall_mem_cons.mpr ⟨(oM i j (Nat.lt_of_lt_of_le (List.getElem?_eq_some_iff.mp hi).1 hT) : okI _), oS⟩) oM
  have e : cv ad (aI (μ i j)) = .int ((fun q : Nat => Int32.ofInt (μ i q)) (Int32.ofInt j).toNatClampNeg) := by
    show Value.int _ = Value.int _
    rw [toNI oj]
    show Value.int _ = Value.int (Int32.ofInt (μ i (j.toNat : Int)))
    rw [Int.toNat_of_nonneg h0]
  rw [List.map_cons, e] at k
  exact va_iald (f := fun q : Nat => Int32.ofInt (μ i q)) hx hb hK hP i 0 (by rw [wOf_at hi, cE_arr _ _ _ _ _ _ _ (by decide)]) rfl (vpin oj h0 h1) dg k
theorem J.zald (hG : G T X own cc nL fr lo ret) {i n : Nat} {refs : List Nat} (hi : T[i]? = some (.inr (1, n, refs))) {j : Int} (h0 : 0 ≤ j) (h1 : j < n) (dg : decode cc pc = .ok (.baload, 1)) (kk : J T X nL (pc + 1) L (aI (μ i j) :: st) μ) : J T X nL pc L (aI j :: aR i :: st) μ := by
  obtain ⟨p, l, e, R, s, m, args, below, meth, c, D, ad, cA, A, Post⟩ := X
  obtain ⟨hx, hb, hml, hown, hts, hK, hD, hA, hR, hret, hlocks, hT, hN, had⟩ := hG
  intro H locs ls hP hS hL oL oS oM
  obtain ⟨oj, oS⟩ := List.forall_mem_cons.mp oS
  obtain ⟨-, oS⟩ := List.forall_mem_cons.mp oS
  have oj : okI j := oj
  have k := kk H locs ls hP hS hL oL (List.forall_mem_cons.mpr ⟨(oM i j (Nat.lt_of_lt_of_le (List.getElem?_eq_some_iff.mp hi).1 hT) : okI _), oS⟩) oM
  have e : cv ad (aI (μ i j)) = .int ((fun q : Nat => Int32.ofInt (μ i q)) (Int32.ofInt j).toNatClampNeg) := by
    show Value.int _ = Value.int _
    rw [toNI oj]
    show Value.int _ = Value.int (Int32.ofInt (μ i (j.toNat : Int)))
    rw [Int.toNat_of_nonneg h0]
  rw [List.map_cons, e] at k
  exact va_zald (f := fun q : Nat => Int32.ofInt (μ i q)) hx hb hK hP i 1 (by rw [wOf_at hi, cE_arr _ _ _ _ _ _ _ (by decide)]) rfl (vpin oj h0 h1) dg k
theorem J.aald (hG : G T X own cc nL fr lo ret) {i n q : Nat} {refs : List Nat} (hi : T[i]? = some (.inr (2, n, refs))) {j : Int} (h0 : 0 ≤ j) (h1 : j < n) (hq : refs[j.toNat]? = some q) (dg : decode cc pc = .ok (.aaload, 1)) (kk : J T X nL (pc + 1) L (aR q :: st) μ) : J T X nL pc L (aI j :: aR i :: st) μ := by
  obtain ⟨p, l, e, R, s, m, args, below, meth, c, D, ad, cA, A, Post⟩ := X
  obtain ⟨hx, hb, hml, hown, hts, hK, hD, hA, hR, hret, hlocks, hT, hN, had⟩ := hG
  intro H locs ls hP hS hL oL oS oM
  obtain ⟨oj, oS⟩ := List.forall_mem_cons.mp oS
  obtain ⟨-, oS⟩ := List.forall_mem_cons.mp oS
  have oj : okI j := oj
  have k := kk H locs ls hP hS hL oL (List.forall_mem_cons.mpr ⟨trivial, oS⟩) oM
  have e : cv ad (aR q) = va_rf ((fun z : Nat => (refs[z]?).map ad) (Int32.ofInt j).toNatClampNeg) := by
    show Value.ref (ad q) = va_rf ((refs[(Int32.ofInt j).toNatClampNeg]?).map ad)
    rw [toNI oj, hq]
    rfl
  rw [List.map_cons, e] at k
  exact va_aldq (C := RX2) (f := fun z : Nat => (refs[z]?).map ad) hx hb hK hP i 2 (by rw [wOf_at hi]; rfl) rfl (vpin oj h0 h1) dg k
theorem J.iast (hG : G T X own cc nL fr lo ret) {i n : Nat} {refs : List Nat} (hi : T[i]? = some (.inr (0, n, refs))) {j x : Int} (h0 : 0 ≤ j) (h1 : j < n) (dg : decode cc pc = .ok (.iastore, 1)) (kk : J T X nL (pc + 1) L (st) (up μ i j x)) : J T X nL pc L (aI x :: aI j :: aR i :: st) μ := by
  obtain ⟨p, l, e, R, s, m, args, below, meth, c, D, ad, cA, A, Post⟩ := X
  obtain ⟨hx, hb, hml, hown, hts, hK, hD, hA, hR, hret, hlocks, hT, hN, had⟩ := hG
  intro H locs ls hP hS hL oL oS oM
  obtain ⟨ov, oS⟩ := List.forall_mem_cons.mp oS
  obtain ⟨oj, oS⟩ := List.forall_mem_cons.mp oS
  obtain ⟨-, oS⟩ := List.forall_mem_cons.mp oS
  have oj : okI j := oj
  have hil : i < 1000 := Nat.lt_of_lt_of_le (List.getElem?_eq_some_iff.mp hi).1 hT
  refine va_iast (f := fun q : Nat => Int32.ofInt (μ i q)) hx hb hK hP (hD μ) hS i 0 (by rw [wOf_at hi, cE_arr _ _ _ _ _ _ _ (by decide)]) rfl (vpin oj h0 h1) dg (fun H1 locs1 hP1 hD1 hS1 => ?_)
  rw [wOf_set (μ' := up μ i j x) hT hi (cE_ast ad cA μ (by decide) oj h0) (fun c h1 h2 => ⟨up_cell μ _ _ (by omega), up_cell μ _ _ (by omega)⟩)] at hP1
  exact kk H1 locs1 ls hP1 hS1 hL oL oS (okM_up oM ov)
theorem J.zast (hG : G T X own cc nL fr lo ret) {i n : Nat} {refs : List Nat} (hi : T[i]? = some (.inr (1, n, refs))) {j x : Int} (h0 : 0 ≤ j) (h1 : j < n) (hz : x = 0 ∨ x = 1) (dg : decode cc pc = .ok (.bastore, 1)) (kk : J T X nL (pc + 1) L (st) (up μ i j x)) : J T X nL pc L (aI x :: aI j :: aR i :: st) μ := by
  obtain ⟨p, l, e, R, s, m, args, below, meth, c, D, ad, cA, A, Post⟩ := X
  obtain ⟨hx, hb, hml, hown, hts, hK, hD, hA, hR, hret, hlocks, hT, hN, had⟩ := hG
  intro H locs ls hP hS hL oL oS oM
  obtain ⟨ov, oS⟩ := List.forall_mem_cons.mp oS
  obtain ⟨oj, oS⟩ := List.forall_mem_cons.mp oS
  obtain ⟨-, oS⟩ := List.forall_mem_cons.mp oS
  have oj : okI j := oj
  have hil : i < 1000 := Nat.lt_of_lt_of_le (List.getElem?_eq_some_iff.mp hi).1 hT
  refine va_zast (f := fun q : Nat => Int32.ofInt (μ i q)) hx hb hK hP (hD μ) hS i 1 (by rw [wOf_at hi, cE_arr _ _ _ _ _ _ _ (by decide)]) rfl (vpin oj h0 h1) dg (fun H1 locs1 hP1 hD1 hS1 => ?_)
  have ez : vp_nar .boolean (Int32.ofInt x) = Int32.ofInt x := by rcases hz with rfl | rfl <;> rfl
  rw [ez] at hP1
  rw [wOf_set (μ' := up μ i j x) hT hi (cE_ast ad cA μ (by decide) oj h0) (fun c h1 h2 => ⟨up_cell μ _ _ (by omega), up_cell μ _ _ (by omega)⟩)] at hP1
  exact kk H1 locs1 ls hP1 hS1 hL oL oS (okM_up oM ov)
theorem J.mmax (hG : G T X own cc nL fr lo ret) {x y : Int} {idx : Nat} (hl : Cond.methodLink own idx Lib.Math.max.name ∈ BIG) (hfr : 1 ≤ fr) (hlo : 2 * st.length + 13 ≤ lo) (dg : decode cc pc = .ok (.invokestatic idx, 3)) (kk : J T X nL (pc + 3) L (aI (max x y) :: st) μ) : J T X nL pc L (aI y :: aI x :: st) μ := by
  obtain ⟨p, l, e, R, s, m, args, below, meth, c, D, ad, cA, A, Post⟩ := X
  obtain ⟨hx, hb, hml, hown, hts, hK, hD, hA, hR, hret, hlocks, hT, hN, had⟩ := hG
  intro H locs ls hP hS hL oL oS oM
  subst hR
  obtain ⟨oy, oS⟩ := List.forall_mem_cons.mp oS
  obtain ⟨ox, oS⟩ := List.forall_mem_cons.mp oS
  have ox : okI x := ox
  have oy : okI y := oy
  have k := kk H locs ls hP hS hL oL (List.forall_mem_cons.mpr ⟨(by omega : okI _), oS⟩) oM
  have e : cv ad (aI (max x y)) = .int (if Int32.ofInt x < Int32.ofInt y then Int32.ofInt y else Int32.ofInt x) := by
    show Value.int _ = _
    by_cases h : x < y
    · rw [if_pos ((i32_lt ox oy).mpr h)]
      congr 2
      omega
    · rw [if_neg (fun q => h ((i32_lt ox oy).mp q))]
      congr 2
      omega
  rw [List.map_cons, e] at k
  exact va_mmax hx hb (hml.trans hL.1.symm) hown (hts _ hl) (hts _ st_J9_max_7cf53) (hts _ ini_J9) (hts _ cd_max) hfr (Nat.le_trans (Nat.add_le_add_right (cats ad st) 13) hlo) (Nat.le_refl _) (Nat.le_refl _) dg k
theorem J.mmin (hG : G T X own cc nL fr lo ret) {x y : Int} {idx : Nat} (hl : Cond.methodLink own idx Lib.Math.min.name ∈ BIG) (hfr : 1 ≤ fr) (hlo : 2 * st.length + 13 ≤ lo) (dg : decode cc pc = .ok (.invokestatic idx, 3)) (kk : J T X nL (pc + 3) L (aI (min x y) :: st) μ) : J T X nL pc L (aI y :: aI x :: st) μ := by
  obtain ⟨p, l, e, R, s, m, args, below, meth, c, D, ad, cA, A, Post⟩ := X
  obtain ⟨hx, hb, hml, hown, hts, hK, hD, hA, hR, hret, hlocks, hT, hN, had⟩ := hG
  intro H locs ls hP hS hL oL oS oM
  subst hR
  obtain ⟨oy, oS⟩ := List.forall_mem_cons.mp oS
  obtain ⟨ox, oS⟩ := List.forall_mem_cons.mp oS
  have ox : okI x := ox
  have oy : okI y := oy
  have k := kk H locs ls hP hS hL oL (List.forall_mem_cons.mpr ⟨(by omega : okI _), oS⟩) oM
  have e : cv ad (aI (min x y)) = .int (if Int32.ofInt y < Int32.ofInt x then Int32.ofInt y else Int32.ofInt x) := by
    show Value.int _ = _
    by_cases h : y < x
    · rw [if_pos ((i32_lt oy ox).mpr h)]
      congr 2
      omega
    · rw [if_neg (fun q => h ((i32_lt oy ox).mp q))]
      congr 2
      omega
  rw [List.map_cons, e] at k
  exact va_mmin hx hb (hml.trans hL.1.symm) hown (hts _ hl) (hts _ st_J9_min_7cf53) (hts _ ini_J9) (hts _ cd_min) hfr (Nat.le_trans (Nat.add_le_add_right (cats ad st) 13) hlo) (Nat.le_refl _) (Nat.le_refl _) dg k
theorem J.mabs (hG : G T X own cc nL fr lo ret) {x : Int} {idx : Nat} (hl : Cond.methodLink own idx Lib.Math.abs.name ∈ BIG) (hm : -2147483648 < x) (hfr : 1 ≤ fr) (hlo : 2 * st.length + 13 ≤ lo) (dg : decode cc pc = .ok (.invokestatic idx, 3)) (kk : J T X nL (pc + 3) L (aI (if 0 ≤ x then x else 0 - x) :: st) μ) : J T X nL pc L (aI x :: st) μ := by
  obtain ⟨p, l, e, R, s, m, args, below, meth, c, D, ad, cA, A, Post⟩ := X
  obtain ⟨hx, hb, hml, hown, hts, hK, hD, hA, hR, hret, hlocks, hT, hN, had⟩ := hG
  intro H locs ls hP hS hL oL oS oM
  subst hR
  obtain ⟨ox, oS⟩ := List.forall_mem_cons.mp oS
  have ox : okI x := ox
  have k := kk H locs ls hP hS hL oL (List.forall_mem_cons.mpr ⟨(by split <;> omega : okI _), oS⟩) oM
  have e : cv ad (aI (if 0 ≤ x then x else 0 - x)) = .int (if 0 ≤ Int32.ofInt x then Int32.ofInt x else 0 - Int32.ofInt x) := by
    show Value.int _ = _
    have h9 : (0 : Int32) ≤ Int32.ofInt x ↔ 0 ≤ x := by rw [i32_0, i32_le ok0 ox]
    by_cases h : 0 ≤ x
    · rw [if_pos h, if_pos (h9.mpr h)]
    · rw [if_neg h, if_neg (fun q => h (h9.mp q)), Int32.ofInt_sub]
      rfl
  rw [List.map_cons, e] at k
  exact va_mabs hx hb (hml.trans hL.1.symm) hown (hts _ hl) (hts _ st_J9_abs_0f7a4) (hts _ ini_J9) (hts _ cd_abs) hfr (Nat.le_trans (Nat.add_le_add_right (cats ad st) 13) hlo) (Nat.le_refl _) (Nat.le_refl _) dg k
theorem J.copy (hG : G T X own cc nL fr lo ret) {a b na nb : Nat} {ra rb : List Nat} {n : Int} (ha : T[a]? = some (.inr (0, na, ra))) (hbb : T[b]? = some (.inr (0, nb, rb))) (h0 : 0 ≤ n) (h1 : n ≤ na) (h2 : n ≤ nb) {idx : Nat} (hl : Cond.methodLink own idx arraycopyName ∈ BIG) (hfr : 1 ≤ fr) (hlo : 2 * st.length + 18 ≤ lo) (dg : decode cc pc = .ok (.invokestatic idx, 3)) (kk : J T X nL (pc + 3) L (st) (cpy μ a b n)) : J T X nL pc L (aI n :: aI 0 :: aR b :: aI 0 :: aR a :: st) μ := by
  obtain ⟨p, l, e, R, s, m, args, below, meth, c, D, ad, cA, A, Post⟩ := X
  obtain ⟨hx, hb, hml, hown, hts, hK, hD, hA, hR, hret, hlocks, hT, hN, had⟩ := hG
  intro H locs ls hP hS hL oL oS oM
  subst hR
  obtain ⟨on, oS⟩ := List.forall_mem_cons.mp oS
  obtain ⟨-, oS⟩ := List.forall_mem_cons.mp oS
  obtain ⟨-, oS⟩ := List.forall_mem_cons.mp oS
  obtain ⟨-, oS⟩ := List.forall_mem_cons.mp oS
  obtain ⟨-, oS⟩ := List.forall_mem_cons.mp oS
  have on : okI n := on
  have hal : a < 1000 := Nat.lt_of_lt_of_le (List.getElem?_eq_some_iff.mp ha).1 hT
  have e0 : (Int32.ofInt 0).toNatClampNeg = 0 := rfl
  have nn : (Int32.ofInt n).toNatClampNeg = n.toNat := toNI on
  refine va_copyi (f := fun q : Nat => Int32.ofInt (μ a q)) (g := fun q : Nat => Int32.ofInt (μ b q)) hx hb (hml.trans hL.1.symm) hown (hts _ hl) (hts _ nat_arraycopy) (hts _ st_arraycopy) (hts _ ini_J10) hK hP (hD μ) hS a b 0 0 (by rw [wOf_at ha, cE_arr _ _ _ _ _ _ _ (by decide)]) (by rw [wOf_at hbb, cE_arr _ _ _ _ _ _ _ (by decide)]) rfl rfl rfl (sp := Int32.ofInt 0) (dp := Int32.ofInt 0) (n := Int32.ofInt n) (by decide) (by decide) (by rw [i32_0, i32_lt on ok0]; omega) (by rw [e0, nn]; omega) (by rw [e0, nn]; omega) (fun i _ => rfl) hfr (Nat.le_trans (Nat.add_le_add_right (cats ad st) 18) hlo) dg (fun H1 locs1 hP1 hD1 hS1 => ?_)
  have he : (Sum.inl (cA 0, nb, .inl (va_cpy (fun q : Nat => Int32.ofInt (μ a q)) (fun q : Nat => Int32.ofInt (μ b q)) (Int32.ofInt 0).toNatClampNeg (Int32.ofInt 0).toNatClampNeg (Int32.ofInt n).toNatClampNeg)) : va_E) = cE ad cA (cpy μ a b n) b (.inr (0, nb, rb)) := by
    rw [cE_arr _ _ _ _ _ _ _ (by decide), e0, nn]
    congr 4
    funext q
    unfold va_cpy
    by_cases hq : q < n.toNat
    · rw [if_pos ⟨Nat.zero_le _, by omega⟩]
      show Int32.ofInt (μ a ((0 + (q - 0) : Nat) : Int)) = _
      have : cpy μ a b n b q = μ a q := by unfold cpy; exact if_pos ⟨rfl, by omega, by omega⟩
      rw [this, Nat.zero_add, Nat.sub_zero]
    · rw [if_neg (fun z => hq (by omega))]
      have : cpy μ a b n b q = μ b q := by unfold cpy; exact if_neg (fun z => hq (by omega))
      rw [this]
  have hbl : b < 1000 := Nat.lt_of_lt_of_le (List.getElem?_eq_some_iff.mp hbb).1 hT
  rw [wOf_set (μ' := cpy μ a b n) hT hbb he (fun c h1 h2 => ⟨cpy_ne μ n h1, cpy_ne μ n (by omega)⟩)] at hP1
  exact kk H1 locs1 ls hP1 hS1 hL oL oS (okM_cpy oM hal)
theorem J.iret (hG : G T X own cc nL fr lo (some .int)) {x : Int} (dg : decode cc pc = .ok (.ireturn, 1)) (hp : PostX X (some (aI x)) μ) : J T X nL pc L [aI x] μ := by
  obtain ⟨p, l, e, R, s, m, args, below, meth, c, D, ad, cA, A, Post⟩ := X
  obtain ⟨hx, hb, hml, hown, hts, hK, hD, hA, hR, hret, hlocks, hT, hN, had⟩ := hG
  intro H locs ls hP hS hL oL oS oM
  exact W.iret (v := Int32.ofInt x) hx hb hret (fun t ht hW => ⟨⟨(some (aI x)), μ, rfl, hp, (fun v hv => by cases hv; exact (List.forall_mem_cons.mp oS).1), oM, by rw [ht]; exact hP⟩, hS.F ht⟩) hS.2.2 dg (hlocks := hlocks)
theorem J.zret (hG : G T X own cc nL fr lo (some .boolean)) {x : Int} (hz : x = 0 ∨ x = 1) (dg : decode cc pc = .ok (.ireturn, 1)) (hp : PostX X (some (aI x)) μ) : J T X nL pc L [aI x] μ := by
  obtain ⟨p, l, e, R, s, m, args, below, meth, c, D, ad, cA, A, Post⟩ := X
  obtain ⟨hx, hb, hml, hown, hts, hK, hD, hA, hR, hret, hlocks, hT, hN, had⟩ := hG
  intro H locs ls hP hS hL oL oS oM
  exact W.zret (v := Int32.ofInt x) hx hb hret (by rcases hz with rfl | rfl <;> rfl) (fun t ht hW => ⟨⟨(some (aI x)), μ, rfl, hp, (fun v hv => by cases hv; exact (List.forall_mem_cons.mp oS).1), oM, by rw [ht]; exact hP⟩, hS.F ht⟩) hS.2.2 dg (hlocks := hlocks)
theorem J.lret (hG : G T X own cc nL fr lo (some .long)) {x : Int} (dg : decode cc pc = .ok (.lreturn, 1)) (hp : PostX X (some (aL x)) μ) : J T X nL pc L [aL x] μ := by
  obtain ⟨p, l, e, R, s, m, args, below, meth, c, D, ad, cA, A, Post⟩ := X
  obtain ⟨hx, hb, hml, hown, hts, hK, hD, hA, hR, hret, hlocks, hT, hN, had⟩ := hG
  intro H locs ls hP hS hL oL oS oM
  exact W.lret (v := Int64.ofInt x) hx hb hret (fun t ht hW => ⟨⟨(some (aL x)), μ, rfl, hp, (fun v hv => by cases hv; trivial), oM, by rw [ht]; exact hP⟩, hS.F ht⟩) hS.2.2 dg (hlocks := hlocks)
theorem J.vret (hG : G T X own cc nL fr lo (none)) (dg : decode cc pc = .ok (.return_, 1)) (hp : PostX X none μ) : J T X nL pc L [] μ := by
  obtain ⟨p, l, e, R, s, m, args, below, meth, c, D, ad, cA, A, Post⟩ := X
  obtain ⟨hx, hb, hml, hown, hts, hK, hD, hA, hR, hret, hlocks, hT, hN, had⟩ := hG
  intro H locs ls hP hS hL oL oS oM
  exact W.vret hx hb hret (fun t ht hW => ⟨⟨none, μ, rfl, hp, (fun v hv => by cases hv), oM, by rw [ht]; exact hP⟩, hS.F ht⟩) hS.2.2 dg (hlocks := hlocks)
end JF
abbrev Md : Type := MethodName × ByteArray × Nat × Option FieldType × Nat × Nat
def wsOf (d : Md) : List Cond := Cond.code d.1 d.2.1 d.2.2.1 d.2.2.2.1 :: BIG
def rmOf (d : Md) : Room := { frames := d.2.2.2.2.1, cells := 0, slots := 0, locals := d.2.2.2.2.2 }
def AA (T : List Sh) (ad : Nat → Nat) (sz : Nat) : Nat → Prop := fun q => (∃ k, k < T.length ∧ q = ad k) ∨ sz ≤ q
def CPre (T : List Sh) (D : va_G) (ad : Nat → Nat) (cA : Nat → ClassId) (sz : Nat) (μ : Mem) : State → Prop := fun U => U.heap.size = sz ∧ va_P D vwCl (wOf T ad cA μ) U.heap ∧ va_K D vwCl (tysOf cA) U ∧ ∀ w ∈ nestW, va_Nw w U
/-- A METHOD'S CONTRACT in numbers: from these arguments and this memory it returns, and Post says with what and with which memory -/
def CT (T : List Sh) (d : Md) (as : List AV) (μ : Mem) (Post : Option AV → Mem → Prop) : Prop :=
  (∀ v ∈ as, okV v) → okM μ → ∀ (l : Launch) (D : va_G) (ad : Nat → Nat) (cA : Nat → ClassId) (sz : Nat), (∀ i j, i < T.length → j < T.length → ad i = ad j → i = j) → Met l d.1 (wsOf d) (rmOf d) (va_Pc (as.map (cv ad)) (CPre T D ad cA sz μ)) (QC T ad cA D (AA T ad sz) Post) 0 0 (AA T ad sz)
theorem wOf_D {T : List Sh} {ad : Nat → Nat} {cA : Nat → ClassId} {A : Nat → Prop} (had : ∀ i j, i < T.length → j < T.length → ad i = ad j → i = j) (hA : ∀ k, k < T.length → A (ad k)) (μ : Mem) : va_D A (wOf T ad cA μ) := by
  have at' : ∀ (k : Nat) (q : Nat × va_E), (wOf T ad cA μ)[k]? = some q → k < T.length ∧ q.1 = ad k := by
    intro k q hq
    have hl : k < T.length := by simpa [wOf] using (List.getElem?_eq_some_iff.mp hq).1
    rw [wOf_at (List.getElem?_eq_getElem hl)] at hq
    cases hq
    exact ⟨hl, rfl⟩
  refine ⟨fun i j p q hi hj hpq => ?_, fun k q hk => ?_⟩
  · obtain ⟨h1, h2⟩ := at' i p hi
    obtain ⟨h3, h4⟩ := at' j q hj
    exact had i j h1 h3 (by rw [← h2, ← h4]; exact hpq)
  · obtain ⟨h1, h2⟩ := at' k q hk
    rw [h2]
    exact hA k h1
theorem lg_nolong (vs : List Value) (h : ∀ v ∈ vs, v.category = 1) : (lg_sl vs).length = vs.length := by
  induction vs with
  | nil => rfl
  | cons a l ih =>
    have h1 := h a List.mem_cons_self
    have h2 := ih (fun v hv => h v (List.mem_cons_of_mem _ hv))
    simp only [lg_sl, List.flatMap_cons, List.length_append, List.length_cons] at h2 ⊢
    rw [if_neg (by omega), h2]
    simp only [List.length_cons, List.length_nil]
    omega
theorem lv_args_at (vs : List Value) (h : ∀ v ∈ vs, v.category = 1) : ∀ (k i : Nat) (v : Value), vs[i]? = some v → (k + i, v) ∈ lv_args k vs := by
  induction vs with
  | nil => intro k i v hv; simp at hv
  | cons a l ih =>
    intro k i v hv
    have h1 := h a List.mem_cons_self
    simp only [lv_args, if_neg (show ¬ a.category = 2 by omega)]
    cases i with
    | zero =>
      rw [List.getElem?_cons_zero] at hv
      cases hv
      exact List.mem_cons_self
    | succ i =>
      rw [List.getElem?_cons_succ] at hv
      have := ih (fun v hv => h v (List.mem_cons_of_mem _ hv)) (k + 1) i v hv
      rw [show k + 1 + i = k + (i + 1) by omega] at this
      exact List.mem_cons_of_mem _ this
def noLong (v : AV) : Bool := match v with
  | .inr (.inr _) => false
  | _ => true
theorem noLong_cat {ad : Nat → Nat} {as : List AV} (h : as.all noLong = true) : ∀ v ∈ as.map (cv ad), v.category = 1 := by
  intro v hv
  obtain ⟨a, ha, rfl⟩ := List.mem_map.mp hv
  have h1 := List.all_eq_true.mp h a ha
  match a, h1 with
  | .inl x, _ => rfl
  | .inr (.inl i), _ => rfl
theorem CT.of {T : List Sh} {d : Md} {as : List AV} {μ : Mem} {Post : Option AV → Mem → Prop} (hT : T.length ≤ 1000) (hy : plainName d.1.cls = true) (has : as.all noLong = true) (hlen : as.length ≤ d.2.2.1)
    (h : ∀ X, G T X d.1.cls d.2.1 d.2.2.1 d.2.2.2.2.1 d.2.2.2.2.2 d.2.2.2.1 → PostX X = Post → J T X d.2.2.1 0 (as.map some ++ List.replicate (d.2.2.1 - as.length) none) [] μ) : CT T d as μ Post := by
  intro oas oM l D ad cA sz had
  obtain ⟨y, cc, n, ret, fr, lo⟩ := d
  refine Met.ofW (cc := cc) (maxL := n) (ret := ret) hy rfl ?_
  intro p e s m args below meth c s₁ B hml hv
  obtain ⟨rfl, hsz, hP, hK, hN⟩ := hv
  have hts := atoms_spec (ws := wsOf (y, cc, n, ret, fr, lo)) B.pre
  subst hsz
  have g : G T (p, l, e, ({ frames := fr, cells := 0, slots := 0, locals := lo } : Room), s, m, (as.map (cv ad)).toArray, below, meth, c, D, ad, cA, AA T ad s.heap.size, Post) y.cls cc n fr lo ret := ⟨B.exec, B.bytes, hml, findClass_of_methodNamed B.named, fun w hw => hts w (List.mem_cons_of_mem _ hw), hK, wOf_D had (fun k hk => Or.inl ⟨k, hk, rfl⟩), fun q hq => Or.inr hq, rfl, B.returns, B.notSynchronized, hT, hN, had⟩
  have k := h _ g rfl
  have hc := noLong_cat (ad := ad) has
  have hl := lv_entry (as.map (cv ad)) (n := n) (by rw [lg_nolong _ hc]; simpa using hlen)
  rw [lg_entry_eq]
  refine k s.heap [] _ hP va_S.rf ⟨hl.1, hl.2.1, fun i v hv => ?_⟩ (fun v hv => ?_) (fun v hv => by cases hv) oM
  · have hv' : as[i]? = some v := by
      by_cases hi : i < as.length
      · rw [List.getElem?_append_left (by simpa using hi), List.getElem?_map] at hv
        cases ha : as[i]? with
        | none => rw [ha] at hv; cases hv
        | some w => rw [ha] at hv; cases hv; rfl
      · rw [List.getElem?_append_right (by simpa using hi), List.getElem?_replicate] at hv
        split at hv <;> cases hv
    have hm : (as.map (cv ad))[i]? = some (cv ad v) := by rw [List.getElem?_map, hv']; rfl
    have := lv_args_at _ hc 0 i _ hm
    rw [Nat.zero_add] at this
    exact ⟨hl.2.2 _ this, hc _ (List.mem_of_getElem? hm)⟩
  · rcases List.mem_append.mp hv with h1 | h1
    · obtain ⟨w, hw, hw2⟩ := List.mem_map.mp h1
      cases hw2
      exact oas v hw
    · have := (List.mem_replicate.mp h1).2
      cases this
/-- what a caller needs of the method itself -/
def OkV (d : Md) (n : Nat) : Prop := Cond.code d.1 d.2.1 d.2.2.1 d.2.2.2.1 ∈ BIG ∧ Cond.initialized d.1.cls ∈ BIG ∧ (Cond.instanceMethod d.1 ∈ BIG ∧ Cond.selects d.1.cls d.1 d.1 ∈ BIG) ∧ (d.1.cls ≠ "java/lang/invoke/MethodHandle" ∧ d.1.cls ≠ "java/lang/invoke/VarHandle") ∧ (parseMethodDescriptor d.1.desc).map (fun d => d.parameters.length) = some n
def OkS (d : Md) (n : Nat) : Prop := Cond.code d.1 d.2.1 d.2.2.1 d.2.2.2.1 ∈ BIG ∧ Cond.initialized d.1.cls ∈ BIG ∧ Cond.static d.1 ∈ BIG ∧ (d.1.cls ≠ "java/lang/invoke/MethodHandle" ∧ d.1.cls ≠ "java/lang/invoke/VarHandle") ∧ (parseMethodDescriptor d.1.desc).map (fun d => d.parameters.length) = some n
theorem wsOf_good {d : Md} (h : Cond.code d.1 d.2.1 d.2.2.1 d.2.2.2.1 ∈ BIG) : GoodIn BIG (wsOf d) := by
  intro w hw
  rcases List.mem_cons.mp hw with h1 | h1
  · rw [h1]; exact ⟨h, good_of_word (big_good h)⟩
  · exact ⟨h1, good_of_word (big_good h1)⟩
theorem CPre_blind {T : List Sh} {D : va_G} {ad : Nat → Nat} {cA : Nat → ClassId} {sz : Nat} {μ : Mem} {av : List Value} : FrameBlind (va_Pc av (CPre T D ad cA sz μ)) := fun a U g mk q => by
  obtain ⟨q0, q1, qP, qK, qN⟩ := q
  exact ⟨q0, q1, qP, va_K.moved (u := U) (U := U.calling g mk a) (Vm.Alike.refl U.vm) qK, nest_same (s := U) (U := U.calling g mk a) rfl qN⟩
theorem AA_sub {T : List Sh} {ad : Nat → Nat} {cA : Nat → ClassId} {A : Nat → Prop} {s0 sz : Nat} {μ : Mem} (hD : va_D A (wOf T ad cA μ)) (hA : ∀ q, s0 ≤ q → A q) (hs : s0 ≤ sz) : ∀ q, AA T ad sz q → A q := by
  intro q h
  rcases h with ⟨k, hk, rfl⟩ | h
  · exact hD.2 k _ (wOf_at (List.getElem?_eq_getElem hk))
  · exact hA q (Nat.le_trans hs h)
section JC
variable {T : List Sh} {X : Cx} {own : String} {cc : ByteArray} {nL fr lo : Nat} {ret : Option FieldType} {pc : Nat} {L : List (Option AV)} {st rest : List AV} {μ : Mem} {d : Md} {n idx : Nat} {as : List AV} {P : Option AV → Mem → Prop}
theorem J.callV (hG : G T X own cc nL fr lo ret) {i ci : Nat} {codes : List Nat} {q : vw_C} (hc : CT T d (aR i :: as) μ P) (ok : OkV d n) (hl : Cond.methodLink own idx d.1 ∈ BIG) (hi : T[i]? = some (.inl (ci, codes))) (hq : vwCl[ci]? = some q) (hqc : q.1 = d.1.cls) (hn : as.length = n) (hrest : rest.length ≤ 4) (hroom : d.2.2.2.2.1 + 1 ≤ fr ∧ 8 + (d.2.2.1 + 11) + d.2.2.2.2.2 ≤ lo) (dg : decode cc pc = .ok (.invokevirtual idx, 3)) (hst : st = as.reverse ++ aR i :: rest) (kk : ∀ r μ', P r μ' → J T X nL (pc + 3) L (r.toList ++ rest) μ') : J T X nL pc L st μ := by
  obtain ⟨p, l, e, R, s, m, args, below, meth, c, D, ad, cA, A, Post⟩ := X
  obtain ⟨hx, hb, hml, hown, hts, hK, hD, hA, hR, hret, hlocks, hT, hN, had⟩ := hG
  subst hR
  subst hst
  intro H locs ls hP hS hL oL oS oM
  have oas : ∀ v ∈ aR i :: as, okV v := fun v hv => oS v (by simp only [List.mem_append, List.mem_cons, List.mem_reverse] at hv ⊢; rcases hv with h | h; exact Or.inr (Or.inl h); exact Or.inl h)
  have orest : ∀ v ∈ rest, okV v := fun v hv => oS v (by simp only [List.mem_append, List.mem_cons]; exact Or.inr (Or.inr hv))
  have hM := hc oas oM l D ad cA H.size had
  have cw : CallW ({ frames := fr, cells := 0, slots := 0, locals := lo } : Room) s args own d.1.cls idx d.1 d.2.1 d.2.2.1 d.2.2.2.1 (wsOf d) (rmOf d) 0 0 n := ⟨callB_of (ret := d.2.2.2.1) (mc := 0) (ms := 0) n hts (wsOf_good ok.1) rfl rfl rfl (hts _ ok.2.1) (hts _ hl) ⟨ok.2.2.2.1.1, ok.2.2.2.1.2, ok.2.2.2.2⟩ hroom, hts _ ok.2.2.1.1, hts _ ok.2.2.1.2⟩
  have hp : PreV s H d.1.cls (ad i) (va_Pc ((aR i :: as).map (cv ad)) (CPre T D ad cA H.size μ)) (as.map (cv ad)) := ⟨CPre_blind, by rw [← hqc]; exact va_recv hK hP hq (wOf_at hi), fun U hU hW => ⟨rfl, by rw [hU], by rw [hU]; exact hP, va_K.moved hW.alike hK, nest_warm hW hN⟩⟩
  have run := va_runV (As := as.map (cv ad)) (rest := rest.map (cv ad)) (cells := 0) (slots := 0) (H := H) (locs := locs) (below := below) (meth := meth) (e := e) (g := F0 m pc ls ((as.reverse ++ aR i :: rest).map (cv ad))) ⟨hx, hb, hml, hown, hts⟩ hM cw hp rfl (by rw [List.length_map]; exact hn) hL.1 (by simp [cv]) (lv_room (Nat.le_trans (cats ad rest) (by omega))) dg ⟨Nat.le_refl _, Nat.le_refl _⟩
  intro T0 hT0 X0
  obtain ⟨v, st₀, t, T', Lk, h0, X', hLk, e1, e2, ⟨⟨r, μ', hv, hp', okr, oM', hP'⟩, hz, hk⟩, stp⟩ := run T0 hT0 X0
  cases hv
  rw [h0] at hz hk
  have hsub := AA_sub (sz := H.size) (hD μ) hA hS.1
  have k := kk r μ' hp' T'.heap (locs ++ Lk) ls (by rw [e1]; exact hP') ⟨Nat.le_trans hS.1 (by rw [e1]; exact hz), fun q h1 h2 => by rw [e1, hk q (Nat.lt_of_lt_of_le h1 hS.1) (fun z => h2 (hsub q z))]; exact hS.2.1 q h1 h2, fun q hq => by
      rcases List.mem_append.mp hq with h | h
      · exact hS.2.2 q h
      · exact hsub _ (hLk q h)⟩ hL oL (fun v hv => by
      rcases List.mem_append.mp hv with h | h
      · exact okr v (Option.mem_toList.mp h)
      · exact orest v h) oM'
  have e3 : (r.toList ++ rest).map (cv ad) = (r.map (cv ad)).toList ++ rest.map (cv ad) := by cases r <;> rfl
  rw [e3] at k
  obtain ⟨t2, a1, b1⟩ := k T' rfl X'
  exact ⟨t2, stp t2 a1, b1⟩
theorem J.callS (hG : G T X own cc nL fr lo ret) (hc : CT T d (as) μ P) (ok : OkS d n) (hl : Cond.methodLink own idx d.1 ∈ BIG) (hn : as.length = n) (hrest : rest.length ≤ 4) (hroom : d.2.2.2.2.1 + 1 ≤ fr ∧ 8 + (d.2.2.1 + 11) + d.2.2.2.2.2 ≤ lo) (dg : decode cc pc = .ok (.invokestatic idx, 3)) (hst : st = as.reverse ++ rest) (kk : ∀ r μ', P r μ' → J T X nL (pc + 3) L (r.toList ++ rest) μ') : J T X nL pc L st μ := by
  obtain ⟨p, l, e, R, s, m, args, below, meth, c, D, ad, cA, A, Post⟩ := X
  obtain ⟨hx, hb, hml, hown, hts, hK, hD, hA, hR, hret, hlocks, hT, hN, had⟩ := hG
  subst hR
  subst hst
  intro H locs ls hP hS hL oL oS oM
  have oas : ∀ v ∈ as, okV v := fun v hv => oS v (by simp only [List.mem_append, List.mem_cons, List.mem_reverse] at hv ⊢; exact Or.inl hv)
  have orest : ∀ v ∈ rest, okV v := fun v hv => oS v (by simp only [List.mem_append, List.mem_cons]; exact Or.inr hv)
  have hM := hc oas oM l D ad cA H.size had
  have cw : CallB ({ frames := fr, cells := 0, slots := 0, locals := lo } : Room) s args own idx d.1 d.2.1 d.2.2.1 d.2.2.2.1 (wsOf d) (rmOf d) 0 0 n ∧ (Cond.static d.1).before args s = true := ⟨callB_of (ret := d.2.2.2.1) (mc := 0) (ms := 0) n hts (wsOf_good ok.1) rfl rfl rfl (hts _ ok.2.1) (hts _ hl) ⟨ok.2.2.2.1.1, ok.2.2.2.1.2, ok.2.2.2.2⟩ hroom, hts _ ok.2.2.1⟩
  have hp : PreS s H (va_Pc (as.map (cv ad)) (CPre T D ad cA H.size μ)) (as.map (cv ad)) := ⟨CPre_blind, fun U hU hW => ⟨rfl, by rw [hU], by rw [hU]; exact hP, va_K.moved hW.alike hK, nest_warm hW hN⟩⟩
  have run := va_runS (As := as.map (cv ad)) (rest := rest.map (cv ad)) (cells := 0) (slots := 0) (H := H) (locs := locs) (below := below) (meth := meth) (e := e) (g := F0 m pc ls ((as.reverse ++ rest).map (cv ad))) ⟨hx, hb, hml, hown, hts⟩ hM cw hp rfl (by rw [List.length_map]; exact hn) hL.1 (by simp) (lv_room (Nat.le_trans (cats ad rest) (by omega))) dg ⟨Nat.le_refl _, Nat.le_refl _⟩
  intro T0 hT0 X0
  obtain ⟨v, st₀, t, T', Lk, h0, X', hLk, e1, e2, ⟨⟨r, μ', hv, hp', okr, oM', hP'⟩, hz, hk⟩, stp⟩ := run T0 hT0 X0
  cases hv
  rw [h0] at hz hk
  have hsub := AA_sub (sz := H.size) (hD μ) hA hS.1
  have k := kk r μ' hp' T'.heap (locs ++ Lk) ls (by rw [e1]; exact hP') ⟨Nat.le_trans hS.1 (by rw [e1]; exact hz), fun q h1 h2 => by rw [e1, hk q (Nat.lt_of_lt_of_le h1 hS.1) (fun z => h2 (hsub q z))]; exact hS.2.1 q h1 h2, fun q hq => by
      rcases List.mem_append.mp hq with h | h
      · exact hS.2.2 q h
      · exact hsub _ (hLk q h)⟩ hL oL (fun v hv => by
      rcases List.mem_append.mp hv with h | h
      · exact okr v (Option.mem_toList.mp h)
      · exact orest v h) oM'
  have e3 : (r.toList ++ rest).map (cv ad) = (r.map (cv ad)).toList ++ rest.map (cv ad) := by cases r <;> rfl
  rw [e3] at k
  obtain ⟨t2, a1, b1⟩ := k T' rfl X'
  exact ⟨t2, stp t2 a1, b1⟩
theorem J.callSN (hG : G T X own cc nL fr lo ret) (hc : CT T d (as) μ P) (ok : OkS d n) (hl : Cond.methodLinkNest own idx d.1 RX6 ∈ nestW) (hn : as.length = n) (hrest : rest.length ≤ 4) (hroom : d.2.2.2.2.1 + 1 ≤ fr ∧ 8 + (d.2.2.1 + 11) + d.2.2.2.2.2 ≤ lo) (dg : decode cc pc = .ok (.invokestatic idx, 3)) (hst : st = as.reverse ++ rest) (kk : ∀ r μ', P r μ' → J T X nL (pc + 3) L (r.toList ++ rest) μ') : J T X nL pc L st μ := by
  obtain ⟨p, l, e, R, s, m, args, below, meth, c, D, ad, cA, A, Post⟩ := X
  obtain ⟨hx, hb, hml, hown, hts, hK, hD, hA, hR, hret, hlocks, hT, hN, had⟩ := hG
  subst hR
  subst hst
  intro H locs ls hP hS hL oL oS oM
  have oas : ∀ v ∈ as, okV v := fun v hv => oS v (by simp only [List.mem_append, List.mem_cons, List.mem_reverse] at hv ⊢; exact Or.inl hv)
  have orest : ∀ v ∈ rest, okV v := fun v hv => oS v (by simp only [List.mem_append, List.mem_cons]; exact Or.inr hv)
  have hM := hc oas oM l D ad cA H.size had
  have cw : va_CN ({ frames := fr, cells := 0, slots := 0, locals := lo } : Room) s args own idx d.1 RX6 d.2.1 d.2.2.1 d.2.2.2.1 (wsOf d) (rmOf d) 0 0 n ∧ (Cond.static d.1).before args s = true ∧ True := ⟨va_cnB (ret := d.2.2.2.1) (mc := 0) (ms := 0) n hts (wsOf_good ok.1) rfl rfl rfl (hN _ hl) (hts _ ok.2.1) ⟨ok.2.2.2.1.1, ok.2.2.2.1.2, ok.2.2.2.2⟩ hroom, hts _ ok.2.2.1, trivial⟩
  have hp : PreS s H (va_Pc (as.map (cv ad)) (CPre T D ad cA H.size μ)) (as.map (cv ad)) := ⟨CPre_blind, fun U hU hW => ⟨rfl, by rw [hU], by rw [hU]; exact hP, va_K.moved hW.alike hK, nest_warm hW hN⟩⟩
  have run := va_runSN (As := as.map (cv ad)) (rest := rest.map (cv ad)) (cells := 0) (slots := 0) (H := H) (locs := locs) (below := below) (meth := meth) (e := e) (g := F0 m pc ls ((as.reverse ++ rest).map (cv ad))) ⟨hx, hb, hml, hown, hts⟩ hM cw hp rfl (by rw [List.length_map]; exact hn) hL.1 (by simp) (lv_room (Nat.le_trans (cats ad rest) (by omega))) dg ⟨Nat.le_refl _, Nat.le_refl _⟩
  intro T0 hT0 X0
  obtain ⟨v, st₀, t, T', Lk, h0, X', hLk, e1, e2, ⟨⟨r, μ', hv, hp', okr, oM', hP'⟩, hz, hk⟩, stp⟩ := run T0 hT0 X0
  cases hv
  rw [h0] at hz hk
  have hsub := AA_sub (sz := H.size) (hD μ) hA hS.1
  have k := kk r μ' hp' T'.heap (locs ++ Lk) ls (by rw [e1]; exact hP') ⟨Nat.le_trans hS.1 (by rw [e1]; exact hz), fun q h1 h2 => by rw [e1, hk q (Nat.lt_of_lt_of_le h1 hS.1) (fun z => h2 (hsub q z))]; exact hS.2.1 q h1 h2, fun q hq => by
      rcases List.mem_append.mp hq with h | h
      · exact hS.2.2 q h
      · exact hsub _ (hLk q h)⟩ hL oL (fun v hv => by
      rcases List.mem_append.mp hv with h | h
      · exact okr v (Option.mem_toList.mp h)
      · exact orest v h) oM'
  have e3 : (r.toList ++ rest).map (cv ad) = (r.map (cv ad)).toList ++ rest.map (cv ad) := by cases r <;> rfl
  rw [e3] at k
  obtain ⟨t2, a1, b1⟩ := k T' rfl X'
  exact ⟨t2, stp t2 a1, b1⟩
end JC
end
section
/-- the cells of the class, in the order of their making -/
def TX : List Sh := [.inl (6, [3, 15, 19, 23, 65, 66, 67, 73, 77, 78, 1]), .inl (5, [0, 4, 8, 12, 13, 14, 0, 0, 0, 0]), .inl (1, [0, 0, 0, 0, 5, 6, 7]), .inr (0, 4, []), .inr (0, 16, []), .inr (0, 8, []), .inl (2, [0, 0, 9, 10, 11]), .inr (0, 16, []), .inr (0, 4, []), .inr (0, 4, []), .inr (0, 200, []), .inr (0, 201, []), .inr (0, 201, []), .inl (1, [0, 0, 0, 0, 16, 17, 18]), .inr (0, 4, []), .inr (0, 16, []), .inr (0, 8, []), .inl (2, [0, 0, 20, 21, 22]), .inr (0, 16, []), .inr (0, 4, []), .inr (0, 4, []), .inl (3, [0, 0, 24]), .inr (2, 10, [23, 27, 31, 35, 39, 43, 47, 51, 55, 59]), .inl (2, [0, 0, 26, 27, 28]), .inr (0, 16, []), .inr (0, 4, []), .inr (0, 4, []), .inl (2, [0, 0, 30, 31, 32]), .inr (0, 16, []), .inr (0, 4, []), .inr (0, 4, []), .inl (2, [0, 0, 34, 35, 36]), .inr (0, 16, []), .inr (0, 4, []), .inr (0, 4, []), .inl (2, [0, 0, 38, 39, 40]), .inr (0, 16, []), .inr (0, 4, []), .inr (0, 4, []), .inl (2, [0, 0, 42, 43, 44]), .inr (0, 16, []), .inr (0, 4, []), .inr (0, 4, []), .inl (2, [0, 0, 46, 47, 48]), .inr (0, 16, []), .inr (0, 4, []), .inr (0, 4, []), .inl (2, [0, 0, 50, 51, 52]), .inr (0, 16, []), .inr (0, 4, []), .inr (0, 4, []), .inl (2, [0, 0, 54, 55, 56]), .inr (0, 16, []), .inr (0, 4, []), .inr (0, 4, []), .inl (2, [0, 0, 58, 59, 60]), .inr (0, 16, []), .inr (0, 4, []), .inr (0, 4, []), .inl (2, [0, 0, 62, 63, 64]), .inr (0, 16, []), .inr (0, 4, []), .inr (0, 4, []), .inr (2, 2, [77, 81]), .inr (1, 2, []), .inl (0, [0, 68, 69, 70, 71, 72]), .inr (0, 5, []), .inr (0, 5, []), .inr (0, 5, []), .inr (0, 5, []), .inr (0, 4, []), .inl (4, [0, 74, 75, 76]), .inr (0, 6, []), .inr (0, 6, []), .inr (0, 6, []), .inr (0, 8, []), .inr (0, 100, []), .inl (2, [0, 0, 80, 81, 82]), .inr (0, 16, []), .inr (0, 4, []), .inr (0, 4, []), .inl (2, [0, 0, 84, 85, 86]), .inr (0, 16, []), .inr (0, 4, []), .inr (0, 4, [])]
/-- the cells of the reference, in the order of their making -/
def TM : List Sh := [.inl (7, [0, 1, 3, 0, 0, 0, 0, 0, 0, 4, 5, 6, 7, 8, 0, 0, 0, 0, 0, 0, 0, 0, 9, 10, 11, 12, 13, 0, 14, 15, 0, 16, 17, 18, 0, 19, 20, 21, 22]), .inr (0, 200, []), .inr (0, 8, []), .inr (0, 16, []), .inr (0, 32, []), .inr (0, 32, []), .inr (0, 16, []), .inr (0, 26, []), .inr (0, 26, []), .inr (0, 52, []), .inr (1, 2, []), .inr (0, 260, []), .inr (0, 5, []), .inr (0, 5, []), .inr (0, 6, []), .inr (0, 6, []), .inr (0, 6, []), .inr (0, 5, []), .inr (0, 5, []), .inr (0, 8, []), .inr (0, 100, [])]
abbrev md_X0_adds : Md := (yX0_adds, cX0_adds, 3, none, 0, 0)
theorem ok_X0_adds : OkV md_X0_adds 2 := ⟨cd_X0_adds, ini_X0, ⟨im_X0_adds, sl_X0_adds⟩, by decide +kernel, by decide +kernel⟩
abbrev md_X0_keepsAsFirst : Md := (yX0_keepsAsFirst, cX0_keepsAsFirst, 1, none, 1, 30)
theorem ok_X0_keepsAsFirst : OkV md_X0_keepsAsFirst 0 := ⟨cd_X0_keepsAsFirst, ini_X0, ⟨im_X0_keepsAsFirst, sl_X0_keepsAsFirst⟩, by decide +kernel, by decide +kernel⟩
abbrev md_X0_startsOrders : Md := (yX0_startsOrders, cX0_startsOrders, 4, (some .int), 0, 0)
theorem ok_X0_startsOrders : OkV md_X0_startsOrders 1 := ⟨cd_X0_startsOrders, ini_X0, ⟨im_X0_startsOrders, sl_X0_startsOrders⟩, by decide +kernel, by decide +kernel⟩
abbrev md_X0_goesToNextOrder : Md := (yX0_goesToNextOrder, cX0_goesToNextOrder, 5, (some .boolean), 1, 23)
theorem ok_X0_goesToNextOrder : OkV md_X0_goesToNextOrder 1 := ⟨cd_X0_goesToNextOrder, ini_X0, ⟨im_X0_goesToNextOrder, sl_X0_goesToNextOrder⟩, by decide +kernel, by decide +kernel⟩
abbrev md_X0_lastRising : Md := (yX0_lastRising, cX0_lastRising, 3, (some .int), 0, 0)
theorem ok_X0_lastRising : OkV md_X0_lastRising 1 := ⟨cd_X0_lastRising, ini_X0, ⟨im_X0_lastRising, sl_X0_lastRising⟩, by decide +kernel, by decide +kernel⟩
abbrev md_X0_lastAbove : Md := (yX0_lastAbove, cX0_lastAbove, 4, (some .int), 0, 0)
theorem ok_X0_lastAbove : OkV md_X0_lastAbove 2 := ⟨cd_X0_lastAbove, ini_X0, ⟨im_X0_lastAbove, sl_X0_lastAbove⟩, by decide +kernel, by decide +kernel⟩
abbrev md_X0_swaps : Md := (yX0_swaps, cX0_swaps, 4, none, 0, 0)
theorem ok_X0_swaps : OkV md_X0_swaps 2 := ⟨cd_X0_swaps, ini_X0, ⟨im_X0_swaps, sl_X0_swaps⟩, by decide +kernel, by decide +kernel⟩
abbrev md_X1_empties : Md := (yX1_empties, cX1_empties, 1, none, 0, 0)
theorem ok_X1_empties : OkV md_X1_empties 0 := ⟨cd_X1_empties, ini_X1, ⟨im_X1_empties, sl_X1_empties⟩, by decide +kernel, by decide +kernel⟩
abbrev md_X1_becomes : Md := (yX1_becomes, cX1_becomes, 2, none, 1, 30)
theorem ok_X1_becomes : OkV md_X1_becomes 1 := ⟨cd_X1_becomes, ini_X1, ⟨im_X1_becomes, sl_X1_becomes⟩, by decide +kernel, by decide +kernel⟩
abbrev md_X1_hasScale : Md := (yX1_hasScale, cX1_hasScale, 2, (some .boolean), 0, 0)
theorem ok_X1_hasScale : OkV md_X1_hasScale 1 := ⟨cd_X1_hasScale, ini_X1, ⟨im_X1_hasScale, sl_X1_hasScale⟩, by decide +kernel, by decide +kernel⟩
abbrev md_X1_hasLife : Md := (yX1_hasLife, cX1_hasLife, 2, (some .boolean), 0, 0)
theorem ok_X1_hasLife : OkV md_X1_hasLife 1 := ⟨cd_X1_hasLife, ini_X1, ⟨im_X1_hasLife, sl_X1_hasLife⟩, by decide +kernel, by decide +kernel⟩
abbrev md_X1_hasPlace : Md := (yX1_hasPlace, cX1_hasPlace, 2, (some .boolean), 0, 0)
theorem ok_X1_hasPlace : OkV md_X1_hasPlace 1 := ⟨cd_X1_hasPlace, ini_X1, ⟨im_X1_hasPlace, sl_X1_hasPlace⟩, by decide +kernel, by decide +kernel⟩
abbrev md_X2_becomes : Md := (yX2_becomes, cX2_becomes, 2, none, 1, 30)
theorem ok_X2_becomes : OkV md_X2_becomes 1 := ⟨cd_X2_becomes, ini_X2, ⟨im_X2_becomes, sl_X2_becomes⟩, by decide +kernel, by decide +kernel⟩
abbrev md_X3_remembers : Md := (yX3_remembers, cX3_remembers, 2, none, 2, 51)
theorem ok_X3_remembers : OkV md_X3_remembers 1 := ⟨cd_X3_remembers, ini_X3, ⟨im_X3_remembers, sl_X3_remembers⟩, by decide +kernel, by decide +kernel⟩
abbrev md_X3_givesBack : Md := (yX3_givesBack, cX3_givesBack, 2, none, 2, 51)
theorem ok_X3_givesBack : OkV md_X3_givesBack 1 := ⟨cd_X3_givesBack, ini_X3, ⟨im_X3_givesBack, sl_X3_givesBack⟩, by decide +kernel, by decide +kernel⟩
abbrev md_X4_adds : Md := (yX4_adds, cX4_adds, 4, none, 0, 0)
theorem ok_X4_adds : OkV md_X4_adds 3 := ⟨cd_X4_adds, ini_X4, ⟨im_X4_adds, sl_X4_adds⟩, by decide +kernel, by decide +kernel⟩
abbrev md_X5_adds : Md := (yX5_adds, cX5_adds, 2, none, 0, 0)
theorem ok_X5_adds : OkV md_X5_adds 1 := ⟨cd_X5_adds, ini_X5, ⟨im_X5_adds, sl_X5_adds⟩, by decide +kernel, by decide +kernel⟩
abbrev md_X5_reads : Md := (yX5_reads, cX5_reads, 2, (some .int), 4, 88)
theorem ok_X5_reads : OkV md_X5_reads 0 := ⟨cd_X5_reads, ini_X5, ⟨im_X5_reads, sl_X5_reads⟩, by decide +kernel, by decide +kernel⟩
abbrev md_X5_splitsIntoTokens : Md := (yX5_splitsIntoTokens, cX5_splitsIntoTokens, 3, none, 3, 66)
theorem ok_X5_splitsIntoTokens : OkV md_X5_splitsIntoTokens 0 := ⟨cd_X5_splitsIntoTokens, ini_X5, ⟨im_X5_splitsIntoTokens, sl_X5_splitsIntoTokens⟩, by decide +kernel, by decide +kernel⟩
abbrev md_X5_startsToken : Md := (yX5_startsToken, cX5_startsToken, 3, (some .boolean), 1, 21)
theorem ok_X5_startsToken : OkV md_X5_startsToken 1 := ⟨cd_X5_startsToken, ini_X5, ⟨im_X5_startsToken, sl_X5_startsToken⟩, by decide +kernel, by decide +kernel⟩
abbrev md_X5_tokenFrom : Md := (yX5_tokenFrom, cX5_tokenFrom, 4, (some .int), 2, 43)
theorem ok_X5_tokenFrom : OkV md_X5_tokenFrom 1 := ⟨cd_X5_tokenFrom, ini_X5, ⟨im_X5_tokenFrom, sl_X5_tokenFrom⟩, by decide +kernel, by decide +kernel⟩
abbrev md_X5_numberFrom : Md := (yX5_numberFrom, cX5_numberFrom, 3, (some .int), 1, 21)
theorem ok_X5_numberFrom : OkV md_X5_numberFrom 1 := ⟨cd_X5_numberFrom, ini_X5, ⟨im_X5_numberFrom, sl_X5_numberFrom⟩, by decide +kernel, by decide +kernel⟩
abbrev md_X5_isDigit : Md := (yX5_isDigit, cX5_isDigit, 2, (some .boolean), 0, 0)
theorem ok_X5_isDigit : OkV md_X5_isDigit 1 := ⟨cd_X5_isDigit, ini_X5, ⟨im_X5_isDigit, sl_X5_isDigit⟩, by decide +kernel, by decide +kernel⟩
abbrev md_X5_readsItem : Md := (yX5_readsItem, cX5_readsItem, 2, none, 3, 67)
theorem ok_X5_readsItem : OkV md_X5_readsItem 0 := ⟨cd_X5_readsItem, ini_X5, ⟨im_X5_readsItem, sl_X5_readsItem⟩, by decide +kernel, by decide +kernel⟩
abbrev md_X5_mayBegin : Md := (yX5_mayBegin, cX5_mayBegin, 2, (some .boolean), 0, 0)
theorem ok_X5_mayBegin : OkV md_X5_mayBegin 1 := ⟨cd_X5_mayBegin, ini_X5, ⟨im_X5_mayBegin, sl_X5_mayBegin⟩, by decide +kernel, by decide +kernel⟩
abbrev md_X5_readsScale : Md := (yX5_readsScale, cX5_readsScale, 2, none, 2, 45)
theorem ok_X5_readsScale : OkV md_X5_readsScale 0 := ⟨cd_X5_readsScale, ini_X5, ⟨im_X5_readsScale, sl_X5_readsScale⟩, by decide +kernel, by decide +kernel⟩
abbrev md_X5_readsLife : Md := (yX5_readsLife, cX5_readsLife, 3, none, 2, 45)
theorem ok_X5_readsLife : OkV md_X5_readsLife 0 := ⟨cd_X5_readsLife, ini_X5, ⟨im_X5_readsLife, sl_X5_readsLife⟩, by decide +kernel, by decide +kernel⟩
abbrev md_X5_takesNumber : Md := (yX5_takesNumber, cX5_takesNumber, 4, (some .int), 1, 22)
theorem ok_X5_takesNumber : OkV md_X5_takesNumber 2 := ⟨cd_X5_takesNumber, ini_X5, ⟨im_X5_takesNumber, sl_X5_takesNumber⟩, by decide +kernel, by decide +kernel⟩
abbrev md_X5_takesSemicolon : Md := (yX5_takesSemicolon, cX5_takesSemicolon, 1, none, 1, 21)
theorem ok_X5_takesSemicolon : OkV md_X5_takesSemicolon 0 := ⟨cd_X5_takesSemicolon, ini_X5, ⟨im_X5_takesSemicolon, sl_X5_takesSemicolon⟩, by decide +kernel, by decide +kernel⟩
abbrev md_X5_takes : Md := (yX5_takes, cX5_takes, 2, none, 0, 0)
theorem ok_X5_takes : OkV md_X5_takes 1 := ⟨cd_X5_takes, ini_X5, ⟨im_X5_takes, sl_X5_takes⟩, by decide +kernel, by decide +kernel⟩
abbrev md_X6_type : Md := (yX6_type, cX6_type, 2, (some .int), 1, 22)
theorem ok_X6_type : OkV md_X6_type 1 := ⟨cd_X6_type, ini_X6, ⟨im_X6_type, sl_X6_type⟩, by decide +kernel, by decide +kernel⟩
abbrev md_X6_clear : Md := (yX6_clear, cX6_clear, 2, (some .int), 0, 0)
theorem ok_X6_clear : OkV md_X6_clear 0 := ⟨cd_X6_clear, ini_X6, ⟨im_X6_clear, sl_X6_clear⟩, by decide +kernel, by decide +kernel⟩
abbrev md_X6_land : Md := (yX6_land, cX6_land, 3, (some .int), 5, 109)
theorem ok_X6_land : OkV md_X6_land 0 := ⟨cd_X6_land, ini_X6, ⟨im_X6_land, sl_X6_land⟩, by decide +kernel, by decide +kernel⟩
abbrev md_X6_scale : Md := (yX6_scale, cX6_scale, 3, (some .int), 1, 22)
theorem ok_X6_scale : OkV md_X6_scale 2 := ⟨cd_X6_scale, ini_X6, ⟨im_X6_scale, sl_X6_scale⟩, by decide +kernel, by decide +kernel⟩
abbrev md_X6_life : Md := (yX6_life, cX6_life, 4, (some .int), 4, 99)
theorem ok_X6_life : OkV md_X6_life 3 := ⟨cd_X6_life, ini_X6, ⟨im_X6_life, sl_X6_life⟩, by decide +kernel, by decide +kernel⟩
abbrev md_X6_end : Md := (yX6_end, cX6_end, 3, (some .int), 2, 46)
theorem ok_X6_end : OkV md_X6_end 2 := ⟨cd_X6_end, ini_X6, ⟨im_X6_end, sl_X6_end⟩, by decide +kernel, by decide +kernel⟩
abbrev md_X6_place : Md := (yX6_place, cX6_place, 2, (some .int), 1, 21)
theorem ok_X6_place : OkV md_X6_place 1 := ⟨cd_X6_place, ini_X6, ⟨im_X6_place, sl_X6_place⟩, by decide +kernel, by decide +kernel⟩
abbrev md_X6_passes : Md := (yX6_passes, cX6_passes, 3, (some .int), 5, 121)
theorem ok_X6_passes : OkV md_X6_passes 1 := ⟨cd_X6_passes, ini_X6, ⟨im_X6_passes, sl_X6_passes⟩, by decide +kernel, by decide +kernel⟩
abbrev md_X6_changes : Md := (yX6_changes, cX6_changes, 5, (some .int), 3, 72)
theorem ok_X6_changes : OkV md_X6_changes 3 := ⟨cd_X6_changes, ini_X6, ⟨im_X6_changes, sl_X6_changes⟩, by decide +kernel, by decide +kernel⟩
abbrev md_X6_law : Md := (yX6_law, cX6_law, 4, (some .int), 6, 144)
theorem ok_X6_law : OkV md_X6_law 3 := ⟨cd_X6_law, ini_X6, ⟨im_X6_law, sl_X6_law⟩, by decide +kernel, by decide +kernel⟩
abbrev md_X6_undo : Md := (yX6_undo, cX6_undo, 1, (some .int), 3, 72)
theorem ok_X6_undo : OkV md_X6_undo 0 := ⟨cd_X6_undo, ini_X6, ⟨im_X6_undo, sl_X6_undo⟩, by decide +kernel, by decide +kernel⟩
abbrev md_X6_now : Md := (yX6_now, cX6_now, 2, (some .int), 6, 144)
theorem ok_X6_now : OkV md_X6_now 1 := ⟨cd_X6_now, ini_X6, ⟨im_X6_now, sl_X6_now⟩, by decide +kernel, by decide +kernel⟩
abbrev md_X6_behind : Md := (yX6_behind, cX6_behind, 4, (some .int), 4, 99)
theorem ok_X6_behind : OkV md_X6_behind 3 := ⟨cd_X6_behind, ini_X6, ⟨im_X6_behind, sl_X6_behind⟩, by decide +kernel, by decide +kernel⟩
abbrev md_X6_first : Md := (yX6_first, cX6_first, 5, (some .int), 5, 122)
theorem ok_X6_first : OkV md_X6_first 2 := ⟨cd_X6_first, ini_X6, ⟨im_X6_first, sl_X6_first⟩, by decide +kernel, by decide +kernel⟩
abbrev md_X6_freed : Md := (yX6_freed, cX6_freed, 4, (some .int), 5, 130)
theorem ok_X6_freed : OkV md_X6_freed 3 := ⟨cd_X6_freed, ini_X6, ⟨im_X6_freed, sl_X6_freed⟩, by decide +kernel, by decide +kernel⟩
abbrev md_X6_bestJump : Md := (yX6_bestJump, cX6_bestJump, 7, (some .int), 4, 101)
theorem ok_X6_bestJump : OkV md_X6_bestJump 2 := ⟨cd_X6_bestJump, ini_X6, ⟨im_X6_bestJump, sl_X6_bestJump⟩, by decide +kernel, by decide +kernel⟩
abbrev md_X6_plans : Md := (yX6_plans, cX6_plans, 3, (some .int), 1, 22)
theorem ok_X6_plans : OkV md_X6_plans 2 := ⟨cd_X6_plans, ini_X6, ⟨im_X6_plans, sl_X6_plans⟩, by decide +kernel, by decide +kernel⟩
abbrev md_X6_drop : Md := (yX6_drop, cX6_drop, 2, (some .int), 0, 0)
theorem ok_X6_drop : OkV md_X6_drop 0 := ⟨cd_X6_drop, ini_X6, ⟨im_X6_drop, sl_X6_drop⟩, by decide +kernel, by decide +kernel⟩
abbrev md_X6_orders : Md := (yX6_orders, cX6_orders, 4, (some .int), 5, 118)
theorem ok_X6_orders : OkV md_X6_orders 2 := ⟨cd_X6_orders, ini_X6, ⟨im_X6_orders, sl_X6_orders⟩, by decide +kernel, by decide +kernel⟩
abbrev md_X6_bars : Md := (yX6_bars, cX6_bars, 3, (some .int), 5, 118)
theorem ok_X6_bars : OkV md_X6_bars 1 := ⟨cd_X6_bars, ini_X6, ⟨im_X6_bars, sl_X6_bars⟩, by decide +kernel, by decide +kernel⟩
abbrev md_X6_trip : Md := (yX6_trip, cX6_trip, 5, (some .int), 5, 117)
theorem ok_X6_trip : OkV md_X6_trip 4 := ⟨cd_X6_trip, ini_X6, ⟨im_X6_trip, sl_X6_trip⟩, by decide +kernel, by decide +kernel⟩
abbrev md_X6_parts : Md := (yX6_parts, cX6_parts, 5, (some .int), 3, 71)
theorem ok_X6_parts : OkV md_X6_parts 3 := ⟨cd_X6_parts, ini_X6, ⟨im_X6_parts, sl_X6_parts⟩, by decide +kernel, by decide +kernel⟩
abbrev md_X6_books : Md := (yX6_books, cX6_books, 4, (some .int), 1, 23)
theorem ok_X6_books : OkV md_X6_books 3 := ⟨cd_X6_books, ini_X6, ⟨im_X6_books, sl_X6_books⟩, by decide +kernel, by decide +kernel⟩
abbrev md_X6_burn : Md := (yX6_burn, cX6_burn, 2, (some .int), 0, 0)
theorem ok_X6_burn : OkV md_X6_burn 0 := ⟨cd_X6_burn, ini_X6, ⟨im_X6_burn, sl_X6_burn⟩, by decide +kernel, by decide +kernel⟩
abbrev md_X6_fits : Md := (yX6_fits, cX6_fits, 5, (some .int), 4, 100)
theorem ok_X6_fits : OkV md_X6_fits 1 := ⟨cd_X6_fits, ini_X6, ⟨im_X6_fits, sl_X6_fits⟩, by decide +kernel, by decide +kernel⟩
abbrev md_X6_sure : Md := (yX6_sure, cX6_sure, 7, (some .int), 4, 100)
theorem ok_X6_sure : OkV md_X6_sure 2 := ⟨cd_X6_sure, ini_X6, ⟨im_X6_sure, sl_X6_sure⟩, by decide +kernel, by decide +kernel⟩
abbrev md_X6_clash : Md := (yX6_clash, cX6_clash, 3, (some .int), 3, 71)
theorem ok_X6_clash : OkV md_X6_clash 0 := ⟨cd_X6_clash, ini_X6, ⟨im_X6_clash, sl_X6_clash⟩, by decide +kernel, by decide +kernel⟩
abbrev md_X6_rate : Md := (yX6_rate, cX6_rate, 3, (some .int), 5, 112)
theorem ok_X6_rate : OkV md_X6_rate 2 := ⟨cd_X6_rate, ini_X6, ⟨im_X6_rate, sl_X6_rate⟩, by decide +kernel, by decide +kernel⟩
abbrev md_X6_keep : Md := (yX6_keep, cX6_keep, 2, (some .int), 2, 51)
theorem ok_X6_keep : OkV md_X6_keep 1 := ⟨cd_X6_keep, ini_X6, ⟨im_X6_keep, sl_X6_keep⟩, by decide +kernel, by decide +kernel⟩
abbrev md_X6_back : Md := (yX6_back, cX6_back, 2, (some .int), 2, 51)
theorem ok_X6_back : OkV md_X6_back 1 := ⟨cd_X6_back, ini_X6, ⟨im_X6_back, sl_X6_back⟩, by decide +kernel, by decide +kernel⟩
abbrev md_X6_count : Md := (yX6_count, cX6_count, 2, (some .int), 0, 0)
theorem ok_X6_count : OkV md_X6_count 1 := ⟨cd_X6_count, ini_X6, ⟨im_X6_count, sl_X6_count⟩, by decide +kernel, by decide +kernel⟩
abbrev md_X6_trace : Md := (yX6_trace, cX6_trace, 1, (some .long), 0, 0)
theorem ok_X6_trace : OkV md_X6_trace 0 := ⟨cd_X6_trace, ini_X6, ⟨im_X6_trace, sl_X6_trace⟩, by decide +kernel, by decide +kernel⟩
abbrev md_X6_within : Md := (yX6_within, cX6_within, 3, (some .boolean), 0, 0)
theorem ok_X6_within : OkS md_X6_within 3 := ⟨cd_X6_within, ini_X6, st_X6_within, by decide +kernel, by decide +kernel⟩
abbrev md_X6_moved : Md := (yX6_moved, cX6_moved, 3, (some .int), 1, 30)
theorem ok_X6_moved : OkS md_X6_moved 3 := ⟨cd_X6_moved, ini_X6, st_X6_moved, by decide +kernel, by decide +kernel⟩
abbrev md_X6_cell : Md := (yX6_cell, cX6_cell, 2, (some .int), 0, 0)
theorem ok_X6_cell : OkS md_X6_cell 2 := ⟨cd_X6_cell, ini_X6, st_X6_cell, by decide +kernel, by decide +kernel⟩
abbrev md_X6_endBy : Md := (yX6_endBy, cX6_endBy, 5, (some .int), 0, 0)
theorem ok_X6_endBy : OkS md_X6_endBy 4 := ⟨cd_X6_endBy, ini_X6, st_X6_endBy, by decide +kernel, by decide +kernel⟩
abbrev md_X6_endOf : Md := (yX6_endOf, cX6_endOf, 3, (some .int), 1, 24)
theorem ok_X6_endOf : OkV md_X6_endOf 2 := ⟨cd_X6_endOf, ini_X6, ⟨im_X6_endOf, sl_X6_endOf⟩, by decide +kernel, by decide +kernel⟩
abbrev md_X6_canBeLaw : Md := (yX6_canBeLaw, cX6_canBeLaw, 4, (some .boolean), 1, 22)
theorem ok_X6_canBeLaw : OkV md_X6_canBeLaw 3 := ⟨cd_X6_canBeLaw, ini_X6, ⟨im_X6_canBeLaw, sl_X6_canBeLaw⟩, by decide +kernel, by decide +kernel⟩
abbrev md_X6_valueBehind : Md := (yX6_valueBehind, cX6_valueBehind, 5, (some .int), 2, 52)
theorem ok_X6_valueBehind : OkV md_X6_valueBehind 3 := ⟨cd_X6_valueBehind, ini_X6, ⟨im_X6_valueBehind, sl_X6_valueBehind⟩, by decide +kernel, by decide +kernel⟩
abbrev md_X6_endBehind : Md := (yX6_endBehind, cX6_endBehind, 4, (some .int), 3, 76)
theorem ok_X6_endBehind : OkV md_X6_endBehind 3 := ⟨cd_X6_endBehind, ini_X6, ⟨im_X6_endBehind, sl_X6_endBehind⟩, by decide +kernel, by decide +kernel⟩
abbrev md_X6_unlawfulScale : Md := (yX6_unlawfulScale, cX6_unlawfulScale, 4, (some .int), 4, 99)
theorem ok_X6_unlawfulScale : OkV md_X6_unlawfulScale 2 := ⟨cd_X6_unlawfulScale, ini_X6, ⟨im_X6_unlawfulScale, sl_X6_unlawfulScale⟩, by decide +kernel, by decide +kernel⟩
abbrev md_X6_unlawfulLives : Md := (yX6_unlawfulLives, cX6_unlawfulLives, 3, (some .int), 5, 122)
theorem ok_X6_unlawfulLives : OkV md_X6_unlawfulLives 0 := ⟨cd_X6_unlawfulLives, ini_X6, ⟨im_X6_unlawfulLives, sl_X6_unlawfulLives⟩, by decide +kernel, by decide +kernel⟩
abbrev md_X6_scalesAt : Md := (yX6_scalesAt, cX6_scalesAt, 5, (some .int), 2, 46)
theorem ok_X6_scalesAt : OkV md_X6_scalesAt 2 := ⟨cd_X6_scalesAt, ini_X6, ⟨im_X6_scalesAt, sl_X6_scalesAt⟩, by decide +kernel, by decide +kernel⟩
abbrev md_X6_inTheDrawer : Md := (yX6_inTheDrawer, cX6_inTheDrawer, 3, (some .int), 3, 70)
theorem ok_X6_inTheDrawer : OkV md_X6_inTheDrawer 0 := ⟨cd_X6_inTheDrawer, ini_X6, ⟨im_X6_inTheDrawer, sl_X6_inTheDrawer⟩, by decide +kernel, by decide +kernel⟩
abbrev md_X6_goByOneYear : Md := (yX6_goByOneYear, cX6_goByOneYear, 3, none, 4, 99)
theorem ok_X6_goByOneYear : OkV md_X6_goByOneYear 0 := ⟨cd_X6_goByOneYear, ini_X6, ⟨im_X6_goByOneYear, sl_X6_goByOneYear⟩, by decide +kernel, by decide +kernel⟩
abbrev md_X6_unlawfulYears : Md := (yX6_unlawfulYears, cX6_unlawfulYears, 7, (some .int), 4, 104)
theorem ok_X6_unlawfulYears : OkV md_X6_unlawfulYears 3 := ⟨cd_X6_unlawfulYears, ini_X6, ⟨im_X6_unlawfulYears, sl_X6_unlawfulYears⟩, by decide +kernel, by decide +kernel⟩
abbrev md_X6_isUnlawfulBy : Md := (yX6_isUnlawfulBy, cX6_isUnlawfulBy, 9, (some .boolean), 3, 76)
theorem ok_X6_isUnlawfulBy : OkV md_X6_isUnlawfulBy 5 := ⟨cd_X6_isUnlawfulBy, ini_X6, ⟨im_X6_isUnlawfulBy, sl_X6_isUnlawfulBy⟩, by decide +kernel, by decide +kernel⟩
abbrev md_X6_endChangesByJump : Md := (yX6_endChangesByJump, cX6_endChangesByJump, 6, (some .int), 3, 76)
theorem ok_X6_endChangesByJump : OkV md_X6_endChangesByJump 2 := ⟨cd_X6_endChangesByJump, ini_X6, ⟨im_X6_endChangesByJump, sl_X6_endChangesByJump⟩, by decide +kernel, by decide +kernel⟩
abbrev md_X6_areOpposed : Md := (yX6_areOpposed, cX6_areOpposed, 6, (some .boolean), 2, 46)
theorem ok_X6_areOpposed : OkV md_X6_areOpposed 2 := ⟨cd_X6_areOpposed, ini_X6, ⟨im_X6_areOpposed, sl_X6_areOpposed⟩, by decide +kernel, by decide +kernel⟩
abbrev md_X6_lawfulOrders : Md := (yX6_lawfulOrders, cX6_lawfulOrders, 7, (some .int), 4, 92)
theorem ok_X6_lawfulOrders : OkV md_X6_lawfulOrders 2 := ⟨cd_X6_lawfulOrders, ini_X6, ⟨im_X6_lawfulOrders, sl_X6_lawfulOrders⟩, by decide +kernel, by decide +kernel⟩
abbrev md_X6_staysLawful : Md := (yX6_staysLawful, cX6_staysLawful, 6, (some .boolean), 3, 67)
theorem ok_X6_staysLawful : OkV md_X6_staysLawful 2 := ⟨cd_X6_staysLawful, ini_X6, ⟨im_X6_staysLawful, sl_X6_staysLawful⟩, by decide +kernel, by decide +kernel⟩
abbrev md_X6_isUnlawfulMeanwhile : Md := (yX6_isUnlawfulMeanwhile, cX6_isUnlawfulMeanwhile, 2, (some .boolean), 2, 46)
theorem ok_X6_isUnlawfulMeanwhile : OkV md_X6_isUnlawfulMeanwhile 0 := ⟨cd_X6_isUnlawfulMeanwhile, ini_X6, ⟨im_X6_isUnlawfulMeanwhile, sl_X6_isUnlawfulMeanwhile⟩, by decide +kernel, by decide +kernel⟩
abbrev md_X6_canJump : Md := (yX6_canJump, cX6_canJump, 5, (some .boolean), 2, 46)
theorem ok_X6_canJump : OkV md_X6_canJump 3 := ⟨cd_X6_canJump, ini_X6, ⟨im_X6_canJump, sl_X6_canJump⟩, by decide +kernel, by decide +kernel⟩
abbrev md_X6_countJumpsTo : Md := (yX6_countJumpsTo, cX6_countJumpsTo, 5, none, 4, 93)
theorem ok_X6_countJumpsTo : OkV md_X6_countJumpsTo 2 := ⟨cd_X6_countJumpsTo, ini_X6, ⟨im_X6_countJumpsTo, sl_X6_countJumpsTo⟩, by decide +kernel, by decide +kernel⟩
abbrev md_X6_reachFrom : Md := (yX6_reachFrom, cX6_reachFrom, 4, none, 3, 70)
theorem ok_X6_reachFrom : OkV md_X6_reachFrom 2 := ⟨cd_X6_reachFrom, ini_X6, ⟨im_X6_reachFrom, sl_X6_reachFrom⟩, by decide +kernel, by decide +kernel⟩
abbrev md_X6_firstPlaceOnTheWay : Md := (yX6_firstPlaceOnTheWay, cX6_firstPlaceOnTheWay, 4, (some .int), 3, 70)
theorem ok_X6_firstPlaceOnTheWay : OkV md_X6_firstPlaceOnTheWay 2 := ⟨cd_X6_firstPlaceOnTheWay, ini_X6, ⟨im_X6_firstPlaceOnTheWay, sl_X6_firstPlaceOnTheWay⟩, by decide +kernel, by decide +kernel⟩
abbrev md_X6_fewestPartsOf : Md := (yX6_fewestPartsOf, cX6_fewestPartsOf, 6, (some .int), 2, 46)
theorem ok_X6_fewestPartsOf : OkV md_X6_fewestPartsOf 2 := ⟨cd_X6_fewestPartsOf, ini_X6, ⟨im_X6_fewestPartsOf, sl_X6_fewestPartsOf⟩, by decide +kernel, by decide +kernel⟩
abbrev md_X6_greatestPart : Md := (yX6_greatestPart, cX6_greatestPart, 4, (some .int), 2, 46)
theorem ok_X6_greatestPart : OkV md_X6_greatestPart 2 := ⟨cd_X6_greatestPart, ini_X6, ⟨im_X6_greatestPart, sl_X6_greatestPart⟩, by decide +kernel, by decide +kernel⟩
abbrev md_X6_endInYear : Md := (yX6_endInYear, cX6_endInYear, 5, (some .int), 2, 52)
theorem ok_X6_endInYear : OkV md_X6_endInYear 4 := ⟨cd_X6_endInYear, ini_X6, ⟨im_X6_endInYear, sl_X6_endInYear⟩, by decide +kernel, by decide +kernel⟩
abbrev md_X6_agreesWithBooks : Md := (yX6_agreesWithBooks, cX6_agreesWithBooks, 5, (some .boolean), 3, 76)
theorem ok_X6_agreesWithBooks : OkV md_X6_agreesWithBooks 3 := ⟨cd_X6_agreesWithBooks, ini_X6, ⟨im_X6_agreesWithBooks, sl_X6_agreesWithBooks⟩, by decide +kernel, by decide +kernel⟩
abbrev md_X6_rateAsLife : Md := (yX6_rateAsLife, cX6_rateAsLife, 4, (some .int), 1, 21)
theorem ok_X6_rateAsLife : OkV md_X6_rateAsLife 1 := ⟨cd_X6_rateAsLife, ini_X6, ⟨im_X6_rateAsLife, sl_X6_rateAsLife⟩, by decide +kernel, by decide +kernel⟩
abbrev md_X6_rateAsChild : Md := (yX6_rateAsChild, cX6_rateAsChild, 2, (some .int), 3, 70)
theorem ok_X6_rateAsChild : OkV md_X6_rateAsChild 1 := ⟨cd_X6_rateAsChild, ini_X6, ⟨im_X6_rateAsChild, sl_X6_rateAsChild⟩, by decide +kernel, by decide +kernel⟩
abbrev md_X6_rateAsFiance : Md := (yX6_rateAsFiance, cX6_rateAsFiance, 2, (some .int), 3, 70)
theorem ok_X6_rateAsFiance : OkV md_X6_rateAsFiance 1 := ⟨cd_X6_rateAsFiance, ini_X6, ⟨im_X6_rateAsFiance, sl_X6_rateAsFiance⟩, by decide +kernel, by decide +kernel⟩
abbrev md_X6_rateAsThirdSon : Md := (yX6_rateAsThirdSon, cX6_rateAsThirdSon, 2, (some .int), 4, 91)
theorem ok_X6_rateAsThirdSon : OkV md_X6_rateAsThirdSon 1 := ⟨cd_X6_rateAsThirdSon, ini_X6, ⟨im_X6_rateAsThirdSon, sl_X6_rateAsThirdSon⟩, by decide +kernel, by decide +kernel⟩
abbrev md_X6_rateAsWidow : Md := (yX6_rateAsWidow, cX6_rateAsWidow, 2, (some .int), 4, 91)
theorem ok_X6_rateAsWidow : OkV md_X6_rateAsWidow 1 := ⟨cd_X6_rateAsWidow, ini_X6, ⟨im_X6_rateAsWidow, sl_X6_rateAsWidow⟩, by decide +kernel, by decide +kernel⟩
abbrev md_X6_rateAsSmuggler : Md := (yX6_rateAsSmuggler, cX6_rateAsSmuggler, 2, (some .int), 2, 44)
theorem ok_X6_rateAsSmuggler : OkV md_X6_rateAsSmuggler 1 := ⟨cd_X6_rateAsSmuggler, ini_X6, ⟨im_X6_rateAsSmuggler, sl_X6_rateAsSmuggler⟩, by decide +kernel, by decide +kernel⟩
abbrev md_X7_in : Md := (yX7_in, cX7_in, 3, (some .boolean), 0, 0)
theorem ok_X7_in : OkS md_X7_in 3 := ⟨cd_X7_in, ini_X7, st_X7_in, by decide +kernel, by decide +kernel⟩
abbrev md_X7_type : Md := (yX7_type, cX7_type, 2, (some .int), 1, 22)
theorem ok_X7_type : OkV md_X7_type 1 := ⟨cd_X7_type, ini_X7, ⟨im_X7_type, sl_X7_type⟩, by decide +kernel, by decide +kernel⟩
abbrev md_X7_clear : Md := (yX7_clear, cX7_clear, 2, (some .int), 0, 0)
theorem ok_X7_clear : OkV md_X7_clear 0 := ⟨cd_X7_clear, ini_X7, ⟨im_X7_clear, sl_X7_clear⟩, by decide +kernel, by decide +kernel⟩
abbrev md_X7_letterAt : Md := (yX7_letterAt, cX7_letterAt, 2, (some .int), 0, 0)
theorem ok_X7_letterAt : OkV md_X7_letterAt 1 := ⟨cd_X7_letterAt, ini_X7, ⟨im_X7_letterAt, sl_X7_letterAt⟩, by decide +kernel, by decide +kernel⟩
abbrev md_X7_advances : Md := (yX7_advances, cX7_advances, 2, none, 1, 22)
theorem ok_X7_advances : OkV md_X7_advances 0 := ⟨cd_X7_advances, ini_X7, ⟨im_X7_advances, sl_X7_advances⟩, by decide +kernel, by decide +kernel⟩
abbrev md_X7_isWell : Md := (yX7_isWell, cX7_isWell, 1, (some .boolean), 0, 0)
theorem ok_X7_isWell : OkV md_X7_isWell 0 := ⟨cd_X7_isWell, ini_X7, ⟨im_X7_isWell, sl_X7_isWell⟩, by decide +kernel, by decide +kernel⟩
abbrev md_X7_takes : Md := (yX7_takes, cX7_takes, 3, (some .int), 2, 43)
theorem ok_X7_takes : OkV md_X7_takes 1 := ⟨cd_X7_takes, ini_X7, ⟨im_X7_takes, sl_X7_takes⟩, by decide +kernel, by decide +kernel⟩
abbrev md_X7_number : Md := (yX7_number, cX7_number, 3, (some .int), 3, 65)
theorem ok_X7_number : OkV md_X7_number 2 := ⟨cd_X7_number, ini_X7, ⟨im_X7_number, sl_X7_number⟩, by decide +kernel, by decide +kernel⟩
abbrev md_X7_mayBegin : Md := (yX7_mayBegin, cX7_mayBegin, 1, (some .boolean), 0, 0)
theorem ok_X7_mayBegin : OkV md_X7_mayBegin 0 := ⟨cd_X7_mayBegin, ini_X7, ⟨im_X7_mayBegin, sl_X7_mayBegin⟩, by decide +kernel, by decide +kernel⟩
abbrev md_X7_readsItem : Md := (yX7_readsItem, cX7_readsItem, 3, none, 4, 87)
theorem ok_X7_readsItem : OkV md_X7_readsItem 1 := ⟨cd_X7_readsItem, ini_X7, ⟨im_X7_readsItem, sl_X7_readsItem⟩, by decide +kernel, by decide +kernel⟩
abbrev md_X7_land : Md := (yX7_land, cX7_land, 3, (some .int), 5, 109)
theorem ok_X7_land : OkV md_X7_land 0 := ⟨cd_X7_land, ini_X7, ⟨im_X7_land, sl_X7_land⟩, by decide +kernel, by decide +kernel⟩
abbrev md_X7_settles : Md := (yX7_settles, cX7_settles, 2, none, 0, 0)
theorem ok_X7_settles : OkV md_X7_settles 0 := ⟨cd_X7_settles, ini_X7, ⟨im_X7_settles, sl_X7_settles⟩, by decide +kernel, by decide +kernel⟩
abbrev md_X7_isScale : Md := (yX7_isScale, cX7_isScale, 2, (some .boolean), 1, 22)
theorem ok_X7_isScale : OkV md_X7_isScale 1 := ⟨cd_X7_isScale, ini_X7, ⟨im_X7_isScale, sl_X7_isScale⟩, by decide +kernel, by decide +kernel⟩
abbrev md_X7_isLife : Md := (yX7_isLife, cX7_isLife, 2, (some .boolean), 1, 22)
theorem ok_X7_isLife : OkV md_X7_isLife 1 := ⟨cd_X7_isLife, ini_X7, ⟨im_X7_isLife, sl_X7_isLife⟩, by decide +kernel, by decide +kernel⟩
abbrev md_X7_isPlace : Md := (yX7_isPlace, cX7_isPlace, 2, (some .boolean), 1, 22)
theorem ok_X7_isPlace : OkV md_X7_isPlace 1 := ⟨cd_X7_isPlace, ini_X7, ⟨im_X7_isPlace, sl_X7_isPlace⟩, by decide +kernel, by decide +kernel⟩
abbrev md_X7_scale : Md := (yX7_scale, cX7_scale, 3, (some .int), 2, 43)
theorem ok_X7_scale : OkV md_X7_scale 2 := ⟨cd_X7_scale, ini_X7, ⟨im_X7_scale, sl_X7_scale⟩, by decide +kernel, by decide +kernel⟩
abbrev md_X7_endBy : Md := (yX7_endBy, cX7_endBy, 4, (some .int), 0, 0)
theorem ok_X7_endBy : OkS md_X7_endBy 4 := ⟨cd_X7_endBy, ini_X7, st_X7_endBy, by decide +kernel, by decide +kernel⟩
abbrev md_X7_endOf : Md := (yX7_endOf, cX7_endOf, 4, (some .int), 1, 23)
theorem ok_X7_endOf : OkV md_X7_endOf 3 := ⟨cd_X7_endOf, ini_X7, ⟨im_X7_endOf, sl_X7_endOf⟩, by decide +kernel, by decide +kernel⟩
abbrev md_X7_endIn : Md := (yX7_endIn, cX7_endIn, 4, (some .int), 2, 46)
theorem ok_X7_endIn : OkV md_X7_endIn 3 := ⟨cd_X7_endIn, ini_X7, ⟨im_X7_endIn, sl_X7_endIn⟩, by decide +kernel, by decide +kernel⟩
abbrev md_X7_life : Md := (yX7_life, cX7_life, 4, (some .int), 3, 69)
theorem ok_X7_life : OkV md_X7_life 3 := ⟨cd_X7_life, ini_X7, ⟨im_X7_life, sl_X7_life⟩, by decide +kernel, by decide +kernel⟩
abbrev md_X7_end : Md := (yX7_end, cX7_end, 3, (some .int), 2, 46)
theorem ok_X7_end : OkV md_X7_end 2 := ⟨cd_X7_end, ini_X7, ⟨im_X7_end, sl_X7_end⟩, by decide +kernel, by decide +kernel⟩
abbrev md_X7_place : Md := (yX7_place, cX7_place, 2, (some .int), 2, 43)
theorem ok_X7_place : OkV md_X7_place 1 := ⟨cd_X7_place, ini_X7, ⟨im_X7_place, sl_X7_place⟩, by decide +kernel, by decide +kernel⟩
abbrev md_X7_held : Md := (yX7_held, cX7_held, 2, (some .int), 0, 0)
theorem ok_X7_held : OkS md_X7_held 2 := ⟨cd_X7_held, ini_X7, st_X7_held, by decide +kernel, by decide +kernel⟩
abbrev md_X7_goes : Md := (yX7_goes, cX7_goes, 6, none, 3, 69)
theorem ok_X7_goes : OkV md_X7_goes 1 := ⟨cd_X7_goes, ini_X7, ⟨im_X7_goes, sl_X7_goes⟩, by decide +kernel, by decide +kernel⟩
abbrev md_X7_notes : Md := (yX7_notes, cX7_notes, 2, none, 0, 0)
theorem ok_X7_notes : OkV md_X7_notes 0 := ⟨cd_X7_notes, ini_X7, ⟨im_X7_notes, sl_X7_notes⟩, by decide +kernel, by decide +kernel⟩
abbrev md_X7_passes : Md := (yX7_passes, cX7_passes, 3, (some .int), 4, 94)
theorem ok_X7_passes : OkV md_X7_passes 1 := ⟨cd_X7_passes, ini_X7, ⟨im_X7_passes, sl_X7_passes⟩, by decide +kernel, by decide +kernel⟩
abbrev md_X7_changes : Md := (yX7_changes, cX7_changes, 5, (some .int), 2, 43)
theorem ok_X7_changes : OkV md_X7_changes 3 := ⟨cd_X7_changes, ini_X7, ⟨im_X7_changes, sl_X7_changes⟩, by decide +kernel, by decide +kernel⟩
abbrev md_X7_isLaw : Md := (yX7_isLaw, cX7_isLaw, 4, (some .boolean), 2, 43)
theorem ok_X7_isLaw : OkV md_X7_isLaw 3 := ⟨cd_X7_isLaw, ini_X7, ⟨im_X7_isLaw, sl_X7_isLaw⟩, by decide +kernel, by decide +kernel⟩
abbrev md_X7_unlawfulOn : Md := (yX7_unlawfulOn, cX7_unlawfulOn, 4, (some .int), 3, 69)
theorem ok_X7_unlawfulOn : OkV md_X7_unlawfulOn 2 := ⟨cd_X7_unlawfulOn, ini_X7, ⟨im_X7_unlawfulOn, sl_X7_unlawfulOn⟩, by decide +kernel, by decide +kernel⟩
abbrev md_X7_unlawful : Md := (yX7_unlawful, cX7_unlawful, 4, (some .int), 4, 92)
theorem ok_X7_unlawful : OkV md_X7_unlawful 1 := ⟨cd_X7_unlawful, ini_X7, ⟨im_X7_unlawful, sl_X7_unlawful⟩, by decide +kernel, by decide +kernel⟩
abbrev md_X7_ones : Md := (yX7_ones, cX7_ones, 3, (some .int), 0, 0)
theorem ok_X7_ones : OkS md_X7_ones 1 := ⟨cd_X7_ones, ini_X7, st_X7_ones, by decide +kernel, by decide +kernel⟩
abbrev md_X7_law : Md := (yX7_law, cX7_law, 4, (some .int), 5, 115)
theorem ok_X7_law : OkV md_X7_law 3 := ⟨cd_X7_law, ini_X7, ⟨im_X7_law, sl_X7_law⟩, by decide +kernel, by decide +kernel⟩
abbrev md_X7_undo : Md := (yX7_undo, cX7_undo, 2, (some .int), 0, 0)
theorem ok_X7_undo : OkV md_X7_undo 0 := ⟨cd_X7_undo, ini_X7, ⟨im_X7_undo, sl_X7_undo⟩, by decide +kernel, by decide +kernel⟩
abbrev md_X7_countEnds : Md := (yX7_countEnds, cX7_countEnds, 5, (some .int), 3, 69)
theorem ok_X7_countEnds : OkV md_X7_countEnds 2 := ⟨cd_X7_countEnds, ini_X7, ⟨im_X7_countEnds, sl_X7_countEnds⟩, by decide +kernel, by decide +kernel⟩
abbrev md_X7_inDrawer : Md := (yX7_inDrawer, cX7_inDrawer, 3, (some .int), 4, 93)
theorem ok_X7_inDrawer : OkV md_X7_inDrawer 0 := ⟨cd_X7_inDrawer, ini_X7, ⟨im_X7_inDrawer, sl_X7_inDrawer⟩, by decide +kernel, by decide +kernel⟩
abbrev md_X7_now : Md := (yX7_now, cX7_now, 2, (some .int), 5, 115)
theorem ok_X7_now : OkV md_X7_now 1 := ⟨cd_X7_now, ini_X7, ⟨im_X7_now, sl_X7_now⟩, by decide +kernel, by decide +kernel⟩
abbrev md_X7_asNow : Md := (yX7_asNow, cX7_asNow, 2, none, 0, 0)
theorem ok_X7_asNow : OkV md_X7_asNow 0 := ⟨cd_X7_asNow, ini_X7, ⟨im_X7_asNow, sl_X7_asNow⟩, by decide +kernel, by decide +kernel⟩
abbrev md_X7_behind : Md := (yX7_behind, cX7_behind, 5, (some .int), 4, 94)
theorem ok_X7_behind : OkV md_X7_behind 3 := ⟨cd_X7_behind, ini_X7, ⟨im_X7_behind, sl_X7_behind⟩, by decide +kernel, by decide +kernel⟩
abbrev md_X7_first : Md := (yX7_first, cX7_first, 5, (some .int), 4, 94)
theorem ok_X7_first : OkV md_X7_first 2 := ⟨cd_X7_first, ini_X7, ⟨im_X7_first, sl_X7_first⟩, by decide +kernel, by decide +kernel⟩
abbrev md_X7_unlawfulYears : Md := (yX7_unlawfulYears, cX7_unlawfulYears, 3, (some .int), 5, 115)
theorem ok_X7_unlawfulYears : OkV md_X7_unlawfulYears 0 := ⟨cd_X7_unlawfulYears, ini_X7, ⟨im_X7_unlawfulYears, sl_X7_unlawfulYears⟩, by decide +kernel, by decide +kernel⟩
abbrev md_X7_freed : Md := (yX7_freed, cX7_freed, 5, (some .int), 6, 137)
theorem ok_X7_freed : OkV md_X7_freed 3 := ⟨cd_X7_freed, ini_X7, ⟨im_X7_freed, sl_X7_freed⟩, by decide +kernel, by decide +kernel⟩
abbrev md_X7_jumpsOn : Md := (yX7_jumpsOn, cX7_jumpsOn, 8, (some .int), 1, 21)
theorem ok_X7_jumpsOn : OkV md_X7_jumpsOn 2 := ⟨cd_X7_jumpsOn, ini_X7, ⟨im_X7_jumpsOn, sl_X7_jumpsOn⟩, by decide +kernel, by decide +kernel⟩
abbrev md_X7_bestJump : Md := (yX7_bestJump, cX7_bestJump, 7, (some .int), 2, 48)
theorem ok_X7_bestJump : OkV md_X7_bestJump 2 := ⟨cd_X7_bestJump, ini_X7, ⟨im_X7_bestJump, sl_X7_bestJump⟩, by decide +kernel, by decide +kernel⟩
abbrev md_X7_plans : Md := (yX7_plans, cX7_plans, 3, (some .int), 2, 43)
theorem ok_X7_plans : OkV md_X7_plans 2 := ⟨cd_X7_plans, ini_X7, ⟨im_X7_plans, sl_X7_plans⟩, by decide +kernel, by decide +kernel⟩
abbrev md_X7_drop : Md := (yX7_drop, cX7_drop, 2, (some .int), 0, 0)
theorem ok_X7_drop : OkV md_X7_drop 0 := ⟨cd_X7_drop, ini_X7, ⟨im_X7_drop, sl_X7_drop⟩, by decide +kernel, by decide +kernel⟩
abbrev md_X7_isOrder : Md := (yX7_isOrder, cX7_isOrder, 10, (some .boolean), 4, 92)
theorem ok_X7_isOrder : OkV md_X7_isOrder 4 := ⟨cd_X7_isOrder, ini_X7, ⟨im_X7_isOrder, sl_X7_isOrder⟩, by decide +kernel, by decide +kernel⟩
abbrev md_X7_ordersOf : Md := (yX7_ordersOf, cX7_ordersOf, 8, (some .int), 5, 121)
theorem ok_X7_ordersOf : OkV md_X7_ordersOf 2 := ⟨cd_X7_ordersOf, ini_X7, ⟨im_X7_ordersOf, sl_X7_ordersOf⟩, by decide +kernel, by decide +kernel⟩
abbrev md_X7_orders : Md := (yX7_orders, cX7_orders, 4, (some .int), 6, 148)
theorem ok_X7_orders : OkV md_X7_orders 2 := ⟨cd_X7_orders, ini_X7, ⟨im_X7_orders, sl_X7_orders⟩, by decide +kernel, by decide +kernel⟩
abbrev md_X7_bars : Md := (yX7_bars, cX7_bars, 3, (some .int), 6, 148)
theorem ok_X7_bars : OkV md_X7_bars 1 := ⟨cd_X7_bars, ini_X7, ⟨im_X7_bars, sl_X7_bars⟩, by decide +kernel, by decide +kernel⟩
abbrev md_X7_canJump : Md := (yX7_canJump, cX7_canJump, 5, (some .boolean), 2, 46)
theorem ok_X7_canJump : OkV md_X7_canJump 3 := ⟨cd_X7_canJump, ini_X7, ⟨im_X7_canJump, sl_X7_canJump⟩, by decide +kernel, by decide +kernel⟩
abbrev md_X7_measures : Md := (yX7_measures, cX7_measures, 6, none, 3, 70)
theorem ok_X7_measures : OkV md_X7_measures 2 := ⟨cd_X7_measures, ini_X7, ⟨im_X7_measures, sl_X7_measures⟩, by decide +kernel, by decide +kernel⟩
abbrev md_X7_trip : Md := (yX7_trip, cX7_trip, 6, (some .int), 4, 95)
theorem ok_X7_trip : OkV md_X7_trip 4 := ⟨cd_X7_trip, ini_X7, ⟨im_X7_trip, sl_X7_trip⟩, by decide +kernel, by decide +kernel⟩
abbrev md_X7_isPart : Md := (yX7_isPart, cX7_isPart, 3, (some .boolean), 2, 46)
theorem ok_X7_isPart : OkV md_X7_isPart 2 := ⟨cd_X7_isPart, ini_X7, ⟨im_X7_isPart, sl_X7_isPart⟩, by decide +kernel, by decide +kernel⟩
abbrev md_X7_shares : Md := (yX7_shares, cX7_shares, 6, none, 3, 68)
theorem ok_X7_shares : OkV md_X7_shares 2 := ⟨cd_X7_shares, ini_X7, ⟨im_X7_shares, sl_X7_shares⟩, by decide +kernel, by decide +kernel⟩
abbrev md_X7_parts : Md := (yX7_parts, cX7_parts, 6, (some .int), 4, 93)
theorem ok_X7_parts : OkV md_X7_parts 3 := ⟨cd_X7_parts, ini_X7, ⟨im_X7_parts, sl_X7_parts⟩, by decide +kernel, by decide +kernel⟩
abbrev md_X7_books : Md := (yX7_books, cX7_books, 4, (some .int), 2, 43)
theorem ok_X7_books : OkV md_X7_books 3 := ⟨cd_X7_books, ini_X7, ⟨im_X7_books, sl_X7_books⟩, by decide +kernel, by decide +kernel⟩
abbrev md_X7_burn : Md := (yX7_burn, cX7_burn, 2, (some .int), 0, 0)
theorem ok_X7_burn : OkV md_X7_burn 0 := ⟨cd_X7_burn, ini_X7, ⟨im_X7_burn, sl_X7_burn⟩, by decide +kernel, by decide +kernel⟩
abbrev md_X7_endBehind : Md := (yX7_endBehind, cX7_endBehind, 7, (some .int), 2, 46)
theorem ok_X7_endBehind : OkV md_X7_endBehind 4 := ⟨cd_X7_endBehind, ini_X7, ⟨im_X7_endBehind, sl_X7_endBehind⟩, by decide +kernel, by decide +kernel⟩
abbrev md_X7_isAsBooked : Md := (yX7_isAsBooked, cX7_isAsBooked, 6, (some .boolean), 3, 72)
theorem ok_X7_isAsBooked : OkV md_X7_isAsBooked 3 := ⟨cd_X7_isAsBooked, ini_X7, ⟨im_X7_isAsBooked, sl_X7_isAsBooked⟩, by decide +kernel, by decide +kernel⟩
abbrev md_X7_fits : Md := (yX7_fits, cX7_fits, 5, (some .int), 4, 97)
theorem ok_X7_fits : OkV md_X7_fits 1 := ⟨cd_X7_fits, ini_X7, ⟨im_X7_fits, sl_X7_fits⟩, by decide +kernel, by decide +kernel⟩
abbrev md_X7_sure : Md := (yX7_sure, cX7_sure, 7, (some .int), 4, 97)
theorem ok_X7_sure : OkV md_X7_sure 2 := ⟨cd_X7_sure, ini_X7, ⟨im_X7_sure, sl_X7_sure⟩, by decide +kernel, by decide +kernel⟩
abbrev md_X7_isClash : Md := (yX7_isClash, cX7_isClash, 7, (some .boolean), 2, 46)
theorem ok_X7_isClash : OkV md_X7_isClash 2 := ⟨cd_X7_isClash, ini_X7, ⟨im_X7_isClash, sl_X7_isClash⟩, by decide +kernel, by decide +kernel⟩
abbrev md_X7_clash : Md := (yX7_clash, cX7_clash, 3, (some .int), 3, 72)
theorem ok_X7_clash : OkV md_X7_clash 0 := ⟨cd_X7_clash, ini_X7, ⟨im_X7_clash, sl_X7_clash⟩, by decide +kernel, by decide +kernel⟩
abbrev md_X7_rate : Md := (yX7_rate, cX7_rate, 6, (some .int), 4, 93)
theorem ok_X7_rate : OkV md_X7_rate 2 := ⟨cd_X7_rate, ini_X7, ⟨im_X7_rate, sl_X7_rate⟩, by decide +kernel, by decide +kernel⟩
abbrev md_X7_keep : Md := (yX7_keep, cX7_keep, 3, (some .int), 1, 22)
theorem ok_X7_keep : OkV md_X7_keep 1 := ⟨cd_X7_keep, ini_X7, ⟨im_X7_keep, sl_X7_keep⟩, by decide +kernel, by decide +kernel⟩
abbrev md_X7_back : Md := (yX7_back, cX7_back, 3, (some .int), 1, 22)
theorem ok_X7_back : OkV md_X7_back 1 := ⟨cd_X7_back, ini_X7, ⟨im_X7_back, sl_X7_back⟩, by decide +kernel, by decide +kernel⟩
abbrev md_X7_count : Md := (yX7_count, cX7_count, 2, (some .int), 0, 0)
theorem ok_X7_count : OkV md_X7_count 1 := ⟨cd_X7_count, ini_X7, ⟨im_X7_count, sl_X7_count⟩, by decide +kernel, by decide +kernel⟩
abbrev md_X7_trace : Md := (yX7_trace, cX7_trace, 1, (some .long), 0, 0)
theorem ok_X7_trace : OkV md_X7_trace 0 := ⟨cd_X7_trace, ini_X7, ⟨im_X7_trace, sl_X7_trace⟩, by decide +kernel, by decide +kernel⟩
abbrev md_J6_bitCount : Md := (yJ6_bitCount_0f7a4, cJ6_bitCount_0f7a4, 1, (some .int), 0, 0)
theorem ok_J6_bitCount : OkS md_J6_bitCount 1 := ⟨cd_J6_bitCount_0f7a4, ini_J6, st_J6_bitCount_0f7a4, by decide +kernel, by decide +kernel⟩
theorem nl_X5_124 : Cond.methodLinkNest RX5 124 yX6_within RX6 ∈ nestW := by simp [nestW]
theorem nl_X5_115 : Cond.methodLinkNest RX5 115 yX6_cell RX6 ∈ nestW := by simp [nestW]
section JB
variable {T : List Sh} {X : Cx} {own : String} {cc : ByteArray} {nL fr lo : Nat} {ret : Option FieldType} {pc : Nat} {L : List (Option AV)} {st : List AV} {μ : Mem}
theorem J.ifb_eq (hG : G T X own cc nL fr lo ret) {P : Prop} [Decidable P] {off : Int} (tgt : Nat) (dg : decode cc pc = .ok (.ifCond .eq off, 3)) (ht : (pc : Int) + off = (tgt : Int)) (kt : ¬ P → J T X nL tgt L st μ) (kf : P → J T X nL (pc + 3) L st μ) : J T X nL pc L (aI (if P then 1 else 0) :: st) μ :=
  J.if_eq hG tgt dg ht (fun h => kt (fun p => by rw [if_pos p] at h; omega)) (fun h => kf (by by_cases p : P; exact p; rw [if_neg p] at h; omega))
theorem J.ifb_ne (hG : G T X own cc nL fr lo ret) {P : Prop} [Decidable P] {off : Int} (tgt : Nat) (dg : decode cc pc = .ok (.ifCond .ne off, 3)) (ht : (pc : Int) + off = (tgt : Int)) (kt : P → J T X nL tgt L st μ) (kf : ¬ P → J T X nL (pc + 3) L st μ) : J T X nL pc L (aI (if P then 1 else 0) :: st) μ :=
  J.if_ne hG tgt dg ht (fun h => kt (by by_cases p : P; exact p; rw [if_neg p] at h; omega)) (fun h => kf (fun p => by rw [if_pos p] at h; omega))
end JB
end
section
/-! what both sides compute -/
/-- the end of a value v by the law w with mark t on a scale of range r -/
def EB (w t r v : Int) : Int := if w = 0 then (if v < t then 0 else 1) else if w = 3 then (if 2 * v < r then 0 else if 2 * v = r then 2 else 1) else if v = 0 then 0 else if v = r then 1 else if w = 1 then 3 else 2
/-- held between 0 and r -/
def cl (r x : Int) : Int := if x < 0 then 0 else if r < x then r else x
/-- the sum of f over k numbers from s on -/
def smf (f : Int → Int) : Int → Nat → Int
  | _, 0 => 0
  | s, k + 1 => f s + smf f (s + 1) k
/-- the first of k numbers from s on at which E is 3; -9 -/
def fs3 (E : Int → Int) : Nat → Int → Int
  | 0, _ => -9
  | k + 1, s => if E s = 3 then s else fs3 E k (s + 1)
def p2 (l : Int) : Int := if l = 0 then 1 else if l = 1 then 2 else if l = 2 then 4 else if l = 3 then 8 else 16
def pc4 (x : Int) : Int := x % 2 + x / 2 % 2 + x / 4 % 2 + x / 8 % 2
/-- the class: what stands fast of its land and its present -/
def XB (μ : Mem) : Prop := (0 ≤ μ 13 0 ∧ μ 13 0 ≤ 4) ∧ (0 ≤ μ 13 1 ∧ μ 13 1 ≤ 4) ∧ (0 ≤ μ 13 2 ∧ μ 13 2 ≤ 8) ∧ (0 ≤ μ 13 3 ∧ μ 13 3 ≤ 9) ∧ (∀ s : Int, 0 ≤ s → s < μ 13 0 → 2 ≤ μ 14 s ∧ μ 14 s ≤ 30) ∧ (∀ l s : Int, 0 ≤ l → l < μ 13 1 → 0 ≤ s → s < μ 13 0 → -3 ≤ μ 15 (l * 4 + s) ∧ μ 15 (l * 4 + s) ≤ 3 ∧ 0 ≤ μ 18 (l * 4 + s) ∧ μ 18 (l * 4 + s) ≤ μ 14 s)
/-- the class: a life's value on a scale n years behind now, and its end -/
def xV (μ : Mem) (n l s : Int) : Int := cl (μ 14 s) (μ 18 (l * 4 + s) + n * μ 15 (l * 4 + s))
def xE (μ : Mem) (n l s : Int) : Int := EB (μ 19 s) (μ 20 s) (μ 14 s) (xV μ n l s)
theorem fs3_bound (E : Int → Int) : ∀ (k : Nat) (s : Int), fs3 E k s = -9 ∨ (s ≤ fs3 E k s ∧ fs3 E k s < s + k)
  | 0, _ => Or.inl rfl
  | k + 1, s => by
    unfold fs3
    split
    · exact Or.inr ⟨Int.le_refl _, by omega⟩
    · rcases fs3_bound E k (s + 1) with h | h
      · exact Or.inl h
      · exact Or.inr ⟨by omega, by omega⟩
theorem fs3_congr {E E' : Int → Int} : ∀ (k : Nat) (s : Int), (∀ i, s ≤ i → i < s + k → E i = E' i) → fs3 E k s = fs3 E' k s
  | 0, _, _ => rfl
  | k + 1, s, h => by
    unfold fs3
    rw [h s (Int.le_refl _) (by omega), fs3_congr k (s + 1) (fun i h1 h2 => h i (by omega) (by omega))]
theorem smf_congr {f g : Int → Int} : ∀ (k : Nat) (s : Int), (∀ i, s ≤ i → i < s + k → f i = g i) → smf f s k = smf g s k
  | 0, _, _ => rfl
  | k + 1, s, h => by
    unfold smf
    rw [h s (Int.le_refl _) (by omega), smf_congr k (s + 1) (fun i h1 h2 => h i (by omega) (by omega))]
theorem smf_bound {f : Int → Int} {a b : Int} : ∀ (k : Nat) (s : Int), (∀ i, s ≤ i → i < s + k → a ≤ f i ∧ f i ≤ b) → a * k ≤ smf f s k ∧ smf f s k ≤ b * k
  | 0, _, _ => by simp [smf]
  | k + 1, s, h => by
    have h1 := h s (Int.le_refl _) (by omega)
    have h2 := smf_bound k (s + 1) (fun i h1 h2 => h i (by omega) (by omega))
    unfold smf
    have e1 : a * ((k + 1 : Nat) : Int) = a * k + a := by rw [Int.natCast_add, Int.mul_add]; simp
    have e2 : b * ((k + 1 : Nat) : Int) = b * k + b := by rw [Int.natCast_add, Int.mul_add]; simp
    omega
theorem cl_bound {r x : Int} (h : 0 ≤ r) : 0 ≤ cl r x ∧ cl r x ≤ r := by unfold cl; (repeat' split) <;> omega
theorem EB_bound (w t r v : Int) : 0 ≤ EB w t r v ∧ EB w t r v ≤ 3 := by unfold EB; (repeat' split) <;> omega
theorem J.drop {T : List Sh} {X : Cx} {nL : Nat} {pc : Nat} {L : List (Option AV)} {st : List AV} {μ : Mem} (i : Nat) (kk : J T X nL pc (L.set i none) st μ) : J T X nL pc L st μ := J.less (fun j v h => by
  rw [List.getElem?_set] at h
  split at h
  · split at h <;> cases h
  · exact h) kk
theorem shl_p2 (l : Int) (h : 0 ≤ l ∧ l < 4) : (Int32.ofInt 1 <<< (Int32.ofInt l &&& 31)).toInt = p2 l := by
  rcases (show l = 0 ∨ l = 1 ∨ l = 2 ∨ l = 3 by omega) with rfl | rfl | rfl | rfl <;> decide
theorem or_p2_all : ∀ l : Fin 4, ∀ a : Fin 8, ((a.val : Nat) : Int) < p2 l.val → (Int32.ofInt (a.val : Nat) ||| Int32.ofInt (p2 l.val)).toInt = (a.val : Nat) + p2 l.val := by decide
theorem or_p2 (a l : Int) (h : 0 ≤ l ∧ l < 4) (ha : 0 ≤ a) (hb : a < p2 l) : (Int32.ofInt a ||| Int32.ofInt (p2 l)).toInt = a + p2 l := by
  have hp : p2 l ≤ 8 := by unfold p2; (repeat' split) <;> omega
  have := or_p2_all ⟨l.toNat, by omega⟩ ⟨a.toNat, by omega⟩
  simp only [Int.toNat_of_nonneg h.1, Int.toNat_of_nonneg ha] at this
  exact this hb
theorem p2_bound (l : Int) : 1 ≤ p2 l ∧ p2 l ≤ 16 := by unfold p2; (repeat' split) <;> omega
theorem p2_succ (l : Int) (h : 0 ≤ l ∧ l < 4) : p2 (l + 1) = 2 * p2 l := by
  rcases (show l = 0 ∨ l = 1 ∨ l = 2 ∨ l = 3 by omega) with rfl | rfl | rfl | rfl <;> decide
/-- the class: the least scale on which a life is at no end n years behind now -/
def xU (μ : Mem) (n l : Int) : Int := fs3 (fun s => xE μ n l s) (μ 13 0).toNat 0
def xBits (μ : Mem) : Int := smf (fun l => if xU μ 0 l = -9 then 0 else p2 l) 0 (μ 13 1).toNat
def xC (μ : Mem) (e l : Int) : Int := smf (fun s => if EB (μ 19 s) (μ 20 s) (μ 14 s) (μ 18 (l * 4 + s)) = e then 1 else 0) 0 (μ 13 0).toNat
def xUB (μ : Mem) (l n s w t : Int) : Int := fs3 (fun c => if c = s then EB w t (μ 14 s) (xV μ n l c) else xE μ n l c) (μ 13 0).toNat 0
def xUY (μ : Mem) (s w t : Int) : Int := smf (fun l => smf (fun n => if xUB μ l n s w t = -9 then 0 else 1) 0 21) 0 (μ 13 1).toNat
def xEC (μ : Mem) (s t : Int) : Int := smf (fun l => smf (fun n => if xV μ n l s < t ↔ xV μ (n + 1) l s < t then 0 else 1) 0 20) 0 (μ 13 1).toNat
def xO (μ : Mem) (a b v : Int) : Int := if (EB (μ 19 a) (μ 20 a) (μ 14 a) v = 0 ∧ EB (μ 19 b) (μ 20 b) (μ 14 b) v = 1) ∨ (EB (μ 19 a) (μ 20 a) (μ 14 a) v = 1 ∧ EB (μ 19 b) (μ 20 b) (μ 14 b) v = 0) then 3 else 0
def xOp (μ : Mem) (a b : Int) : Int := if μ 14 a = μ 14 b then fs3 (xO μ a b) (μ 14 a + 1).toNat 0 else -9
/-- a pair, the first: 10 a + b -/
def fc (g : Int → Int) : Nat → Int → Int
  | 0, _ => -9
  | k + 1, a => if g a = -9 then fc g k (a + 1) else 10 * a + g a
/-- the best t of k from t on, and how many -/
def bj (f : Int → Int) : Nat → Int → Int → Int → Int × Int
  | 0, _, b, m => (b, m)
  | k + 1, t, b, m => if f t < m then bj f k (t + 1) t (f t) else bj f k (t + 1) b m
def fN (U : Int → Int) (w : Int) : Nat → Int → Int
  | 0, _ => -9
  | k + 1, n => if U n = -9 then fN U w k (n + 1) else if w = 0 then n else U n
end
section
set_option maxRecDepth 100000 in
set_option maxHeartbeats 4000000 in
theorem X6_within (μ : Mem) (v a b : Int) : CT TX md_X6_within [aI v, aI a, aI b] μ (fun rv μ1 => rv = some (aI (if a ≤ v ∧ v ≤ b then 1 else 0)) ∧ μ = μ1) := by
  refine CT.of (Nat.le_of_ble_eq_true rfl) (by decide) rfl (Nat.le_of_ble_eq_true rfl) (fun X hG hX => ?_)
  have hG : G TX X RX6 cX6_within 3 0 0 (some .boolean) := hG
  show J TX X 3 0 [some (aI v), some (aI a), some (aI b)] [] μ
  refine J.iload_n hG dX6_within_0 rfl rfl ?_
  refine J.iload_n hG dX6_within_1 rfl rfl ?_
  refine J.icmp_lt hG 14 dX6_within_2 rfl (fun h2 => ?_) (fun h2 => ?_)
  · refine J.iconst hG dX6_within_14 (by decide) ?_
    refine J.zret hG (by first | exact Or.inl rfl | exact Or.inr rfl | (split <;> first | exact Or.inl rfl | exact Or.inr rfl)) dX6_within_15 ?_
    rw [hX]
    exact ⟨by congr 2; (split <;> omega), rfl⟩
  · refine J.iload_n hG dX6_within_5 rfl rfl ?_
    refine J.iload_n hG dX6_within_6 rfl rfl ?_
    refine J.icmp_gt hG 14 dX6_within_7 rfl (fun h7 => ?_) (fun h7 => ?_)
    · refine J.iconst hG dX6_within_14 (by decide) ?_
      refine J.zret hG (by first | exact Or.inl rfl | exact Or.inr rfl | (split <;> first | exact Or.inl rfl | exact Or.inr rfl)) dX6_within_15 ?_
      rw [hX]
      exact ⟨by congr 2; (split <;> omega), rfl⟩
    · refine J.iconst hG dX6_within_10 (by decide) ?_
      refine J.goto hG 15 dX6_within_11 rfl ?_
      refine J.zret hG (by first | exact Or.inl rfl | exact Or.inr rfl | (split <;> first | exact Or.inl rfl | exact Or.inr rfl)) dX6_within_15 ?_
      rw [hX]
      exact ⟨by congr 2; (split <;> omega), rfl⟩

set_option maxRecDepth 100000 in
set_option maxHeartbeats 4000000 in
theorem X1_hasScale (μ : Mem) (s : Int) : CT TX md_X1_hasScale [aR 13, aI s] μ (fun rv μ1 => rv = some (aI (if 0 ≤ s ∧ s < μ 13 0 then 1 else 0)) ∧ μ = μ1) := by
  refine CT.of (Nat.le_of_ble_eq_true rfl) (by decide) rfl (Nat.le_of_ble_eq_true rfl) (fun X hG hX => ?_)
  have hG : G TX X RX1 cX1_hasScale 2 0 0 (some .boolean) := hG
  show J TX X 2 0 [some (aR 13), some (aI s)] [] μ
  refine J.iload_n hG dX1_hasScale_0 rfl rfl ?_
  refine J.if_lt hG 16 dX1_hasScale_1 rfl (fun h1 => ?_) (fun h1 => ?_)
  · refine J.iconst hG dX1_hasScale_16 (by decide) ?_
    refine J.zret hG (by first | exact Or.inl rfl | exact Or.inr rfl | (split <;> first | exact Or.inl rfl | exact Or.inr rfl)) dX1_hasScale_17 ?_
    rw [hX]
    exact ⟨by congr 2; (split <;> omega), rfl⟩
  · refine J.iload_n hG dX1_hasScale_4 rfl rfl ?_
    refine J.aload_n hG dX1_hasScale_5 rfl rfl ?_
    refine J.getI hG ciX1 rfl 0 0 rfl (Nat.le_of_ble_eq_true rfl) rfl fl_X1_9 dX1_hasScale_6 ?_
    refine J.icmp_ge hG 16 dX1_hasScale_9 rfl (fun h9 => ?_) (fun h9 => ?_)
    · refine J.iconst hG dX1_hasScale_16 (by decide) ?_
      refine J.zret hG (by first | exact Or.inl rfl | exact Or.inr rfl | (split <;> first | exact Or.inl rfl | exact Or.inr rfl)) dX1_hasScale_17 ?_
      rw [hX]
      exact ⟨by congr 2; (split <;> omega), rfl⟩
    · refine J.iconst hG dX1_hasScale_12 (by decide) ?_
      refine J.goto hG 17 dX1_hasScale_13 rfl ?_
      refine J.zret hG (by first | exact Or.inl rfl | exact Or.inr rfl | (split <;> first | exact Or.inl rfl | exact Or.inr rfl)) dX1_hasScale_17 ?_
      rw [hX]
      exact ⟨by congr 2; (split <;> omega), rfl⟩

set_option maxRecDepth 100000 in
set_option maxHeartbeats 4000000 in
theorem X1_hasLife (μ : Mem) (s : Int) : CT TX md_X1_hasLife [aR 13, aI s] μ (fun rv μ1 => rv = some (aI (if 0 ≤ s ∧ s < μ 13 1 then 1 else 0)) ∧ μ = μ1) := by
  refine CT.of (Nat.le_of_ble_eq_true rfl) (by decide) rfl (Nat.le_of_ble_eq_true rfl) (fun X hG hX => ?_)
  have hG : G TX X RX1 cX1_hasLife 2 0 0 (some .boolean) := hG
  show J TX X 2 0 [some (aR 13), some (aI s)] [] μ
  refine J.iload_n hG dX1_hasLife_0 rfl rfl ?_
  refine J.if_lt hG 16 dX1_hasLife_1 rfl (fun h1 => ?_) (fun h1 => ?_)
  · refine J.iconst hG dX1_hasLife_16 (by decide) ?_
    refine J.zret hG (by first | exact Or.inl rfl | exact Or.inr rfl | (split <;> first | exact Or.inl rfl | exact Or.inr rfl)) dX1_hasLife_17 ?_
    rw [hX]
    exact ⟨by congr 2; (split <;> omega), rfl⟩
  · refine J.iload_n hG dX1_hasLife_4 rfl rfl ?_
    refine J.aload_n hG dX1_hasLife_5 rfl rfl ?_
    refine J.getI hG ciX1 rfl 1 1 rfl (Nat.le_of_ble_eq_true rfl) rfl fl_X1_15 dX1_hasLife_6 ?_
    refine J.icmp_ge hG 16 dX1_hasLife_9 rfl (fun h9 => ?_) (fun h9 => ?_)
    · refine J.iconst hG dX1_hasLife_16 (by decide) ?_
      refine J.zret hG (by first | exact Or.inl rfl | exact Or.inr rfl | (split <;> first | exact Or.inl rfl | exact Or.inr rfl)) dX1_hasLife_17 ?_
      rw [hX]
      exact ⟨by congr 2; (split <;> omega), rfl⟩
    · refine J.iconst hG dX1_hasLife_12 (by decide) ?_
      refine J.goto hG 17 dX1_hasLife_13 rfl ?_
      refine J.zret hG (by first | exact Or.inl rfl | exact Or.inr rfl | (split <;> first | exact Or.inl rfl | exact Or.inr rfl)) dX1_hasLife_17 ?_
      rw [hX]
      exact ⟨by congr 2; (split <;> omega), rfl⟩

set_option maxRecDepth 100000 in
set_option maxHeartbeats 4000000 in
theorem X1_hasPlace (μ : Mem) (s : Int) : CT TX md_X1_hasPlace [aR 13, aI s] μ (fun rv μ1 => rv = some (aI (if 0 ≤ s ∧ s < μ 13 2 then 1 else 0)) ∧ μ = μ1) := by
  refine CT.of (Nat.le_of_ble_eq_true rfl) (by decide) rfl (Nat.le_of_ble_eq_true rfl) (fun X hG hX => ?_)
  have hG : G TX X RX1 cX1_hasPlace 2 0 0 (some .boolean) := hG
  show J TX X 2 0 [some (aR 13), some (aI s)] [] μ
  refine J.iload_n hG dX1_hasPlace_0 rfl rfl ?_
  refine J.if_lt hG 16 dX1_hasPlace_1 rfl (fun h1 => ?_) (fun h1 => ?_)
  · refine J.iconst hG dX1_hasPlace_16 (by decide) ?_
    refine J.zret hG (by first | exact Or.inl rfl | exact Or.inr rfl | (split <;> first | exact Or.inl rfl | exact Or.inr rfl)) dX1_hasPlace_17 ?_
    rw [hX]
    exact ⟨by congr 2; (split <;> omega), rfl⟩
  · refine J.iload_n hG dX1_hasPlace_4 rfl rfl ?_
    refine J.aload_n hG dX1_hasPlace_5 rfl rfl ?_
    refine J.getI hG ciX1 rfl 2 2 rfl (Nat.le_of_ble_eq_true rfl) rfl fl_X1_18 dX1_hasPlace_6 ?_
    refine J.icmp_ge hG 16 dX1_hasPlace_9 rfl (fun h9 => ?_) (fun h9 => ?_)
    · refine J.iconst hG dX1_hasPlace_16 (by decide) ?_
      refine J.zret hG (by first | exact Or.inl rfl | exact Or.inr rfl | (split <;> first | exact Or.inl rfl | exact Or.inr rfl)) dX1_hasPlace_17 ?_
      rw [hX]
      exact ⟨by congr 2; (split <;> omega), rfl⟩
    · refine J.iconst hG dX1_hasPlace_12 (by decide) ?_
      refine J.goto hG 17 dX1_hasPlace_13 rfl ?_
      refine J.zret hG (by first | exact Or.inl rfl | exact Or.inr rfl | (split <;> first | exact Or.inl rfl | exact Or.inr rfl)) dX1_hasPlace_17 ?_
      rw [hX]
      exact ⟨by congr 2; (split <;> omega), rfl⟩

set_option maxRecDepth 100000 in
set_option maxHeartbeats 4000000 in
theorem X6_moved (μ : Mem) (v b r : Int) (h : okI (v + b)) (hr : 0 ≤ r) : CT TX md_X6_moved [aI v, aI b, aI r] μ (fun rv μ1 => rv = some (aI (cl r (v + b))) ∧ μ = μ1) := by
  refine CT.of (Nat.le_of_ble_eq_true rfl) (by decide) rfl (Nat.le_of_ble_eq_true rfl) (fun X hG hX => ?_)
  have hG : G TX X RX6 cX6_moved 3 1 30 (some .int) := hG
  show J TX X 3 0 [some (aI v), some (aI b), some (aI r)] [] μ
  refine J.iconst hG dX6_moved_0 (by decide) ?_
  refine J.iload_n hG dX6_moved_1 rfl rfl ?_
  refine J.iload_n hG dX6_moved_2 rfl rfl ?_
  refine J.iload_n hG dX6_moved_3 rfl rfl ?_
  refine J.iadd hG dX6_moved_4 (fun _ _ => (by omega)) ?_
  refine J.mmin hG ml_X6_253 (Nat.le_of_ble_eq_true rfl) (Nat.le_of_ble_eq_true rfl) dX6_moved_5 ?_
  refine J.mmax hG ml_X6_258 (Nat.le_of_ble_eq_true rfl) (Nat.le_of_ble_eq_true rfl) dX6_moved_8 ?_
  refine J.iret hG dX6_moved_11 ?_
  rw [hX]
  exact ⟨by congr 2; unfold cl; (repeat' split) <;> omega, rfl⟩

set_option maxRecDepth 100000 in
set_option maxHeartbeats 4000000 in
theorem X6_cell (μ : Mem) (l s : Int) (h : 0 ≤ l ∧ l < 100) (hs : 0 ≤ s ∧ s < 100) : CT TX md_X6_cell [aI l, aI s] μ (fun rv μ1 => rv = some (aI (l * 4 + s)) ∧ μ = μ1) := by
  refine CT.of (Nat.le_of_ble_eq_true rfl) (by decide) rfl (Nat.le_of_ble_eq_true rfl) (fun X hG hX => ?_)
  have hG : G TX X RX6 cX6_cell 2 0 0 (some .int) := hG
  show J TX X 2 0 [some (aI l), some (aI s)] [] μ
  refine J.iload_n hG dX6_cell_0 rfl rfl ?_
  refine J.iconst hG dX6_cell_1 (by decide) ?_
  refine J.imul hG dX6_cell_2 (fun _ _ => (by omega)) ?_
  refine J.iload_n hG dX6_cell_3 rfl rfl ?_
  refine J.iadd hG dX6_cell_4 (fun _ _ => (by omega)) ?_
  refine J.iret hG dX6_cell_5 ?_
  rw [hX]
  exact ⟨rfl, rfl⟩

set_option maxRecDepth 100000 in
set_option maxHeartbeats 4000000 in
theorem X6_endBy (μ : Mem) (w t r v : Int) (h : -1000000 ≤ v ∧ v ≤ 1000000) : CT TX md_X6_endBy [aI w, aI t, aI r, aI v] μ (fun rv μ1 => rv = some (aI (EB w t r v)) ∧ μ = μ1) := by
  refine CT.of (Nat.le_of_ble_eq_true rfl) (by decide) rfl (Nat.le_of_ble_eq_true rfl) (fun X hG hX => ?_)
  have hG : G TX X RX6 cX6_endBy 5 0 0 (some .int) := hG
  show J TX X 5 0 [some (aI w), some (aI t), some (aI r), some (aI v), none] [] μ
  refine J.iload_n hG dX6_endBy_0 rfl rfl ?_
  refine J.if_ne hG 15 dX6_endBy_1 rfl (fun h1 => ?_) (fun h1 => ?_)
  · refine J.iload_n hG dX6_endBy_15 rfl rfl ?_
    refine J.iconst hG dX6_endBy_16 (by decide) ?_
    refine J.icmp_ne hG 47 dX6_endBy_17 rfl (fun h17 => ?_) (fun h17 => ?_)
    · refine J.iload_n hG dX6_endBy_47 rfl rfl ?_
      refine J.if_ne hG 53 dX6_endBy_48 rfl (fun h48 => ?_) (fun h48 => ?_)
      · refine J.iload_n hG dX6_endBy_53 rfl rfl ?_
        refine J.iload_n hG dX6_endBy_54 rfl rfl ?_
        refine J.icmp_ne hG 60 dX6_endBy_55 rfl (fun h55 => ?_) (fun h55 => ?_)
        · refine J.iload_n hG dX6_endBy_60 rfl rfl ?_
          refine J.iconst hG dX6_endBy_61 (by decide) ?_
          refine J.icmp_ne hG 69 dX6_endBy_62 rfl (fun h62 => ?_) (fun h62 => ?_)
          · refine J.iconst hG dX6_endBy_69 (by decide) ?_
            refine J.iret hG dX6_endBy_70 ?_
            rw [hX]
            exact ⟨by congr 2; unfold EB; (repeat' split) <;> omega, rfl⟩
          · refine J.iconst hG dX6_endBy_65 (by decide) ?_
            refine J.goto hG 70 dX6_endBy_66 rfl ?_
            refine J.iret hG dX6_endBy_70 ?_
            rw [hX]
            exact ⟨by congr 2; unfold EB; (repeat' split) <;> omega, rfl⟩
        · refine J.iconst hG dX6_endBy_58 (by decide) ?_
          refine J.iret hG dX6_endBy_59 ?_
          rw [hX]
          exact ⟨by congr 2; unfold EB; (repeat' split) <;> omega, rfl⟩
      · refine J.iconst hG dX6_endBy_51 (by decide) ?_
        refine J.iret hG dX6_endBy_52 ?_
        rw [hX]
        exact ⟨by congr 2; unfold EB; (repeat' split) <;> omega, rfl⟩
    · refine J.iconst hG dX6_endBy_20 (by decide) ?_
      refine J.iload_n hG dX6_endBy_21 rfl rfl ?_
      refine J.imul hG dX6_endBy_22 (fun _ _ => (by omega)) ?_
      refine J.istore hG dX6_endBy_23 (Nat.le_of_ble_eq_true rfl) ?_
      refine J.iload hG dX6_endBy_25 rfl ?_
      refine J.iload_n hG dX6_endBy_27 rfl rfl ?_
      refine J.icmp_ne hG 35 dX6_endBy_28 rfl (fun h28 => ?_) (fun h28 => ?_)
      · refine J.iload hG dX6_endBy_35 rfl ?_
        refine J.iload_n hG dX6_endBy_37 rfl rfl ?_
        refine J.icmp_ge hG 45 dX6_endBy_38 rfl (fun h38 => ?_) (fun h38 => ?_)
        · refine J.iconst hG dX6_endBy_45 (by decide) ?_
          refine J.iret hG dX6_endBy_46 ?_
          rw [hX]
          exact ⟨by congr 2; unfold EB; (repeat' split) <;> omega, rfl⟩
        · refine J.iconst hG dX6_endBy_41 (by decide) ?_
          refine J.goto hG 46 dX6_endBy_42 rfl ?_
          refine J.iret hG dX6_endBy_46 ?_
          rw [hX]
          exact ⟨by congr 2; unfold EB; (repeat' split) <;> omega, rfl⟩
      · refine J.iconst hG dX6_endBy_31 (by decide) ?_
        refine J.goto hG 46 dX6_endBy_32 rfl ?_
        refine J.iret hG dX6_endBy_46 ?_
        rw [hX]
        exact ⟨by congr 2; unfold EB; (repeat' split) <;> omega, rfl⟩
  · refine J.iload_n hG dX6_endBy_4 rfl rfl ?_
    refine J.iload_n hG dX6_endBy_5 rfl rfl ?_
    refine J.icmp_ge hG 13 dX6_endBy_6 rfl (fun h6 => ?_) (fun h6 => ?_)
    · refine J.iconst hG dX6_endBy_13 (by decide) ?_
      refine J.iret hG dX6_endBy_14 ?_
      rw [hX]
      exact ⟨by congr 2; unfold EB; (repeat' split) <;> omega, rfl⟩
    · refine J.iconst hG dX6_endBy_9 (by decide) ?_
      refine J.goto hG 14 dX6_endBy_10 rfl ?_
      refine J.iret hG dX6_endBy_14 ?_
      rw [hX]
      exact ⟨by congr 2; unfold EB; (repeat' split) <;> omega, rfl⟩

set_option maxRecDepth 100000 in
set_option maxHeartbeats 4000000 in
theorem X6_endOf (μ : Mem) (s v : Int) (hs : 0 ≤ s ∧ s < 4) (h : -1000000 ≤ v ∧ v ≤ 1000000) : CT TX md_X6_endOf [aR 0, aI s, aI v] μ (fun rv μ1 => rv = some (aI (EB (μ 19 s) (μ 20 s) (μ 14 s) v)) ∧ μ = μ1) := by
  refine CT.of (Nat.le_of_ble_eq_true rfl) (by decide) rfl (Nat.le_of_ble_eq_true rfl) (fun X hG hX => ?_)
  have hG : G TX X RX6 cX6_endOf 3 1 24 (some .int) := hG
  show J TX X 3 0 [some (aR 0), some (aI s), some (aI v)] [] μ
  refine J.aload_n hG dX6_endOf_0 rfl rfl ?_
  refine J.getR hG ciX6 rfl 2 2 rfl (Nat.le_of_ble_eq_true rfl) rfl fl_X6_26 dX6_endOf_1 ?_
  refine J.getR hG ciX2 rfl 3 3 rfl (Nat.le_of_ble_eq_true rfl) rfl fl_X6_110 dX6_endOf_4 ?_
  refine J.iload_n hG dX6_endOf_7 rfl rfl ?_
  refine J.iald hG rfl (by omega) (by omega) dX6_endOf_8 ?_
  refine J.aload_n hG dX6_endOf_9 rfl rfl ?_
  refine J.getR hG ciX6 rfl 2 2 rfl (Nat.le_of_ble_eq_true rfl) rfl fl_X6_26 dX6_endOf_10 ?_
  refine J.getR hG ciX2 rfl 4 4 rfl (Nat.le_of_ble_eq_true rfl) rfl fl_X6_116 dX6_endOf_13 ?_
  refine J.iload_n hG dX6_endOf_16 rfl rfl ?_
  refine J.iald hG rfl (by omega) (by omega) dX6_endOf_17 ?_
  refine J.aload_n hG dX6_endOf_18 rfl rfl ?_
  refine J.getR hG ciX6 rfl 1 1 rfl (Nat.le_of_ble_eq_true rfl) rfl fl_X6_19 dX6_endOf_19 ?_
  refine J.getR hG ciX1 rfl 4 4 rfl (Nat.le_of_ble_eq_true rfl) rfl fl_X6_113 dX6_endOf_22 ?_
  refine J.iload_n hG dX6_endOf_25 rfl rfl ?_
  refine J.iald hG rfl (by omega) (by omega) dX6_endOf_26 ?_
  refine J.iload_n hG dX6_endOf_27 rfl rfl ?_
  refine J.callS hG (X6_endBy _ _ _ _ _ h) ok_X6_endBy ml_X6_261 rfl (Nat.le_of_ble_eq_true rfl) ⟨Nat.le_of_ble_eq_true rfl, Nat.le_of_ble_eq_true rfl⟩ dX6_endOf_28 rfl (fun r1 μ1 hp1 => ?_)
  obtain ⟨rfl, rfl⟩ := hp1
  refine J.iret hG dX6_endOf_31 ?_
  rw [hX]
  exact ⟨rfl, rfl⟩

set_option maxRecDepth 100000 in
set_option maxHeartbeats 4000000 in
theorem X6_canBeLaw (μ : Mem) (s w t : Int) (hB : XB μ) : CT TX md_X6_canBeLaw [aR 0, aI s, aI w, aI t] μ (fun rv μ1 => rv = some (aI (if (0 ≤ s ∧ s < μ 13 0) ∧ (0 ≤ w ∧ w ≤ 3) ∧ (1 ≤ t ∧ t ≤ μ 14 s) then 1 else 0)) ∧ μ = μ1) := by
  refine CT.of (Nat.le_of_ble_eq_true rfl) (by decide) rfl (Nat.le_of_ble_eq_true rfl) (fun X hG hX => ?_)
  have hG : G TX X RX6 cX6_canBeLaw 4 1 22 (some .boolean) := hG
  show J TX X 4 0 [some (aR 0), some (aI s), some (aI w), some (aI t)] [] μ
  obtain ⟨h1, h2, h3, h4, h5, h6⟩ := hB
  refine J.aload_n hG dX6_canBeLaw_0 rfl rfl ?_
  refine J.getR hG ciX6 rfl 1 1 rfl (Nat.le_of_ble_eq_true rfl) rfl fl_X6_19 dX6_canBeLaw_1 ?_
  refine J.iload_n hG dX6_canBeLaw_4 rfl rfl ?_
  refine J.callV hG (X1_hasScale _ _) ok_X1_hasScale ml_X6_106 rfl rfl rfl rfl (Nat.le_of_ble_eq_true rfl) ⟨Nat.le_of_ble_eq_true rfl, Nat.le_of_ble_eq_true rfl⟩ dX6_canBeLaw_5 rfl (fun r1 μ1 hp1 => ?_)
  obtain ⟨rfl, rfl⟩ := hp1
  refine J.ifb_eq hG 41 dX6_canBeLaw_8 rfl (fun h8 => ?_) (fun h8 => ?_)
  · refine J.iconst hG dX6_canBeLaw_41 (by decide) ?_
    refine J.zret hG (by first | exact Or.inl rfl | exact Or.inr rfl | (split <;> first | exact Or.inl rfl | exact Or.inr rfl)) dX6_canBeLaw_42 ?_
    rw [hX]
    exact ⟨by congr 2; (split <;> first | rfl | (exfalso; simp_all; done) | (exfalso; omega)), rfl⟩
  · refine J.iload_n hG dX6_canBeLaw_11 rfl rfl ?_
    refine J.iconst hG dX6_canBeLaw_12 (by decide) ?_
    refine J.iconst hG dX6_canBeLaw_13 (by decide) ?_
    refine J.callS hG (X6_within _ _ _ _) ok_X6_within ml_X6_70 rfl (Nat.le_of_ble_eq_true rfl) ⟨Nat.le_of_ble_eq_true rfl, Nat.le_of_ble_eq_true rfl⟩ dX6_canBeLaw_14 rfl (fun r1 μ1 hp1 => ?_)
    obtain ⟨rfl, rfl⟩ := hp1
    refine J.ifb_eq hG 41 dX6_canBeLaw_17 rfl (fun h17 => ?_) (fun h17 => ?_)
    · refine J.iconst hG dX6_canBeLaw_41 (by decide) ?_
      refine J.zret hG (by first | exact Or.inl rfl | exact Or.inr rfl | (split <;> first | exact Or.inl rfl | exact Or.inr rfl)) dX6_canBeLaw_42 ?_
      rw [hX]
      exact ⟨by congr 2; (split <;> first | rfl | (exfalso; simp_all; done) | (exfalso; omega)), rfl⟩
    · refine J.iload_n hG dX6_canBeLaw_20 rfl rfl ?_
      refine J.iconst hG dX6_canBeLaw_21 (by decide) ?_
      refine J.aload_n hG dX6_canBeLaw_22 rfl rfl ?_
      refine J.getR hG ciX6 rfl 1 1 rfl (Nat.le_of_ble_eq_true rfl) rfl fl_X6_19 dX6_canBeLaw_23 ?_
      refine J.getR hG ciX1 rfl 4 4 rfl (Nat.le_of_ble_eq_true rfl) rfl fl_X6_113 dX6_canBeLaw_26 ?_
      refine J.iload_n hG dX6_canBeLaw_29 rfl rfl ?_
      refine J.iald hG rfl (by omega) (by omega) dX6_canBeLaw_30 ?_
      refine J.callS hG (X6_within _ _ _ _) ok_X6_within ml_X6_70 rfl (Nat.le_of_ble_eq_true rfl) ⟨Nat.le_of_ble_eq_true rfl, Nat.le_of_ble_eq_true rfl⟩ dX6_canBeLaw_31 rfl (fun r1 μ1 hp1 => ?_)
      obtain ⟨rfl, rfl⟩ := hp1
      refine J.ifb_eq hG 41 dX6_canBeLaw_34 rfl (fun h34 => ?_) (fun h34 => ?_)
      · refine J.iconst hG dX6_canBeLaw_41 (by decide) ?_
        refine J.zret hG (by first | exact Or.inl rfl | exact Or.inr rfl | (split <;> first | exact Or.inl rfl | exact Or.inr rfl)) dX6_canBeLaw_42 ?_
        rw [hX]
        exact ⟨by congr 2; (split <;> first | rfl | (exfalso; simp_all; done) | (exfalso; omega)), rfl⟩
      · refine J.iconst hG dX6_canBeLaw_37 (by decide) ?_
        refine J.goto hG 42 dX6_canBeLaw_38 rfl ?_
        refine J.zret hG (by first | exact Or.inl rfl | exact Or.inr rfl | (split <;> first | exact Or.inl rfl | exact Or.inr rfl)) dX6_canBeLaw_42 ?_
        rw [hX]
        exact ⟨by congr 2; (split <;> first | rfl | (exfalso; simp_all; done) | (exfalso; omega)), rfl⟩

set_option maxRecDepth 100000 in
set_option maxHeartbeats 4000000 in
theorem X6_valueBehind (μ : Mem) (hB : XB μ) (n l s : Int) (hn : 0 ≤ n ∧ n ≤ 1000) (hl : 0 ≤ l ∧ l < μ 13 1) (hs : 0 ≤ s ∧ s < μ 13 0) : CT TX md_X6_valueBehind [aR 0, aI n, aI l, aI s] μ (fun rv μ1 => rv = some (aI (xV μ n l s)) ∧ μ = μ1) := by
  refine CT.of (Nat.le_of_ble_eq_true rfl) (by decide) rfl (Nat.le_of_ble_eq_true rfl) (fun X hG hX => ?_)
  have hG : G TX X RX6 cX6_valueBehind 5 2 52 (some .int) := hG
  show J TX X 5 0 [some (aR 0), some (aI n), some (aI l), some (aI s), none] [] μ
  obtain ⟨h1, h2, h3, h4, h5, h6⟩ := hB
  have q5 := h5 s hs.1 hs.2
  have q6 := h6 l s hl.1 hl.2 hs.1 hs.2
  have b1 : n * μ 15 (l * 4 + s) ≤ n * 3 := Int.mul_le_mul_of_nonneg_left q6.2.1 hn.1
  have b2 : n * -3 ≤ n * μ 15 (l * 4 + s) := Int.mul_le_mul_of_nonneg_left q6.1 hn.1
  refine J.iload_n hG dX6_valueBehind_0 rfl rfl ?_
  refine J.iload_n hG dX6_valueBehind_1 rfl rfl ?_
  refine J.callS hG (X6_cell _ _ _ (by omega) (by omega)) ok_X6_cell ml_X6_125 rfl (Nat.le_of_ble_eq_true rfl) ⟨Nat.le_of_ble_eq_true rfl, Nat.le_of_ble_eq_true rfl⟩ dX6_valueBehind_2 rfl (fun r1 μ1 hp1 => ?_)
  obtain ⟨rfl, rfl⟩ := hp1
  refine J.istore hG dX6_valueBehind_5 (Nat.le_of_ble_eq_true rfl) ?_
  refine J.aload_n hG dX6_valueBehind_7 rfl rfl ?_
  refine J.getR hG ciX6 rfl 2 2 rfl (Nat.le_of_ble_eq_true rfl) rfl fl_X6_26 dX6_valueBehind_8 ?_
  refine J.getR hG ciX2 rfl 2 2 rfl (Nat.le_of_ble_eq_true rfl) rfl fl_X6_122 dX6_valueBehind_11 ?_
  refine J.iload hG dX6_valueBehind_14 rfl ?_
  refine J.iald hG rfl (by omega) (by omega) dX6_valueBehind_16 ?_
  refine J.iload_n hG dX6_valueBehind_17 rfl rfl ?_
  refine J.aload_n hG dX6_valueBehind_18 rfl rfl ?_
  refine J.getR hG ciX6 rfl 1 1 rfl (Nat.le_of_ble_eq_true rfl) rfl fl_X6_19 dX6_valueBehind_19 ?_
  refine J.getR hG ciX1 rfl 5 5 rfl (Nat.le_of_ble_eq_true rfl) rfl fl_X6_129 dX6_valueBehind_22 ?_
  refine J.iload hG dX6_valueBehind_25 rfl ?_
  refine J.iald hG rfl (by omega) (by omega) dX6_valueBehind_27 ?_
  refine J.imul hG dX6_valueBehind_28 (fun _ _ => (by omega)) ?_
  refine J.aload_n hG dX6_valueBehind_29 rfl rfl ?_
  refine J.getR hG ciX6 rfl 1 1 rfl (Nat.le_of_ble_eq_true rfl) rfl fl_X6_19 dX6_valueBehind_30 ?_
  refine J.getR hG ciX1 rfl 4 4 rfl (Nat.le_of_ble_eq_true rfl) rfl fl_X6_113 dX6_valueBehind_33 ?_
  refine J.iload_n hG dX6_valueBehind_36 rfl rfl ?_
  refine J.iald hG rfl (by omega) (by omega) dX6_valueBehind_37 ?_
  refine J.callS hG (X6_moved _ _ _ _ (by omega) (by omega)) ok_X6_moved ml_X6_154 rfl (Nat.le_of_ble_eq_true rfl) ⟨Nat.le_of_ble_eq_true rfl, Nat.le_of_ble_eq_true rfl⟩ dX6_valueBehind_38 rfl (fun r1 μ1 hp1 => ?_)
  obtain ⟨rfl, rfl⟩ := hp1
  refine J.iret hG dX6_valueBehind_41 ?_
  rw [hX]
  exact ⟨rfl, rfl⟩

set_option maxRecDepth 100000 in
set_option maxHeartbeats 4000000 in
theorem X6_endBehind (μ : Mem) (hB : XB μ) (n l s : Int) (hn : 0 ≤ n ∧ n ≤ 1000) (hl : 0 ≤ l ∧ l < μ 13 1) (hs : 0 ≤ s ∧ s < μ 13 0) : CT TX md_X6_endBehind [aR 0, aI n, aI l, aI s] μ (fun rv μ1 => rv = some (aI (xE μ n l s)) ∧ μ = μ1) := by
  refine CT.of (Nat.le_of_ble_eq_true rfl) (by decide) rfl (Nat.le_of_ble_eq_true rfl) (fun X hG hX => ?_)
  have hG : G TX X RX6 cX6_endBehind 4 3 76 (some .int) := hG
  show J TX X 4 0 [some (aR 0), some (aI n), some (aI l), some (aI s)] [] μ
  have hB2 := hB
  obtain ⟨h1, h2, h3, h4, h5, h6⟩ := hB2
  have q5 := h5 s hs.1 hs.2
  have q6 := h6 l s hl.1 hl.2 hs.1 hs.2
  have b1 : n * μ 15 (l * 4 + s) ≤ n * 3 := Int.mul_le_mul_of_nonneg_left q6.2.1 hn.1
  have b2 : n * -3 ≤ n * μ 15 (l * 4 + s) := Int.mul_le_mul_of_nonneg_left q6.1 hn.1
  have b3 : 0 ≤ xV μ n l s ∧ xV μ n l s ≤ μ 14 s := cl_bound (by omega)
  refine J.aload_n hG dX6_endBehind_0 rfl rfl ?_
  refine J.iload_n hG dX6_endBehind_1 rfl rfl ?_
  refine J.aload_n hG dX6_endBehind_2 rfl rfl ?_
  refine J.iload_n hG dX6_endBehind_3 rfl rfl ?_
  refine J.iload_n hG dX6_endBehind_4 rfl rfl ?_
  refine J.iload_n hG dX6_endBehind_5 rfl rfl ?_
  refine J.callV hG (X6_valueBehind _ hB _ _ _ hn hl hs) ok_X6_valueBehind ml_X6_264 rfl rfl rfl rfl (Nat.le_of_ble_eq_true rfl) ⟨Nat.le_of_ble_eq_true rfl, Nat.le_of_ble_eq_true rfl⟩ dX6_endBehind_6 rfl (fun r1 μ1 hp1 => ?_)
  obtain ⟨rfl, rfl⟩ := hp1
  refine J.callV hG (X6_endOf _ _ _ (by omega) (by omega)) ok_X6_endOf ml_X6_136 rfl rfl rfl rfl (Nat.le_of_ble_eq_true rfl) ⟨Nat.le_of_ble_eq_true rfl, Nat.le_of_ble_eq_true rfl⟩ dX6_endBehind_9 rfl (fun r1 μ1 hp1 => ?_)
  obtain ⟨rfl, rfl⟩ := hp1
  refine J.iret hG dX6_endBehind_12 ?_
  rw [hX]
  exact ⟨rfl, rfl⟩

set_option maxRecDepth 100000 in
set_option maxHeartbeats 4000000 in
theorem X6_unlawfulScale (μ : Mem) (hB : XB μ) (l n : Int) (hn : 0 ≤ n ∧ n ≤ 1000) (hl : 0 ≤ l ∧ l < μ 13 1) : CT TX md_X6_unlawfulScale [aR 0, aI l, aI n] μ (fun rv μ1 => rv = some (aI (xU μ n l)) ∧ μ = μ1) := by
  refine CT.of (Nat.le_of_ble_eq_true rfl) (by decide) rfl (Nat.le_of_ble_eq_true rfl) (fun X hG hX => ?_)
  have hG : G TX X RX6 cX6_unlawfulScale 4 4 99 (some .int) := hG
  show J TX X 4 0 [some (aR 0), some (aI l), some (aI n), none] [] μ
  have hB2 := hB
  obtain ⟨h1, h2, h3, h4, h5, h6⟩ := hB2
  have loop : ∀ (k : Nat) (s : Int), 0 ≤ s → s + k = μ 13 0 → fs3 (fun s => xE μ n l s) k s = xU μ n l → J TX X 4 2 [some (aR 0), some (aI l), some (aI n), some (aI s)] [] μ := by
    intro k
    induction k with
    | zero =>
      intro s i0 i1 i2
      refine J.iload_n hG dX6_unlawfulScale_2 rfl rfl ?_
      refine J.aload_n hG dX6_unlawfulScale_3 rfl rfl ?_
      refine J.getR hG ciX6 rfl 1 1 rfl (Nat.le_of_ble_eq_true rfl) rfl fl_X6_19 dX6_unlawfulScale_4 ?_
      refine J.getI hG ciX1 rfl 0 0 rfl (Nat.le_of_ble_eq_true rfl) rfl fl_X6_222 dX6_unlawfulScale_7 ?_
      refine J.icmp_ge hG 32 dX6_unlawfulScale_10 rfl (fun h10 => ?_) (fun h10 => absurd h10 (by omega))
      refine J.bipush hG dX6_unlawfulScale_32 (by decide) (by decide) ?_
      refine J.iret hG dX6_unlawfulScale_34 ?_
      rw [hX]
      exact ⟨by rw [← i2]; rfl, rfl⟩
    | succ k ih =>
      intro s i0 i1 i2
      rw [fs3] at i2
      refine J.iload_n hG dX6_unlawfulScale_2 rfl rfl ?_
      refine J.aload_n hG dX6_unlawfulScale_3 rfl rfl ?_
      refine J.getR hG ciX6 rfl 1 1 rfl (Nat.le_of_ble_eq_true rfl) rfl fl_X6_19 dX6_unlawfulScale_4 ?_
      refine J.getI hG ciX1 rfl 0 0 rfl (Nat.le_of_ble_eq_true rfl) rfl fl_X6_222 dX6_unlawfulScale_7 ?_
      refine J.icmp_ge hG 32 dX6_unlawfulScale_10 rfl (fun h10 => absurd h10 (by omega)) (fun h10 => ?_)
      refine J.aload_n hG dX6_unlawfulScale_13 rfl rfl ?_
      refine J.iload_n hG dX6_unlawfulScale_14 rfl rfl ?_
      refine J.iload_n hG dX6_unlawfulScale_15 rfl rfl ?_
      refine J.iload_n hG dX6_unlawfulScale_16 rfl rfl ?_
      refine J.callV hG (X6_endBehind _ hB _ _ _ hn hl (by omega)) ok_X6_endBehind ml_X6_132 rfl rfl rfl rfl (Nat.le_of_ble_eq_true rfl) ⟨Nat.le_of_ble_eq_true rfl, Nat.le_of_ble_eq_true rfl⟩ dX6_unlawfulScale_17 rfl (fun r1 μ1 hp1 => ?_)
      obtain ⟨rfl, rfl⟩ := hp1
      refine J.iconst hG dX6_unlawfulScale_20 (by decide) ?_
      refine J.icmp_ne hG 26 dX6_unlawfulScale_21 rfl (fun h21 => ?_) (fun h21 => ?_)
      · refine J.iinc hG dX6_unlawfulScale_26 (Nat.le_of_ble_eq_true rfl) rfl (fun _ => (by omega)) ?_
        refine J.goto hG 2 dX6_unlawfulScale_29 rfl ?_
        exact ih (s + 1) (by omega) (by omega) (by rw [← i2, if_neg h21])
      · refine J.iload_n hG dX6_unlawfulScale_24 rfl rfl ?_
        refine J.iret hG dX6_unlawfulScale_25 ?_
        rw [hX]
        exact ⟨by rw [← i2, if_pos h21], rfl⟩
  refine J.iconst hG dX6_unlawfulScale_0 (by decide) ?_
  refine J.istore_n hG dX6_unlawfulScale_1 rfl (Nat.le_of_ble_eq_true rfl) ?_
  exact loop (μ 13 0).toNat 0 (Int.le_refl _) (by omega) rfl
end
section
set_option maxRecDepth 100000 in
set_option maxHeartbeats 4000000 in
theorem X6_unlawfulLives (μ : Mem) (hB : XB μ) : CT TX md_X6_unlawfulLives [aR 0] μ (fun rv μ1 => rv = some (aI (xBits μ)) ∧ μ = μ1) := by
  refine CT.of (Nat.le_of_ble_eq_true rfl) (by decide) rfl (Nat.le_of_ble_eq_true rfl) (fun X hG hX => ?_)
  have hG : G TX X RX6 cX6_unlawfulLives 3 5 122 (some .int) := hG
  show J TX X 3 0 [some (aR 0), none, none] [] μ
  have hB2 := hB
  obtain ⟨h1, h2, h3, h4, h5, h6⟩ := hB2
  have lp : ∀ (k : Nat) (l : Int) (a : Int), 0 ≤ l → l + k = μ 13 1 → 0 ≤ a ∧ a < p2 l → a + smf (fun l => if xU μ 0 l = -9 then 0 else p2 l) l k = xBits μ → J TX X 3 4 [some (aR 0), some (aI a), some (aI l)] [] μ := by
    intro k
    induction k with
    | zero =>
      intro l a i0 i1 i2 i3
      refine J.iload_n hG dX6_unlawfulLives_4 rfl rfl ?_
      refine J.aload_n hG dX6_unlawfulLives_5 rfl rfl ?_
      refine J.getR hG ciX6 rfl 1 1 rfl (Nat.le_of_ble_eq_true rfl) rfl fl_X6_19 dX6_unlawfulLives_6 ?_
      refine J.getI hG ciX1 rfl 1 1 rfl (Nat.le_of_ble_eq_true rfl) rfl fl_X6_247 dX6_unlawfulLives_9 ?_
      refine J.icmp_ge hG 38 dX6_unlawfulLives_12 rfl (fun h12 => ?_) (fun h12 => absurd h12 (by omega))
      refine J.iload_n hG dX6_unlawfulLives_38 rfl rfl ?_
      refine J.iret hG dX6_unlawfulLives_39 ?_
      rw [hX]
      exact ⟨by rw [← i3]; simp only [smf, Int.add_zero], rfl⟩
    | succ k ih =>
      intro l a i0 i1 i2 i3
      rw [smf] at i3
      have hp := p2_succ l (by omega)
      have hq := p2_bound l
      refine J.iload_n hG dX6_unlawfulLives_4 rfl rfl ?_
      refine J.aload_n hG dX6_unlawfulLives_5 rfl rfl ?_
      refine J.getR hG ciX6 rfl 1 1 rfl (Nat.le_of_ble_eq_true rfl) rfl fl_X6_19 dX6_unlawfulLives_6 ?_
      refine J.getI hG ciX1 rfl 1 1 rfl (Nat.le_of_ble_eq_true rfl) rfl fl_X6_247 dX6_unlawfulLives_9 ?_
      refine J.icmp_ge hG 38 dX6_unlawfulLives_12 rfl (fun h12 => absurd h12 (by omega)) (fun h12 => ?_)
      refine J.aload_n hG dX6_unlawfulLives_15 rfl rfl ?_
      refine J.iload_n hG dX6_unlawfulLives_16 rfl rfl ?_
      refine J.iconst hG dX6_unlawfulLives_17 (by decide) ?_
      refine J.callV hG (X6_unlawfulScale _ hB _ _ (by omega) (by omega)) ok_X6_unlawfulScale ml_X6_181 rfl rfl rfl rfl (Nat.le_of_ble_eq_true rfl) ⟨Nat.le_of_ble_eq_true rfl, Nat.le_of_ble_eq_true rfl⟩ dX6_unlawfulLives_18 rfl (fun r1 μ1 hp1 => ?_)
      obtain ⟨rfl, rfl⟩ := hp1
      refine J.bipush hG dX6_unlawfulLives_21 (by decide) (by decide) ?_
      refine J.icmp_eq hG 32 dX6_unlawfulLives_23 rfl (fun h23 => ?_) (fun h23 => ?_)
      · refine J.iinc hG dX6_unlawfulLives_32 (Nat.le_of_ble_eq_true rfl) rfl (fun _ => (by omega)) ?_
        refine J.goto hG 4 dX6_unlawfulLives_35 rfl ?_
        exact ih (l + 1) _ (by omega) (by omega) (by omega) (by first | (rw [if_pos h23] at i3; omega) | (rw [if_neg h23] at i3; omega))
      · refine J.iload_n hG dX6_unlawfulLives_26 rfl rfl ?_
        refine J.iconst hG dX6_unlawfulLives_27 (by decide) ?_
        refine J.iload_n hG dX6_unlawfulLives_28 rfl rfl ?_
        refine J.ishl hG (p2 l) dX6_unlawfulLives_29 (fun _ _ => (by exact shl_p2 l (by omega))) ?_
        refine J.ior hG (a + p2 l) dX6_unlawfulLives_30 (fun _ _ => (by exact or_p2 a l (by omega) i2.1 i2.2)) ?_
        refine J.istore_n hG dX6_unlawfulLives_31 rfl (Nat.le_of_ble_eq_true rfl) ?_
        refine J.iinc hG dX6_unlawfulLives_32 (Nat.le_of_ble_eq_true rfl) rfl (fun _ => (by omega)) ?_
        refine J.goto hG 4 dX6_unlawfulLives_35 rfl ?_
        exact ih (l + 1) _ (by omega) (by omega) (by omega) (by first | (rw [if_pos h23] at i3; omega) | (rw [if_neg h23] at i3; omega))
  refine J.iconst hG dX6_unlawfulLives_0 (by decide) ?_
  refine J.istore_n hG dX6_unlawfulLives_1 rfl (Nat.le_of_ble_eq_true rfl) ?_
  refine J.iconst hG dX6_unlawfulLives_2 (by decide) ?_
  refine J.istore_n hG dX6_unlawfulLives_3 rfl (Nat.le_of_ble_eq_true rfl) ?_
  exact lp (μ 13 1).toNat 0 0 (Int.le_refl _) (by omega) (by decide) (by unfold xBits; omega)

set_option maxRecDepth 100000 in
set_option maxHeartbeats 4000000 in
theorem X6_scalesAt (μ : Mem) (hB : XB μ) (e l : Int) (hl : 0 ≤ l ∧ l < μ 13 1) : CT TX md_X6_scalesAt [aR 0, aI e, aI l] μ (fun rv μ1 => rv = some (aI (xC μ e l)) ∧ μ = μ1) := by
  refine CT.of (Nat.le_of_ble_eq_true rfl) (by decide) rfl (Nat.le_of_ble_eq_true rfl) (fun X hG hX => ?_)
  have hG : G TX X RX6 cX6_scalesAt 5 2 46 (some .int) := hG
  show J TX X 5 0 [some (aR 0), some (aI e), some (aI l), none, none] [] μ
  have hB2 := hB
  obtain ⟨h1, h2, h3, h4, h5, h6⟩ := hB2
  have lp : ∀ (k : Nat) (s : Int) (a : Int), 0 ≤ s → s + k = μ 13 0 → 0 ≤ a ∧ a ≤ s → a + smf (fun s => if EB (μ 19 s) (μ 20 s) (μ 14 s) (μ 18 (l * 4 + s)) = e then 1 else 0) s k = xC μ e l → J TX X 5 5 [some (aR 0), some (aI e), some (aI l), some (aI a), some (aI s)] [] μ := by
    intro k
    induction k with
    | zero =>
      intro s a i0 i1 i2 i3
      refine J.iload hG dX6_scalesAt_5 rfl ?_
      refine J.aload_n hG dX6_scalesAt_7 rfl rfl ?_
      refine J.getR hG ciX6 rfl 1 1 rfl (Nat.le_of_ble_eq_true rfl) rfl fl_X6_19 dX6_scalesAt_8 ?_
      refine J.getI hG ciX1 rfl 0 0 rfl (Nat.le_of_ble_eq_true rfl) rfl fl_X6_222 dX6_scalesAt_11 ?_
      refine J.icmp_ge hG 50 dX6_scalesAt_14 rfl (fun h14 => ?_) (fun h14 => absurd h14 (by omega))
      refine J.iload_n hG dX6_scalesAt_50 rfl rfl ?_
      refine J.iret hG dX6_scalesAt_51 ?_
      rw [hX]
      exact ⟨by rw [← i3]; simp only [smf, Int.add_zero], rfl⟩
    | succ k ih =>
      intro s a i0 i1 i2 i3
      rw [smf] at i3
      have q5 := h5 s (by omega) (by omega)
      have q6 := h6 l s hl.1 hl.2 (by omega) (by omega)
      refine J.iload hG dX6_scalesAt_5 rfl ?_
      refine J.aload_n hG dX6_scalesAt_7 rfl rfl ?_
      refine J.getR hG ciX6 rfl 1 1 rfl (Nat.le_of_ble_eq_true rfl) rfl fl_X6_19 dX6_scalesAt_8 ?_
      refine J.getI hG ciX1 rfl 0 0 rfl (Nat.le_of_ble_eq_true rfl) rfl fl_X6_222 dX6_scalesAt_11 ?_
      refine J.icmp_ge hG 50 dX6_scalesAt_14 rfl (fun h14 => absurd h14 (by omega)) (fun h14 => ?_)
      refine J.aload_n hG dX6_scalesAt_17 rfl rfl ?_
      refine J.iload hG dX6_scalesAt_18 rfl ?_
      refine J.aload_n hG dX6_scalesAt_20 rfl rfl ?_
      refine J.getR hG ciX6 rfl 2 2 rfl (Nat.le_of_ble_eq_true rfl) rfl fl_X6_26 dX6_scalesAt_21 ?_
      refine J.getR hG ciX2 rfl 2 2 rfl (Nat.le_of_ble_eq_true rfl) rfl fl_X6_122 dX6_scalesAt_24 ?_
      refine J.iload_n hG dX6_scalesAt_27 rfl rfl ?_
      refine J.iload hG dX6_scalesAt_28 rfl ?_
      refine J.callS hG (X6_cell _ _ _ (by omega) (by omega)) ok_X6_cell ml_X6_125 rfl (Nat.le_of_ble_eq_true rfl) ⟨Nat.le_of_ble_eq_true rfl, Nat.le_of_ble_eq_true rfl⟩ dX6_scalesAt_30 rfl (fun r1 μ1 hp1 => ?_)
      obtain ⟨rfl, rfl⟩ := hp1
      refine J.iald hG rfl (by omega) (by omega) dX6_scalesAt_33 ?_
      refine J.callV hG (X6_endOf _ _ _ (by omega) (by omega)) ok_X6_endOf ml_X6_136 rfl rfl rfl rfl (Nat.le_of_ble_eq_true rfl) ⟨Nat.le_of_ble_eq_true rfl, Nat.le_of_ble_eq_true rfl⟩ dX6_scalesAt_34 rfl (fun r1 μ1 hp1 => ?_)
      obtain ⟨rfl, rfl⟩ := hp1
      refine J.iload_n hG dX6_scalesAt_37 rfl rfl ?_
      refine J.icmp_ne hG 44 dX6_scalesAt_38 rfl (fun h38 => ?_) (fun h38 => ?_)
      · refine J.iinc hG dX6_scalesAt_44 (Nat.le_of_ble_eq_true rfl) rfl (fun _ => (by omega)) ?_
        refine J.goto hG 5 dX6_scalesAt_47 rfl ?_
        exact ih (s + 1) _ (by omega) (by omega) (by omega) (by first | (rw [if_pos h38] at i3; omega) | (rw [if_neg h38] at i3; omega))
      · refine J.iinc hG dX6_scalesAt_41 (Nat.le_of_ble_eq_true rfl) rfl (fun _ => (by omega)) ?_
        refine J.iinc hG dX6_scalesAt_44 (Nat.le_of_ble_eq_true rfl) rfl (fun _ => (by omega)) ?_
        refine J.goto hG 5 dX6_scalesAt_47 rfl ?_
        exact ih (s + 1) _ (by omega) (by omega) (by omega) (by first | (rw [if_pos h38] at i3; omega) | (rw [if_neg h38] at i3; omega))
  refine J.iconst hG dX6_scalesAt_0 (by decide) ?_
  refine J.istore_n hG dX6_scalesAt_1 rfl (Nat.le_of_ble_eq_true rfl) ?_
  refine J.iconst hG dX6_scalesAt_2 (by decide) ?_
  refine J.istore hG dX6_scalesAt_3 (Nat.le_of_ble_eq_true rfl) ?_
  exact lp (μ 13 0).toNat 0 0 (Int.le_refl _) (by omega) (by omega) (by unfold xC; omega)

theorem xC_bound (μ : Mem) (e l : Int) (h : 0 ≤ μ 13 0 ∧ μ 13 0 ≤ 4) : 0 ≤ xC μ e l ∧ xC μ e l ≤ 4 := by
  have := smf_bound (f := fun s => if EB (μ 19 s) (μ 20 s) (μ 14 s) (μ 18 (l * 4 + s)) = e then 1 else 0) (a := 0) (b := 1) (μ 13 0).toNat 0 (fun i _ _ => by constructor <;> split <;> omega)
  unfold xC
  omega

set_option maxRecDepth 100000 in
set_option maxHeartbeats 4000000 in
theorem X6_inTheDrawer (μ : Mem) (hB : XB μ) : CT TX md_X6_inTheDrawer [aR 0] μ (fun rv μ1 => rv = some (aI (smf (fun l => xC μ 2 l) 0 (μ 13 1).toNat)) ∧ μ = μ1) := by
  refine CT.of (Nat.le_of_ble_eq_true rfl) (by decide) rfl (Nat.le_of_ble_eq_true rfl) (fun X hG hX => ?_)
  have hG : G TX X RX6 cX6_inTheDrawer 3 3 70 (some .int) := hG
  show J TX X 3 0 [some (aR 0), none, none] [] μ
  have hB2 := hB
  obtain ⟨h1, h2, h3, h4, h5, h6⟩ := hB2
  have lp : ∀ (k : Nat) (l : Int) (a : Int), 0 ≤ l → l + k = μ 13 1 → 0 ≤ a ∧ a ≤ 4 * l → a + smf (fun l => xC μ 2 l) l k = smf (fun l => xC μ 2 l) 0 (μ 13 1).toNat → J TX X 3 4 [some (aR 0), some (aI a), some (aI l)] [] μ := by
    intro k
    induction k with
    | zero =>
      intro l a i0 i1 i2 i3
      refine J.iload_n hG dX6_inTheDrawer_4 rfl rfl ?_
      refine J.aload_n hG dX6_inTheDrawer_5 rfl rfl ?_
      refine J.getR hG ciX6 rfl 1 1 rfl (Nat.le_of_ble_eq_true rfl) rfl fl_X6_19 dX6_inTheDrawer_6 ?_
      refine J.getI hG ciX1 rfl 1 1 rfl (Nat.le_of_ble_eq_true rfl) rfl fl_X6_247 dX6_inTheDrawer_9 ?_
      refine J.icmp_ge hG 30 dX6_inTheDrawer_12 rfl (fun h12 => ?_) (fun h12 => absurd h12 (by omega))
      refine J.iload_n hG dX6_inTheDrawer_30 rfl rfl ?_
      refine J.iret hG dX6_inTheDrawer_31 ?_
      rw [hX]
      exact ⟨by rw [← i3]; simp only [smf, Int.add_zero], rfl⟩
    | succ k ih =>
      intro l a i0 i1 i2 i3
      rw [smf] at i3
      have hq := xC_bound μ 2 l h1
      refine J.iload_n hG dX6_inTheDrawer_4 rfl rfl ?_
      refine J.aload_n hG dX6_inTheDrawer_5 rfl rfl ?_
      refine J.getR hG ciX6 rfl 1 1 rfl (Nat.le_of_ble_eq_true rfl) rfl fl_X6_19 dX6_inTheDrawer_6 ?_
      refine J.getI hG ciX1 rfl 1 1 rfl (Nat.le_of_ble_eq_true rfl) rfl fl_X6_247 dX6_inTheDrawer_9 ?_
      refine J.icmp_ge hG 30 dX6_inTheDrawer_12 rfl (fun h12 => absurd h12 (by omega)) (fun h12 => ?_)
      refine J.iload_n hG dX6_inTheDrawer_15 rfl rfl ?_
      refine J.aload_n hG dX6_inTheDrawer_16 rfl rfl ?_
      refine J.iconst hG dX6_inTheDrawer_17 (by decide) ?_
      refine J.iload_n hG dX6_inTheDrawer_18 rfl rfl ?_
      refine J.callV hG (X6_scalesAt _ hB _ _ (by omega)) ok_X6_scalesAt ml_X6_267 rfl rfl rfl rfl (Nat.le_of_ble_eq_true rfl) ⟨Nat.le_of_ble_eq_true rfl, Nat.le_of_ble_eq_true rfl⟩ dX6_inTheDrawer_19 rfl (fun r1 μ1 hp1 => ?_)
      obtain ⟨rfl, rfl⟩ := hp1
      refine J.iadd hG dX6_inTheDrawer_22 (fun _ _ => (by omega)) ?_
      refine J.istore_n hG dX6_inTheDrawer_23 rfl (Nat.le_of_ble_eq_true rfl) ?_
      refine J.iinc hG dX6_inTheDrawer_24 (Nat.le_of_ble_eq_true rfl) rfl (fun _ => (by omega)) ?_
      refine J.goto hG 4 dX6_inTheDrawer_27 rfl ?_
      exact ih (l + 1) _ (by omega) (by omega) (by omega) (by omega)
  refine J.iconst hG dX6_inTheDrawer_0 (by decide) ?_
  refine J.istore_n hG dX6_inTheDrawer_1 rfl (Nat.le_of_ble_eq_true rfl) ?_
  refine J.iconst hG dX6_inTheDrawer_2 (by decide) ?_
  refine J.istore_n hG dX6_inTheDrawer_3 rfl (Nat.le_of_ble_eq_true rfl) ?_
  exact lp (μ 13 1).toNat 0 0 (Int.le_refl _) (by omega) (by omega) (by omega)

set_option maxRecDepth 100000 in
set_option maxHeartbeats 4000000 in
theorem X6_isUnlawfulBy (μ : Mem) (hB : XB μ) (l n s v t : Int) (hn : 0 ≤ n ∧ n ≤ 1000) (hl : 0 ≤ l ∧ l < μ 13 1) (hs : 0 ≤ s ∧ s < μ 13 0) : CT TX md_X6_isUnlawfulBy [aR 0, aI l, aI n, aI s, aI v, aI t] μ (fun rv μ1 => rv = some (aI (if ¬ xUB μ l n s v t = -9 then 1 else 0)) ∧ μ = μ1) := by
  refine CT.of (Nat.le_of_ble_eq_true rfl) (by decide) rfl (Nat.le_of_ble_eq_true rfl) (fun X hG hX => ?_)
  have hG : G TX X RX6 cX6_isUnlawfulBy 9 3 76 (some .boolean) := hG
  show J TX X 9 0 [some (aR 0), some (aI l), some (aI n), some (aI s), some (aI v), some (aI t), none, none, none] [] μ
  have hB2 := hB
  obtain ⟨h1, h2, h3, h4, h5, h6⟩ := hB2
  have lp : ∀ (k : Nat) (c : Int), 0 ≤ c → c + k = μ 13 0 → fs3 (fun c => if c = s then EB v t (μ 14 s) (xV μ n l c) else xE μ n l c) k c = xUB μ l n s v t → J TX X 9 3 [some (aR 0), some (aI l), some (aI n), some (aI s), some (aI v), some (aI t), some (aI c), none, none] [] μ := by
    intro k
    induction k with
    | zero =>
      intro c  i0 i1 i2
      refine J.iload hG dX6_isUnlawfulBy_3 rfl ?_
      refine J.aload_n hG dX6_isUnlawfulBy_5 rfl rfl ?_
      refine J.getR hG ciX6 rfl 1 1 rfl (Nat.le_of_ble_eq_true rfl) rfl fl_X6_19 dX6_isUnlawfulBy_6 ?_
      refine J.getI hG ciX1 rfl 0 0 rfl (Nat.le_of_ble_eq_true rfl) rfl fl_X6_222 dX6_isUnlawfulBy_9 ?_
      refine J.icmp_ge hG 76 dX6_isUnlawfulBy_12 rfl (fun h12 => ?_) (fun h12 => absurd h12 (by omega))
      refine J.iconst hG dX6_isUnlawfulBy_76 (by decide) ?_
      refine J.zret hG (by first | exact Or.inl rfl | exact Or.inr rfl | (split <;> first | exact Or.inl rfl | exact Or.inr rfl)) dX6_isUnlawfulBy_77 ?_
      rw [hX]
      exact ⟨by rw [← i2]; rfl, rfl⟩
    | succ k ih =>
      intro c  i0 i1 i2
      rw [fs3] at i2
      have q5 := h5 c (by omega) (by omega)
      have q6 := cl_bound (r := μ 14 c) (x := μ 18 (l * 4 + c) + n * μ 15 (l * 4 + c)) (by omega)
      have q7 : xV μ n l c = cl (μ 14 c) (μ 18 (l * 4 + c) + n * μ 15 (l * 4 + c)) := rfl
      refine J.iload hG dX6_isUnlawfulBy_3 rfl ?_
      refine J.aload_n hG dX6_isUnlawfulBy_5 rfl rfl ?_
      refine J.getR hG ciX6 rfl 1 1 rfl (Nat.le_of_ble_eq_true rfl) rfl fl_X6_19 dX6_isUnlawfulBy_6 ?_
      refine J.getI hG ciX1 rfl 0 0 rfl (Nat.le_of_ble_eq_true rfl) rfl fl_X6_222 dX6_isUnlawfulBy_9 ?_
      refine J.icmp_ge hG 76 dX6_isUnlawfulBy_12 rfl (fun h12 => absurd h12 (by omega)) (fun h12 => ?_)
      refine J.aload_n hG dX6_isUnlawfulBy_15 rfl rfl ?_
      refine J.iload_n hG dX6_isUnlawfulBy_16 rfl rfl ?_
      refine J.iload_n hG dX6_isUnlawfulBy_17 rfl rfl ?_
      refine J.iload hG dX6_isUnlawfulBy_18 rfl ?_
      refine J.callV hG (X6_valueBehind _ hB _ _ _ hn hl (by omega)) ok_X6_valueBehind ml_X6_264 rfl rfl rfl rfl (Nat.le_of_ble_eq_true rfl) ⟨Nat.le_of_ble_eq_true rfl, Nat.le_of_ble_eq_true rfl⟩ dX6_isUnlawfulBy_20 rfl (fun r1 μ1 hp1 => ?_)
      obtain ⟨rfl, rfl⟩ := hp1
      refine J.istore hG dX6_isUnlawfulBy_23 (Nat.le_of_ble_eq_true rfl) ?_
      refine J.iload hG dX6_isUnlawfulBy_25 rfl ?_
      refine J.iload_n hG dX6_isUnlawfulBy_27 rfl rfl ?_
      refine J.icmp_ne hG 52 dX6_isUnlawfulBy_28 rfl (fun h28 => ?_) (fun h28 => ?_)
      · refine J.aload_n hG dX6_isUnlawfulBy_52 rfl rfl ?_
        refine J.iload hG dX6_isUnlawfulBy_53 rfl ?_
        refine J.iload hG dX6_isUnlawfulBy_55 rfl ?_
        refine J.callV hG (X6_endOf _ _ _ (by omega) (by omega)) ok_X6_endOf ml_X6_136 rfl rfl rfl rfl (Nat.le_of_ble_eq_true rfl) ⟨Nat.le_of_ble_eq_true rfl, Nat.le_of_ble_eq_true rfl⟩ dX6_isUnlawfulBy_57 rfl (fun r1 μ1 hp1 => ?_)
        obtain ⟨rfl, rfl⟩ := hp1
        refine J.istore hG dX6_isUnlawfulBy_60 (Nat.le_of_ble_eq_true rfl) ?_
        refine J.iload hG dX6_isUnlawfulBy_62 rfl ?_
        refine J.iconst hG dX6_isUnlawfulBy_64 (by decide) ?_
        refine J.icmp_ne hG 70 dX6_isUnlawfulBy_65 rfl (fun h65 => ?_) (fun h65 => ?_)
        · refine J.iinc hG dX6_isUnlawfulBy_70 (Nat.le_of_ble_eq_true rfl) rfl (fun _ => (by omega)) ?_
          refine J.goto hG 3 dX6_isUnlawfulBy_73 rfl ?_
          refine J.drop 8 (J.drop 7 (ih (c + 1) (by omega) (by omega) ?_))
          first | (rw [if_pos h28] at i2; subst h28; rw [if_neg h65] at i2; exact i2) | (rw [if_neg h28, if_neg (show ¬ xE μ n l c = 3 from h65)] at i2; exact i2)
        · refine J.iconst hG dX6_isUnlawfulBy_68 (by decide) ?_
          refine J.zret hG (by first | exact Or.inl rfl | exact Or.inr rfl | (split <;> first | exact Or.inl rfl | exact Or.inr rfl)) dX6_isUnlawfulBy_69 ?_
          rw [hX]
          exact ⟨by congr 2; rw [if_pos]; rw [← i2]; (try subst h28); first | (rw [if_pos rfl, if_pos h65]; omega) | (rw [if_neg h28, if_pos (show xE μ n l c = 3 from h65)]; omega), rfl⟩
      · refine J.iload hG dX6_isUnlawfulBy_31 rfl ?_
        refine J.iload hG dX6_isUnlawfulBy_33 rfl ?_
        refine J.aload_n hG dX6_isUnlawfulBy_35 rfl rfl ?_
        refine J.getR hG ciX6 rfl 1 1 rfl (Nat.le_of_ble_eq_true rfl) rfl fl_X6_19 dX6_isUnlawfulBy_36 ?_
        refine J.getR hG ciX1 rfl 4 4 rfl (Nat.le_of_ble_eq_true rfl) rfl fl_X6_113 dX6_isUnlawfulBy_39 ?_
        refine J.iload_n hG dX6_isUnlawfulBy_42 rfl rfl ?_
        refine J.iald hG rfl (by omega) (by omega) dX6_isUnlawfulBy_43 ?_
        refine J.iload hG dX6_isUnlawfulBy_44 rfl ?_
        refine J.callS hG (X6_endBy _ _ _ _ _ (by omega)) ok_X6_endBy ml_X6_261 rfl (Nat.le_of_ble_eq_true rfl) ⟨Nat.le_of_ble_eq_true rfl, Nat.le_of_ble_eq_true rfl⟩ dX6_isUnlawfulBy_46 rfl (fun r1 μ1 hp1 => ?_)
        obtain ⟨rfl, rfl⟩ := hp1
        refine J.goto hG 60 dX6_isUnlawfulBy_49 rfl ?_
        refine J.istore hG dX6_isUnlawfulBy_60 (Nat.le_of_ble_eq_true rfl) ?_
        refine J.iload hG dX6_isUnlawfulBy_62 rfl ?_
        refine J.iconst hG dX6_isUnlawfulBy_64 (by decide) ?_
        refine J.icmp_ne hG 70 dX6_isUnlawfulBy_65 rfl (fun h65 => ?_) (fun h65 => ?_)
        · refine J.iinc hG dX6_isUnlawfulBy_70 (Nat.le_of_ble_eq_true rfl) rfl (fun _ => (by omega)) ?_
          refine J.goto hG 3 dX6_isUnlawfulBy_73 rfl ?_
          refine J.drop 8 (J.drop 7 (ih (c + 1) (by omega) (by omega) ?_))
          first | (rw [if_pos h28] at i2; subst h28; rw [if_neg h65] at i2; exact i2) | (rw [if_neg h28, if_neg (show ¬ xE μ n l c = 3 from h65)] at i2; exact i2)
        · refine J.iconst hG dX6_isUnlawfulBy_68 (by decide) ?_
          refine J.zret hG (by first | exact Or.inl rfl | exact Or.inr rfl | (split <;> first | exact Or.inl rfl | exact Or.inr rfl)) dX6_isUnlawfulBy_69 ?_
          rw [hX]
          exact ⟨by congr 2; rw [if_pos]; rw [← i2]; (try subst h28); first | (rw [if_pos rfl, if_pos h65]; omega) | (rw [if_neg h28, if_pos (show xE μ n l c = 3 from h65)]; omega), rfl⟩
  refine J.iconst hG dX6_isUnlawfulBy_0 (by decide) ?_
  refine J.istore hG dX6_isUnlawfulBy_1 (Nat.le_of_ble_eq_true rfl) ?_
  exact lp (μ 13 0).toNat 0 (Int.le_refl _) (by omega) rfl

set_option maxRecDepth 100000 in
set_option maxHeartbeats 4000000 in
theorem X6_unlawfulYears (μ : Mem) (hB : XB μ) (s v t : Int) (hs : 0 ≤ s ∧ s < μ 13 0) : CT TX md_X6_unlawfulYears [aR 0, aI s, aI v, aI t] μ (fun rv μ1 => rv = some (aI (xUY μ s v t)) ∧ μ = μ1) := by
  refine CT.of (Nat.le_of_ble_eq_true rfl) (by decide) rfl (Nat.le_of_ble_eq_true rfl) (fun X hG hX => ?_)
  have hG : G TX X RX6 cX6_unlawfulYears 7 4 104 (some .int) := hG
  show J TX X 7 0 [some (aR 0), some (aI s), some (aI v), some (aI t), none, none, none] [] μ
  have hB2 := hB
  obtain ⟨h1, h2, h3, h4, h5, h6⟩ := hB2
  have lp : ∀ (k : Nat) (l : Int) (a : Int), 0 ≤ l → l + k = μ 13 1 → 0 ≤ a ∧ a ≤ 21 * l → a + smf (fun l => smf (fun n => if xUB μ l n s v t = -9 then 0 else 1) 0 21) l k = xUY μ s v t → J TX X 7 6 [some (aR 0), some (aI s), some (aI v), some (aI t), some (aI a), some (aI l), none] [] μ := by
    intro k
    induction k with
    | zero =>
      intro l a i0 i1 i2 i3
      refine J.iload hG dX6_unlawfulYears_6 rfl ?_
      refine J.aload_n hG dX6_unlawfulYears_8 rfl rfl ?_
      refine J.getR hG ciX6 rfl 1 1 rfl (Nat.le_of_ble_eq_true rfl) rfl fl_X6_19 dX6_unlawfulYears_9 ?_
      refine J.getI hG ciX1 rfl 1 1 rfl (Nat.le_of_ble_eq_true rfl) rfl fl_X6_247 dX6_unlawfulYears_12 ?_
      refine J.icmp_ge hG 57 dX6_unlawfulYears_15 rfl (fun h15 => ?_) (fun h15 => absurd h15 (by omega))
      refine J.iload hG dX6_unlawfulYears_57 rfl ?_
      refine J.iret hG dX6_unlawfulYears_59 ?_
      rw [hX]
      exact ⟨by rw [← i3]; simp only [smf, Int.add_zero], rfl⟩
    | succ k ih =>
      intro l a i0 i1 i2 i3
      rw [smf] at i3
      have ih0 := ih
      clear ih
      have lp2 : ∀ (k : Nat) (n : Int) (a2 : Int), 0 ≤ n → n + k = 21 → 0 ≤ a2 ∧ a2 ≤ 21 * l + n → a2 + smf (fun n => if xUB μ l n s v t = -9 then 0 else 1) n k = a + smf (fun n => if xUB μ l n s v t = -9 then 0 else 1) 0 21 → J TX X 7 21 [some (aR 0), some (aI s), some (aI v), some (aI t), some (aI a2), some (aI l), some (aI n)] [] μ := by
        intro k
        induction k with
        | zero =>
          intro n a2 i8 i9 j2 j3
          refine J.iload hG dX6_unlawfulYears_21 rfl ?_
          refine J.bipush hG dX6_unlawfulYears_23 (by decide) (by decide) ?_
          refine J.icmp_gt hG 51 dX6_unlawfulYears_25 rfl (fun h25 => ?_) (fun h25 => absurd h25 (by omega))
          refine J.iinc hG dX6_unlawfulYears_51 (Nat.le_of_ble_eq_true rfl) rfl (fun _ => (by omega)) ?_
          refine J.goto hG 6 dX6_unlawfulYears_54 rfl ?_
          simp only [smf, Int.add_zero] at j3
          exact J.drop 6 (ih0 (l + 1) a2 (by omega) (by omega) (by omega) (by simp only [smf, Int.add_zero] at i3 j3 ⊢; omega))
        | succ k ih =>
          intro n a2 i8 i9 j2 j3
          rw [smf] at j3
          refine J.iload hG dX6_unlawfulYears_21 rfl ?_
          refine J.bipush hG dX6_unlawfulYears_23 (by decide) (by decide) ?_
          refine J.icmp_gt hG 51 dX6_unlawfulYears_25 rfl (fun h25 => absurd h25 (by omega)) (fun h25 => ?_)
          refine J.aload_n hG dX6_unlawfulYears_28 rfl rfl ?_
          refine J.iload hG dX6_unlawfulYears_29 rfl ?_
          refine J.iload hG dX6_unlawfulYears_31 rfl ?_
          refine J.iload_n hG dX6_unlawfulYears_33 rfl rfl ?_
          refine J.iload_n hG dX6_unlawfulYears_34 rfl rfl ?_
          refine J.iload_n hG dX6_unlawfulYears_35 rfl rfl ?_
          refine J.callV hG (X6_isUnlawfulBy _ hB _ _ _ _ _ (by omega) (by omega) hs) ok_X6_isUnlawfulBy ml_X6_270 rfl rfl rfl rfl (Nat.le_of_ble_eq_true rfl) ⟨Nat.le_of_ble_eq_true rfl, Nat.le_of_ble_eq_true rfl⟩ dX6_unlawfulYears_36 rfl (fun r1 μ1 hp1 => ?_)
          obtain ⟨rfl, rfl⟩ := hp1
          refine J.ifb_eq hG 45 dX6_unlawfulYears_39 rfl (fun h39 => ?_) (fun h39 => ?_)
          · refine J.iinc hG dX6_unlawfulYears_45 (Nat.le_of_ble_eq_true rfl) rfl (fun _ => (by omega)) ?_
            refine J.goto hG 21 dX6_unlawfulYears_48 rfl ?_
            exact ih (n + 1) _ (by omega) (by omega) (by omega) (by first | (rw [if_pos (by omega)] at j3; omega) | (rw [if_neg h39] at j3; omega))
          · refine J.iinc hG dX6_unlawfulYears_42 (Nat.le_of_ble_eq_true rfl) rfl (fun _ => (by omega)) ?_
            refine J.iinc hG dX6_unlawfulYears_45 (Nat.le_of_ble_eq_true rfl) rfl (fun _ => (by omega)) ?_
            refine J.goto hG 21 dX6_unlawfulYears_48 rfl ?_
            exact ih (n + 1) _ (by omega) (by omega) (by omega) (by first | (rw [if_pos (by omega)] at j3; omega) | (rw [if_neg h39] at j3; omega))
      refine J.iload hG dX6_unlawfulYears_6 rfl ?_
      refine J.aload_n hG dX6_unlawfulYears_8 rfl rfl ?_
      refine J.getR hG ciX6 rfl 1 1 rfl (Nat.le_of_ble_eq_true rfl) rfl fl_X6_19 dX6_unlawfulYears_9 ?_
      refine J.getI hG ciX1 rfl 1 1 rfl (Nat.le_of_ble_eq_true rfl) rfl fl_X6_247 dX6_unlawfulYears_12 ?_
      refine J.icmp_ge hG 57 dX6_unlawfulYears_15 rfl (fun h15 => absurd h15 (by omega)) (fun h15 => ?_)
      refine J.iconst hG dX6_unlawfulYears_18 (by decide) ?_
      refine J.istore hG dX6_unlawfulYears_19 (Nat.le_of_ble_eq_true rfl) ?_
      exact lp2 21 0 a (Int.le_refl _) (by omega) (by omega) (by omega)
  refine J.iconst hG dX6_unlawfulYears_0 (by decide) ?_
  refine J.istore hG dX6_unlawfulYears_1 (Nat.le_of_ble_eq_true rfl) ?_
  refine J.iconst hG dX6_unlawfulYears_3 (by decide) ?_
  refine J.istore hG dX6_unlawfulYears_4 (Nat.le_of_ble_eq_true rfl) ?_
  exact lp (μ 13 1).toNat 0 0 (Int.le_refl _) (by omega) (by omega) (by unfold xUY; omega)

set_option maxRecDepth 100000 in
set_option maxHeartbeats 4000000 in
theorem X6_endChangesByJump (μ : Mem) (hB : XB μ) (s t : Int) (hs : 0 ≤ s ∧ s < μ 13 0) : CT TX md_X6_endChangesByJump [aR 0, aI s, aI t] μ (fun rv μ1 => rv = some (aI (xEC μ s t)) ∧ μ = μ1) := by
  refine CT.of (Nat.le_of_ble_eq_true rfl) (by decide) rfl (Nat.le_of_ble_eq_true rfl) (fun X hG hX => ?_)
  have hG : G TX X RX6 cX6_endChangesByJump 6 3 76 (some .int) := hG
  show J TX X 6 0 [some (aR 0), some (aI s), some (aI t), none, none, none] [] μ
  have hB2 := hB
  obtain ⟨h1, h2, h3, h4, h5, h6⟩ := hB2
  have lp : ∀ (k : Nat) (l : Int) (a : Int), 0 ≤ l → l + k = μ 13 1 → 0 ≤ a ∧ a ≤ 20 * l → a + smf (fun l => smf (fun n => if xV μ n l s < t ↔ xV μ (n + 1) l s < t then 0 else 1) 0 20) l k = xEC μ s t → J TX X 6 5 [some (aR 0), some (aI s), some (aI t), some (aI a), some (aI l), none] [] μ := by
    intro k
    induction k with
    | zero =>
      intro l a i0 i1 i2 i3
      refine J.iload hG dX6_endChangesByJump_5 rfl ?_
      refine J.aload_n hG dX6_endChangesByJump_7 rfl rfl ?_
      refine J.getR hG ciX6 rfl 1 1 rfl (Nat.le_of_ble_eq_true rfl) rfl fl_X6_19 dX6_endChangesByJump_8 ?_
      refine J.getI hG ciX1 rfl 1 1 rfl (Nat.le_of_ble_eq_true rfl) rfl fl_X6_247 dX6_endChangesByJump_11 ?_
      refine J.icmp_ge hG 83 dX6_endChangesByJump_14 rfl (fun h14 => ?_) (fun h14 => absurd h14 (by omega))
      refine J.iload_n hG dX6_endChangesByJump_83 rfl rfl ?_
      refine J.iret hG dX6_endChangesByJump_84 ?_
      rw [hX]
      exact ⟨by rw [← i3]; simp only [smf, Int.add_zero], rfl⟩
    | succ k ih =>
      intro l a i0 i1 i2 i3
      rw [smf] at i3
      have ih0 := ih
      clear ih
      have lp2 : ∀ (k : Nat) (n : Int) (a2 : Int), 0 ≤ n → n + k = 20 → 0 ≤ a2 ∧ a2 ≤ 20 * l + n → a2 + smf (fun n => if xV μ n l s < t ↔ xV μ (n + 1) l s < t then 0 else 1) n k = a + smf (fun n => if xV μ n l s < t ↔ xV μ (n + 1) l s < t then 0 else 1) 0 20 → J TX X 6 20 [some (aR 0), some (aI s), some (aI t), some (aI a2), some (aI l), some (aI n)] [] μ := by
        intro k
        induction k with
        | zero =>
          intro n a2 i8 i9 j2 j3
          refine J.iload hG dX6_endChangesByJump_20 rfl ?_
          refine J.bipush hG dX6_endChangesByJump_22 (by decide) (by decide) ?_
          refine J.icmp_ge hG 77 dX6_endChangesByJump_24 rfl (fun h24 => ?_) (fun h24 => absurd h24 (by omega))
          refine J.iinc hG dX6_endChangesByJump_77 (Nat.le_of_ble_eq_true rfl) rfl (fun _ => (by omega)) ?_
          refine J.goto hG 5 dX6_endChangesByJump_80 rfl ?_
          simp only [smf, Int.add_zero] at j3
          exact J.drop 5 (ih0 (l + 1) a2 (by omega) (by omega) (by omega) (by simp only [smf, Int.add_zero] at i3 j3 ⊢; omega))
        | succ k ih =>
          intro n a2 i8 i9 j2 j3
          rw [smf] at j3
          refine J.iload hG dX6_endChangesByJump_20 rfl ?_
          refine J.bipush hG dX6_endChangesByJump_22 (by decide) (by decide) ?_
          refine J.icmp_ge hG 77 dX6_endChangesByJump_24 rfl (fun h24 => absurd h24 (by omega)) (fun h24 => ?_)
          refine J.aload_n hG dX6_endChangesByJump_27 rfl rfl ?_
          refine J.iload hG dX6_endChangesByJump_28 rfl ?_
          refine J.iload hG dX6_endChangesByJump_30 rfl ?_
          refine J.iload_n hG dX6_endChangesByJump_32 rfl rfl ?_
          refine J.callV hG (X6_valueBehind _ hB _ _ _ (by omega) (by omega) hs) ok_X6_valueBehind ml_X6_264 rfl rfl rfl rfl (Nat.le_of_ble_eq_true rfl) ⟨Nat.le_of_ble_eq_true rfl, Nat.le_of_ble_eq_true rfl⟩ dX6_endChangesByJump_33 rfl (fun r1 μ1 hp1 => ?_)
          obtain ⟨rfl, rfl⟩ := hp1
          refine J.iload_n hG dX6_endChangesByJump_36 rfl rfl ?_
          refine J.icmp_ge hG 44 dX6_endChangesByJump_37 rfl (fun h37 => ?_) (fun h37 => ?_)
          · refine J.iconst hG dX6_endChangesByJump_44 (by decide) ?_
            refine J.aload_n hG dX6_endChangesByJump_45 rfl rfl ?_
            refine J.iload hG dX6_endChangesByJump_46 rfl ?_
            refine J.iconst hG dX6_endChangesByJump_48 (by decide) ?_
            refine J.iadd hG dX6_endChangesByJump_49 (fun _ _ => (by omega)) ?_
            refine J.iload hG dX6_endChangesByJump_50 rfl ?_
            refine J.iload_n hG dX6_endChangesByJump_52 rfl rfl ?_
            refine J.callV hG (X6_valueBehind _ hB _ _ _ (by omega) (by omega) hs) ok_X6_valueBehind ml_X6_264 rfl rfl rfl rfl (Nat.le_of_ble_eq_true rfl) ⟨Nat.le_of_ble_eq_true rfl, Nat.le_of_ble_eq_true rfl⟩ dX6_endChangesByJump_53 rfl (fun r1 μ1 hp1 => ?_)
            obtain ⟨rfl, rfl⟩ := hp1
            refine J.iload_n hG dX6_endChangesByJump_56 rfl rfl ?_
            refine J.icmp_ge hG 64 dX6_endChangesByJump_57 rfl (fun h57 => ?_) (fun h57 => ?_)
            · refine J.iconst hG dX6_endChangesByJump_64 (by decide) ?_
              refine J.icmp_eq hG 71 dX6_endChangesByJump_65 rfl (fun h65 => ?_) (fun h65 => absurd h65 (by omega))
              refine J.iinc hG dX6_endChangesByJump_71 (Nat.le_of_ble_eq_true rfl) rfl (fun _ => (by omega)) ?_
              refine J.goto hG 20 dX6_endChangesByJump_74 rfl ?_
              exact ih (n + 1) _ (by omega) (by omega) (by omega) (by first | (rw [if_pos (by omega)] at j3; omega) | (rw [if_neg (by omega)] at j3; omega))
            · refine J.iconst hG dX6_endChangesByJump_60 (by decide) ?_
              refine J.goto hG 65 dX6_endChangesByJump_61 rfl ?_
              refine J.icmp_eq hG 71 dX6_endChangesByJump_65 rfl (fun h65 => absurd h65 (by omega)) (fun h65 => ?_)
              refine J.iinc hG dX6_endChangesByJump_68 (Nat.le_of_ble_eq_true rfl) rfl (fun _ => (by omega)) ?_
              refine J.iinc hG dX6_endChangesByJump_71 (Nat.le_of_ble_eq_true rfl) rfl (fun _ => (by omega)) ?_
              refine J.goto hG 20 dX6_endChangesByJump_74 rfl ?_
              exact ih (n + 1) _ (by omega) (by omega) (by omega) (by first | (rw [if_pos (by omega)] at j3; omega) | (rw [if_neg (by omega)] at j3; omega))
          · refine J.iconst hG dX6_endChangesByJump_40 (by decide) ?_
            refine J.goto hG 45 dX6_endChangesByJump_41 rfl ?_
            refine J.aload_n hG dX6_endChangesByJump_45 rfl rfl ?_
            refine J.iload hG dX6_endChangesByJump_46 rfl ?_
            refine J.iconst hG dX6_endChangesByJump_48 (by decide) ?_
            refine J.iadd hG dX6_endChangesByJump_49 (fun _ _ => (by omega)) ?_
            refine J.iload hG dX6_endChangesByJump_50 rfl ?_
            refine J.iload_n hG dX6_endChangesByJump_52 rfl rfl ?_
            refine J.callV hG (X6_valueBehind _ hB _ _ _ (by omega) (by omega) hs) ok_X6_valueBehind ml_X6_264 rfl rfl rfl rfl (Nat.le_of_ble_eq_true rfl) ⟨Nat.le_of_ble_eq_true rfl, Nat.le_of_ble_eq_true rfl⟩ dX6_endChangesByJump_53 rfl (fun r1 μ1 hp1 => ?_)
            obtain ⟨rfl, rfl⟩ := hp1
            refine J.iload_n hG dX6_endChangesByJump_56 rfl rfl ?_
            refine J.icmp_ge hG 64 dX6_endChangesByJump_57 rfl (fun h57 => ?_) (fun h57 => ?_)
            · refine J.iconst hG dX6_endChangesByJump_64 (by decide) ?_
              refine J.icmp_eq hG 71 dX6_endChangesByJump_65 rfl (fun h65 => absurd h65 (by omega)) (fun h65 => ?_)
              refine J.iinc hG dX6_endChangesByJump_68 (Nat.le_of_ble_eq_true rfl) rfl (fun _ => (by omega)) ?_
              refine J.iinc hG dX6_endChangesByJump_71 (Nat.le_of_ble_eq_true rfl) rfl (fun _ => (by omega)) ?_
              refine J.goto hG 20 dX6_endChangesByJump_74 rfl ?_
              exact ih (n + 1) _ (by omega) (by omega) (by omega) (by first | (rw [if_pos (by omega)] at j3; omega) | (rw [if_neg (by omega)] at j3; omega))
            · refine J.iconst hG dX6_endChangesByJump_60 (by decide) ?_
              refine J.goto hG 65 dX6_endChangesByJump_61 rfl ?_
              refine J.icmp_eq hG 71 dX6_endChangesByJump_65 rfl (fun h65 => ?_) (fun h65 => absurd h65 (by omega))
              refine J.iinc hG dX6_endChangesByJump_71 (Nat.le_of_ble_eq_true rfl) rfl (fun _ => (by omega)) ?_
              refine J.goto hG 20 dX6_endChangesByJump_74 rfl ?_
              exact ih (n + 1) _ (by omega) (by omega) (by omega) (by first | (rw [if_pos (by omega)] at j3; omega) | (rw [if_neg (by omega)] at j3; omega))
      refine J.iload hG dX6_endChangesByJump_5 rfl ?_
      refine J.aload_n hG dX6_endChangesByJump_7 rfl rfl ?_
      refine J.getR hG ciX6 rfl 1 1 rfl (Nat.le_of_ble_eq_true rfl) rfl fl_X6_19 dX6_endChangesByJump_8 ?_
      refine J.getI hG ciX1 rfl 1 1 rfl (Nat.le_of_ble_eq_true rfl) rfl fl_X6_247 dX6_endChangesByJump_11 ?_
      refine J.icmp_ge hG 83 dX6_endChangesByJump_14 rfl (fun h14 => absurd h14 (by omega)) (fun h14 => ?_)
      refine J.iconst hG dX6_endChangesByJump_17 (by decide) ?_
      refine J.istore hG dX6_endChangesByJump_18 (Nat.le_of_ble_eq_true rfl) ?_
      exact lp2 20 0 a (Int.le_refl _) (by omega) (by omega) (by omega)
  refine J.iconst hG dX6_endChangesByJump_0 (by decide) ?_
  refine J.istore_n hG dX6_endChangesByJump_1 rfl (Nat.le_of_ble_eq_true rfl) ?_
  refine J.iconst hG dX6_endChangesByJump_2 (by decide) ?_
  refine J.istore hG dX6_endChangesByJump_3 (Nat.le_of_ble_eq_true rfl) ?_
  exact lp (μ 13 1).toNat 0 0 (Int.le_refl _) (by omega) (by omega) (by unfold xEC; omega)

set_option maxRecDepth 100000 in
set_option maxHeartbeats 4000000 in
theorem X6_areOpposed (μ : Mem) (hB : XB μ) (a b : Int) (ha : 0 ≤ a ∧ a < μ 13 0) (hb : 0 ≤ b ∧ b < μ 13 0) : CT TX md_X6_areOpposed [aR 0, aI a, aI b] μ (fun rv μ1 => rv = some (aI (if ¬ xOp μ a b = -9 then 1 else 0)) ∧ μ = μ1) := by
  refine CT.of (Nat.le_of_ble_eq_true rfl) (by decide) rfl (Nat.le_of_ble_eq_true rfl) (fun X hG hX => ?_)
  have hG : G TX X RX6 cX6_areOpposed 6 2 46 (some .boolean) := hG
  show J TX X 6 0 [some (aR 0), some (aI a), some (aI b), none, none, none] [] μ
  have hB2 := hB
  obtain ⟨h1, h2, h3, h4, h5, h6⟩ := hB2
  have q5 := h5 a ha.1 ha.2
  have q7 := h5 b hb.1 hb.2
  refine J.aload_n hG dX6_areOpposed_0 rfl rfl ?_
  refine J.getR hG ciX6 rfl 1 1 rfl (Nat.le_of_ble_eq_true rfl) rfl fl_X6_19 dX6_areOpposed_1 ?_
  refine J.getR hG ciX1 rfl 4 4 rfl (Nat.le_of_ble_eq_true rfl) rfl fl_X6_113 dX6_areOpposed_4 ?_
  refine J.iload_n hG dX6_areOpposed_7 rfl rfl ?_
  refine J.iald hG rfl (by omega) (by omega) dX6_areOpposed_8 ?_
  refine J.aload_n hG dX6_areOpposed_9 rfl rfl ?_
  refine J.getR hG ciX6 rfl 1 1 rfl (Nat.le_of_ble_eq_true rfl) rfl fl_X6_19 dX6_areOpposed_10 ?_
  refine J.getR hG ciX1 rfl 4 4 rfl (Nat.le_of_ble_eq_true rfl) rfl fl_X6_113 dX6_areOpposed_13 ?_
  refine J.iload_n hG dX6_areOpposed_16 rfl rfl ?_
  refine J.iald hG rfl (by omega) (by omega) dX6_areOpposed_17 ?_
  refine J.icmp_eq hG 23 dX6_areOpposed_18 rfl (fun h18 => ?_) (fun h18 => ?_)
  · refine J.iconst hG dX6_areOpposed_23 (by decide) ?_
    refine J.istore_n hG dX6_areOpposed_24 rfl (Nat.le_of_ble_eq_true rfl) ?_
    have lp : ∀ (k : Nat) (v : Int), 0 ≤ v → v + k = μ 14 a + 1 → fs3 (xO μ a b) k v = fs3 (xO μ a b) (μ 14 a + 1).toNat 0 → J TX X 6 25 [some (aR 0), some (aI a), some (aI b), some (aI v), none, none] [] μ := by
      intro k
      induction k with
      | zero =>
        intro v  i0 i1 i2
        refine J.iload_n hG dX6_areOpposed_25 rfl rfl ?_
        refine J.aload_n hG dX6_areOpposed_26 rfl rfl ?_
        refine J.getR hG ciX6 rfl 1 1 rfl (Nat.le_of_ble_eq_true rfl) rfl fl_X6_19 dX6_areOpposed_27 ?_
        refine J.getR hG ciX1 rfl 4 4 rfl (Nat.le_of_ble_eq_true rfl) rfl fl_X6_113 dX6_areOpposed_30 ?_
        refine J.iload_n hG dX6_areOpposed_33 rfl rfl ?_
        refine J.iald hG rfl (by omega) (by omega) dX6_areOpposed_34 ?_
        refine J.icmp_gt hG 84 dX6_areOpposed_35 rfl (fun h35 => ?_) (fun h35 => absurd h35 (by omega))
        refine J.iconst hG dX6_areOpposed_84 (by decide) ?_
        refine J.zret hG (by first | exact Or.inl rfl | exact Or.inr rfl | (split <;> first | exact Or.inl rfl | exact Or.inr rfl)) dX6_areOpposed_85 ?_
        rw [hX]
        exact ⟨by congr 2; rw [xOp, if_pos h18, ← i2]; rfl, rfl⟩
      | succ k ih =>
        intro v  i0 i1 i2
        rw [fs3] at i2
        refine J.iload_n hG dX6_areOpposed_25 rfl rfl ?_
        refine J.aload_n hG dX6_areOpposed_26 rfl rfl ?_
        refine J.getR hG ciX6 rfl 1 1 rfl (Nat.le_of_ble_eq_true rfl) rfl fl_X6_19 dX6_areOpposed_27 ?_
        refine J.getR hG ciX1 rfl 4 4 rfl (Nat.le_of_ble_eq_true rfl) rfl fl_X6_113 dX6_areOpposed_30 ?_
        refine J.iload_n hG dX6_areOpposed_33 rfl rfl ?_
        refine J.iald hG rfl (by omega) (by omega) dX6_areOpposed_34 ?_
        refine J.icmp_gt hG 84 dX6_areOpposed_35 rfl (fun h35 => absurd h35 (by omega)) (fun h35 => ?_)
        refine J.aload_n hG dX6_areOpposed_38 rfl rfl ?_
        refine J.iload_n hG dX6_areOpposed_39 rfl rfl ?_
        refine J.iload_n hG dX6_areOpposed_40 rfl rfl ?_
        refine J.callV hG (X6_endOf _ _ _ (by omega) (by omega)) ok_X6_endOf ml_X6_136 rfl rfl rfl rfl (Nat.le_of_ble_eq_true rfl) ⟨Nat.le_of_ble_eq_true rfl, Nat.le_of_ble_eq_true rfl⟩ dX6_areOpposed_41 rfl (fun r1 μ1 hp1 => ?_)
        obtain ⟨rfl, rfl⟩ := hp1
        refine J.istore hG dX6_areOpposed_44 (Nat.le_of_ble_eq_true rfl) ?_
        refine J.aload_n hG dX6_areOpposed_46 rfl rfl ?_
        refine J.iload_n hG dX6_areOpposed_47 rfl rfl ?_
        refine J.iload_n hG dX6_areOpposed_48 rfl rfl ?_
        refine J.callV hG (X6_endOf _ _ _ (by omega) (by omega)) ok_X6_endOf ml_X6_136 rfl rfl rfl rfl (Nat.le_of_ble_eq_true rfl) ⟨Nat.le_of_ble_eq_true rfl, Nat.le_of_ble_eq_true rfl⟩ dX6_areOpposed_49 rfl (fun r1 μ1 hp1 => ?_)
        obtain ⟨rfl, rfl⟩ := hp1
        refine J.istore hG dX6_areOpposed_52 (Nat.le_of_ble_eq_true rfl) ?_
        refine J.iload hG dX6_areOpposed_54 rfl ?_
        refine J.if_ne hG 65 dX6_areOpposed_56 rfl (fun h56 => ?_) (fun h56 => ?_)
        · refine J.iload hG dX6_areOpposed_65 rfl ?_
          refine J.iconst hG dX6_areOpposed_67 (by decide) ?_
          refine J.icmp_ne hG 78 dX6_areOpposed_68 rfl (fun h68 => ?_) (fun h68 => ?_)
          · refine J.iinc hG dX6_areOpposed_78 (Nat.le_of_ble_eq_true rfl) rfl (fun _ => (by omega)) ?_
            refine J.goto hG 25 dX6_areOpposed_81 rfl ?_
            have e : ¬ xO μ a b v = 3 := by unfold xO; rw [if_neg (by omega)]; omega
            rw [if_neg e] at i2
            exact J.drop 5 (J.drop 4 (ih (v + 1) (by omega) (by omega) i2))
          · refine J.iload hG dX6_areOpposed_71 rfl ?_
            refine J.if_ne hG 78 dX6_areOpposed_73 rfl (fun h73 => ?_) (fun h73 => ?_)
            · refine J.iinc hG dX6_areOpposed_78 (Nat.le_of_ble_eq_true rfl) rfl (fun _ => (by omega)) ?_
              refine J.goto hG 25 dX6_areOpposed_81 rfl ?_
              have e : ¬ xO μ a b v = 3 := by unfold xO; rw [if_neg (by omega)]; omega
              rw [if_neg e] at i2
              exact J.drop 5 (J.drop 4 (ih (v + 1) (by omega) (by omega) i2))
            · refine J.iconst hG dX6_areOpposed_76 (by decide) ?_
              refine J.zret hG (by first | exact Or.inl rfl | exact Or.inr rfl | (split <;> first | exact Or.inl rfl | exact Or.inr rfl)) dX6_areOpposed_77 ?_
              rw [hX]
              have e : xO μ a b v = 3 := by unfold xO; rw [if_pos (by omega)]
              rw [if_pos e] at i2
              exact ⟨by congr 2; rw [xOp, if_pos h18, ← i2, if_pos (by omega)], rfl⟩
        · refine J.iload hG dX6_areOpposed_59 rfl ?_
          refine J.iconst hG dX6_areOpposed_61 (by decide) ?_
          refine J.icmp_eq hG 76 dX6_areOpposed_62 rfl (fun h62 => ?_) (fun h62 => ?_)
          · refine J.iconst hG dX6_areOpposed_76 (by decide) ?_
            refine J.zret hG (by first | exact Or.inl rfl | exact Or.inr rfl | (split <;> first | exact Or.inl rfl | exact Or.inr rfl)) dX6_areOpposed_77 ?_
            rw [hX]
            have e : xO μ a b v = 3 := by unfold xO; rw [if_pos (by omega)]
            rw [if_pos e] at i2
            exact ⟨by congr 2; rw [xOp, if_pos h18, ← i2, if_pos (by omega)], rfl⟩
          · refine J.iload hG dX6_areOpposed_65 rfl ?_
            refine J.iconst hG dX6_areOpposed_67 (by decide) ?_
            refine J.icmp_ne hG 78 dX6_areOpposed_68 rfl (fun h68 => ?_) (fun h68 => ?_)
            · refine J.iinc hG dX6_areOpposed_78 (Nat.le_of_ble_eq_true rfl) rfl (fun _ => (by omega)) ?_
              refine J.goto hG 25 dX6_areOpposed_81 rfl ?_
              have e : ¬ xO μ a b v = 3 := by unfold xO; rw [if_neg (by omega)]; omega
              rw [if_neg e] at i2
              exact J.drop 5 (J.drop 4 (ih (v + 1) (by omega) (by omega) i2))
            · refine J.iload hG dX6_areOpposed_71 rfl ?_
              refine J.if_ne hG 78 dX6_areOpposed_73 rfl (fun h73 => ?_) (fun h73 => ?_)
              · refine J.iinc hG dX6_areOpposed_78 (Nat.le_of_ble_eq_true rfl) rfl (fun _ => (by omega)) ?_
                refine J.goto hG 25 dX6_areOpposed_81 rfl ?_
                have e : ¬ xO μ a b v = 3 := by unfold xO; rw [if_neg (by omega)]; omega
                rw [if_neg e] at i2
                exact J.drop 5 (J.drop 4 (ih (v + 1) (by omega) (by omega) i2))
              · refine J.iconst hG dX6_areOpposed_76 (by decide) ?_
                refine J.zret hG (by first | exact Or.inl rfl | exact Or.inr rfl | (split <;> first | exact Or.inl rfl | exact Or.inr rfl)) dX6_areOpposed_77 ?_
                rw [hX]
                have e : xO μ a b v = 3 := by unfold xO; rw [if_pos (by omega)]
                rw [if_pos e] at i2
                exact ⟨by congr 2; rw [xOp, if_pos h18, ← i2, if_pos (by omega)], rfl⟩
    exact lp (μ 14 a + 1).toNat 0 (Int.le_refl _) (by omega) rfl
  · refine J.iconst hG dX6_areOpposed_21 (by decide) ?_
    refine J.zret hG (by first | exact Or.inl rfl | exact Or.inr rfl | (split <;> first | exact Or.inl rfl | exact Or.inr rfl)) dX6_areOpposed_22 ?_
    rw [hX]
    exact ⟨by congr 2; rw [xOp, if_neg h18]; rfl, rfl⟩
end
