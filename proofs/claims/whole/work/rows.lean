section
-- ===== PART A: goes FIRST, ahead of the names: the tables' words, and 'selects' of the private methods out of them =====
/-- a private method of a class that the tables say can be made, by its rows of tables_1 -/
def lw_okq (q : MethodName × Nat) : Prop := (q.1.cls ≠ "java/lang/invoke/MethodHandle" ∧ q.1.cls ≠ "java/lang/invoke/VarHandle") ∧ Cond.instantiable q.1.cls q.2 ∈ tables_1 ∧ Cond.privateMethod q.1 ∈ tables_1 ∧ Cond.instanceMethod q.1 ∈ tables_1
theorem lw_p0 : lw_okq (⟨"GreenHours", "troubleOfPlace", "(I)I"⟩, 11) := ⟨⟨by decide +kernel, by decide +kernel⟩, List.mem_of_getElem? (i := 18) (by decide +kernel), List.mem_of_getElem? (i := 207) (by decide +kernel), List.mem_of_getElem? (i := 208) (by decide +kernel)⟩
theorem lw_p1 : lw_okq (⟨"GreenHours", "troubleOfFare", "(III)I"⟩, 11) := ⟨⟨by decide +kernel, by decide +kernel⟩, List.mem_of_getElem? (i := 18) (by decide +kernel), List.mem_of_getElem? (i := 222) (by decide +kernel), List.mem_of_getElem? (i := 223) (by decide +kernel)⟩
theorem lw_p2 : lw_okq (⟨"GreenHours", "troubleOfGreen", "(IIII)I"⟩, 11) := ⟨⟨by decide +kernel, by decide +kernel⟩, List.mem_of_getElem? (i := 18) (by decide +kernel), List.mem_of_getElem? (i := 234) (by decide +kernel), List.mem_of_getElem? (i := 235) (by decide +kernel)⟩
theorem lw_p3 : lw_okq (⟨"GreenHours", "troubleOfJob", "(IIIIII)I"⟩, 11) := ⟨⟨by decide +kernel, by decide +kernel⟩, List.mem_of_getElem? (i := 18) (by decide +kernel), List.mem_of_getElem? (i := 250) (by decide +kernel), List.mem_of_getElem? (i := 251) (by decide +kernel)⟩
theorem lw_p4 : lw_okq (⟨"java/util/ArrayList", "add", "(Ljava/lang/Object;[Ljava/lang/Object;I)V"⟩, 3) := ⟨⟨by decide +kernel, by decide +kernel⟩, List.mem_of_getElem? (i := 55) (by decide +kernel), List.mem_of_getElem? (i := 313) (by decide +kernel), List.mem_of_getElem? (i := 314) (by decide +kernel)⟩
theorem lw_p5 : lw_okq (⟨"java/util/ArrayList", "grow", "()[Ljava/lang/Object;"⟩, 3) := ⟨⟨by decide +kernel, by decide +kernel⟩, List.mem_of_getElem? (i := 55) (by decide +kernel), List.mem_of_getElem? (i := 317) (by decide +kernel), List.mem_of_getElem? (i := 318) (by decide +kernel)⟩
theorem lw_p6 : lw_okq (⟨"java/util/ArrayList", "grow", "(I)[Ljava/lang/Object;"⟩, 3) := ⟨⟨by decide +kernel, by decide +kernel⟩, List.mem_of_getElem? (i := 55) (by decide +kernel), List.mem_of_getElem? (i := 321) (by decide +kernel), List.mem_of_getElem? (i := 322) (by decide +kernel)⟩
theorem lw_p7 : lw_okq (⟨"GreenHours", "troubleOfDrop", "(I)I"⟩, 11) := ⟨⟨by decide +kernel, by decide +kernel⟩, List.mem_of_getElem? (i := 18) (by decide +kernel), List.mem_of_getElem? (i := 368) (by decide +kernel), List.mem_of_getElem? (i := 369) (by decide +kernel)⟩
theorem lw_p8 : lw_okq (⟨"GreenHours", "isJob", "(I)Z"⟩, 11) := ⟨⟨by decide +kernel, by decide +kernel⟩, List.mem_of_getElem? (i := 18) (by decide +kernel), List.mem_of_getElem? (i := 372) (by decide +kernel), List.mem_of_getElem? (i := 373) (by decide +kernel)⟩
theorem lw_p9 : lw_okq (⟨"GreenHours", "makePlan", "(LGreenHours$Plan;)V"⟩, 11) := ⟨⟨by decide +kernel, by decide +kernel⟩, List.mem_of_getElem? (i := 18) (by decide +kernel), List.mem_of_getElem? (i := 402) (by decide +kernel), List.mem_of_getElem? (i := 403) (by decide +kernel)⟩
theorem lw_p10 : lw_okq (⟨"GreenHours", "orderWaiting", "()I"⟩, 11) := ⟨⟨by decide +kernel, by decide +kernel⟩, List.mem_of_getElem? (i := 18) (by decide +kernel), List.mem_of_getElem? (i := 410) (by decide +kernel), List.mem_of_getElem? (i := 411) (by decide +kernel)⟩
theorem lw_p11 : lw_okq (⟨"GreenHours", "rankOf", "(I)I"⟩, 11) := ⟨⟨by decide +kernel, by decide +kernel⟩, List.mem_of_getElem? (i := 18) (by decide +kernel), List.mem_of_getElem? (i := 414) (by decide +kernel), List.mem_of_getElem? (i := 415) (by decide +kernel)⟩
theorem lw_p12 : lw_okq (⟨"GreenHours", "isBehind", "(I)Z"⟩, 11) := ⟨⟨by decide +kernel, by decide +kernel⟩, List.mem_of_getElem? (i := 18) (by decide +kernel), List.mem_of_getElem? (i := 418) (by decide +kernel), List.mem_of_getElem? (i := 419) (by decide +kernel)⟩
theorem lw_p13 : lw_okq (⟨"GreenHours", "layOne", "(LGreenHours$Plan;I)V"⟩, 11) := ⟨⟨by decide +kernel, by decide +kernel⟩, List.mem_of_getElem? (i := 18) (by decide +kernel), List.mem_of_getElem? (i := 422) (by decide +kernel), List.mem_of_getElem? (i := 423) (by decide +kernel)⟩
theorem lw_p14 : lw_okq (⟨"GreenHours$Prices", "fillRow", "(LGreenHours$Sites;LGreenHours$Work;IIZ)V"⟩, 7) := ⟨⟨by decide +kernel, by decide +kernel⟩, List.mem_of_getElem? (i := 107) (by decide +kernel), List.mem_of_getElem? (i := 431) (by decide +kernel), List.mem_of_getElem? (i := 432) (by decide +kernel)⟩
theorem lw_p15 : lw_okq (⟨"GreenHours$Prices", "pickAt", "(I)V"⟩, 7) := ⟨⟨by decide +kernel, by decide +kernel⟩, List.mem_of_getElem? (i := 107) (by decide +kernel), List.mem_of_getElem? (i := 443) (by decide +kernel), List.mem_of_getElem? (i := 444) (by decide +kernel)⟩
def lw_privs_1 : List (MethodName × Nat) := [(⟨"GreenHours", "troubleOfPlace", "(I)I"⟩, 11), (⟨"GreenHours", "troubleOfFare", "(III)I"⟩, 11), (⟨"GreenHours", "troubleOfGreen", "(IIII)I"⟩, 11), (⟨"GreenHours", "troubleOfJob", "(IIIIII)I"⟩, 11), (⟨"java/util/ArrayList", "add", "(Ljava/lang/Object;[Ljava/lang/Object;I)V"⟩, 3), (⟨"java/util/ArrayList", "grow", "()[Ljava/lang/Object;"⟩, 3), (⟨"java/util/ArrayList", "grow", "(I)[Ljava/lang/Object;"⟩, 3), (⟨"GreenHours", "troubleOfDrop", "(I)I"⟩, 11), (⟨"GreenHours", "isJob", "(I)Z"⟩, 11), (⟨"GreenHours", "makePlan", "(LGreenHours$Plan;)V"⟩, 11), (⟨"GreenHours", "orderWaiting", "()I"⟩, 11), (⟨"GreenHours", "rankOf", "(I)I"⟩, 11), (⟨"GreenHours", "isBehind", "(I)Z"⟩, 11), (⟨"GreenHours", "layOne", "(LGreenHours$Plan;I)V"⟩, 11), (⟨"GreenHours$Prices", "fillRow", "(LGreenHours$Sites;LGreenHours$Work;IIZ)V"⟩, 7), (⟨"GreenHours$Prices", "pickAt", "(I)V"⟩, 7)]
theorem lw_r1 : ∀ q ∈ lw_privs_1, lw_okq q := List.forall_mem_cons.mpr ⟨lw_p0, List.forall_mem_cons.mpr ⟨lw_p1, List.forall_mem_cons.mpr ⟨lw_p2, List.forall_mem_cons.mpr ⟨lw_p3, List.forall_mem_cons.mpr ⟨lw_p4, List.forall_mem_cons.mpr ⟨lw_p5, List.forall_mem_cons.mpr ⟨lw_p6, List.forall_mem_cons.mpr ⟨lw_p7, List.forall_mem_cons.mpr ⟨lw_p8, List.forall_mem_cons.mpr ⟨lw_p9, List.forall_mem_cons.mpr ⟨lw_p10, List.forall_mem_cons.mpr ⟨lw_p11, List.forall_mem_cons.mpr ⟨lw_p12, List.forall_mem_cons.mpr ⟨lw_p13, List.forall_mem_cons.mpr ⟨lw_p14, List.forall_mem_cons.mpr ⟨lw_p15, fun _ h => absurd h List.not_mem_nil⟩⟩⟩⟩⟩⟩⟩⟩⟩⟩⟩⟩⟩⟩⟩⟩
theorem lw_p16 : lw_okq (⟨"GreenHours", "countOf", "(I)I"⟩, 11) := ⟨⟨by decide +kernel, by decide +kernel⟩, List.mem_of_getElem? (i := 18) (by decide +kernel), List.mem_of_getElem? (i := 484) (by decide +kernel), List.mem_of_getElem? (i := 485) (by decide +kernel)⟩
theorem lw_p17 : lw_okq (⟨"GreenHours", "leastTogether", "()I"⟩, 11) := ⟨⟨by decide +kernel, by decide +kernel⟩, List.mem_of_getElem? (i := 18) (by decide +kernel), List.mem_of_getElem? (i := 488) (by decide +kernel), List.mem_of_getElem? (i := 489) (by decide +kernel)⟩
theorem lw_p18 : lw_okq (⟨"GreenHours$Trio", "keep", "(IIII)V"⟩, 6) := ⟨⟨by decide +kernel, by decide +kernel⟩, List.mem_of_getElem? (i := 143) (by decide +kernel), List.mem_of_getElem? (i := 500) (by decide +kernel), List.mem_of_getElem? (i := 501) (by decide +kernel)⟩
theorem lw_p19 : lw_okq (⟨"GreenHours$Trio", "cheapestFrom", "(I)I"⟩, 6) := ⟨⟨by decide +kernel, by decide +kernel⟩, List.mem_of_getElem? (i := 143) (by decide +kernel), List.mem_of_getElem? (i := 511) (by decide +kernel), List.mem_of_getElem? (i := 512) (by decide +kernel)⟩
theorem lw_p20 : lw_okq (⟨"GreenHours", "troubleOfPass", "(I)I"⟩, 11) := ⟨⟨by decide +kernel, by decide +kernel⟩, List.mem_of_getElem? (i := 18) (by decide +kernel), List.mem_of_getElem? (i := 529) (by decide +kernel), List.mem_of_getElem? (i := 530) (by decide +kernel)⟩
theorem lw_p21 : lw_okq (⟨"GreenHours", "passHour", "()I"⟩, 11) := ⟨⟨by decide +kernel, by decide +kernel⟩, List.mem_of_getElem? (i := 18) (by decide +kernel), List.mem_of_getElem? (i := 533) (by decide +kernel), List.mem_of_getElem? (i := 534) (by decide +kernel)⟩
theorem lw_p22 : lw_okq (⟨"GreenHours", "beginLaid", "()V"⟩, 11) := ⟨⟨by decide +kernel, by decide +kernel⟩, List.mem_of_getElem? (i := 18) (by decide +kernel), List.mem_of_getElem? (i := 537) (by decide +kernel), List.mem_of_getElem? (i := 538) (by decide +kernel)⟩
theorem lw_p23 : lw_okq (⟨"GreenHours", "loseLate", "()V"⟩, 11) := ⟨⟨by decide +kernel, by decide +kernel⟩, List.mem_of_getElem? (i := 18) (by decide +kernel), List.mem_of_getElem? (i := 541) (by decide +kernel), List.mem_of_getElem? (i := 542) (by decide +kernel)⟩
theorem lw_p24 : lw_okq (⟨"GreenHours", "doHour", "(LGreenHours$Work;)I"⟩, 11) := ⟨⟨by decide +kernel, by decide +kernel⟩, List.mem_of_getElem? (i := 18) (by decide +kernel), List.mem_of_getElem? (i := 545) (by decide +kernel), List.mem_of_getElem? (i := 546) (by decide +kernel)⟩
theorem lw_p25 : lw_okq (⟨"GreenHours", "paidOfDone", "()I"⟩, 11) := ⟨⟨by decide +kernel, by decide +kernel⟩, List.mem_of_getElem? (i := 18) (by decide +kernel), List.mem_of_getElem? (i := 576) (by decide +kernel), List.mem_of_getElem? (i := 577) (by decide +kernel)⟩
theorem lw_p26 : lw_okq (⟨"GreenHours", "regretOf", "(LGreenHours$Work;)I"⟩, 11) := ⟨⟨by decide +kernel, by decide +kernel⟩, List.mem_of_getElem? (i := 18) (by decide +kernel), List.mem_of_getElem? (i := 584) (by decide +kernel), List.mem_of_getElem? (i := 585) (by decide +kernel)⟩
theorem lw_p27 : lw_okq (⟨"GreenHoursModel", "refused", "(I)I"⟩, 35) := ⟨⟨by decide +kernel, by decide +kernel⟩, List.mem_of_getElem? (i := 605) (by decide +kernel), List.mem_of_getElem? (i := 725) (by decide +kernel), List.mem_of_getElem? (i := 726) (by decide +kernel)⟩
theorem lw_p28 : lw_okq (⟨"GreenHoursModel", "done", "(I)I"⟩, 35) := ⟨⟨by decide +kernel, by decide +kernel⟩, List.mem_of_getElem? (i := 605) (by decide +kernel), List.mem_of_getElem? (i := 729) (by decide +kernel), List.mem_of_getElem? (i := 730) (by decide +kernel)⟩
theorem lw_p29 : lw_okq (⟨"GreenHoursModel", "isPlace", "(I)Z"⟩, 35) := ⟨⟨by decide +kernel, by decide +kernel⟩, List.mem_of_getElem? (i := 605) (by decide +kernel), List.mem_of_getElem? (i := 737) (by decide +kernel), List.mem_of_getElem? (i := 738) (by decide +kernel)⟩
theorem lw_p30 : lw_okq (⟨"GreenHoursModel", "denied", "(I)Z"⟩, 35) := ⟨⟨by decide +kernel, by decide +kernel⟩, List.mem_of_getElem? (i := 605) (by decide +kernel), List.mem_of_getElem? (i := 741) (by decide +kernel), List.mem_of_getElem? (i := 742) (by decide +kernel)⟩
theorem lw_p31 : lw_okq (⟨"GreenHoursModel", "granted", "()Z"⟩, 35) := ⟨⟨by decide +kernel, by decide +kernel⟩, List.mem_of_getElem? (i := 605) (by decide +kernel), List.mem_of_getElem? (i := 745) (by decide +kernel), List.mem_of_getElem? (i := 746) (by decide +kernel)⟩
def lw_privs_2 : List (MethodName × Nat) := [(⟨"GreenHours", "countOf", "(I)I"⟩, 11), (⟨"GreenHours", "leastTogether", "()I"⟩, 11), (⟨"GreenHours$Trio", "keep", "(IIII)V"⟩, 6), (⟨"GreenHours$Trio", "cheapestFrom", "(I)I"⟩, 6), (⟨"GreenHours", "troubleOfPass", "(I)I"⟩, 11), (⟨"GreenHours", "passHour", "()I"⟩, 11), (⟨"GreenHours", "beginLaid", "()V"⟩, 11), (⟨"GreenHours", "loseLate", "()V"⟩, 11), (⟨"GreenHours", "doHour", "(LGreenHours$Work;)I"⟩, 11), (⟨"GreenHours", "paidOfDone", "()I"⟩, 11), (⟨"GreenHours", "regretOf", "(LGreenHours$Work;)I"⟩, 11), (⟨"GreenHoursModel", "refused", "(I)I"⟩, 35), (⟨"GreenHoursModel", "done", "(I)I"⟩, 35), (⟨"GreenHoursModel", "isPlace", "(I)Z"⟩, 35), (⟨"GreenHoursModel", "denied", "(I)Z"⟩, 35), (⟨"GreenHoursModel", "granted", "()Z"⟩, 35)]
theorem lw_r2 : ∀ q ∈ lw_privs_2, lw_okq q := List.forall_mem_cons.mpr ⟨lw_p16, List.forall_mem_cons.mpr ⟨lw_p17, List.forall_mem_cons.mpr ⟨lw_p18, List.forall_mem_cons.mpr ⟨lw_p19, List.forall_mem_cons.mpr ⟨lw_p20, List.forall_mem_cons.mpr ⟨lw_p21, List.forall_mem_cons.mpr ⟨lw_p22, List.forall_mem_cons.mpr ⟨lw_p23, List.forall_mem_cons.mpr ⟨lw_p24, List.forall_mem_cons.mpr ⟨lw_p25, List.forall_mem_cons.mpr ⟨lw_p26, List.forall_mem_cons.mpr ⟨lw_p27, List.forall_mem_cons.mpr ⟨lw_p28, List.forall_mem_cons.mpr ⟨lw_p29, List.forall_mem_cons.mpr ⟨lw_p30, List.forall_mem_cons.mpr ⟨lw_p31, fun _ h => absurd h List.not_mem_nil⟩⟩⟩⟩⟩⟩⟩⟩⟩⟩⟩⟩⟩⟩⟩⟩
theorem lw_p32 : lw_okq (⟨"GreenHoursModel", "isJob", "(I)Z"⟩, 35) := ⟨⟨by decide +kernel, by decide +kernel⟩, List.mem_of_getElem? (i := 605) (by decide +kernel), List.mem_of_getElem? (i := 769) (by decide +kernel), List.mem_of_getElem? (i := 770) (by decide +kernel)⟩
theorem lw_p33 : lw_okq (⟨"GreenHoursModel", "lays", "()V"⟩, 35) := ⟨⟨by decide +kernel, by decide +kernel⟩, List.mem_of_getElem? (i := 605) (by decide +kernel), List.mem_of_getElem? (i := 781) (by decide +kernel), List.mem_of_getElem? (i := 782) (by decide +kernel)⟩
theorem lw_p34 : lw_okq (⟨"GreenHoursModel", "delayOf", "(I)I"⟩, 35) := ⟨⟨by decide +kernel, by decide +kernel⟩, List.mem_of_getElem? (i := 605) (by decide +kernel), List.mem_of_getElem? (i := 785) (by decide +kernel), List.mem_of_getElem? (i := 786) (by decide +kernel)⟩
theorem lw_p35 : lw_okq (⟨"GreenHoursModel", "uses", "()V"⟩, 35) := ⟨⟨by decide +kernel, by decide +kernel⟩, List.mem_of_getElem? (i := 605) (by decide +kernel), List.mem_of_getElem? (i := 789) (by decide +kernel), List.mem_of_getElem? (i := 790) (by decide +kernel)⟩
theorem lw_p36 : lw_okq (⟨"GreenHoursModel", "puts", "(IIII)V"⟩, 35) := ⟨⟨by decide +kernel, by decide +kernel⟩, List.mem_of_getElem? (i := 605) (by decide +kernel), List.mem_of_getElem? (i := 793) (by decide +kernel), List.mem_of_getElem? (i := 794) (by decide +kernel)⟩
theorem lw_p37 : lw_okq (⟨"GreenHoursModel", "isAhead", "(II)Z"⟩, 35) := ⟨⟨by decide +kernel, by decide +kernel⟩, List.mem_of_getElem? (i := 605) (by decide +kernel), List.mem_of_getElem? (i := 797) (by decide +kernel), List.mem_of_getElem? (i := 798) (by decide +kernel)⟩
theorem lw_p38 : lw_okq (⟨"GreenHoursModel", "layOne", "(I)V"⟩, 35) := ⟨⟨by decide +kernel, by decide +kernel⟩, List.mem_of_getElem? (i := 605) (by decide +kernel), List.mem_of_getElem? (i := 801) (by decide +kernel), List.mem_of_getElem? (i := 802) (by decide +kernel)⟩
theorem lw_p39 : lw_okq (⟨"GreenHoursModel", "hasRoom", "(III)Z"⟩, 35) := ⟨⟨by decide +kernel, by decide +kernel⟩, List.mem_of_getElem? (i := 605) (by decide +kernel), List.mem_of_getElem? (i := 806) (by decide +kernel), List.mem_of_getElem? (i := 807) (by decide +kernel)⟩
theorem lw_p40 : lw_okq (⟨"GreenHoursModel", "costOf", "(III)I"⟩, 35) := ⟨⟨by decide +kernel, by decide +kernel⟩, List.mem_of_getElem? (i := 605) (by decide +kernel), List.mem_of_getElem? (i := 810) (by decide +kernel), List.mem_of_getElem? (i := 811) (by decide +kernel)⟩
theorem lw_p41 : lw_okq (⟨"GreenHoursModel", "lists", "(II)V"⟩, 35) := ⟨⟨by decide +kernel, by decide +kernel⟩, List.mem_of_getElem? (i := 605) (by decide +kernel), List.mem_of_getElem? (i := 826) (by decide +kernel), List.mem_of_getElem? (i := 827) (by decide +kernel)⟩
theorem lw_p42 : lw_okq (⟨"GreenHoursModel", "tries", "(III)V"⟩, 35) := ⟨⟨by decide +kernel, by decide +kernel⟩, List.mem_of_getElem? (i := 605) (by decide +kernel), List.mem_of_getElem? (i := 830) (by decide +kernel), List.mem_of_getElem? (i := 831) (by decide +kernel)⟩
theorem lw_p43 : lw_okq (⟨"GreenHoursModel", "anHour", "()I"⟩, 35) := ⟨⟨by decide +kernel, by decide +kernel⟩, List.mem_of_getElem? (i := 605) (by decide +kernel), List.mem_of_getElem? (i := 842) (by decide +kernel), List.mem_of_getElem? (i := 843) (by decide +kernel)⟩
theorem lw_p44 : lw_okq (⟨"GreenHoursModel", "homeCost", "()I"⟩, 35) := ⟨⟨by decide +kernel, by decide +kernel⟩, List.mem_of_getElem? (i := 605) (by decide +kernel), List.mem_of_getElem? (i := 862) (by decide +kernel), List.mem_of_getElem? (i := 863) (by decide +kernel)⟩
theorem lw_p45 : lw_okq (⟨"GreenHoursModel", "regretOf", "(I)I"⟩, 35) := ⟨⟨by decide +kernel, by decide +kernel⟩, List.mem_of_getElem? (i := 605) (by decide +kernel), List.mem_of_getElem? (i := 874) (by decide +kernel), List.mem_of_getElem? (i := 875) (by decide +kernel)⟩
theorem lw_p46 : lw_okq (⟨"GreenHoursModel", "many", "(I)I"⟩, 35) := ⟨⟨by decide +kernel, by decide +kernel⟩, List.mem_of_getElem? (i := 605) (by decide +kernel), List.mem_of_getElem? (i := 892) (by decide +kernel), List.mem_of_getElem? (i := 893) (by decide +kernel)⟩
def lw_privs_3 : List (MethodName × Nat) := [(⟨"GreenHoursModel", "isJob", "(I)Z"⟩, 35), (⟨"GreenHoursModel", "lays", "()V"⟩, 35), (⟨"GreenHoursModel", "delayOf", "(I)I"⟩, 35), (⟨"GreenHoursModel", "uses", "()V"⟩, 35), (⟨"GreenHoursModel", "puts", "(IIII)V"⟩, 35), (⟨"GreenHoursModel", "isAhead", "(II)Z"⟩, 35), (⟨"GreenHoursModel", "layOne", "(I)V"⟩, 35), (⟨"GreenHoursModel", "hasRoom", "(III)Z"⟩, 35), (⟨"GreenHoursModel", "costOf", "(III)I"⟩, 35), (⟨"GreenHoursModel", "lists", "(II)V"⟩, 35), (⟨"GreenHoursModel", "tries", "(III)V"⟩, 35), (⟨"GreenHoursModel", "anHour", "()I"⟩, 35), (⟨"GreenHoursModel", "homeCost", "()I"⟩, 35), (⟨"GreenHoursModel", "regretOf", "(I)I"⟩, 35), (⟨"GreenHoursModel", "many", "(I)I"⟩, 35)]
theorem lw_r3 : ∀ q ∈ lw_privs_3, lw_okq q := List.forall_mem_cons.mpr ⟨lw_p32, List.forall_mem_cons.mpr ⟨lw_p33, List.forall_mem_cons.mpr ⟨lw_p34, List.forall_mem_cons.mpr ⟨lw_p35, List.forall_mem_cons.mpr ⟨lw_p36, List.forall_mem_cons.mpr ⟨lw_p37, List.forall_mem_cons.mpr ⟨lw_p38, List.forall_mem_cons.mpr ⟨lw_p39, List.forall_mem_cons.mpr ⟨lw_p40, List.forall_mem_cons.mpr ⟨lw_p41, List.forall_mem_cons.mpr ⟨lw_p42, List.forall_mem_cons.mpr ⟨lw_p43, List.forall_mem_cons.mpr ⟨lw_p44, List.forall_mem_cons.mpr ⟨lw_p45, List.forall_mem_cons.mpr ⟨lw_p46, fun _ h => absurd h List.not_mem_nil⟩⟩⟩⟩⟩⟩⟩⟩⟩⟩⟩⟩⟩⟩⟩
def lw_privs : List (MethodName × Nat) := lw_privs_1 ++ (lw_privs_2 ++ (lw_privs_3))
def lw_tbl : List Cond := k2_sels lw_privs ++ tables_1
theorem lw_privs_ok : ∀ q ∈ lw_privs, lw_okq q := by
  show ∀ q ∈ lw_privs_1 ++ (lw_privs_2 ++ (lw_privs_3)), lw_okq q
  exact List.forall_mem_append.mpr ⟨lw_r1, List.forall_mem_append.mpr ⟨lw_r2, lw_r3⟩⟩
end
section
/-! ===== BEGIN words of one list among another's, by their places ===== -/
theorem goodIn_r {big : List Cond} (ws : List Cond) (ps : List Nat) (hp : ws = ps.filterMap (fun i => big[i]?)) (h : ws.all goodWord = true) : GoodIn big ws := by
  intro w hw
  have h1 := List.all_eq_true.mp h w hw
  rw [hp] at hw
  obtain ⟨i, -, hi⟩ := List.mem_filterMap.mp hw
  have hm : w ∈ big := by first | exact List.mem_of_getElem? hi | exact List.getElem?_mem hi
  exact ⟨hm, good_of_word h1⟩
theorem goodIn_app {big a b : List Cond} (ha : GoodIn big a) (hb : GoodIn big b) : GoodIn big (a ++ b) := fun w h => (List.mem_append.mp h).elim (ha w) (hb w)
theorem goodIn_ca {big a b : List Cond} {c : Cond} (ha : GoodIn big (c :: a)) (hb : GoodIn big b) : GoodIn big (c :: (a ++ b)) := fun w h => (List.mem_cons.mp h).elim (fun e => ha w (List.mem_cons.mpr (Or.inl e))) (fun h => (List.mem_append.mp h).elim (fun h => ha w (List.mem_cons.mpr (Or.inr h))) (hb w))
theorem goodIn_sub {big ws : List Cond} (hm : ∀ w ∈ ws, w ∈ big) (h : ws.all goodWord = true) : GoodIn big ws := fun w hw => ⟨hm w hw, good_of_word (List.all_eq_true.mp h w hw)⟩
/-! ===== END ===== -/


/-! ===== BEGIN printed: names, fields, word lists, decode rows ===== -/
def RX0 : String := "GreenHours$Plan"
def TX0 : u_T := fun k => match k with
  | 0 => ("GreenHours$Plan", "places", "[I", true)
  | 1 => ("GreenHours$Plan", "hours", "[I", true)
  | 2 => ("GreenHours$Plan", "costs", "[I", true)
  | 3 => ("GreenHours$Plan", "size", "I", false)
  | _ => ("GreenHours$Plan", "total", "I", false)
def tyX0 : Nat → FieldType := fun k => match k with
  | 0 => .array .int
  | 1 => .array .int
  | 2 => .array .int
  | 3 => .int
  | _ => .int
abbrev wsX00 : List Cond := u_ws RX0 TX0 5
theorem nmX0 : ∀ a, a < 5 → ∀ b, b < 5 → a ≠ b → (TX0 a).2.1 ≠ (TX0 b).2.1 := by decide +kernel
theorem tyX0_ok : ∀ k, k < 5 → parseFieldDescriptor (TX0 k).2.2.1 = some (tyX0 k) := by decide +kernel
abbrev cX0_init : ByteArray := prog_2_method_1_code
def yX0_init : MethodName := ⟨RX0, "<init>", "()V"⟩
abbrev cX0_clear : ByteArray := prog_2_method_2_code
def yX0_clear : MethodName := ⟨RX0, "clear", "()V"⟩
abbrev cX0_put : ByteArray := prog_2_method_3_code
def yX0_put : MethodName := ⟨RX0, "put", "(IIII)V"⟩
abbrev cX0_has : ByteArray := prog_2_method_4_code
def yX0_has : MethodName := ⟨RX0, "has", "(I)Z"⟩
abbrev cX0_tell : ByteArray := prog_2_method_5_code
def yX0_tell : MethodName := ⟨RX0, "tell", "(II)I"⟩
def RX1 : String := "GreenHours$Prices"
def TX1 : u_T := fun k => match k with
  | 0 => ("GreenHours$Prices", "table", "[[I", true)
  | 1 => ("GreenHours$Prices", "known", "I", false)
  | 2 => ("GreenHours$Prices", "first", "I", false)
  | 3 => ("GreenHours$Prices", "last", "I", false)
  | 4 => ("GreenHours$Prices", "place", "I", false)
  | 5 => ("GreenHours$Prices", "hour", "I", false)
  | _ => ("GreenHours$Prices", "cost", "I", false)
def tyX1 : Nat → FieldType := fun k => match k with
  | 0 => .array (.array .int)
  | 1 => .int
  | 2 => .int
  | 3 => .int
  | 4 => .int
  | 5 => .int
  | _ => .int
abbrev wsX10 : List Cond := u_ws RX1 TX1 7
theorem nmX1 : ∀ a, a < 7 → ∀ b, b < 7 → a ≠ b → (TX1 a).2.1 ≠ (TX1 b).2.1 := by decide +kernel
theorem tyX1_ok : ∀ k, k < 7 → parseFieldDescriptor (TX1 k).2.2.1 = some (tyX1 k) := by decide +kernel
abbrev cX1_init : ByteArray := prog_3_method_1_code
def yX1_init : MethodName := ⟨RX1, "<init>", "()V"⟩
abbrev cX1_fill : ByteArray := prog_3_method_2_code
def yX1_fill : MethodName := ⟨RX1, "fill", "(LGreenHours$Sites;LGreenHours$Work;IIZ)V"⟩
abbrev cX1_fillRow : ByteArray := prog_3_method_3_code
def yX1_fillRow : MethodName := ⟨RX1, "fillRow", "(LGreenHours$Sites;LGreenHours$Work;IIZ)V"⟩
abbrev cX1_pickCheapest : ByteArray := prog_3_method_4_code
def yX1_pickCheapest : MethodName := ⟨RX1, "pickCheapest", "()V"⟩
abbrev cX1_pickSoonest : ByteArray := prog_3_method_5_code
def yX1_pickSoonest : MethodName := ⟨RX1, "pickSoonest", "()V"⟩
abbrev cX1_pickAt : ByteArray := prog_3_method_6_code
def yX1_pickAt : MethodName := ⟨RX1, "pickAt", "(I)V"⟩
def RX2 : String := "GreenHours$Sites"
def TX2 : u_T := fun k => match k with
  | 0 => ("GreenHours$Sites", "known", "I", false)
  | 1 => ("GreenHours$Sites", "fares", "[[I", true)
  | 2 => ("GreenHours$Sites", "greens", "[[I", true)
  | _ => ("GreenHours$Sites", "rooms", "[[I", true)
def tyX2 : Nat → FieldType := fun k => match k with
  | 0 => .int
  | 1 => .array (.array .int)
  | 2 => .array (.array .int)
  | _ => .array (.array .int)
abbrev wsX20 : List Cond := u_ws RX2 TX2 4
theorem nmX2 : ∀ a, a < 4 → ∀ b, b < 4 → a ≠ b → (TX2 a).2.1 ≠ (TX2 b).2.1 := by decide +kernel
theorem tyX2_ok : ∀ k, k < 4 → parseFieldDescriptor (TX2 k).2.2.1 = some (tyX2 k) := by decide +kernel
abbrev cX2_init : ByteArray := prog_4_method_1_code
def yX2_init : MethodName := ⟨RX2, "<init>", "()V"⟩
abbrev cX2_has : ByteArray := prog_4_method_2_code
def yX2_has : MethodName := ⟨RX2, "has", "(I)Z"⟩
abbrev cX2_add : ByteArray := prog_4_method_3_code
def yX2_add : MethodName := ⟨RX2, "add", "(I)I"⟩
abbrev cX2_carriage : ByteArray := prog_4_method_4_code
def yX2_carriage : MethodName := ⟨RX2, "carriage", "(LGreenHours$Work;I)I"⟩
abbrev cX2_costOf : ByteArray := prog_4_method_5_code
def yX2_costOf : MethodName := ⟨RX2, "costOf", "(LGreenHours$Work;II)I"⟩
abbrev cX2_fits : ByteArray := prog_4_method_6_code
def yX2_fits : MethodName := ⟨RX2, "fits", "(III)Z"⟩
abbrev cX2_take : ByteArray := prog_4_method_7_code
def yX2_take : MethodName := ⟨RX2, "take", "(III)V"⟩
abbrev cX2_giveBack : ByteArray := prog_4_method_8_code
def yX2_giveBack : MethodName := ⟨RX2, "giveBack", "(III)V"⟩
def RX3 : String := "GreenHours$Trio"
def TX3 : u_T := fun k => match k with
  | 0 => ("GreenHours$Trio", "places", "[[I", true)
  | 1 => ("GreenHours$Trio", "hours", "[[I", true)
  | 2 => ("GreenHours$Trio", "costs", "[[I", true)
  | 3 => ("GreenHours$Trio", "kept", "[I", true)
  | 4 => ("GreenHours$Trio", "lengths", "[I", true)
  | _ => ("GreenHours$Trio", "size", "I", false)
def tyX3 : Nat → FieldType := fun k => match k with
  | 0 => .array (.array .int)
  | 1 => .array (.array .int)
  | 2 => .array (.array .int)
  | 3 => .array .int
  | 4 => .array .int
  | _ => .int
abbrev wsX30 : List Cond := u_ws RX3 TX3 6
theorem nmX3 : ∀ a, a < 6 → ∀ b, b < 6 → a ≠ b → (TX3 a).2.1 ≠ (TX3 b).2.1 := by decide +kernel
theorem tyX3_ok : ∀ k, k < 6 → parseFieldDescriptor (TX3 k).2.2.1 = some (tyX3 k) := by decide +kernel
abbrev cX3_init : ByteArray := prog_5_method_1_code
def yX3_init : MethodName := ⟨RX3, "<init>", "()V"⟩
abbrev cX3_clear : ByteArray := prog_5_method_2_code
def yX3_clear : MethodName := ⟨RX3, "clear", "()V"⟩
abbrev cX3_add : ByteArray := prog_5_method_3_code
def yX3_add : MethodName := ⟨RX3, "add", "(LGreenHours$Work;LGreenHours$Prices;)V"⟩
abbrev cX3_keep : ByteArray := prog_5_method_4_code
def yX3_keep : MethodName := ⟨RX3, "keep", "(IIII)V"⟩
abbrev cX3_least : ByteArray := prog_5_method_5_code
def yX3_least : MethodName := ⟨RX3, "least", "(LGreenHours$Sites;)I"⟩
abbrev cX3_search : ByteArray := prog_5_method_6_code
def yX3_search : MethodName := ⟨RX3, "search", "(LGreenHours$Trio;LGreenHours$Sites;III)I"⟩
abbrev cX3_cheapestFrom : ByteArray := prog_5_method_7_code
def yX3_cheapestFrom : MethodName := ⟨RX3, "cheapestFrom", "(I)I"⟩
def RX4 : String := "GreenHours$Work"
def TX4 : u_T := fun k => match k with
  | 0 => ("GreenHours$Work", "owner", "I", true)
  | 1 => ("GreenHours$Work", "home", "I", true)
  | 2 => ("GreenHours$Work", "length", "I", true)
  | 3 => ("GreenHours$Work", "from", "I", true)
  | 4 => ("GreenHours$Work", "due", "I", true)
  | 5 => ("GreenHours$Work", "data", "I", true)
  | 6 => ("GreenHours$Work", "state", "I", false)
  | 7 => ("GreenHours$Work", "place", "I", false)
  | 8 => ("GreenHours$Work", "hour", "I", false)
  | _ => ("GreenHours$Work", "paid", "I", false)
def tyX4 : Nat → FieldType := fun k => match k with
  | 0 => .int
  | 1 => .int
  | 2 => .int
  | 3 => .int
  | 4 => .int
  | 5 => .int
  | 6 => .int
  | 7 => .int
  | 8 => .int
  | _ => .int
abbrev wsX40 : List Cond := u_ws RX4 TX4 10
theorem nmX4 : ∀ a, a < 10 → ∀ b, b < 10 → a ≠ b → (TX4 a).2.1 ≠ (TX4 b).2.1 := by decide +kernel
theorem tyX4_ok : ∀ k, k < 10 → parseFieldDescriptor (TX4 k).2.2.1 = some (tyX4 k) := by decide +kernel
abbrev cX4_init : ByteArray := prog_6_method_1_code
def yX4_init : MethodName := ⟨RX4, "<init>", "(IIIIII)V"⟩
abbrev cX4_tell : ByteArray := prog_6_method_2_code
def yX4_tell : MethodName := ⟨RX4, "tell", "(I)I"⟩
def RX5 : String := "GreenHours"
def TX5 : u_T := fun k => match k with
  | 0 => ("GreenHours", "sites", "LGreenHours$Sites;", true)
  | 1 => ("GreenHours", "works", "Ljava/util/ArrayList;", true)
  | 2 => ("GreenHours", "delays", "[I", true)
  | 3 => ("GreenHours", "shown", "LGreenHours$Plan;", true)
  | 4 => ("GreenHours", "hourly", "LGreenHours$Plan;", true)
  | 5 => ("GreenHours", "prices", "LGreenHours$Prices;", true)
  | 6 => ("GreenHours", "trio", "LGreenHours$Trio;", true)
  | 7 => ("GreenHours", "order", "[I", true)
  | 8 => ("GreenHours", "patienceNow", "I", false)
  | 9 => ("GreenHours", "now", "I", false)
  | _ => ("GreenHours", "troubleNow", "I", false)
def tyX5 : Nat → FieldType := fun k => match k with
  | 0 => .object "GreenHours$Sites"
  | 1 => .object "java/util/ArrayList"
  | 2 => .array .int
  | 3 => .object "GreenHours$Plan"
  | 4 => .object "GreenHours$Plan"
  | 5 => .object "GreenHours$Prices"
  | 6 => .object "GreenHours$Trio"
  | 7 => .array .int
  | 8 => .int
  | 9 => .int
  | _ => .int
abbrev wsX50 : List Cond := u_ws RX5 TX5 11
theorem nmX5 : ∀ a, a < 11 → ∀ b, b < 11 → a ≠ b → (TX5 a).2.1 ≠ (TX5 b).2.1 := by decide +kernel
theorem tyX5_ok : ∀ k, k < 11 → parseFieldDescriptor (TX5 k).2.2.1 = some (tyX5 k) := by decide +kernel
abbrev cX5_init : ByteArray := prog_1_method_1_code
def yX5_init : MethodName := ⟨RX5, "<init>", "()V"⟩
abbrev cX5_place : ByteArray := prog_1_method_2_code
def yX5_place : MethodName := ⟨RX5, "place", "(I)I"⟩
abbrev cX5_troubleOfPlace : ByteArray := prog_1_method_3_code
def yX5_troubleOfPlace : MethodName := ⟨RX5, "troubleOfPlace", "(I)I"⟩
abbrev cX5_fare : ByteArray := prog_1_method_4_code
def yX5_fare : MethodName := ⟨RX5, "fare", "(III)Z"⟩
abbrev cX5_troubleOfFare : ByteArray := prog_1_method_5_code
def yX5_troubleOfFare : MethodName := ⟨RX5, "troubleOfFare", "(III)I"⟩
abbrev cX5_green : ByteArray := prog_1_method_6_code
def yX5_green : MethodName := ⟨RX5, "green", "(IIII)Z"⟩
abbrev cX5_troubleOfGreen : ByteArray := prog_1_method_7_code
def yX5_troubleOfGreen : MethodName := ⟨RX5, "troubleOfGreen", "(IIII)I"⟩
abbrev cX5_told : ByteArray := prog_1_method_8_code
def yX5_told : MethodName := ⟨RX5, "told", "(II)I"⟩
abbrev cX5_patience : ByteArray := prog_1_method_9_code
def yX5_patience : MethodName := ⟨RX5, "patience", "(I)Z"⟩
abbrev cX5_job : ByteArray := prog_1_method_10_code
def yX5_job : MethodName := ⟨RX5, "job", "(IIIIII)I"⟩
abbrev cX5_troubleOfJob : ByteArray := prog_1_method_11_code
def yX5_troubleOfJob : MethodName := ⟨RX5, "troubleOfJob", "(IIIIII)I"⟩
abbrev cX5_drop : ByteArray := prog_1_method_12_code
def yX5_drop : MethodName := ⟨RX5, "drop", "(I)Z"⟩
abbrev cX5_troubleOfDrop : ByteArray := prog_1_method_13_code
def yX5_troubleOfDrop : MethodName := ⟨RX5, "troubleOfDrop", "(I)I"⟩
abbrev cX5_about : ByteArray := prog_1_method_14_code
def yX5_about : MethodName := ⟨RX5, "about", "(II)I"⟩
abbrev cX5_lay : ByteArray := prog_1_method_15_code
def yX5_lay : MethodName := ⟨RX5, "lay", "()I"⟩
abbrev cX5_laid : ByteArray := prog_1_method_16_code
def yX5_laid : MethodName := ⟨RX5, "laid", "(II)I"⟩
abbrev cX5_cost : ByteArray := prog_1_method_17_code
def yX5_cost : MethodName := ⟨RX5, "cost", "()I"⟩
abbrev cX5_best : ByteArray := prog_1_method_18_code
def yX5_best : MethodName := ⟨RX5, "best", "()I"⟩
abbrev cX5_free : ByteArray := prog_1_method_19_code
def yX5_free : MethodName := ⟨RX5, "free", "(II)I"⟩
abbrev cX5_pass : ByteArray := prog_1_method_20_code
def yX5_pass : MethodName := ⟨RX5, "pass", "(I)I"⟩
abbrev cX5_troubleOfPass : ByteArray := prog_1_method_21_code
def yX5_troubleOfPass : MethodName := ⟨RX5, "troubleOfPass", "(I)I"⟩
abbrev cX5_delay : ByteArray := prog_1_method_22_code
def yX5_delay : MethodName := ⟨RX5, "delay", "(I)I"⟩
abbrev cX5_behind : ByteArray := prog_1_method_23_code
def yX5_behind : MethodName := ⟨RX5, "behind", "(I)I"⟩
abbrev cX5_paid : ByteArray := prog_1_method_24_code
def yX5_paid : MethodName := ⟨RX5, "paid", "()I"⟩
abbrev cX5_atOnce : ByteArray := prog_1_method_25_code
def yX5_atOnce : MethodName := ⟨RX5, "atOnce", "()I"⟩
abbrev cX5_saved : ByteArray := prog_1_method_26_code
def yX5_saved : MethodName := ⟨RX5, "saved", "()I"⟩
abbrev cX5_regret : ByteArray := prog_1_method_27_code
def yX5_regret : MethodName := ⟨RX5, "regret", "(I)I"⟩
abbrev cX5_worst : ByteArray := prog_1_method_28_code
def yX5_worst : MethodName := ⟨RX5, "worst", "()I"⟩
abbrev cX5_would : ByteArray := prog_1_method_29_code
def yX5_would : MethodName := ⟨RX5, "would", "(III)I"⟩
abbrev cX5_count : ByteArray := prog_1_method_30_code
def yX5_count : MethodName := ⟨RX5, "count", "(I)I"⟩
abbrev cX5_trouble : ByteArray := prog_1_method_31_code
def yX5_trouble : MethodName := ⟨RX5, "trouble", "()I"⟩
abbrev cX5_within : ByteArray := prog_1_method_32_code
def yX5_within : MethodName := ⟨RX5, "within", "(III)Z"⟩
abbrev cX5_isJob : ByteArray := prog_1_method_33_code
def yX5_isJob : MethodName := ⟨RX5, "isJob", "(I)Z"⟩
abbrev cX5_isBehind : ByteArray := prog_1_method_34_code
def yX5_isBehind : MethodName := ⟨RX5, "isBehind", "(I)Z"⟩
abbrev cX5_countOf : ByteArray := prog_1_method_35_code
def yX5_countOf : MethodName := ⟨RX5, "countOf", "(I)I"⟩
abbrev cX5_paidOfDone : ByteArray := prog_1_method_36_code
def yX5_paidOfDone : MethodName := ⟨RX5, "paidOfDone", "()I"⟩
abbrev cX5_regretOf : ByteArray := prog_1_method_37_code
def yX5_regretOf : MethodName := ⟨RX5, "regretOf", "(LGreenHours$Work;)I"⟩
abbrev cX5_makePlan : ByteArray := prog_1_method_38_code
def yX5_makePlan : MethodName := ⟨RX5, "makePlan", "(LGreenHours$Plan;)V"⟩
abbrev cX5_layOne : ByteArray := prog_1_method_39_code
def yX5_layOne : MethodName := ⟨RX5, "layOne", "(LGreenHours$Plan;I)V"⟩
abbrev cX5_orderWaiting : ByteArray := prog_1_method_40_code
def yX5_orderWaiting : MethodName := ⟨RX5, "orderWaiting", "()I"⟩
abbrev cX5_rankOf : ByteArray := prog_1_method_41_code
def yX5_rankOf : MethodName := ⟨RX5, "rankOf", "(I)I"⟩
abbrev cX5_leastTogether : ByteArray := prog_1_method_42_code
def yX5_leastTogether : MethodName := ⟨RX5, "leastTogether", "()I"⟩
abbrev cX5_passHour : ByteArray := prog_1_method_43_code
def yX5_passHour : MethodName := ⟨RX5, "passHour", "()I"⟩
abbrev cX5_beginLaid : ByteArray := prog_1_method_44_code
def yX5_beginLaid : MethodName := ⟨RX5, "beginLaid", "()V"⟩
abbrev cX5_loseLate : ByteArray := prog_1_method_45_code
def yX5_loseLate : MethodName := ⟨RX5, "loseLate", "()V"⟩
abbrev cX5_doHour : ByteArray := prog_1_method_46_code
def yX5_doHour : MethodName := ⟨RX5, "doHour", "(LGreenHours$Work;)I"⟩
def RX6 : String := "GreenHoursModel"
def TX6 : u_T := fun k => match k with
  | 0 => ("GreenHoursModel", "thrown", "I", false)
  | 1 => ("GreenHoursModel", "trouble", "I", false)
  | 2 => ("GreenHoursModel", "places", "I", false)
  | 3 => ("GreenHoursModel", "jobs", "I", false)
  | 4 => ("GreenHoursModel", "now", "I", false)
  | 5 => ("GreenHoursModel", "patience", "I", false)
  | 6 => ("GreenHoursModel", "room", "[I", true)
  | 7 => ("GreenHoursModel", "fare", "[I", true)
  | 8 => ("GreenHoursModel", "green", "[I", true)
  | 9 => ("GreenHoursModel", "owner", "[I", true)
  | 10 => ("GreenHoursModel", "home", "[I", true)
  | 11 => ("GreenHoursModel", "length", "[I", true)
  | 12 => ("GreenHoursModel", "from", "[I", true)
  | 13 => ("GreenHoursModel", "due", "[I", true)
  | 14 => ("GreenHoursModel", "data", "[I", true)
  | 15 => ("GreenHoursModel", "state", "[I", true)
  | 16 => ("GreenHoursModel", "at", "[I", true)
  | 17 => ("GreenHoursModel", "hour", "[I", true)
  | 18 => ("GreenHoursModel", "paid", "[I", true)
  | 19 => ("GreenHoursModel", "used", "[I", true)
  | 20 => ("GreenHoursModel", "layPlace", "[I", true)
  | 21 => ("GreenHoursModel", "layHour", "[I", true)
  | 22 => ("GreenHoursModel", "layCost", "[I", true)
  | 23 => ("GreenHoursModel", "order", "[I", true)
  | 24 => ("GreenHoursModel", "laidPlace", "[I", true)
  | 25 => ("GreenHoursModel", "laidHour", "[I", true)
  | 26 => ("GreenHoursModel", "laidCost", "[I", true)
  | 27 => ("GreenHoursModel", "isBehind", "[Z", true)
  | 28 => ("GreenHoursModel", "ordered", "I", false)
  | 29 => ("GreenHoursModel", "laidJobs", "I", false)
  | 30 => ("GreenHoursModel", "few", "[I", true)
  | 31 => ("GreenHoursModel", "options", "[I", true)
  | 32 => ("GreenHoursModel", "choice", "[I", true)
  | 33 => ("GreenHoursModel", "least", "[I", true)
  | _ => ("GreenHoursModel", "bestSum", "I", false)
def tyX6 : Nat → FieldType := fun k => match k with
  | 0 => .int
  | 1 => .int
  | 2 => .int
  | 3 => .int
  | 4 => .int
  | 5 => .int
  | 6 => .array .int
  | 7 => .array .int
  | 8 => .array .int
  | 9 => .array .int
  | 10 => .array .int
  | 11 => .array .int
  | 12 => .array .int
  | 13 => .array .int
  | 14 => .array .int
  | 15 => .array .int
  | 16 => .array .int
  | 17 => .array .int
  | 18 => .array .int
  | 19 => .array .int
  | 20 => .array .int
  | 21 => .array .int
  | 22 => .array .int
  | 23 => .array .int
  | 24 => .array .int
  | 25 => .array .int
  | 26 => .array .int
  | 27 => .array .boolean
  | 28 => .int
  | 29 => .int
  | 30 => .array .int
  | 31 => .array .int
  | 32 => .array .int
  | 33 => .array .int
  | _ => .int
abbrev wsX60 : List Cond := u_ws RX6 TX6 35
theorem nmX6 : ∀ a, a < 35 → ∀ b, b < 35 → a ≠ b → (TX6 a).2.1 ≠ (TX6 b).2.1 := by decide +kernel
theorem tyX6_ok : ∀ k, k < 35 → parseFieldDescriptor (TX6 k).2.2.1 = some (tyX6 k) := by decide +kernel
abbrev cX6_refused : ByteArray := prog_8_method_2_code
def yX6_refused : MethodName := ⟨RX6, "refused", "(I)I"⟩
abbrev cX6_denied : ByteArray := prog_8_method_3_code
def yX6_denied : MethodName := ⟨RX6, "denied", "(I)Z"⟩
abbrev cX6_done : ByteArray := prog_8_method_4_code
def yX6_done : MethodName := ⟨RX6, "done", "(I)I"⟩
abbrev cX6_granted : ByteArray := prog_8_method_5_code
def yX6_granted : MethodName := ⟨RX6, "granted", "()Z"⟩
abbrev cX6_in : ByteArray := prog_8_method_6_code
def yX6_in : MethodName := ⟨RX6, "in", "(III)Z"⟩
abbrev cX6_init : ByteArray := prog_8_method_7_code
def yX6_init : MethodName := ⟨RX6, "<init>", "()V"⟩
abbrev cX6_isPlace : ByteArray := prog_8_method_8_code
def yX6_isPlace : MethodName := ⟨RX6, "isPlace", "(I)Z"⟩
abbrev cX6_isJob : ByteArray := prog_8_method_9_code
def yX6_isJob : MethodName := ⟨RX6, "isJob", "(I)Z"⟩
abbrev cX6_place : ByteArray := prog_8_method_10_code
def yX6_place : MethodName := ⟨RX6, "place", "(I)I"⟩
abbrev cX6_fare : ByteArray := prog_8_method_11_code
def yX6_fare : MethodName := ⟨RX6, "fare", "(III)Z"⟩
abbrev cX6_green : ByteArray := prog_8_method_12_code
def yX6_green : MethodName := ⟨RX6, "green", "(IIII)Z"⟩
abbrev cX6_told : ByteArray := prog_8_method_13_code
def yX6_told : MethodName := ⟨RX6, "told", "(II)I"⟩
abbrev cX6_patience : ByteArray := prog_8_method_14_code
def yX6_patience : MethodName := ⟨RX6, "patience", "(I)Z"⟩
abbrev cX6_job : ByteArray := prog_8_method_15_code
def yX6_job : MethodName := ⟨RX6, "job", "(IIIIII)I"⟩
abbrev cX6_drop : ByteArray := prog_8_method_16_code
def yX6_drop : MethodName := ⟨RX6, "drop", "(I)Z"⟩
abbrev cX6_about : ByteArray := prog_8_method_17_code
def yX6_about : MethodName := ⟨RX6, "about", "(II)I"⟩
abbrev cX6_uses : ByteArray := prog_8_method_18_code
def yX6_uses : MethodName := ⟨RX6, "uses", "()V"⟩
abbrev cX6_puts : ByteArray := prog_8_method_19_code
def yX6_puts : MethodName := ⟨RX6, "puts", "(IIII)V"⟩
abbrev cX6_hasRoom : ByteArray := prog_8_method_20_code
def yX6_hasRoom : MethodName := ⟨RX6, "hasRoom", "(III)Z"⟩
abbrev cX6_costOf : ByteArray := prog_8_method_21_code
def yX6_costOf : MethodName := ⟨RX6, "costOf", "(III)I"⟩
abbrev cX6_delayOf : ByteArray := prog_8_method_22_code
def yX6_delayOf : MethodName := ⟨RX6, "delayOf", "(I)I"⟩
abbrev cX6_isAhead : ByteArray := prog_8_method_23_code
def yX6_isAhead : MethodName := ⟨RX6, "isAhead", "(II)Z"⟩
abbrev cX6_lays : ByteArray := prog_8_method_24_code
def yX6_lays : MethodName := ⟨RX6, "lays", "()V"⟩
abbrev cX6_layOne : ByteArray := prog_8_method_25_code
def yX6_layOne : MethodName := ⟨RX6, "layOne", "(I)V"⟩
abbrev cX6_lay : ByteArray := prog_8_method_26_code
def yX6_lay : MethodName := ⟨RX6, "lay", "()I"⟩
abbrev cX6_laid : ByteArray := prog_8_method_27_code
def yX6_laid : MethodName := ⟨RX6, "laid", "(II)I"⟩
abbrev cX6_cost : ByteArray := prog_8_method_28_code
def yX6_cost : MethodName := ⟨RX6, "cost", "()I"⟩
abbrev cX6_lists : ByteArray := prog_8_method_29_code
def yX6_lists : MethodName := ⟨RX6, "lists", "(II)V"⟩
abbrev cX6_tries : ByteArray := prog_8_method_30_code
def yX6_tries : MethodName := ⟨RX6, "tries", "(III)V"⟩
abbrev cX6_best : ByteArray := prog_8_method_31_code
def yX6_best : MethodName := ⟨RX6, "best", "()I"⟩
abbrev cX6_free : ByteArray := prog_8_method_32_code
def yX6_free : MethodName := ⟨RX6, "free", "(II)I"⟩
abbrev cX6_anHour : ByteArray := prog_8_method_33_code
def yX6_anHour : MethodName := ⟨RX6, "anHour", "()I"⟩
abbrev cX6_pass : ByteArray := prog_8_method_34_code
def yX6_pass : MethodName := ⟨RX6, "pass", "(I)I"⟩
abbrev cX6_delay : ByteArray := prog_8_method_35_code
def yX6_delay : MethodName := ⟨RX6, "delay", "(I)I"⟩
abbrev cX6_behind : ByteArray := prog_8_method_36_code
def yX6_behind : MethodName := ⟨RX6, "behind", "(I)I"⟩
abbrev cX6_homeCost : ByteArray := prog_8_method_37_code
def yX6_homeCost : MethodName := ⟨RX6, "homeCost", "()I"⟩
abbrev cX6_paid : ByteArray := prog_8_method_38_code
def yX6_paid : MethodName := ⟨RX6, "paid", "()I"⟩
abbrev cX6_atOnce : ByteArray := prog_8_method_39_code
def yX6_atOnce : MethodName := ⟨RX6, "atOnce", "()I"⟩
abbrev cX6_saved : ByteArray := prog_8_method_40_code
def yX6_saved : MethodName := ⟨RX6, "saved", "()I"⟩
abbrev cX6_regretOf : ByteArray := prog_8_method_41_code
def yX6_regretOf : MethodName := ⟨RX6, "regretOf", "(I)I"⟩
abbrev cX6_regret : ByteArray := prog_8_method_42_code
def yX6_regret : MethodName := ⟨RX6, "regret", "(I)I"⟩
abbrev cX6_worst : ByteArray := prog_8_method_43_code
def yX6_worst : MethodName := ⟨RX6, "worst", "()I"⟩
abbrev cX6_would : ByteArray := prog_8_method_44_code
def yX6_would : MethodName := ⟨RX6, "would", "(III)I"⟩
abbrev cX6_many : ByteArray := prog_8_method_45_code
def yX6_many : MethodName := ⟨RX6, "many", "(I)I"⟩
abbrev cX6_count : ByteArray := prog_8_method_46_code
def yX6_count : MethodName := ⟨RX6, "count", "(I)I"⟩
abbrev cX6_trouble : ByteArray := prog_8_method_47_code
def yX6_trouble : MethodName := ⟨RX6, "trouble", "()I"⟩
def RJx145de : String := "java/io/Serializable"
def TJx145de : u_T := fun k => match k with
  | _ => ("", "", "", false)
def tyJx145de : Nat → FieldType := fun k => match k with
  | _ => .int
abbrev wsJx145de0 : List Cond := u_ws RJx145de TJx145de 0
theorem nmJx145de : ∀ a, a < 0 → ∀ b, b < 0 → a ≠ b → (TJx145de a).2.1 ≠ (TJx145de b).2.1 := by decide +kernel
theorem tyJx145de_ok : ∀ k, k < 0 → parseFieldDescriptor (TJx145de k).2.2.1 = some (tyJx145de k) := by decide +kernel
def RJx8e188 : String := "java/lang/Cloneable"
def TJx8e188 : u_T := fun k => match k with
  | _ => ("", "", "", false)
def tyJx8e188 : Nat → FieldType := fun k => match k with
  | _ => .int
abbrev wsJx8e1880 : List Cond := u_ws RJx8e188 TJx8e188 0
theorem nmJx8e188 : ∀ a, a < 0 → ∀ b, b < 0 → a ≠ b → (TJx8e188 a).2.1 ≠ (TJx8e188 b).2.1 := by decide +kernel
theorem tyJx8e188_ok : ∀ k, k < 0 → parseFieldDescriptor (TJx8e188 k).2.2.1 = some (tyJx8e188 k) := by decide +kernel
def RJxab1ab : String := "java/lang/Iterable"
def TJxab1ab : u_T := fun k => match k with
  | _ => ("", "", "", false)
def tyJxab1ab : Nat → FieldType := fun k => match k with
  | _ => .int
abbrev wsJxab1ab0 : List Cond := u_ws RJxab1ab TJxab1ab 0
theorem nmJxab1ab : ∀ a, a < 0 → ∀ b, b < 0 → a ≠ b → (TJxab1ab a).2.1 ≠ (TJxab1ab b).2.1 := by decide +kernel
theorem tyJxab1ab_ok : ∀ k, k < 0 → parseFieldDescriptor (TJxab1ab k).2.2.1 = some (tyJxab1ab k) := by decide +kernel
def RJ9 : String := "java/lang/Math"
def TJ9 : u_T := fun k => match k with
  | _ => ("", "", "", false)
def tyJ9 : Nat → FieldType := fun k => match k with
  | _ => .int
abbrev wsJ90 : List Cond := u_ws RJ9 TJ9 0
theorem nmJ9 : ∀ a, a < 0 → ∀ b, b < 0 → a ≠ b → (TJ9 a).2.1 ≠ (TJ9 b).2.1 := by decide +kernel
theorem tyJ9_ok : ∀ k, k < 0 → parseFieldDescriptor (TJ9 k).2.2.1 = some (tyJ9 k) := by decide +kernel
abbrev cJ9_max_7cf53 : ByteArray := prog_12_method_65_code
def yJ9_max_7cf53 : MethodName := ⟨RJ9, "max", "(II)I"⟩
abbrev cJ9_min_7cf53 : ByteArray := prog_12_method_69_code
def yJ9_min_7cf53 : MethodName := ⟨RJ9, "min", "(II)I"⟩
def RJ10 : String := "java/lang/System"
def TJ10 : u_T := fun k => match k with
  | _ => ("", "", "", false)
def tyJ10 : Nat → FieldType := fun k => match k with
  | _ => .int
abbrev wsJ100 : List Cond := u_ws RJ10 TJ10 0
theorem nmJ10 : ∀ a, a < 0 → ∀ b, b < 0 → a ≠ b → (TJ10 a).2.1 ≠ (TJ10 b).2.1 := by decide +kernel
theorem tyJ10_ok : ∀ k, k < 0 → parseFieldDescriptor (TJ10 k).2.2.1 = some (tyJ10 k) := by decide +kernel
def RJxa1e45 : String := "java/util/AbstractCollection"
def TJxa1e45 : u_T := fun k => match k with
  | _ => ("", "", "", false)
def tyJxa1e45 : Nat → FieldType := fun k => match k with
  | _ => .int
abbrev wsJxa1e450 : List Cond := u_ws RJxa1e45 TJxa1e45 0
theorem nmJxa1e45 : ∀ a, a < 0 → ∀ b, b < 0 → a ≠ b → (TJxa1e45 a).2.1 ≠ (TJxa1e45 b).2.1 := by decide +kernel
theorem tyJxa1e45_ok : ∀ k, k < 0 → parseFieldDescriptor (TJxa1e45 k).2.2.1 = some (tyJxa1e45 k) := by decide +kernel
abbrev cJxa1e45_init_da8c8 : ByteArray := prog_14_method_1_code
def yJxa1e45_init_da8c8 : MethodName := ⟨RJxa1e45, "<init>", "()V"⟩
def RJxc12de : String := "java/util/AbstractList"
def TJxc12de : u_T := fun k => match k with
  | _ => ("", "", "", false)
def tyJxc12de : Nat → FieldType := fun k => match k with
  | _ => .int
abbrev wsJxc12de0 : List Cond := u_ws RJxc12de TJxc12de 0
theorem nmJxc12de : ∀ a, a < 0 → ∀ b, b < 0 → a ≠ b → (TJxc12de a).2.1 ≠ (TJxc12de b).2.1 := by decide +kernel
theorem tyJxc12de_ok : ∀ k, k < 0 → parseFieldDescriptor (TJxc12de k).2.2.1 = some (tyJxc12de k) := by decide +kernel
abbrev cJxc12de_init_da8c8 : ByteArray := prog_15_method_1_code
def yJxc12de_init_da8c8 : MethodName := ⟨RJxc12de, "<init>", "()V"⟩
def RJx4a65c : String := "java/util/ArrayList"
def TJx4a65c : u_T := fun k => match k with
  | 0 => ("java/util/AbstractList", "modCount", "I", false)
  | 1 => ("java/util/ArrayList", "elementData", "[Ljava/lang/Object;", false)
  | _ => ("java/util/ArrayList", "size", "I", false)
def tyJx4a65c : Nat → FieldType := fun k => match k with
  | 0 => .int
  | 1 => .array (.object "java/lang/Object")
  | _ => .int
abbrev wsJx4a65c0 : List Cond := u_ws RJx4a65c TJx4a65c 3
theorem nmJx4a65c : ∀ a, a < 3 → ∀ b, b < 3 → a ≠ b → (TJx4a65c a).2.1 ≠ (TJx4a65c b).2.1 := by decide +kernel
theorem tyJx4a65c_ok : ∀ k, k < 3 → parseFieldDescriptor (TJx4a65c k).2.2.1 = some (tyJx4a65c k) := by decide +kernel
abbrev cJx4a65c_init_da8c8 : ByteArray := prog_16_method_2_code
def yJx4a65c_init_da8c8 : MethodName := ⟨RJx4a65c, "<init>", "()V"⟩
abbrev cJx4a65c_grow_92f84 : ByteArray := prog_16_method_6_code
def yJx4a65c_grow_92f84 : MethodName := ⟨RJx4a65c, "grow", "(I)[Ljava/lang/Object;"⟩
abbrev cJx4a65c_grow_d5877 : ByteArray := prog_16_method_7_code
def yJx4a65c_grow_d5877 : MethodName := ⟨RJx4a65c, "grow", "()[Ljava/lang/Object;"⟩
abbrev cJx4a65c_size_8abf5 : ByteArray := prog_16_method_8_code
def yJx4a65c_size_8abf5 : MethodName := ⟨RJx4a65c, "size", "()I"⟩
abbrev cJx4a65c_elementData_915e3 : ByteArray := prog_16_method_18_code
def yJx4a65c_elementData_915e3 : MethodName := ⟨RJx4a65c, "elementData", "(I)Ljava/lang/Object;"⟩
abbrev cJx4a65c_get_915e3 : ByteArray := prog_16_method_20_code
def yJx4a65c_get_915e3 : MethodName := ⟨RJx4a65c, "get", "(I)Ljava/lang/Object;"⟩
abbrev cJx4a65c_add_72be8 : ByteArray := prog_16_method_24_code
def yJx4a65c_add_72be8 : MethodName := ⟨RJx4a65c, "add", "(Ljava/lang/Object;[Ljava/lang/Object;I)V"⟩
abbrev cJx4a65c_add_9ea2d : ByteArray := prog_16_method_25_code
def yJx4a65c_add_9ea2d : MethodName := ⟨RJx4a65c, "add", "(Ljava/lang/Object;)Z"⟩
def RJ7 : String := "java/util/Arrays"
def TJ7 : u_T := fun k => match k with
  | _ => ("", "", "", false)
def tyJ7 : Nat → FieldType := fun k => match k with
  | _ => .int
abbrev wsJ70 : List Cond := u_ws RJ7 TJ7 0
theorem nmJ7 : ∀ a, a < 0 → ∀ b, b < 0 → a ≠ b → (TJ7 a).2.1 ≠ (TJ7 b).2.1 := by decide +kernel
theorem tyJ7_ok : ∀ k, k < 0 → parseFieldDescriptor (TJ7 k).2.2.1 = some (tyJ7 k) := by decide +kernel
abbrev cJ7_copyOf_1904c : ByteArray := prog_17_method_119_code
def yJ7_copyOf_1904c : MethodName := ⟨RJ7, "copyOf", "([Ljava/lang/Object;I)[Ljava/lang/Object;"⟩
abbrev cJ7_copyOf_6403c : ByteArray := prog_17_method_120_code
def yJ7_copyOf_6403c : MethodName := ⟨RJ7, "copyOf", "([Ljava/lang/Object;ILjava/lang/Class;)[Ljava/lang/Object;"⟩
def RJx5ef63 : String := "java/util/Collection"
def TJx5ef63 : u_T := fun k => match k with
  | _ => ("", "", "", false)
def tyJx5ef63 : Nat → FieldType := fun k => match k with
  | _ => .int
abbrev wsJx5ef630 : List Cond := u_ws RJx5ef63 TJx5ef63 0
theorem nmJx5ef63 : ∀ a, a < 0 → ∀ b, b < 0 → a ≠ b → (TJx5ef63 a).2.1 ≠ (TJx5ef63 b).2.1 := by decide +kernel
theorem tyJx5ef63_ok : ∀ k, k < 0 → parseFieldDescriptor (TJx5ef63 k).2.2.1 = some (tyJx5ef63 k) := by decide +kernel
def RJxbd725 : String := "java/util/List"
def TJxbd725 : u_T := fun k => match k with
  | _ => ("", "", "", false)
def tyJxbd725 : Nat → FieldType := fun k => match k with
  | _ => .int
abbrev wsJxbd7250 : List Cond := u_ws RJxbd725 TJxbd725 0
theorem nmJxbd725 : ∀ a, a < 0 → ∀ b, b < 0 → a ≠ b → (TJxbd725 a).2.1 ≠ (TJxbd725 b).2.1 := by decide +kernel
theorem tyJxbd725_ok : ∀ k, k < 0 → parseFieldDescriptor (TJxbd725 k).2.2.1 = some (tyJxbd725 k) := by decide +kernel
def RJ15 : String := "java/util/Objects"
def TJ15 : u_T := fun k => match k with
  | _ => ("", "", "", false)
def tyJ15 : Nat → FieldType := fun k => match k with
  | _ => .int
abbrev wsJ150 : List Cond := u_ws RJ15 TJ15 0
theorem nmJ15 : ∀ a, a < 0 → ∀ b, b < 0 → a ≠ b → (TJ15 a).2.1 ≠ (TJ15 b).2.1 := by decide +kernel
theorem tyJ15_ok : ∀ k, k < 0 → parseFieldDescriptor (TJ15 k).2.2.1 = some (tyJ15 k) := by decide +kernel
abbrev cJ15_checkIndex_7cf53 : ByteArray := prog_20_method_17_code
def yJ15_checkIndex_7cf53 : MethodName := ⟨RJ15, "checkIndex", "(II)I"⟩
def RJxf0a74 : String := "java/util/RandomAccess"
def TJxf0a74 : u_T := fun k => match k with
  | _ => ("", "", "", false)
def tyJxf0a74 : Nat → FieldType := fun k => match k with
  | _ => .int
abbrev wsJxf0a740 : List Cond := u_ws RJxf0a74 TJxf0a74 0
theorem nmJxf0a74 : ∀ a, a < 0 → ∀ b, b < 0 → a ≠ b → (TJxf0a74 a).2.1 ≠ (TJxf0a74 b).2.1 := by decide +kernel
theorem tyJxf0a74_ok : ∀ k, k < 0 → parseFieldDescriptor (TJxf0a74 k).2.2.1 = some (tyJxf0a74 k) := by decide +kernel
def RJxa66e6 : String := "java/util/SequencedCollection"
def TJxa66e6 : u_T := fun k => match k with
  | _ => ("", "", "", false)
def tyJxa66e6 : Nat → FieldType := fun k => match k with
  | _ => .int
abbrev wsJxa66e60 : List Cond := u_ws RJxa66e6 TJxa66e6 0
theorem nmJxa66e6 : ∀ a, a < 0 → ∀ b, b < 0 → a ≠ b → (TJxa66e6 a).2.1 ≠ (TJxa66e6 b).2.1 := by decide +kernel
theorem tyJxa66e6_ok : ∀ k, k < 0 → parseFieldDescriptor (TJxa66e6 k).2.2.1 = some (tyJxa66e6 k) := by decide +kernel
def RJ8 : String := "jdk/internal/util/ArraysSupport"
def TJ8 : u_T := fun k => match k with
  | _ => ("", "", "", false)
def tyJ8 : Nat → FieldType := fun k => match k with
  | _ => .int
abbrev wsJ80 : List Cond := u_ws RJ8 TJ8 0
theorem nmJ8 : ∀ a, a < 0 → ∀ b, b < 0 → a ≠ b → (TJ8 a).2.1 ≠ (TJ8 b).2.1 := by decide +kernel
theorem tyJ8_ok : ∀ k, k < 0 → parseFieldDescriptor (TJ8 k).2.2.1 = some (tyJ8 k) := by decide +kernel
abbrev cJ8_newLength_cabcc : ByteArray := prog_23_method_27_code
def yJ8_newLength_cabcc : MethodName := ⟨RJ8, "newLength", "(III)I"⟩
abbrev cJ8_hugeLength_7cf53 : ByteArray := prog_23_method_28_code
def yJ8_hugeLength_7cf53 : MethodName := ⟨RJ8, "hugeLength", "(II)I"⟩
def RJ3 : String := "jdk/internal/util/Preconditions"
def TJ3 : u_T := fun k => match k with
  | _ => ("", "", "", false)
def tyJ3 : Nat → FieldType := fun k => match k with
  | _ => .int
abbrev wsJ30 : List Cond := u_ws RJ3 TJ3 0
theorem nmJ3 : ∀ a, a < 0 → ∀ b, b < 0 → a ≠ b → (TJ3 a).2.1 ≠ (TJ3 b).2.1 := by decide +kernel
theorem tyJ3_ok : ∀ k, k < 0 → parseFieldDescriptor (TJ3 k).2.2.1 = some (tyJ3 k) := by decide +kernel
abbrev cJ3_checkIndex_8e157 : ByteArray := prog_24_method_11_code
def yJ3_checkIndex_8e157 : MethodName := ⟨RJ3, "checkIndex", "(IILjava/util/function/BiFunction;)I"⟩
def RL : String := "GreenHoursLaw"
abbrev cL_law : ByteArray := code
def yL_law : MethodName := ⟨RL, "law", "([I)Z"⟩
theorem inX0 : ∀ w ∈ wsX00, w ∈ lw_tbl := by decide +kernel
theorem inX1 : ∀ w ∈ wsX10, w ∈ lw_tbl := by decide +kernel
theorem inX2 : ∀ w ∈ wsX20, w ∈ lw_tbl := by decide +kernel
theorem inX3 : ∀ w ∈ wsX30, w ∈ lw_tbl := by decide +kernel
theorem inX4 : ∀ w ∈ wsX40, w ∈ lw_tbl := by decide +kernel
theorem inX5 : ∀ w ∈ wsX50, w ∈ lw_tbl := by decide +kernel
theorem inX6 : ∀ w ∈ wsX60, w ∈ lw_tbl := by decide +kernel
theorem inJx4a65c : ∀ w ∈ wsJx4a65c0, w ∈ lw_tbl := by decide +kernel
end
section
/-! ===== an abstract machine: ints as Int, references as numbers of cells, the heap as a skeleton K and a memory M of ints ===== -/
abbrev gaV : Type := Int ⊕ Option Nat
abbrev gaM : Type := Nat → Nat → Int
abbrev gaS : Type := Nat ⊕ ((Nat × (Nat → Option (Option Nat))) ⊕ (Nat × Nat × (Nat → Option Nat)))
abbrev gaK : Type := Nat → Option gaS
def ga_cv (ad : Nat → Nat) (v : gaV) : Value := match v with
  | .inl x => .int (Int32.ofInt x)
  | .inr r => va_rf (r.map ad)
abbrev ok (x : Int) : Prop := -2147483648 ≤ x ∧ x ≤ 2147483647
abbrev ix (x : Int) (n : Nat) : Prop := 0 ≤ x ∧ x < (n : Int)
def gg (c : Prop) [Decidable c] {α : Type} (x : Option α) : Option α := if c then x else none
def gB {α β : Type} (a : α) (k : α → Option β) : Option β := k a
def gb {α β : Type} (a : Option α) (k : α → Option β) : Option β := match a with
  | none => none
  | some x => k x
theorem gg_some {c : Prop} [Decidable c] {α : Type} {x : Option α} {r : α} (h : gg c x = some r) : c ∧ x = some r := by
  unfold gg at h
  by_cases hc : c
  · rw [if_pos hc] at h; exact ⟨hc, h⟩
  · rw [if_neg hc] at h; cases h
theorem gg_pos {c : Prop} [Decidable c] {α : Type} {x : Option α} (h : c) : gg c x = x := if_pos h
theorem gB_eq {α β : Type} (a : α) (k : α → Option β) : gB a k = k a := rfl
theorem gB_some {α β : Type} {a : α} {k : α → Option β} {r : β} (h : gB a k = some r) : ∃ x, x = a ∧ k x = some r := ⟨a, rfl, h⟩
theorem gb_none {α β : Type} {k : α → Option β} : gb none k = none := rfl
theorem gb_of {α β : Type} {a : α} {k : α → Option β} : gb (some a) k = k a := rfl
theorem gb_some {α β : Type} {a : Option α} {k : α → Option β} {r : β} (h : gb a k = some r) : ∃ x, a = some x ∧ k x = some r := by
  cases a with
  | none => cases h
  | some x => exact ⟨x, rfl, h⟩
theorem gb_eq {α β : Type} {a : Option α} {x : α} {k : α → Option β} (h : a = some x) : gb a k = k x := by rw [h]; rfl
def ga_st (M : gaM) (i j : Nat) (v : Int) : gaM := fun a b => if a = i ∧ b = j then v else M a b
theorem ga_st_self (M : gaM) (i j : Nat) (v : Int) : ga_st M i j v i j = v := by simp [ga_st]
theorem ga_st_id {M : gaM} {i j a b : Nat} {v : Int} (h : a ≠ i) : ga_st M i j v a b = M a b := by simp [ga_st, h]
theorem ga_st_ix {M : gaM} {i j a b : Nat} {v : Int} (h : b ≠ j) : ga_st M i j v a b = M a b := by simp [ga_st, h]
-- the classes and array classes; the tables' words that stay
def gaTb : List Cond := lw_tbl.filter goodWord
theorem ga_tb {w : Cond} (h : w ∈ lw_tbl) (hg : goodWord w = true) : w ∈ gaTb := List.mem_filter.mpr ⟨h, hg⟩
abbrev gaT : List vw_C := [(RX0, TX0, 5), (RX1, TX1, 7), (RX2, TX2, 4), (RX3, TX3, 6), (RX4, TX4, 10), (RX5, TX5, 11), (RX6, TX6, 35), (RJx4a65c, TJx4a65c, 3)]
def gaTy (ci : Nat) : Nat → FieldType := match ci with
  | 0 => tyX0
  | 1 => tyX1
  | 2 => tyX2
  | 3 => tyX3
  | 4 => tyX4
  | 5 => tyX5
  | 6 => tyX6
  | _ => tyJx4a65c
abbrev gaA (E : Nat → ClassId) : List (ClassId × FieldType) := [(E 0, .int), (E 1, .boolean), (E 2, .array .int), (E 3, .object "java/lang/Object")]
theorem gaT_all {P : Nat → vw_C → Prop} (h0 : P 0 (RX0, TX0, 5)) (h1 : P 1 (RX1, TX1, 7)) (h2 : P 2 (RX2, TX2, 4)) (h3 : P 3 (RX3, TX3, 6)) (h4 : P 4 (RX4, TX4, 10)) (h5 : P 5 (RX5, TX5, 11)) (h6 : P 6 (RX6, TX6, 35)) (h7 : P 7 (RJx4a65c, TJx4a65c, 3)) : ∀ (ci : Nat) (q : vw_C), gaT[ci]? = some q → P ci q := by
  intro ci q h
  match ci, h with
  | 0, h => cases h; exact h0
  | 1, h => cases h; exact h1
  | 2, h => cases h; exact h2
  | 3, h => cases h; exact h3
  | 4, h => cases h; exact h4
  | 5, h => cases h; exact h5
  | 6, h => cases h; exact h6
  | 7, h => cases h; exact h7
  | n + 8, h => simp [gaT] at h
theorem ga_lay {C : String} {T : u_T} {N : Nat} (h : ∀ w ∈ u_ws C T N, w ∈ lw_tbl) : ∀ w ∈ u_ws C T N, w ∈ gaTb := by
  intro w hw
  refine ga_tb (h w hw) ?_
  obtain ⟨k, -, rfl⟩ := List.mem_map.mp hw
  unfold u_lay
  split <;> rfl
theorem gaT_in : ∀ (ci : Nat) (q : vw_C), gaT[ci]? = some q → ∀ w ∈ u_ws q.1 q.2.1 q.2.2, w ∈ gaTb :=
  gaT_all (P := fun _ q => ∀ w ∈ u_ws q.1 q.2.1 q.2.2, w ∈ gaTb) (ga_lay inX0) (ga_lay inX1) (ga_lay inX2) (ga_lay inX3) (ga_lay inX4) (ga_lay inX5) (ga_lay inX6) (ga_lay inJx4a65c)
theorem gaT_ty : ∀ (ci : Nat) (q : vw_C), gaT[ci]? = some q → ∀ k, k < q.2.2 → parseFieldDescriptor (q.2.1 k).2.2.1 = some (gaTy ci k) :=
  gaT_all (P := fun ci q => ∀ k, k < q.2.2 → parseFieldDescriptor (q.2.1 k).2.2.1 = some (gaTy ci k)) tyX0_ok tyX1_ok tyX2_ok tyX3_ok tyX4_ok tyX5_ok tyX6_ok tyJx4a65c_ok
theorem gaT_nm : ∀ (ci : Nat) (q : vw_C), gaT[ci]? = some q → ∀ a, a < q.2.2 → ∀ b, b < q.2.2 → a ≠ b → (q.2.1 a).2.1 ≠ (q.2.1 b).2.1 :=
  gaT_all (P := fun _ q => ∀ a, a < q.2.2 → ∀ b, b < q.2.2 → a ≠ b → (q.2.1 a).2.1 ≠ (q.2.1 b).2.1) nmX0 nmX1 nmX2 nmX3 nmX4 nmX5 nmX6 nmJx4a65c
theorem ga_good {w : Cond} (h : w ∈ gaTb) : (w.onTables && w.keeps) = true ∨ ∃ ty, w = .arrayClass ty := good_of_word (List.mem_filter.mp h).2
-- the picture
def ga_F (ad : Nat → Nat) (M : gaM) (id : Nat) (rf : Nat → Option (Option Nat)) (k : Nat) : Value := match rf k with
  | none => .int (Int32.ofInt (M id k))
  | some r => va_rf (r.map ad)
def ga_G (ad : Nat → Nat) (M : gaM) (id t : Nat) (g : Nat → Option Nat) (j : Nat) : Value := if t = 1 then .int (Int32.ofInt (M id j)) else va_rf ((g j).map ad)
def ga_At (D : va_G) (E : Nat → ClassId) (ad : Nat → Nat) (M : gaM) (H : Heap) (id : Nat) (sk : gaS) : Prop := match sk with
  | .inl n => H[ad id]? = some (arrV (E 0) n (fun j => .int (Int32.ofInt (M id j))))
  | .inr (.inl (ci, rf)) => ∃ q : vw_C, gaT[ci]? = some q ∧ t_OB (ad id) (D.1 ci) q.2.2 (D.2 ci) H (ga_F ad M id rf)
  | .inr (.inr (t, n, g)) => H[ad id]? = some (arrV (E t) n (ga_G ad M id t g))
def ga_R (D : va_G) (E : Nat → ClassId) (ad : Nat → Nat) (K : gaK) (M : gaM) (H : Heap) : Prop := (∀ (id : Nat) (sk : gaS), K id = some sk → ga_At D E ad M H id sk) ∧ ∀ i j : Nat, K i ≠ none → K j ≠ none → ad i = ad j → i = j
def ga_L (ad : Nat → Nat) (lv : List (Option gaV)) (nL : Nat) (ls : Array Slot) : Prop := ls.size = nL ∧ lv_wf ls ∧ ∀ (i : Nat) (v : gaV), lv[i]? = some (some v) → ls[i]? = some (.val (ga_cv ad v))
abbrev gaX : Type := Program × Launch × Env × Room × State × MethodId × Array Value × List Frame × Method × Code × va_G × (Nat → ClassId) × (Nat → Prop) × Nat × Nat × Nat × (State → Prop) × (Nat → Nat) × gaK
def ga_W (X : gaX) (M : gaM) (pc : Nat) (lv : List (Option gaV)) (st : List gaV) : Prop := match X with
  | (p, l, e, R, s, m, args, below, meth, c, D, E, A, nL, cells, slots, Q, ad, K) => ∀ (H : Heap) (locs : List Loc) (ls : Array Slot), ga_R D E ad K M H → va_S A s.heap H locs → ga_L ad lv nL ls → W p l e R s m args below meth c H locs cells slots Q (F0 m pc ls (st.map (ga_cv ad)))
def ga_C (X : gaX) (cc : ByteArray) (own : String) (dp : Nat) : Prop := match X with
  | (p, l, e, R, s, m, args, below, meth, c, D, E, A, nL, cells, slots, Q, ad, K) => p.tables.exec = Jvm.exec ∧ c.code = cc ∧ c.maxLocals = nL ∧ s.vm.findClass own = some m.cls ∧ (∀ w ∈ gaTb, w.before args s = true) ∧ va_K D gaT (gaA E) s ∧ meth.locks = false ∧ (∀ id : Nat, K id ≠ none → id ≠ 99 → A (ad id)) ∧ dp ≤ R.frames ∧ 64 * dp ≤ R.locals ∧ cells ≤ R.cells ∧ slots ≤ R.slots
def ga_K (X : gaX) : gaK := match X with
  | (_, _, _, _, _, _, _, _, _, _, _, _, _, _, _, _, _, _, K) => K
def ga_Qc (D : va_G) (E : Nat → ClassId) (A : Nat → Prop) (ad : Nat → Nat) (K : gaK) (r : Option gaV) (M1 : gaM) : Array Value → State → Outcome → State → Prop := fun _ st oc t => oc = .returned (r.map (ga_cv ad)) ∧ ga_R D E ad K M1 t.heap ∧ va_K D gaT (gaA E) t ∧ va_F A st t
def ga_Rt (X : gaX) (ret : Option FieldType) (r : Option gaV) (M1 : gaM) : Prop := match X with
  | (p, l, e, R, s, m, args, below, meth, c, D, E, A, nL, cells, slots, Q, ad, K) => meth.sig.returnType = ret ∧ Q = MQ below (ga_Qc D E A ad K r M1) args s cells slots A
def ga_D (ad : Nat → Nat) (K : gaK) : Nat → Prop := fun q => ∃ id : Nat, K id ≠ none ∧ id ≠ 99 ∧ q = ad id
def ga_rm (dp : Nat) : Room := { frames := dp, cells := 0, slots := 0, locals := 64 * dp }
def ga_Met (y : MethodName) (cc : ByteArray) (maxL : Nat) (ret : Option FieldType) (dp : Nat) (K : gaK) (M : gaM) (as : List gaV) (r : Option gaV) (M1 : gaM) : Prop :=
  ∀ (l : Launch) (D : va_G) (E : Nat → ClassId) (ad : Nat → Nat), Met l y (.code y cc maxL ret :: gaTb) (ga_rm dp) (va_Pc (as.map (ga_cv ad)) (fun U => ga_R D E ad K M U.heap ∧ va_K D gaT (gaA E) U)) (ga_Qc D E (ga_D ad K) ad K r M1) 0 0 (ga_D ad K)
-- small facts
theorem ga_cat (ad : Nat → Nat) (v : gaV) : (ga_cv ad v).category = 1 := by
  cases v with
  | inl x => rfl
  | inr r => cases r <;> rfl
theorem ga_lget {ad : Nat → Nat} {lv : List (Option gaV)} {nL : Nat} {ls : Array Slot} (h : ga_L ad lv nL ls) {i : Nat} {v : gaV} (hi : lv[i]? = some (some v)) : ls[i]? = some (.val (ga_cv ad v)) := h.2.2 i v hi
def ga_pr (ad : Nat → Nat) : Nat → List (Option gaV) → List (Nat × Value)
  | _, [] => []
  | i, none :: l => ga_pr ad (i + 1) l
  | i, some v :: l => (i, ga_cv ad v) :: ga_pr ad (i + 1) l
theorem ga_pr_in (ad : Nat → Nat) : ∀ (l : List (Option gaV)) (n i : Nat) (v : gaV), l[i]? = some (some v) → (n + i, ga_cv ad v) ∈ ga_pr ad n l
  | [], n, i, v, h => by simp at h
  | none :: l, n, 0, v, h => by simp at h
  | some w :: l, n, 0, v, h => by
    have e : w = v := by simpa using h
    subst e
    exact List.mem_cons_self
  | none :: l, n, i + 1, v, h => by
    have h1 := ga_pr_in ad l (n + 1) i v (by simpa using h)
    rw [show n + (i + 1) = n + 1 + i by omega]
    exact h1
  | some w :: l, n, i + 1, v, h => by
    have h1 := ga_pr_in ad l (n + 1) i v (by simpa using h)
    rw [show n + (i + 1) = n + 1 + i by omega]
    exact List.mem_cons_of_mem _ h1
theorem ga_pr_out (ad : Nat → Nat) : ∀ (l : List (Option gaV)) (n : Nat) (q : Nat × Value), q ∈ ga_pr ad n l → ∃ (i : Nat) (v : gaV), l[i]? = some (some v) ∧ q = (n + i, ga_cv ad v)
  | [], n, q, h => by simp [ga_pr] at h
  | none :: l, n, q, h => by
    obtain ⟨i, v, h1, h2⟩ := ga_pr_out ad l (n + 1) q h
    exact ⟨i + 1, v, by simpa using h1, by rw [h2]; congr 1; omega⟩
  | some w :: l, n, q, h => by
    rcases List.mem_cons.mp h with h | h
    · exact ⟨0, w, rfl, by rw [h]; rfl⟩
    · obtain ⟨i, v, h1, h2⟩ := ga_pr_out ad l (n + 1) q h
      exact ⟨i + 1, v, by simpa using h1, by rw [h2]; congr 1; omega⟩
theorem ga_L.has {ad : Nat → Nat} {lv : List (Option gaV)} {nL : Nat} {ls : Array Slot} (h : ga_L ad lv nL ls) : lv_has ls nL (ga_pr ad 0 lv) := by
  refine ⟨h.1, h.2.1, fun q hq => ?_⟩
  obtain ⟨i, v, h1, h2⟩ := ga_pr_out ad lv 0 q hq
  rw [h2]
  simpa using h.2.2 i v h1
theorem ga_L.store {ad : Nat → Nat} {lv lv' : List (Option gaV)} {nL : Nat} {ls' : Array Slot} {i : Nat} {v : gaV} (hl : lv.set i (some v) = lv') (h' : lv_has ls' nL ((i, ga_cv ad v) :: (ga_pr ad 0 lv).filter (fun q => !(q.1 == i) && !(q.1 + 1 == i && q.2.category == 2)))) : ga_L ad lv' nL ls' := by
  refine ⟨h'.1, h'.2.1, fun j w hj => ?_⟩
  subst hl
  by_cases e : j = i
  · subst e
    have hlt : j < lv.length := by
      have := (List.getElem?_eq_some_iff.mp hj).1
      simpa using this
    rw [List.getElem?_set_self hlt] at hj
    cases hj
    exact h'.2.2 (j, ga_cv ad v) List.mem_cons_self
  · rw [List.getElem?_set_ne (Ne.symm e)] at hj
    have h1 := ga_pr_in ad lv 0 j w hj
    rw [Nat.zero_add] at h1
    refine h'.2.2 (j, ga_cv ad w) (List.mem_cons_of_mem _ (List.mem_filter.mpr ⟨h1, ?_⟩))
    simp [e, ga_cat]
theorem ga_L.of {ad : Nat → Nat} {as : List gaV} {n : Nat} {ls : Array Slot} (h : lv_has ls n (lv_args 0 (as.map (ga_cv ad)))) : ga_L ad (as.map some ++ List.replicate (n - as.length) none) n ls := by
  refine ⟨h.1, h.2.1, fun i v hi => ?_⟩
  have key : ∀ (as : List gaV) (k i : Nat) (v : gaV), as[i]? = some v → (k + i, ga_cv ad v) ∈ lv_args k (as.map (ga_cv ad)) := by
    intro as
    induction as with
    | nil => intro k i v h; simp at h
    | cons a as ih =>
      intro k i v h
      have hc : (ga_cv ad a).category = 1 := ga_cat ad a
      cases i with
      | zero =>
        have e : a = v := by simpa using h
        subst e
        exact List.mem_cons_self
      | succ i =>
        have h1 := ih (k + 1) i v (by simpa using h)
        rw [show k + (i + 1) = k + 1 + i by omega]
        have e : lv_args k ((a :: as).map (ga_cv ad)) = (k, ga_cv ad a) :: lv_args (k + 1) (as.map (ga_cv ad)) := by
          show (k, ga_cv ad a) :: lv_args (if (ga_cv ad a).category = 2 then k + 2 else k + 1) (as.map (ga_cv ad)) = _
          rw [hc]
          rfl
        rw [e]
        exact List.mem_cons_of_mem _ h1
  by_cases hlt : i < as.length
  · rw [List.getElem?_append_left (by simpa using hlt)] at hi
    rw [List.getElem?_map] at hi
    have h2 : as[i]? = some v := by
      cases h9 : as[i]? with
      | none => rw [h9] at hi; cases hi
      | some w => rw [h9] at hi; cases hi; rfl
    have := h.2.2 _ (key as 0 i v h2)
    simpa using this
  · rw [List.getElem?_append_right (by simpa using Nat.le_of_not_lt hlt)] at hi
    rw [List.getElem?_replicate] at hi
    split at hi <;> cases hi
theorem ga_len (as : List gaV) (ad : Nat → Nat) : (lg_sl (as.map (ga_cv ad))).length = as.length := by
  induction as with
  | nil => rfl
  | cons a as ih =>
    have hc : (ga_cv ad a).category = 1 := ga_cat ad a
    simp only [List.map_cons, lg_sl] at ih ⊢
    simp [hc, ih]
end
section
/-! ===== the abstract machine's rules, one a kind of instruction ===== -/
theorem ga_At.kept {D : va_G} {E : Nat → ClassId} {ad : Nat → Nat} {M M1 : gaM} {H H1 : Heap} {id : Nat} {sk : gaS} (h : ga_At D E ad M H id sk) (hH : H1[ad id]? = H[ad id]?) (hM : M1 id = M id) : ga_At D E ad M1 H1 id sk := by
  rcases sk with n | ⟨ci, rf⟩ | ⟨t, n, g⟩
  · show H1[ad id]? = some (arrV (E 0) n (fun j => .int (Int32.ofInt (M1 id j))))
    rw [hH, hM]; exact h
  · obtain ⟨q, h1, h2⟩ := h
    refine ⟨q, h1, ?_⟩
    have e : ga_F ad M1 id rf = ga_F ad M id rf := by
      funext k
      unfold ga_F
      rw [hM]
    rw [e]
    exact h2.kept hH
  · show H1[ad id]? = some (arrV (E t) n (ga_G ad M1 id t g))
    have e : ga_G ad M1 id t g = ga_G ad M id t g := by
      funext k
      unfold ga_G
      rw [hM]
    rw [hH, e]; exact h
theorem ga_R.put {D : va_G} {E : Nat → ClassId} {ad : Nat → Nat} {K : gaK} {M M1 : gaM} {H H1 : Heap} {id : Nat} {sk : gaS} (h : ga_R D E ad K M H) (hk : K id = some sk) (hH : ∀ q : Nat, q ≠ ad id → H1[q]? = H[q]?) (hM : ∀ j : Nat, j ≠ id → M1 j = M j) (ha : ga_At D E ad M1 H1 id sk) : ga_R D E ad K M1 H1 := by
  refine ⟨fun j sj hj => ?_, h.2⟩
  by_cases e : j = id
  · subst e
    rw [hk] at hj
    cases hj
    exact ha
  · exact (h.1 j sj hj).kept (hH _ (fun z => e (h.2 j id (by rw [hj]; exact fun q => by cases q) (by rw [hk]; exact fun q => by cases q) z))) (hM j e)
theorem ga_st_row {M : gaM} {i j : Nat} {v : Int} (a : Nat) (h : a ≠ i) : ga_st M i j v a = M a := by
  funext b
  exact ga_st_id h
theorem ga_lenI {ad : Nat → Nat} {rest : List gaV} (h : rest.length ≤ 8) : ((rest.map (ga_cv ad)).map fun v => v.category).sum ≤ 8 := by
  have e : ∀ l : List gaV, ((l.map (ga_cv ad)).map fun v => v.category).sum = l.length := by
    intro l
    induction l with
    | nil => rfl
    | cons a l ih => simp only [List.map_cons, List.sum_cons, List.length_cons, ih, ga_cat]; omega
  rw [e]; exact h
-- decoded instructions
def gd (cc : ByteArray) (pc : Nat) (i : Instr) (n pc' : Nat) : Prop := decode cc pc = .ok (i, n) ∧ pc + n = pc'
def gd_iload (cc : ByteArray) (pc i pc' : Nat) : Prop := (decode cc pc = .ok (.iload i, 2) ∧ pc + 2 = pc') ∨ ∃ k : Fin 4, decode cc pc = .ok (.iload_n k, 1) ∧ (k : Nat) = i ∧ pc + 1 = pc'
def gd_aload (cc : ByteArray) (pc i pc' : Nat) : Prop := (decode cc pc = .ok (.aload i, 2) ∧ pc + 2 = pc') ∨ ∃ k : Fin 4, decode cc pc = .ok (.aload_n k, 1) ∧ (k : Nat) = i ∧ pc + 1 = pc'
def gd_istore (cc : ByteArray) (pc i pc' : Nat) : Prop := (decode cc pc = .ok (.istore i, 2) ∧ pc + 2 = pc') ∨ ∃ k : Fin 4, decode cc pc = .ok (.istore_n k, 1) ∧ (k : Nat) = i ∧ pc + 1 = pc'
def gd_astore (cc : ByteArray) (pc i pc' : Nat) : Prop := (decode cc pc = .ok (.astore i, 2) ∧ pc + 2 = pc') ∨ ∃ k : Fin 4, decode cc pc = .ok (.astore_n k, 1) ∧ (k : Nat) = i ∧ pc + 1 = pc'
def gd_push (cc : ByteArray) (pc : Nat) (v : Int) (pc' : Nat) : Prop := (decode cc pc = .ok (.iconst v, 1) ∧ pc + 1 = pc') ∨ (decode cc pc = .ok (.bipush v, 2) ∧ (Int8.ofInt v).toInt32 = Int32.ofInt v ∧ pc + 2 = pc') ∨ (decode cc pc = .ok (.sipush v, 3) ∧ (Int16.ofInt v).toInt32 = Int32.ofInt v ∧ pc + 3 = pc')
def gd_b (cc : ByteArray) (pc : Nat) (i : Int → Instr) (tgt pc' : Nat) : Prop := ∃ off : Int, decode cc pc = .ok (i off, 3) ∧ (pc : Int) + off = (tgt : Int) ∧ pc + 3 = pc'
section GA
variable {X : gaX} {cc : ByteArray} {own : String} {dp : Nat} {M : gaM} {pc pc' tgt : Nat} {lv lv' : List (Option gaV)} {st : List gaV}
theorem ga_iload {i : Nat} {x : Int} (C : ga_C X cc own dp) (d : gd_iload cc pc i pc') (hl : lv[i]? = some (some (.inl x))) (k : ga_W X M pc' lv (.inl x :: st)) : ga_W X M pc lv st := by
  obtain ⟨p, l, e, R, s, m, args, below, meth, c, D, E, A, nL, cells, slots, Q, ad, K⟩ := X
  obtain ⟨hx, hb, -⟩ := C
  intro H locs ls hR hS hL
  have k' := k H locs ls hR hS hL
  rcases d with ⟨d, rfl⟩ | ⟨j, d, rfl, rfl⟩
  · exact lv_iload hx hb d (ga_lget hL hl) k'
  · exact lv_iload_n hx hb d rfl (ga_lget hL hl) k'
theorem ga_aload {i x : Nat} (C : ga_C X cc own dp) (d : gd_aload cc pc i pc') (hl : lv[i]? = some (some (.inr (some x)))) (k : ga_W X M pc' lv (.inr (some x) :: st)) : ga_W X M pc lv st := by
  obtain ⟨p, l, e, R, s, m, args, below, meth, c, D, E, A, nL, cells, slots, Q, ad, K⟩ := X
  obtain ⟨hx, hb, -⟩ := C
  intro H locs ls hR hS hL
  have k' := k H locs ls hR hS hL
  rcases d with ⟨d, rfl⟩ | ⟨j, d, rfl, rfl⟩
  · exact lv_aload hx hb d (ga_lget hL hl) k'
  · exact lv_aload_n hx hb d rfl (ga_lget hL hl) k'
theorem ga_istore {i : Nat} {x : Int} (C : ga_C X cc own dp) (d : gd_istore cc pc i pc') (hl : lv.set i (some (.inl x)) = lv') (hi : i < lv.length) (hn : lv.length = (X.2.2.2.2.2.2.2.2.2.2.2.2.2.1)) (k : ga_W X M pc' lv' st) : ga_W X M pc lv (.inl x :: st) := by
  obtain ⟨p, l, e, R, s, m, args, below, meth, c, D, E, A, nL, cells, slots, Q, ad, K⟩ := X
  obtain ⟨hx, hb, -⟩ := C
  have hn : lv.length = nL := hn
  intro H locs ls hR hS hL
  rcases d with ⟨d, rfl⟩ | ⟨j, d, rfl, rfl⟩
  · exact lv_istore hx hb d hL.has (by omega) rfl (fun ls' h' => k H locs ls' hR hS (ga_L.store (v := .inl x) hl h'))
  · exact lv_istore_n hx hb d rfl hL.has (by omega) rfl (fun ls' h' => k H locs ls' hR hS (ga_L.store (v := .inl x) hl h'))
theorem ga_astore {i x : Nat} (C : ga_C X cc own dp) (d : gd_astore cc pc i pc') (hl : lv.set i (some (.inr (some x))) = lv') (hi : i < lv.length) (hn : lv.length = (X.2.2.2.2.2.2.2.2.2.2.2.2.2.1)) (k : ga_W X M pc' lv' st) : ga_W X M pc lv (.inr (some x) :: st) := by
  obtain ⟨p, l, e, R, s, m, args, below, meth, c, D, E, A, nL, cells, slots, Q, ad, K⟩ := X
  obtain ⟨hx, hb, -⟩ := C
  have hn : lv.length = nL := hn
  intro H locs ls hR hS hL
  rcases d with ⟨d, rfl⟩ | ⟨j, d, rfl, rfl⟩
  · exact lv_astore (x := ad x) hx hb d hL.has (by omega) rfl (fun ls' h' => k H locs ls' hR hS (ga_L.store (v := .inr (some x)) hl h'))
  · exact lv_astore_n (x := ad x) hx hb d rfl hL.has (by omega) rfl (fun ls' h' => k H locs ls' hR hS (ga_L.store (v := .inr (some x)) hl h'))
theorem ga_iinc {i : Nat} {n x : Int} (C : ga_C X cc own dp) (d : gd cc pc (.iinc i n) 3 pc') (h0 : lv[i]? = some (some (.inl x))) (hl : lv.set i (some (.inl (x + n))) = lv') (hi : i < lv.length) (hn : lv.length = (X.2.2.2.2.2.2.2.2.2.2.2.2.2.1)) (k : ga_W X M pc' lv' st) : ga_W X M pc lv st := by
  obtain ⟨p, l, e, R, s, m, args, below, meth, c, D, E, A, nL, cells, slots, Q, ad, K⟩ := X
  obtain ⟨hx, hb, -⟩ := C
  have hn : lv.length = nL := hn
  obtain ⟨d, rfl⟩ := d
  intro H locs ls hR hS hL
  have hm := ga_pr_in ad lv 0 i _ h0
  rw [Nat.zero_add] at hm
  obtain ⟨kk, hkk⟩ := List.getElem?_of_mem hm
  exact lv_iinc (x := Int32.ofInt x) (v := Int32.ofInt (x + n)) hx hb d hL.has hkk (by rw [Int32.ofInt_add]) (by omega) rfl (fun ls' h' => k H locs ls' hR hS (ga_L.store (v := .inl (x + n)) hl h'))
theorem ga_push {v : Int} (C : ga_C X cc own dp) (d : gd_push cc pc v pc') (k : ga_W X M pc' lv (.inl v :: st)) : ga_W X M pc lv st := by
  obtain ⟨p, l, e, R, s, m, args, below, meth, c, D, E, A, nL, cells, slots, Q, ad, K⟩ := X
  obtain ⟨hx, hb, -⟩ := C
  intro H locs ls hR hS hL
  have k' := k H locs ls hR hS hL
  rcases d with ⟨d, rfl⟩ | ⟨d, hv, rfl⟩ | ⟨d, hv, rfl⟩
  · exact lv_iconst hx hb d rfl k'
  · exact lv_bipush hx hb d hv k'
  · exact lv_sipush hx hb d hv k'
theorem ga_ldc {idx : Nat} {v : Int} (C : ga_C X cc own dp) (hw : Cond.constant own idx (Int32.ofInt v) ∈ gaTb) (d : gd cc pc (.ldc idx) 2 pc') (k : ga_W X M pc' lv (.inl v :: st)) : ga_W X M pc lv st := by
  obtain ⟨p, l, e, R, s, m, args, below, meth, c, D, E, A, nL, cells, slots, Q, ad, K⟩ := X
  obtain ⟨hx, hb, -, hown, hts, -⟩ := C
  obtain ⟨d, rfl⟩ := d
  intro H locs ls hR hS hL
  exact lv_ldc hx hb hown (hts _ hw) d (k H locs ls hR hS hL)
theorem ga_iadd {x y : Int} (C : ga_C X cc own dp) (d : gd cc pc .iadd 1 pc') (k : ga_W X M pc' lv (.inl (x + y) :: st)) : ga_W X M pc lv (.inl y :: .inl x :: st) := by
  obtain ⟨p, l, e, R, s, m, args, below, meth, c, D, E, A, nL, cells, slots, Q, ad, K⟩ := X
  obtain ⟨hx, hb, -⟩ := C
  obtain ⟨d, rfl⟩ := d
  intro H locs ls hR hS hL
  have k' := k H locs ls hR hS hL
  simp only [List.map_cons, ga_cv, Int32.ofInt_add] at k' ⊢
  exact lv_iadd hx hb d k'
theorem ga_isub {x y : Int} (C : ga_C X cc own dp) (d : gd cc pc .isub 1 pc') (k : ga_W X M pc' lv (.inl (x - y) :: st)) : ga_W X M pc lv (.inl y :: .inl x :: st) := by
  obtain ⟨p, l, e, R, s, m, args, below, meth, c, D, E, A, nL, cells, slots, Q, ad, K⟩ := X
  obtain ⟨hx, hb, -⟩ := C
  obtain ⟨d, rfl⟩ := d
  intro H locs ls hR hS hL
  have k' := k H locs ls hR hS hL
  simp only [List.map_cons, ga_cv, Int32.ofInt_sub] at k' ⊢
  exact lv_isub hx hb d k'
theorem ga_imul {x y : Int} (C : ga_C X cc own dp) (d : gd cc pc .imul 1 pc') (k : ga_W X M pc' lv (.inl (x * y) :: st)) : ga_W X M pc lv (.inl y :: .inl x :: st) := by
  obtain ⟨p, l, e, R, s, m, args, below, meth, c, D, E, A, nL, cells, slots, Q, ad, K⟩ := X
  obtain ⟨hx, hb, -⟩ := C
  obtain ⟨d, rfl⟩ := d
  intro H locs ls hR hS hL
  have k' := k H locs ls hR hS hL
  simp only [List.map_cons, ga_cv, Int32.ofInt_mul] at k' ⊢
  exact lv_imul hx hb d k'
theorem ga_nat {x : Int} (h : 0 ≤ x) : Int32.ofInt x = nI x.toNat := by
  conv => lhs; rw [← Int.toNat_of_nonneg h]
  exact Int32.ofInt_eq_ofNat
theorem ga_idiv {x y : Int} (C : ga_C X cc own dp) (d : gd cc pc .idiv 1 pc') (hx0 : 0 ≤ x ∧ x ≤ 2147483647) (hy0 : 0 < y ∧ y ≤ 2147483647) (k : ga_W X M pc' lv (.inl (x / y) :: st)) : ga_W X M pc lv (.inl y :: .inl x :: st) := by
  obtain ⟨p, l, e, R, s, m, args, below, meth, c, D, E, A, nL, cells, slots, Q, ad, K⟩ := X
  obtain ⟨hx, hb, -⟩ := C
  obtain ⟨d, rfl⟩ := d
  intro H locs ls hR hS hL
  have k' := k H locs ls hR hS hL
  have hq : 0 ≤ x / y := Int.ediv_nonneg hx0.1 (by omega)
  simp only [List.map_cons, ga_cv] at k' ⊢
  have e1 : Int32.ofInt (x / y) = Int32.ofInt x / Int32.ofInt y := by
    rw [ga_nat hx0.1, ga_nat (show 0 ≤ y by omega), ga_nat hq, pk_div (by omega) (by omega) (by omega)]
    congr 1
    have e9 : x / y = ((x.toNat / y.toNat : Nat) : Int) := by rw [Int.natCast_ediv, Int.toNat_of_nonneg hx0.1, Int.toNat_of_nonneg (by omega)]
    rw [e9, Int.toNat_natCast]
  rw [e1] at k'
  exact lv_idiv hx hb d (by rw [ga_nat (show 0 ≤ y by omega)]; exact nI_ne0 (by omega) (by omega)) k'
theorem ga_irem {x y : Int} (C : ga_C X cc own dp) (d : gd cc pc .irem 1 pc') (hx0 : 0 ≤ x ∧ x ≤ 2147483647) (hy0 : 0 < y ∧ y ≤ 2147483647) (k : ga_W X M pc' lv (.inl (x % y) :: st)) : ga_W X M pc lv (.inl y :: .inl x :: st) := by
  obtain ⟨p, l, e, R, s, m, args, below, meth, c, D, E, A, nL, cells, slots, Q, ad, K⟩ := X
  obtain ⟨hx, hb, -⟩ := C
  obtain ⟨d, rfl⟩ := d
  intro H locs ls hR hS hL
  have k' := k H locs ls hR hS hL
  have hq : 0 ≤ x % y := Int.emod_nonneg x (by omega)
  simp only [List.map_cons, ga_cv] at k' ⊢
  have e1 : Int32.ofInt (x % y) = Int32.ofInt x - Int32.ofInt x / Int32.ofInt y * Int32.ofInt y := by
    rw [ga_nat hx0.1, ga_nat (show 0 ≤ y by omega), ga_nat hq, pk_rem (by omega) (by omega) (by omega)]
    congr 1
    have e9 : x % y = ((x.toNat % y.toNat : Nat) : Int) := by rw [Int.natCast_emod, Int.toNat_of_nonneg hx0.1, Int.toNat_of_nonneg (by omega)]
    rw [e9, Int.toNat_natCast]
  rw [e1] at k'
  exact lv_irem hx hb d (by rw [ga_nat (show 0 ≤ y by omega)]; exact nI_ne0 (by omega) (by omega)) k'
theorem ga_dup {v : gaV} (C : ga_C X cc own dp) (d : gd cc pc .dup 1 pc') (k : ga_W X M pc' lv (v :: v :: st)) : ga_W X M pc lv (v :: st) := by
  obtain ⟨p, l, e, R, s, m, args, below, meth, c, D, E, A, nL, cells, slots, Q, ad, K⟩ := X
  obtain ⟨hx, hb, -⟩ := C
  obtain ⟨d, rfl⟩ := d
  intro H locs ls hR hS hL
  exact lv_dup hx hb d (ga_cat ad v) (k H locs ls hR hS hL)
theorem ga_dup2 {v w : gaV} (C : ga_C X cc own dp) (d : gd cc pc .dup2 1 pc') (k : ga_W X M pc' lv (v :: w :: v :: w :: st)) : ga_W X M pc lv (v :: w :: st) := by
  obtain ⟨p, l, e, R, s, m, args, below, meth, c, D, E, A, nL, cells, slots, Q, ad, K⟩ := X
  obtain ⟨hx, hb, -⟩ := C
  obtain ⟨d, rfl⟩ := d
  intro H locs ls hR hS hL
  exact lv_dup2_11 hx hb d (ga_cat ad v) (ga_cat ad w) (k H locs ls hR hS hL)
theorem ga_dup_x1 {v w : gaV} (C : ga_C X cc own dp) (d : gd cc pc .dup_x1 1 pc') (k : ga_W X M pc' lv (v :: w :: v :: st)) : ga_W X M pc lv (v :: w :: st) := by
  obtain ⟨p, l, e, R, s, m, args, below, meth, c, D, E, A, nL, cells, slots, Q, ad, K⟩ := X
  obtain ⟨hx, hb, -⟩ := C
  obtain ⟨d, rfl⟩ := d
  intro H locs ls hR hS hL
  exact lv_dup_x1 hx hb d (ga_cat ad v) (ga_cat ad w) (k H locs ls hR hS hL)
theorem ga_pop {v : gaV} (C : ga_C X cc own dp) (d : gd cc pc .pop 1 pc') (k : ga_W X M pc' lv st) : ga_W X M pc lv (v :: st) := by
  obtain ⟨p, l, e, R, s, m, args, below, meth, c, D, E, A, nL, cells, slots, Q, ad, K⟩ := X
  obtain ⟨hx, hb, -⟩ := C
  obtain ⟨d, rfl⟩ := d
  intro H locs ls hR hS hL
  exact lv_pop hx hb d (ga_cat ad v) (k H locs ls hR hS hL)
theorem ga_goto (C : ga_C X cc own dp) (d : gd_b cc pc .goto tgt pc') (k : ga_W X M tgt lv st) : ga_W X M pc lv st := by
  obtain ⟨p, l, e, R, s, m, args, below, meth, c, D, E, A, nL, cells, slots, Q, ad, K⟩ := X
  obtain ⟨hx, hb, -⟩ := C
  obtain ⟨off, d, ht, rfl⟩ := d
  intro H locs ls hR hS hL
  exact lv_goto hx hb d ht (k H locs ls hR hS hL)
theorem ok_le {x y : Int} (hx : ok x) (hy : ok y) : Int32.ofInt x ≤ Int32.ofInt y ↔ x ≤ y := by
  rw [Int32.le_iff_toInt_le, Int32.toInt_ofInt_of_le (by have := hx.1; omega) (by have := hx.2; omega), Int32.toInt_ofInt_of_le (by have := hy.1; omega) (by have := hy.2; omega)]
theorem ok_lt {x y : Int} (hx : ok x) (hy : ok y) : Int32.ofInt x < Int32.ofInt y ↔ x < y := by
  rw [Int32.lt_iff_toInt_lt, Int32.toInt_ofInt_of_le (by have := hx.1; omega) (by have := hx.2; omega), Int32.toInt_ofInt_of_le (by have := hy.1; omega) (by have := hy.2; omega)]
theorem ok_eq {x y : Int} (hx : ok x) (hy : ok y) : Int32.ofInt x = Int32.ofInt y ↔ x = y := by
  rw [← Int32.toInt_inj, Int32.toInt_ofInt_of_le (by have := hx.1; omega) (by have := hx.2; omega), Int32.toInt_ofInt_of_le (by have := hy.1; omega) (by have := hy.2; omega)]
theorem ok_0 : ok 0 := by decide
theorem ga_icmp_eq {x y : Int} (C : ga_C X cc own dp) (d : gd_b cc pc (.if_icmp .eq) tgt pc') (hox : ok x) (hoy : ok y) (kt : x = y → ga_W X M tgt lv st) (kf : ¬ x = y → ga_W X M pc' lv st) : ga_W X M pc lv (.inl y :: .inl x :: st) := by
  obtain ⟨p, l, e, R, s, m, args, below, meth, c, D, E, A, nL, cells, slots, Q, ad, K⟩ := X
  obtain ⟨hx, hb, -⟩ := C
  obtain ⟨off, d, ht, rfl⟩ := d
  intro H locs ls hR hS hL
  exact lv_icmp_eq hx hb d ht (fun h => kt ((ok_eq hox hoy).mp h) H locs ls hR hS hL) (fun h => kf (fun q => h ((ok_eq hox hoy).mpr q)) H locs ls hR hS hL)
theorem ga_icmp_ne {x y : Int} (C : ga_C X cc own dp) (d : gd_b cc pc (.if_icmp .ne) tgt pc') (hox : ok x) (hoy : ok y) (kt : x = y → ga_W X M pc' lv st) (kf : ¬ x = y → ga_W X M tgt lv st) : ga_W X M pc lv (.inl y :: .inl x :: st) := by
  obtain ⟨p, l, e, R, s, m, args, below, meth, c, D, E, A, nL, cells, slots, Q, ad, K⟩ := X
  obtain ⟨hx, hb, -⟩ := C
  obtain ⟨off, d, ht, rfl⟩ := d
  intro H locs ls hR hS hL
  exact lv_icmp_ne hx hb d ht (fun h => kf (fun q => h ((ok_eq hox hoy).mpr q)) H locs ls hR hS hL) (fun h => kt ((ok_eq hox hoy).mp h) H locs ls hR hS hL)
theorem ga_icmp_lt {x y : Int} (C : ga_C X cc own dp) (d : gd_b cc pc (.if_icmp .lt) tgt pc') (hox : ok x) (hoy : ok y) (kt : y ≤ x → ga_W X M pc' lv st) (kf : ¬ y ≤ x → ga_W X M tgt lv st) : ga_W X M pc lv (.inl y :: .inl x :: st) := by
  obtain ⟨p, l, e, R, s, m, args, below, meth, c, D, E, A, nL, cells, slots, Q, ad, K⟩ := X
  obtain ⟨hx, hb, -⟩ := C
  obtain ⟨off, d, ht, rfl⟩ := d
  intro H locs ls hR hS hL
  exact lv_icmp_lt hx hb d ht (fun h => kf (by have := (ok_lt hox hoy).mp h; omega) H locs ls hR hS hL) (fun h => kt (by have h9 := mt (ok_lt hox hoy).mpr h; omega) H locs ls hR hS hL)
theorem ga_icmp_ge {x y : Int} (C : ga_C X cc own dp) (d : gd_b cc pc (.if_icmp .ge) tgt pc') (hox : ok x) (hoy : ok y) (kt : x < y → ga_W X M pc' lv st) (kf : ¬ x < y → ga_W X M tgt lv st) : ga_W X M pc lv (.inl y :: .inl x :: st) := by
  obtain ⟨p, l, e, R, s, m, args, below, meth, c, D, E, A, nL, cells, slots, Q, ad, K⟩ := X
  obtain ⟨hx, hb, -⟩ := C
  obtain ⟨off, d, ht, rfl⟩ := d
  intro H locs ls hR hS hL
  exact lv_icmp_ge hx hb d ht (fun h => kf (by have := (ok_le hoy hox).mp h; omega) H locs ls hR hS hL) (fun h => kt (by have h9 := mt (ok_le hoy hox).mpr h; omega) H locs ls hR hS hL)
theorem ga_icmp_gt {x y : Int} (C : ga_C X cc own dp) (d : gd_b cc pc (.if_icmp .gt) tgt pc') (hox : ok x) (hoy : ok y) (kt : x ≤ y → ga_W X M pc' lv st) (kf : ¬ x ≤ y → ga_W X M tgt lv st) : ga_W X M pc lv (.inl y :: .inl x :: st) := by
  obtain ⟨p, l, e, R, s, m, args, below, meth, c, D, E, A, nL, cells, slots, Q, ad, K⟩ := X
  obtain ⟨hx, hb, -⟩ := C
  obtain ⟨off, d, ht, rfl⟩ := d
  intro H locs ls hR hS hL
  exact lv_icmp_gt hx hb d ht (fun h => kf (by have := (ok_lt hoy hox).mp h; omega) H locs ls hR hS hL) (fun h => kt (by have h9 := mt (ok_lt hoy hox).mpr h; omega) H locs ls hR hS hL)
theorem ga_icmp_le {x y : Int} (C : ga_C X cc own dp) (d : gd_b cc pc (.if_icmp .le) tgt pc') (hox : ok x) (hoy : ok y) (kt : y < x → ga_W X M pc' lv st) (kf : ¬ y < x → ga_W X M tgt lv st) : ga_W X M pc lv (.inl y :: .inl x :: st) := by
  obtain ⟨p, l, e, R, s, m, args, below, meth, c, D, E, A, nL, cells, slots, Q, ad, K⟩ := X
  obtain ⟨hx, hb, -⟩ := C
  obtain ⟨off, d, ht, rfl⟩ := d
  intro H locs ls hR hS hL
  exact lv_icmp_le hx hb d ht (fun h => kf (by have := (ok_le hox hoy).mp h; omega) H locs ls hR hS hL) (fun h => kt (by have h9 := mt (ok_le hox hoy).mpr h; omega) H locs ls hR hS hL)
theorem ga_if_eq {x : Int} (C : ga_C X cc own dp) (d : gd_b cc pc (.ifCond .eq) tgt pc') (hox : ok x) (kt : x = 0 → ga_W X M tgt lv st) (kf : ¬ x = 0 → ga_W X M pc' lv st) : ga_W X M pc lv (.inl x :: st) := by
  obtain ⟨p, l, e, R, s, m, args, below, meth, c, D, E, A, nL, cells, slots, Q, ad, K⟩ := X
  obtain ⟨hx, hb, -⟩ := C
  obtain ⟨off, d, ht, rfl⟩ := d
  intro H locs ls hR hS hL
  exact lv_if_eq hx hb d ht (fun h => kt ((ok_eq hox ok_0).mp h) H locs ls hR hS hL) (fun h => kf (fun q => h ((ok_eq hox ok_0).mpr q)) H locs ls hR hS hL)
theorem ga_if_ne {x : Int} (C : ga_C X cc own dp) (d : gd_b cc pc (.ifCond .ne) tgt pc') (hox : ok x) (kt : x = 0 → ga_W X M pc' lv st) (kf : ¬ x = 0 → ga_W X M tgt lv st) : ga_W X M pc lv (.inl x :: st) := by
  obtain ⟨p, l, e, R, s, m, args, below, meth, c, D, E, A, nL, cells, slots, Q, ad, K⟩ := X
  obtain ⟨hx, hb, -⟩ := C
  obtain ⟨off, d, ht, rfl⟩ := d
  intro H locs ls hR hS hL
  exact lv_if_ne hx hb d ht (fun h => kf (fun q => h ((ok_eq hox ok_0).mpr q)) H locs ls hR hS hL) (fun h => kt ((ok_eq hox ok_0).mp h) H locs ls hR hS hL)
theorem ga_if_lt {x : Int} (C : ga_C X cc own dp) (d : gd_b cc pc (.ifCond .lt) tgt pc') (hox : ok x) (kt : 0 ≤ x → ga_W X M pc' lv st) (kf : ¬ 0 ≤ x → ga_W X M tgt lv st) : ga_W X M pc lv (.inl x :: st) := by
  obtain ⟨p, l, e, R, s, m, args, below, meth, c, D, E, A, nL, cells, slots, Q, ad, K⟩ := X
  obtain ⟨hx, hb, -⟩ := C
  obtain ⟨off, d, ht, rfl⟩ := d
  intro H locs ls hR hS hL
  exact lv_if_lt hx hb d ht (fun h => kf (by have := (ok_lt hox ok_0).mp h; omega) H locs ls hR hS hL) (fun h => kt (by have h9 := mt (ok_lt hox ok_0).mpr h; omega) H locs ls hR hS hL)
theorem ga_if_ge {x : Int} (C : ga_C X cc own dp) (d : gd_b cc pc (.ifCond .ge) tgt pc') (hox : ok x) (kt : x < 0 → ga_W X M pc' lv st) (kf : ¬ x < 0 → ga_W X M tgt lv st) : ga_W X M pc lv (.inl x :: st) := by
  obtain ⟨p, l, e, R, s, m, args, below, meth, c, D, E, A, nL, cells, slots, Q, ad, K⟩ := X
  obtain ⟨hx, hb, -⟩ := C
  obtain ⟨off, d, ht, rfl⟩ := d
  intro H locs ls hR hS hL
  exact lv_if_ge hx hb d ht (fun h => kf (by have := (ok_le ok_0 hox).mp h; omega) H locs ls hR hS hL) (fun h => kt (by have h9 := mt (ok_le ok_0 hox).mpr h; omega) H locs ls hR hS hL)
theorem ga_if_gt {x : Int} (C : ga_C X cc own dp) (d : gd_b cc pc (.ifCond .gt) tgt pc') (hox : ok x) (kt : x ≤ 0 → ga_W X M pc' lv st) (kf : ¬ x ≤ 0 → ga_W X M tgt lv st) : ga_W X M pc lv (.inl x :: st) := by
  obtain ⟨p, l, e, R, s, m, args, below, meth, c, D, E, A, nL, cells, slots, Q, ad, K⟩ := X
  obtain ⟨hx, hb, -⟩ := C
  obtain ⟨off, d, ht, rfl⟩ := d
  intro H locs ls hR hS hL
  exact lv_if_gt hx hb d ht (fun h => kf (by have := (ok_lt ok_0 hox).mp h; omega) H locs ls hR hS hL) (fun h => kt (by have h9 := mt (ok_lt ok_0 hox).mpr h; omega) H locs ls hR hS hL)
theorem ga_if_le {x : Int} (C : ga_C X cc own dp) (d : gd_b cc pc (.ifCond .le) tgt pc') (hox : ok x) (kt : 0 < x → ga_W X M pc' lv st) (kf : ¬ 0 < x → ga_W X M tgt lv st) : ga_W X M pc lv (.inl x :: st) := by
  obtain ⟨p, l, e, R, s, m, args, below, meth, c, D, E, A, nL, cells, slots, Q, ad, K⟩ := X
  obtain ⟨hx, hb, -⟩ := C
  obtain ⟨off, d, ht, rfl⟩ := d
  intro H locs ls hR hS hL
  exact lv_if_le hx hb d ht (fun h => kf (by have := (ok_le hox ok_0).mp h; omega) H locs ls hR hS hL) (fun h => kt (by have h9 := mt (ok_le hox ok_0).mpr h; omega) H locs ls hR hS hL)
theorem ga_tabIn {dflt lo hi off : Int} {offs : Array Int} {len : Nat} {x : Int} (v : Int) (C : ga_C X cc own dp) (d : decode cc pc = .ok (.tableswitch dflt lo hi offs, len)) (hv : x = v) (ho : ok v) (h1 : ¬ v < lo ∧ ¬ hi < v) (hof : offs[(v - lo).toNat]? = some off) (ht : (pc : Int) + off = (tgt : Int)) (k : ga_W X M tgt lv st) : ga_W X M pc lv (.inl x :: st) := by
  obtain ⟨p, l, e, R, s, m, args, below, meth, c, D, E, A, nL, cells, slots, Q, ad, K⟩ := X
  obtain ⟨hx, hb, -⟩ := C
  subst hv
  have e1 : (Int32.ofInt x).toInt = x := Int32.toInt_ofInt_of_le (by have := ho.1; omega) (by have := ho.2; omega)
  intro H locs ls hR hS hL
  exact lv_tableIn hx hb d (by rw [e1]; exact h1.1) (by rw [e1]; exact h1.2) (by rw [e1]; exact hof) ht (k H locs ls hR hS hL)
theorem ga_tabOut {dflt lo hi : Int} {offs : Array Int} {len : Nat} {x : Int} (C : ga_C X cc own dp) (d : decode cc pc = .ok (.tableswitch dflt lo hi offs, len)) (ho : ok x) (h1 : x < lo ∨ hi < x) (ht : (pc : Int) + dflt = (tgt : Int)) (k : ga_W X M tgt lv st) : ga_W X M pc lv (.inl x :: st) := by
  obtain ⟨p, l, e, R, s, m, args, below, meth, c, D, E, A, nL, cells, slots, Q, ad, K⟩ := X
  obtain ⟨hx, hb, -⟩ := C
  have e1 : (Int32.ofInt x).toInt = x := Int32.toInt_ofInt_of_le (by have := ho.1; omega) (by have := ho.2; omega)
  intro H locs ls hR hS hL
  exact lv_tableOut hx hb d (by rw [e1]; exact h1) ht (k H locs ls hR hS hL)
-- fields
def ga_fld (own : String) (idx ci k : Nat) : Prop := ∃ (q : vw_C) (ref : String), gaT[ci]? = some q ∧ k < q.2.2 ∧ Cond.fieldLink own idx ref (q.2.1 k).2.1 (q.2.1 k).2.2.1 ∈ gaTb ∧ (ref = (q.2.1 k).1 ∨ Cond.sameField ref (q.2.1 k).1 (q.2.1 k).2.1 (q.2.1 k).2.2.1 ∈ gaTb)
theorem ga_get0 {idx ci k id : Nat} {rf : Nat → Option (Option Nat)} {K : gaK} {v : gaV} (C : ga_C X cc own dp) (hK : ga_K X = K) (d : gd cc pc (.getfield idx) 3 pc') (f : ga_fld own idx ci k) (hk : K id = some (.inr (.inl (ci, rf)))) (hv : ∀ ad, ga_F ad M id rf k = ga_cv ad v) (kk : ga_W X M pc' lv (v :: st)) : ga_W X M pc lv (.inr (some id) :: st) := by
  obtain ⟨p, l, e, R, s, m, args, below, meth, c, D, E, A, nL, cells, slots, Q, ad, K'⟩ := X
  obtain ⟨hx, hb, -, hown, hts, hKK, -⟩ := C
  obtain ⟨d, rfl⟩ := d
  obtain ⟨q, ref, hq, hkN, hl, hsame⟩ := f
  have hK : K' = K := hK
  subst hK
  intro H locs ls hR hS hL
  obtain ⟨q', hq', cell, q1, q2, q3, q4⟩ := hR.1 id _ hk
  cases hq.symm.trans hq'
  obtain ⟨hS1, hfc, kC, hkC, hkind⟩ := hKK.1 ci q hq
  obtain ⟨cf, kf, fi, fd, hi, hsl⟩ := hS1 k hkN
  have hi' : s.fieldFound? ref (q.2.1 k).2.1 (q.2.1 k).2.2.1 = some (cf, kf, fi, fd) := by
    rcases hsame with h | h
    · rw [h]; exact hi
    · exact u_same (hts _ h) _ hi
  refine W.getf hx hb hown (hts _ hl) hi' (u_facts hfc hkC (u_lays hts (gaT_in ci q hq) hkN) hi).1 q1 (by rw [q3]; exact fun h => by cases h) (v := ga_cv ad v) ?_ rfl rfl d (kk H locs ls hR hS hL)
  rw [hsl, q4 k hkN, hv ad]
theorem ga_getI {idx ci k id : Nat} {rf : Nat → Option (Option Nat)} {K : gaK} (C : ga_C X cc own dp) (hK : ga_K X = K) (d : gd cc pc (.getfield idx) 3 pc') (f : ga_fld own idx ci k) (hk : K id = some (.inr (.inl (ci, rf)))) (hr : rf k = none) (kk : ga_W X M pc' lv (.inl (M id k) :: st)) : ga_W X M pc lv (.inr (some id) :: st) :=
  ga_get0 C hK d f hk (fun ad => by unfold ga_F; rw [hr]; rfl) kk
theorem ga_getR {idx ci k id : Nat} {rf : Nat → Option (Option Nat)} {K : gaK} {r : Option Nat} (C : ga_C X cc own dp) (hK : ga_K X = K) (d : gd cc pc (.getfield idx) 3 pc') (f : ga_fld own idx ci k) (hk : K id = some (.inr (.inl (ci, rf)))) (hr : rf k = some r) (kk : ga_W X M pc' lv (.inr r :: st)) : ga_W X M pc lv (.inr (some id) :: st) :=
  ga_get0 C hK d f hk (fun ad => by unfold ga_F; rw [hr]; rfl) kk
theorem ga_putI {idx ci k id : Nat} {rf : Nat → Option (Option Nat)} {K : gaK} {x : Int} (C : ga_C X cc own dp) (hK : ga_K X = K) (d : gd cc pc (.putfield idx) 3 pc') (f : ga_fld own idx ci k) (hw : ∀ q, gaT[ci]? = some q → (q.2.1 k).2.2.2 = false ∧ gaTy ci k = .int) (h99 : id ≠ 99) (hk : K id = some (.inr (.inl (ci, rf)))) (hr : rf k = none) (kk : ∀ M1, M1 = ga_st M id k x → ga_W X M1 pc' lv st) : ga_W X M pc lv (.inl x :: .inr (some id) :: st) := by
  have kk := kk _ rfl
  obtain ⟨p, l, e, R, s, m, args, below, meth, c, D, E, A, nL, cells, slots, Q, ad, K'⟩ := X
  obtain ⟨hx, hb, -, hown, hts, hKK, -, hA, -⟩ := C
  obtain ⟨d, rfl⟩ := d
  obtain ⟨q, ref, hq, hkN, hl, hsame⟩ := f
  have hK : K' = K := hK
  subst hK
  intro H locs ls hR hS hL
  obtain ⟨q', hq', cell, q1, q2, q3, q4⟩ := hR.1 id _ hk
  cases hq.symm.trans hq'
  obtain ⟨hS1, hfc, kC, hkC, hkind⟩ := hKK.1 ci q hq
  obtain ⟨cf, kf, fi, fd, hi, hsl⟩ := hS1 k hkN
  have hi' : s.fieldFound? ref (q.2.1 k).2.1 (q.2.1 k).2.2.1 = some (cf, kf, fi, fd) := by
    rcases hsame with h | h
    · rw [h]; exact hi
    · exact u_same (hts _ h) _ hi
  have hlay := hts _ (gaT_in ci q hq _ (u_in_lay hkN))
  unfold u_lay at hlay
  rw [if_neg (by rw [(hw q hq).1]; decide)] at hlay
  have hst := (u_facts hfc hkC (u_lays hts (gaT_in ci q hq) hkN) hi).1
  have hd := gaT_ty ci q hq k hkN
  rw [(hw q hq).2] at hd
  have h6 := u_store (v := .int (Int32.ofInt x)) hfc hkC hkind hlay hi hd (vp_nar_int _) rfl
  have hap := va_apart (own := own) (args := args) hts (gaT_in ci q hq) (gaTy ci) (gaT_ty ci q hq) (gaT_nm ci q hq) hKK hq
  refine W.putK hx hb (f := fd) ⟨hown, hts _ hl, ⟨_, _, _, hi'⟩, hst⟩ (by rw [q2]; exact h6) q1 q3 (by rw [hsl]; exact k2_hasslot (q4 k hkN)) rfl rfl d fun H' e1 e2 e3 => ?_
  rw [hsl] at e1 ⊢
  refine kk H' _ ls (hR.put hk e3 (fun j hj => ga_st_row j hj) ⟨q, hq, t_OB.to (V := updV (ga_F ad M id rf) k (.int (Int32.ofInt x))) ⟨_, e1, q2, q3, t_set q4 hap hkN _⟩ (fun j _ => ?_)⟩) (hS.put e2 e3 (hA id (by rw [hk]; exact fun z => by cases z) h99)) hL
  unfold updV ga_F
  by_cases ej : j = k
  · subst ej
    rw [if_pos rfl, hr]
    simp [ga_st_self]
  · rw [if_neg ej]
    cases rf j with
    | none => simp [ga_st, ej]
    | some r => rfl
-- arrays
theorem ga_ix {i : Int} {n : Nat} (h : ix i n) (hn : n ≤ 2147483647) : ¬ (Int32.ofInt i < 0 ∨ n ≤ (Int32.ofInt i).toNatClampNeg) ∧ (Int32.ofInt i).toNatClampNeg = i.toNat := by
  obtain ⟨h1, h2⟩ := h
  have hc : (Int32.ofInt i).toNatClampNeg = i.toNat := Int32.toNatClampNeg_ofInt_of_le (by omega) (by omega)
  refine ⟨?_, hc⟩
  rw [hc]
  rintro (h | h)
  · have := (ok_lt (x := i) (y := 0) ⟨by omega, by omega⟩ ok_0).mp h
    omega
  · omega
theorem ga_iald {id n : Nat} {i : Int} {K : gaK} (C : ga_C X cc own dp) (hK : ga_K X = K) (d : gd cc pc .iaload 1 pc') (hk : K id = some (.inl n)) (hn : n ≤ 2147483647) (hi : ix i n) (kk : ga_W X M pc' lv (.inl (M id i.toNat) :: st)) : ga_W X M pc lv (.inl i :: .inr (some id) :: st) := by
  obtain ⟨p, l, e, R, s, m, args, below, meth, c, D, E, A, nL, cells, slots, Q, ad, K'⟩ := X
  obtain ⟨hx, hb, -, hown, hts, hKK, -⟩ := C
  obtain ⟨d, rfl⟩ := d
  have hK : K' = K := hK
  subst hK
  obtain ⟨g1, g2⟩ := ga_ix hi hn
  intro H locs ls hR hS hL
  refine W.iald (v := .int (Int32.ofInt (M id i.toNat))) hx hb (hR.1 id _ hk) ((hKK.2 0 _ rfl).1 n _) (fun q => by cases q) (by show ¬ (Int32.ofInt i < 0 ∨ (arrV _ _ _).slots.size ≤ _); rw [arrV_size]; exact g1) ?_ rfl rfl d (kk H locs ls hR hS hL)
  rw [g2, arrV_read _ _ (by obtain ⟨h1, h2⟩ := hi; omega)]
theorem ga_iast {id n : Nat} {i x : Int} {K : gaK} (C : ga_C X cc own dp) (hK : ga_K X = K) (d : gd cc pc .iastore 1 pc') (hk : K id = some (.inl n)) (hn : n ≤ 2147483647) (h99 : id ≠ 99) (hi : ix i n) (kk : ∀ M1, M1 = ga_st M id i.toNat x → ga_W X M1 pc' lv st) : ga_W X M pc lv (.inl x :: .inl i :: .inr (some id) :: st) := by
  have kk := kk _ rfl
  obtain ⟨p, l, e, R, s, m, args, below, meth, c, D, E, A, nL, cells, slots, Q, ad, K'⟩ := X
  obtain ⟨hx, hb, -, hown, hts, hKK, -, hA, -⟩ := C
  obtain ⟨d, rfl⟩ := d
  have hK : K' = K := hK
  subst hK
  obtain ⟨g1, g2⟩ := ga_ix hi hn
  intro H locs ls hR hS hL
  refine W.iast hx hb (hR.1 id _ hk) ((hKK.2 0 _ rfl).1 n _) (fun q => by cases q) (by show ¬ (Int32.ofInt i < 0 ∨ (arrV _ _ _).slots.size ≤ _); rw [arrV_size]; exact g1) rfl rfl d fun H1 e1 z oq => ?_
  refine kk H1 _ ls (hR.put hk oq (fun j hj => ga_st_row j hj) ?_) (hS.put z oq (hA id (by rw [hk]; exact fun z => by cases z) h99)) hL
  show H1[ad id]? = _
  rw [e1, g2, arrV_store]
  congr 2
  funext q
  by_cases hq : q = i.toNat
  · subst hq
    simp [updV, ga_st_self]
  · simp [updV, ga_st, hq]
theorem ga_aald {id t n : Nat} {g : Nat → Option Nat} {i : Int} {K : gaK} (C : ga_C X cc own dp) (hK : ga_K X = K) (d : gd cc pc .aaload 1 pc') (hk : K id = some (.inr (.inr (t, n, g)))) (ht : t = 2 ∨ t = 3) (hn : n ≤ 2147483647) (hi : ix i n) (kk : ga_W X M pc' lv (.inr (g i.toNat) :: st)) : ga_W X M pc lv (.inl i :: .inr (some id) :: st) := by
  obtain ⟨p, l, e, R, s, m, args, below, meth, c, D, E, A, nL, cells, slots, Q, ad, K'⟩ := X
  obtain ⟨hx, hb, -, hown, hts, hKK, -⟩ := C
  obtain ⟨d, rfl⟩ := d
  have hK : K' = K := hK
  subst hK
  obtain ⟨g1, g2⟩ := ga_ix hi hn
  intro H locs ls hR hS hL
  have hv : (arrV (E t) n (ga_G ad M id t g)).slots[(Int32.ofInt i).toNatClampNeg]? = some (va_rf ((g i.toNat).map ad)) := by
    rw [g2, arrV_read _ _ (by obtain ⟨h1, h2⟩ := hi; omega)]
    unfold ga_G
    rw [if_neg (by omega)]
  rcases ht with rfl | rfl
  · exact W.aald (v := va_rf ((g i.toNat).map ad)) (ty := .array .int) hx hb (hR.1 id _ hk) ((hKK.2 2 _ rfl).1 n _) rfl (fun q => by cases q) (by show ¬ (Int32.ofInt i < 0 ∨ (arrV _ _ _).slots.size ≤ _); rw [arrV_size]; exact g1) hv rfl rfl d (kk H locs ls hR hS hL)
  · exact W.aald (v := va_rf ((g i.toNat).map ad)) (ty := .object "java/lang/Object") hx hb (hR.1 id _ hk) ((hKK.2 3 _ rfl).1 n _) rfl (fun q => by cases q) (by show ¬ (Int32.ofInt i < 0 ∨ (arrV _ _ _).slots.size ≤ _); rw [arrV_size]; exact g1) hv rfl rfl d (kk H locs ls hR hS hL)
theorem ga_zald {id n : Nat} {g : Nat → Option Nat} {i : Int} {K : gaK} (C : ga_C X cc own dp) (hK : ga_K X = K) (d : gd cc pc .baload 1 pc') (hk : K id = some (.inr (.inr (1, n, g)))) (hn : n ≤ 2147483647) (hi : ix i n) (kk : ga_W X M pc' lv (.inl (M id i.toNat) :: st)) : ga_W X M pc lv (.inl i :: .inr (some id) :: st) := by
  obtain ⟨p, l, e, R, s, m, args, below, meth, c, D, E, A, nL, cells, slots, Q, ad, K'⟩ := X
  obtain ⟨hx, hb, -, hown, hts, hKK, -⟩ := C
  obtain ⟨d, rfl⟩ := d
  have hK : K' = K := hK
  subst hK
  obtain ⟨g1, g2⟩ := ga_ix hi hn
  intro H locs ls hR hS hL
  refine W.zald (v := .int (Int32.ofInt (M id i.toNat))) hx hb (hR.1 id _ hk) ((hKK.2 1 _ rfl).1 n _) (fun q => by cases q) (by show ¬ (Int32.ofInt i < 0 ∨ (arrV _ _ _).slots.size ≤ _); rw [arrV_size]; exact g1) ?_ rfl rfl d (kk H locs ls hR hS hL)
  rw [g2, arrV_read _ _ (by obtain ⟨h1, h2⟩ := hi; omega)]
  rfl
theorem ga_nz {x : Int} (h : x = 0 ∨ x = 1) : narrow .boolean (.int (Int32.ofInt x)) = .int (Int32.ofInt x) := by
  rcases h with rfl | rfl <;> rfl
theorem ga_zast {id n : Nat} {g : Nat → Option Nat} {i x : Int} {K : gaK} (C : ga_C X cc own dp) (hK : ga_K X = K) (d : gd cc pc .bastore 1 pc') (hk : K id = some (.inr (.inr (1, n, g)))) (hn : n ≤ 2147483647) (h99 : id ≠ 99) (hi : ix i n) (hv : x = 0 ∨ x = 1) (kk : ∀ M1, M1 = ga_st M id i.toNat x → ga_W X M1 pc' lv st) : ga_W X M pc lv (.inl x :: .inl i :: .inr (some id) :: st) := by
  have kk := kk _ rfl
  obtain ⟨p, l, e, R, s, m, args, below, meth, c, D, E, A, nL, cells, slots, Q, ad, K'⟩ := X
  obtain ⟨hx, hb, -, hown, hts, hKK, -, hA, -⟩ := C
  obtain ⟨d, rfl⟩ := d
  have hK : K' = K := hK
  subst hK
  obtain ⟨g1, g2⟩ := ga_ix hi hn
  intro H locs ls hR hS hL
  refine W.zast hx hb (hR.1 id _ hk) ((hKK.2 1 _ rfl).1 n _) (fun q => by cases q) (by show ¬ (Int32.ofInt i < 0 ∨ (arrV _ _ _).slots.size ≤ _); rw [arrV_size]; exact g1) rfl rfl d fun H1 e1 z oq => ?_
  refine kk H1 _ ls (hR.put hk oq (fun j hj => ga_st_row j hj) ?_) (hS.put z oq (hA id (by rw [hk]; exact fun z => by cases z) h99)) hL
  show H1[ad id]? = _
  rw [e1, g2, ga_nz hv, arrV_store]
  congr 2
  funext q
  by_cases hq : q = i.toNat
  · subst hq
    simp [updV, ga_G, ga_st_self]
  · simp [updV, ga_G, ga_st, hq]
theorem ga_alen {id n : Nat} {K : gaK} (C : ga_C X cc own dp) (hK : ga_K X = K) (d : gd cc pc .arraylength 1 pc') (hk : K id = some (.inl n) ∨ ∃ t g, K id = some (.inr (.inr (t, n, g))) ∧ (t = 2 ∨ t = 3)) (kk : ga_W X M pc' lv (.inl (n : Int) :: st)) : ga_W X M pc lv (.inr (some id) :: st) := by
  obtain ⟨p, l, e, R, s, m, args, below, meth, c, D, E, A, nL, cells, slots, Q, ad, K'⟩ := X
  obtain ⟨hx, hb, -, hown, hts, hKK, -⟩ := C
  obtain ⟨d, rfl⟩ := d
  have hK : K' = K := hK
  subst hK
  intro H locs ls hR hS hL
  have k' := kk H locs ls hR hS hL
  simp only [List.map_cons, ga_cv, Int32.ofInt_eq_ofNat] at k'
  rcases hk with hk | ⟨t, g, hk, rfl | rfl⟩
  · exact W.alen (n := Int32.ofNat n) hx hb (hR.1 id _ hk) ((hKK.2 0 _ rfl).1 n _) (by rw [arrV_size]) rfl rfl d k'
  · exact W.alen (n := Int32.ofNat n) hx hb (hR.1 id _ hk) ((hKK.2 2 _ rfl).1 n _) (by rw [arrV_size]) rfl rfl d k'
  · exact W.alen (n := Int32.ofNat n) hx hb (hR.1 id _ hk) ((hKK.2 3 _ rfl).1 n _) (by rw [arrV_size]) rfl rfl d k'
theorem ga_cast {id ci idx : Nat} {rf : Nat → Option (Option Nat)} {q : vw_C} {K : gaK} (C : ga_C X cc own dp) (hK : ga_K X = K) (d : gd cc pc (.checkcast idx) 3 pc') (hw : Cond.classLink own idx q.1 ∈ gaTb) (hq : gaT[ci]? = some q) (hk : K id = some (.inr (.inl (ci, rf)))) (kk : ga_W X M pc' lv (.inr (some id) :: st)) : ga_W X M pc lv (.inr (some id) :: st) := by
  obtain ⟨p, l, e, R, s, m, args, below, meth, c, D, E, A, nL, cells, slots, Q, ad, K'⟩ := X
  obtain ⟨hx, hb, -, hown, hts, hKK, -⟩ := C
  obtain ⟨d, rfl⟩ := d
  have hK : K' = K := hK
  subst hK
  intro H locs ls hR hS hL
  obtain ⟨q', hq', cell, q1, q2, q3, q4⟩ := hR.1 id _ hk
  cases hq.symm.trans hq'
  exact va_castS hx hb hown (hts _ hw) (hKK.1 ci q hq).2 ⟨cell, q1, by rw [q3]; rfl, by rw [q2]; exact (hKK.1 ci q hq).2.1⟩ d (kk H locs ls hR hS hL)
-- returns
theorem ga_iret {v : Int} (C : ga_C X cc own dp) (T : ga_Rt X (some .int) (some (.inl v)) M) (d : gd cc pc .ireturn 1 pc') : ga_W X M pc lv [.inl v] := by
  obtain ⟨p, l, e, R, s, m, args, below, meth, c, D, E, A, nL, cells, slots, Q, ad, K⟩ := X
  obtain ⟨hx, hb, -, hown, hts, hKK, hlk, -⟩ := C
  obtain ⟨hr, hQ⟩ := T
  obtain ⟨d, rfl⟩ := d
  subst hQ
  intro H locs ls hR hS hL
  exact W.iret (v := Int32.ofInt v) hx hb hr (fun t ht hW => ⟨rfl, by rw [ht]; exact hR, va_K.moved hW.alike hKK, hS.F ht⟩) hS.2.2 d hlk
theorem ga_zret {v : Int} (C : ga_C X cc own dp) (T : ga_Rt X (some .boolean) (some (.inl v)) M) (hv : v = 0 ∨ v = 1) (d : gd cc pc .ireturn 1 pc') : ga_W X M pc lv [.inl v] := by
  obtain ⟨p, l, e, R, s, m, args, below, meth, c, D, E, A, nL, cells, slots, Q, ad, K⟩ := X
  obtain ⟨hx, hb, -, hown, hts, hKK, hlk, -⟩ := C
  obtain ⟨hr, hQ⟩ := T
  obtain ⟨d, rfl⟩ := d
  subst hQ
  intro H locs ls hR hS hL
  exact W.zret (v := Int32.ofInt v) hx hb hr (ga_nz hv) (fun t ht hW => ⟨rfl, by rw [ht]; exact hR, va_K.moved hW.alike hKK, hS.F ht⟩) hS.2.2 d hlk
theorem ga_vret (C : ga_C X cc own dp) (T : ga_Rt X none none M) (d : gd cc pc .return_ 1 pc') : ga_W X M pc lv [] := by
  obtain ⟨p, l, e, R, s, m, args, below, meth, c, D, E, A, nL, cells, slots, Q, ad, K⟩ := X
  obtain ⟨hx, hb, -, hown, hts, hKK, hlk, -⟩ := C
  obtain ⟨hr, hQ⟩ := T
  obtain ⟨d, rfl⟩ := d
  subst hQ
  intro H locs ls hR hS hL
  exact W.vret hx hb hr (fun t ht hW => ⟨rfl, by rw [ht]; exact hR, va_K.moved hW.alike hKK, hS.F ht⟩) hS.2.2 d hlk
theorem ga_aret {r : Option Nat} {rt : FieldType} (C : ga_C X cc own dp) (T : ga_Rt X (some rt) (some (.inr r)) M) (hrt : (∃ n, rt = .object n) ∨ ∃ t, rt = .array t) (d : gd cc pc .areturn 1 pc') : ga_W X M pc lv [.inr r] := by
  obtain ⟨p, l, e, R, s, m, args, below, meth, c, D, E, A, nL, cells, slots, Q, ad, K⟩ := X
  obtain ⟨hx, hb, -, hown, hts, hKK, hlk, -⟩ := C
  obtain ⟨hr, hQ⟩ := T
  obtain ⟨d, rfl⟩ := d
  subst hQ
  intro H locs ls hR hS hL
  exact W.aret (v := va_rf (r.map ad)) hx hb hr hrt (va_rf_or _) (fun t ht hW => ⟨rfl, by rw [ht]; exact hR, va_K.moved hW.alike hKK, hS.F ht⟩) hS.2.2 d hlk
end GA
-- a method out of its body
theorem ga_met {y : MethodName} {cc : ByteArray} {maxL : Nat} {ret : Option FieldType} {dp : Nat} {K : gaK} {M M1 : gaM} {as : List gaV} {r : Option gaV} {own : String} (hy : plainName y.cls = true) (ho : y.cls = own) (hn : as.length ≤ maxL) (body : ∀ X : gaX, ga_C X cc own dp → ga_K X = K → ga_Rt X ret r M1 → (X.2.2.2.2.2.2.2.2.2.2.2.2.2.1) = maxL → ga_W X M 0 (as.map some ++ List.replicate (maxL - as.length) none) []) : ga_Met y cc maxL ret dp K M as r M1 := by
  subst ho
  intro l D E ad
  refine Met.ofW (cc := cc) (maxL := maxL) (ret := ret) hy rfl ?_
  intro p e s m args below meth c s₁ B hml hv
  obtain ⟨rfl, hR, hKK⟩ := hv
  have hts := atoms_spec (ws := .code y cc maxL ret :: gaTb) B.pre
  have hown : s.vm.findClass y.cls = some m.cls := findClass_of_methodNamed B.named
  have hl := lv_entry (as.map (ga_cv ad)) (n := maxL) (by rw [ga_len]; exact hn)
  rw [lg_entry_eq]
  exact body (p, l, e, _, s, m, _, below, meth, c, D, E, ga_D ad K, maxL, 0, 0, _, ad, K) ⟨B.exec, B.bytes, hml, hown, fun w h => hts w (List.mem_cons_of_mem _ h), hKK, B.notSynchronized, fun id h1 h2 => ⟨id, h1, h2, rfl⟩, Nat.le_refl dp, Nat.le_refl (64 * dp), Nat.le_refl 0, Nat.le_refl 0⟩ rfl ⟨B.returns, rfl⟩ rfl s.heap [] _ hR va_S.rf (ga_L.of hl)
-- calls
def ga_wm (y : MethodName) (cc : ByteArray) (maxL : Nat) (ret : Option FieldType) (n : Nat) : Prop := Cond.code y cc maxL ret ∈ gaTb ∧ Cond.initialized y.cls ∈ gaTb ∧ (y.cls ≠ "java/lang/invoke/MethodHandle" ∧ y.cls ≠ "java/lang/invoke/VarHandle") ∧ (parseMethodDescriptor y.desc).map (fun d => d.parameters.length) = some n ∧ maxL ≤ 45
def ga_wv (y : MethodName) (ci : Nat) : Prop := (∃ q, gaT[ci]? = some q ∧ q.1 = y.cls) ∧ Cond.instanceMethod y ∈ gaTb ∧ Cond.selects y.cls y y ∈ gaTb
section GB
variable {X : gaX} {cc : ByteArray} {own : String} {dp : Nat} {M M1 : gaM} {pc pc' : Nat} {lv : List (Option gaV)} {st rest : List gaV}
theorem ga_after {p : Program} {l : Launch} {e : Env} {R : Room} {s : State} {m : MethodId} {args : Array Value} {below : List Frame} {meth : Method} {c : Code} {D : va_G} {E : Nat → ClassId} {A : Nat → Prop} {cells slots : Nat} {Q : State → Prop} {ad : Nat → Nat} {K : gaK} {H : Heap} {locs : List Loc} {ls : Array Slot} {r : Option gaV} {vs rs : List Value} {a : Array Value}
    (hr : va_Run p l e R s m args below meth c H locs cells slots 0 0 (F0 m pc ls vs) rs (ga_Qc D E (ga_D ad K) ad K r M1 a) (ga_D ad K)) (hS : va_S A s.heap H locs) (hA : ∀ id : Nat, K id ≠ none → id ≠ 99 → A (ad id))
    (kk : ∀ (H1 : Heap) (locs1 : List Loc), ga_R D E ad K M1 H1 → va_S A s.heap H1 locs1 → W p l e R s m args below meth c H1 locs1 cells slots Q (F0 m (pc + 3) ls ((r.map (ga_cv ad)).toList ++ rs))) : W p l e R s m args below meth c H locs cells slots Q (F0 m pc ls vs) := by
  intro T hT X
  obtain ⟨v, st₀, t, T', L, h0, X', hL, e1, e2, ⟨hv, hR, -, hz, hk⟩, stp⟩ := hr T hT X
  cases hv
  rw [h0] at hz hk
  have hD : ∀ q, ga_D ad K q → A q := fun q ⟨id, h1, h2, h3⟩ => by rw [h3]; exact hA id h1 h2
  obtain ⟨t2, a1, b1⟩ := kk T'.heap (locs ++ L) (by rw [e1]; exact hR)
    ⟨Nat.le_trans hS.1 (by rw [e1]; exact hz), fun q h1 h2 => by rw [e1, hk q (Nat.lt_of_lt_of_le h1 hS.1) (fun z => h2 (hD q z))]; exact hS.2.1 q h1 h2, fun q hq => by
      rcases List.mem_append.mp hq with h | h
      · exact hS.2.2 q h
      · exact hD _ (hL q h)⟩ T' rfl X'
  exact ⟨t2, stp t2 a1, b1⟩
theorem ga_blind {D : va_G} {E : Nat → ClassId} {ad : Nat → Nat} {K : gaK} {av : List Value} : FrameBlind (va_Pc av (fun U => ga_R D E ad K M U.heap ∧ va_K D gaT (gaA E) U)) := by
  intro a U g mk q
  obtain ⟨q0, q1, q2⟩ := q
  exact ⟨q0, q1, va_K.moved (u := U) (U := U.calling g mk a) (Vm.Alike.refl U.vm) q2⟩
theorem ga_callB {R : Room} {s : State} {args : Array Value} {idx : Nat} {y : MethodName} {cy : ByteArray} {maxL n d' : Nat} {ret : Option FieldType} (hts : ∀ w ∈ gaTb, w.before args s = true) (hl : Cond.methodLink own idx y ∈ gaTb) (hm : ga_wm y cy maxL ret n) (hd : d' < dp) (h1 : dp ≤ R.frames) (h2 : 64 * dp ≤ R.locals) :
    CallB R s args own idx y cy maxL ret (.code y cy maxL ret :: gaTb) (ga_rm d') 0 0 n := by
  obtain ⟨m1, m2, m3, m4, m5⟩ := hm
  refine callB_of n hts (ws' := gaTb) (fun w hw => ?_) rfl rfl rfl (hts _ m2) (hts _ hl) ⟨m3.1, m3.2, m4⟩ ⟨?_, ?_⟩
  · rcases List.mem_cons.mp hw with rfl | hw
    · exact ⟨m1, ga_good m1⟩
    · exact ⟨hw, ga_good hw⟩
  · show d' + 1 ≤ R.frames
    omega
  · show 8 + (maxL + 11) + 64 * d' ≤ R.locals
    omega
theorem ga_callV {idx ci id n maxL d' : Nat} {y : MethodName} {cy : ByteArray} {ret : Option FieldType} {K : gaK} {r : Option gaV} {rf : Nat → Option (Option Nat)} (as : List gaV) (C : ga_C X cc own dp) (hK : ga_K X = K) (d : gd cc pc (.invokevirtual idx) 3 pc') (hl : Cond.methodLink own idx y ∈ gaTb) (hm : ga_wm y cy maxL ret n) (hv : ga_wv y ci) (hk : K id = some (.inr (.inl (ci, rf)))) (hM : ga_Met y cy maxL ret d' K M (.inr (some id) :: as) r M1) (hd : d' < dp) (hn : as.length = n) (hst : st = as.reverse ++ .inr (some id) :: rest) (hw : rest.length ≤ 8) (kk : ga_W X M1 pc' lv (r.toList ++ rest)) : ga_W X M pc lv st := by
  obtain ⟨p, l, e, R, s, m, args, below, meth, c, D, E, A, nL, cells, slots, Q, ad, K'⟩ := X
  obtain ⟨hx, hb, hml, hown, hts, hKK, hlk, hA, hf1, hf2, hf3, hf4⟩ := C
  obtain ⟨d, rfl⟩ := d
  have hK : K' = K := hK
  subst hK
  obtain ⟨⟨q, hq, hqy⟩, hv1, hv2⟩ := hv
  intro H locs ls hR hS hL
  obtain ⟨q', hq', cell, q1, q2, q3, q4⟩ := hR.1 id _ hk
  cases hq.symm.trans hq'
  refine ga_after (rs := rest.map (ga_cv ad)) (va_runV (C := y.cls) (Ts := gaTb) (As := as.map (ga_cv ad)) (b := ad id) ⟨hx, hb, hml, hown, hts⟩ (hM l D E ad) ⟨ga_callB hts hl hm hd hf1 hf2, hts _ hv1, hts _ hv2⟩ ⟨ga_blind, ⟨cell, q1, by rw [q3]; rfl, by rw [q2, ← hqy]; exact (hKK.1 ci q hq).2.1⟩, fun U hU hW => ⟨rfl, by rw [hU]; exact hR, va_K.moved hW.alike hKK⟩⟩ rfl (by rw [List.length_map]; exact hn) hL.1 ?_ (lv_room (ga_lenI hw)) d ⟨hf3, hf4⟩) hS hA (fun H1 locs1 hR1 hS1 => ?_)
  · show st.map (ga_cv ad) = _
    rw [hst]
    simp [ga_cv, va_rf]
  · have k' := kk H1 locs1 ls hR1 hS1 hL
    rw [List.map_append] at k'
    cases r <;> exact k'
theorem ga_callS {idx n maxL d' : Nat} {y : MethodName} {cy : ByteArray} {ret : Option FieldType} {K : gaK} {r : Option gaV} (as : List gaV) (C : ga_C X cc own dp) (hK : ga_K X = K) (d : gd cc pc (.invokestatic idx) 3 pc') (hl : Cond.methodLink own idx y ∈ gaTb) (hm : ga_wm y cy maxL ret n) (hv : Cond.static y ∈ gaTb) (hM : ga_Met y cy maxL ret d' K M as r M1) (hd : d' < dp) (hn : as.length = n) (hst : st = as.reverse ++ rest) (hw : rest.length ≤ 8) (kk : ga_W X M1 pc' lv (r.toList ++ rest)) : ga_W X M pc lv st := by
  obtain ⟨p, l, e, R, s, m, args, below, meth, c, D, E, A, nL, cells, slots, Q, ad, K'⟩ := X
  obtain ⟨hx, hb, hml, hown, hts, hKK, hlk, hA, hf1, hf2, hf3, hf4⟩ := C
  obtain ⟨d, rfl⟩ := d
  have hK : K' = K := hK
  subst hK
  intro H locs ls hR hS hL
  refine ga_after (rs := rest.map (ga_cv ad)) (va_runS (Ts := gaTb) (As := as.map (ga_cv ad)) ⟨hx, hb, hml, hown, hts⟩ (hM l D E ad) ⟨ga_callB hts hl hm hd hf1 hf2, hts _ hv⟩ ⟨ga_blind, fun U hU hW => ⟨rfl, by rw [hU]; exact hR, va_K.moved hW.alike hKK⟩⟩ rfl (by rw [List.length_map]; exact hn) hL.1 ?_ (lv_room (ga_lenI hw)) d ⟨hf3, hf4⟩) hS hA (fun H1 locs1 hR1 hS1 => ?_)
  · show st.map (ga_cv ad) = _
    rw [hst]
    simp
  · have k' := kk H1 locs1 ls hR1 hS1 hL
    rw [List.map_append] at k'
    cases r <;> exact k'
end GB
end
