-- ===== PART A: goes FIRST, ahead of the names: the tables' words, and 'selects' of the private methods out of them =====
/-- a private method of a class that the tables say can be made, by its rows of tables_1 -/
def lw_okq (q : MethodName × Nat) : Prop := (q.1.cls ≠ "java/lang/invoke/MethodHandle" ∧ q.1.cls ≠ "java/lang/invoke/VarHandle") ∧ Cond.instantiable q.1.cls q.2 ∈ tables_1 ∧ Cond.privateMethod q.1 ∈ tables_1 ∧ Cond.instanceMethod q.1 ∈ tables_1
theorem lw_p0 : lw_okq (⟨"SilenceHours", "isPerson", "(I)Z"⟩, 5) := ⟨⟨by decide +kernel, by decide +kernel⟩, List.mem_of_getElem? (i := 12) (by decide +kernel), List.mem_of_getElem? (i := 231) (by decide +kernel), List.mem_of_getElem? (i := 232) (by decide +kernel)⟩
theorem lw_p1 : lw_okq (⟨"SilenceHours$State", "settleBids", "(I)V"⟩, 19) := ⟨⟨by decide +kernel, by decide +kernel⟩, List.mem_of_getElem? (i := 20) (by decide +kernel), List.mem_of_getElem? (i := 305) (by decide +kernel), List.mem_of_getElem? (i := 306) (by decide +kernel)⟩
theorem lw_p2 : lw_okq (⟨"SilenceHours$State", "collectFrom", "(II)I"⟩, 19) := ⟨⟨by decide +kernel, by decide +kernel⟩, List.mem_of_getElem? (i := 20) (by decide +kernel), List.mem_of_getElem? (i := 321) (by decide +kernel), List.mem_of_getElem? (i := 322) (by decide +kernel)⟩
theorem lw_p3 : lw_okq (⟨"SilenceHours$State", "shareOut", "(III)I"⟩, 19) := ⟨⟨by decide +kernel, by decide +kernel⟩, List.mem_of_getElem? (i := 20) (by decide +kernel), List.mem_of_getElem? (i := 328) (by decide +kernel), List.mem_of_getElem? (i := 329) (by decide +kernel)⟩
theorem lw_p4 : lw_okq (⟨"SilenceHours$State", "biddersForQuiet", "(I)I"⟩, 19) := ⟨⟨by decide +kernel, by decide +kernel⟩, List.mem_of_getElem? (i := 20) (by decide +kernel), List.mem_of_getElem? (i := 333) (by decide +kernel), List.mem_of_getElem? (i := 334) (by decide +kernel)⟩
theorem lw_p5 : lw_okq (⟨"SilenceHours$State", "shareFine", "(II)I"⟩, 19) := ⟨⟨by decide +kernel, by decide +kernel⟩, List.mem_of_getElem? (i := 20) (by decide +kernel), List.mem_of_getElem? (i := 357) (by decide +kernel), List.mem_of_getElem? (i := 358) (by decide +kernel)⟩
theorem lw_p6 : lw_okq (⟨"SilenceHours$Plan", "hasFailed", "()Z"⟩, 8) := ⟨⟨by decide +kernel, by decide +kernel⟩, List.mem_of_getElem? (i := 119) (by decide +kernel), List.mem_of_getElem? (i := 391) (by decide +kernel), List.mem_of_getElem? (i := 392) (by decide +kernel)⟩
theorem lw_p7 : lw_okq (⟨"SilenceHours$Plan", "readPiece", "()V"⟩, 8) := ⟨⟨by decide +kernel, by decide +kernel⟩, List.mem_of_getElem? (i := 119) (by decide +kernel), List.mem_of_getElem? (i := 395) (by decide +kernel), List.mem_of_getElem? (i := 396) (by decide +kernel)⟩
theorem lw_p8 : lw_okq (⟨"SilenceHours$Plan", "sign", "()I"⟩, 8) := ⟨⟨by decide +kernel, by decide +kernel⟩, List.mem_of_getElem? (i := 119) (by decide +kernel), List.mem_of_getElem? (i := 399) (by decide +kernel), List.mem_of_getElem? (i := 400) (by decide +kernel)⟩
theorem lw_p9 : lw_okq (⟨"SilenceHours$Plan", "closeGroup", "()V"⟩, 8) := ⟨⟨by decide +kernel, by decide +kernel⟩, List.mem_of_getElem? (i := 119) (by decide +kernel), List.mem_of_getElem? (i := 403) (by decide +kernel), List.mem_of_getElem? (i := 404) (by decide +kernel)⟩
theorem lw_p10 : lw_okq (⟨"SilenceHours$Plan", "take", "(C)V"⟩, 8) := ⟨⟨by decide +kernel, by decide +kernel⟩, List.mem_of_getElem? (i := 119) (by decide +kernel), List.mem_of_getElem? (i := 407) (by decide +kernel), List.mem_of_getElem? (i := 408) (by decide +kernel)⟩
theorem lw_p11 : lw_okq (⟨"SilenceHours$Plan", "takeIf", "(C)Z"⟩, 8) := ⟨⟨by decide +kernel, by decide +kernel⟩, List.mem_of_getElem? (i := 119) (by decide +kernel), List.mem_of_getElem? (i := 411) (by decide +kernel), List.mem_of_getElem? (i := 412) (by decide +kernel)⟩
theorem lw_p12 : lw_okq (⟨"SilenceHours$Plan", "failAt", "(I)V"⟩, 8) := ⟨⟨by decide +kernel, by decide +kernel⟩, List.mem_of_getElem? (i := 119) (by decide +kernel), List.mem_of_getElem? (i := 415) (by decide +kernel), List.mem_of_getElem? (i := 416) (by decide +kernel)⟩
theorem lw_p13 : lw_okq (⟨"SilenceHours$Plan", "openGroup", "(I)V"⟩, 8) := ⟨⟨by decide +kernel, by decide +kernel⟩, List.mem_of_getElem? (i := 119) (by decide +kernel), List.mem_of_getElem? (i := 419) (by decide +kernel), List.mem_of_getElem? (i := 420) (by decide +kernel)⟩
theorem lw_p14 : lw_okq (⟨"SilenceHours$Plan", "takeNumber", "(II)I"⟩, 8) := ⟨⟨by decide +kernel, by decide +kernel⟩, List.mem_of_getElem? (i := 119) (by decide +kernel), List.mem_of_getElem? (i := 427) (by decide +kernel), List.mem_of_getElem? (i := 428) (by decide +kernel)⟩
theorem lw_p15 : lw_okq (⟨"SilenceHours$Plan", "skip", "()V"⟩, 8) := ⟨⟨by decide +kernel, by decide +kernel⟩, List.mem_of_getElem? (i := 119) (by decide +kernel), List.mem_of_getElem? (i := 431) (by decide +kernel), List.mem_of_getElem? (i := 432) (by decide +kernel)⟩
def lw_privs_1 : List (MethodName × Nat) := [(⟨"SilenceHours", "isPerson", "(I)Z"⟩, 5), (⟨"SilenceHours$State", "settleBids", "(I)V"⟩, 19), (⟨"SilenceHours$State", "collectFrom", "(II)I"⟩, 19), (⟨"SilenceHours$State", "shareOut", "(III)I"⟩, 19), (⟨"SilenceHours$State", "biddersForQuiet", "(I)I"⟩, 19), (⟨"SilenceHours$State", "shareFine", "(II)I"⟩, 19), (⟨"SilenceHours$Plan", "hasFailed", "()Z"⟩, 8), (⟨"SilenceHours$Plan", "readPiece", "()V"⟩, 8), (⟨"SilenceHours$Plan", "sign", "()I"⟩, 8), (⟨"SilenceHours$Plan", "closeGroup", "()V"⟩, 8), (⟨"SilenceHours$Plan", "take", "(C)V"⟩, 8), (⟨"SilenceHours$Plan", "takeIf", "(C)Z"⟩, 8), (⟨"SilenceHours$Plan", "failAt", "(I)V"⟩, 8), (⟨"SilenceHours$Plan", "openGroup", "(I)V"⟩, 8), (⟨"SilenceHours$Plan", "takeNumber", "(II)I"⟩, 8), (⟨"SilenceHours$Plan", "skip", "()V"⟩, 8)]
theorem lw_r1 : ∀ q ∈ lw_privs_1, lw_okq q := List.forall_mem_cons.mpr ⟨lw_p0, List.forall_mem_cons.mpr ⟨lw_p1, List.forall_mem_cons.mpr ⟨lw_p2, List.forall_mem_cons.mpr ⟨lw_p3, List.forall_mem_cons.mpr ⟨lw_p4, List.forall_mem_cons.mpr ⟨lw_p5, List.forall_mem_cons.mpr ⟨lw_p6, List.forall_mem_cons.mpr ⟨lw_p7, List.forall_mem_cons.mpr ⟨lw_p8, List.forall_mem_cons.mpr ⟨lw_p9, List.forall_mem_cons.mpr ⟨lw_p10, List.forall_mem_cons.mpr ⟨lw_p11, List.forall_mem_cons.mpr ⟨lw_p12, List.forall_mem_cons.mpr ⟨lw_p13, List.forall_mem_cons.mpr ⟨lw_p14, List.forall_mem_cons.mpr ⟨lw_p15, fun _ h => absurd h List.not_mem_nil⟩⟩⟩⟩⟩⟩⟩⟩⟩⟩⟩⟩⟩⟩⟩⟩
theorem lw_p16 : lw_okq (⟨"SilenceHours$Plan", "readBids", "()V"⟩, 8) := ⟨⟨by decide +kernel, by decide +kernel⟩, List.mem_of_getElem? (i := 119) (by decide +kernel), List.mem_of_getElem? (i := 435) (by decide +kernel), List.mem_of_getElem? (i := 436) (by decide +kernel)⟩
theorem lw_p17 : lw_okq (⟨"SilenceHours$Plan", "takeStreet", "()I"⟩, 8) := ⟨⟨by decide +kernel, by decide +kernel⟩, List.mem_of_getElem? (i := 119) (by decide +kernel), List.mem_of_getElem? (i := 439) (by decide +kernel), List.mem_of_getElem? (i := 440) (by decide +kernel)⟩
theorem lw_p18 : lw_okq (⟨"SilenceHours", "failPlan", "(IIIII)I"⟩, 5) := ⟨⟨by decide +kernel, by decide +kernel⟩, List.mem_of_getElem? (i := 12) (by decide +kernel), List.mem_of_getElem? (i := 444) (by decide +kernel), List.mem_of_getElem? (i := 445) (by decide +kernel)⟩
theorem lw_p19 : lw_okq (⟨"SilenceHours$State", "quietFrom", "(II)I"⟩, 19) := ⟨⟨by decide +kernel, by decide +kernel⟩, List.mem_of_getElem? (i := 20) (by decide +kernel), List.mem_of_getElem? (i := 519) (by decide +kernel), List.mem_of_getElem? (i := 520) (by decide +kernel)⟩
theorem lw_p20 : lw_okq (⟨"SilenceHoursModel", "notes", "()V"⟩, 14) := ⟨⟨by decide +kernel, by decide +kernel⟩, List.mem_of_getElem? (i := 531) (by decide +kernel), List.mem_of_getElem? (i := 592) (by decide +kernel), List.mem_of_getElem? (i := 593) (by decide +kernel)⟩
theorem lw_p21 : lw_okq (⟨"SilenceHoursModel", "isPerson", "(I)Z"⟩, 14) := ⟨⟨by decide +kernel, by decide +kernel⟩, List.mem_of_getElem? (i := 531) (by decide +kernel), List.mem_of_getElem? (i := 600) (by decide +kernel), List.mem_of_getElem? (i := 601) (by decide +kernel)⟩
theorem lw_p22 : lw_okq (⟨"SilenceHoursModel", "of", "(II)I"⟩, 14) := ⟨⟨by decide +kernel, by decide +kernel⟩, List.mem_of_getElem? (i := 531) (by decide +kernel), List.mem_of_getElem? (i := 605) (by decide +kernel), List.mem_of_getElem? (i := 606) (by decide +kernel)⟩
theorem lw_p23 : lw_okq (⟨"SilenceHoursModel", "free", "(I)I"⟩, 14) := ⟨⟨by decide +kernel, by decide +kernel⟩, List.mem_of_getElem? (i := 531) (by decide +kernel), List.mem_of_getElem? (i := 609) (by decide +kernel), List.mem_of_getElem? (i := 610) (by decide +kernel)⟩
theorem lw_p24 : lw_okq (⟨"SilenceHoursModel", "amount", "(III)I"⟩, 14) := ⟨⟨by decide +kernel, by decide +kernel⟩, List.mem_of_getElem? (i := 531) (by decide +kernel), List.mem_of_getElem? (i := 613) (by decide +kernel), List.mem_of_getElem? (i := 614) (by decide +kernel)⟩
theorem lw_p25 : lw_okq (⟨"SilenceHoursModel", "bidAt", "(II)I"⟩, 14) := ⟨⟨by decide +kernel, by decide +kernel⟩, List.mem_of_getElem? (i := 531) (by decide +kernel), List.mem_of_getElem? (i := 617) (by decide +kernel), List.mem_of_getElem? (i := 618) (by decide +kernel)⟩
theorem lw_p26 : lw_okq (⟨"SilenceHoursModel", "adds", "(III)V"⟩, 14) := ⟨⟨by decide +kernel, by decide +kernel⟩, List.mem_of_getElem? (i := 531) (by decide +kernel), List.mem_of_getElem? (i := 622) (by decide +kernel), List.mem_of_getElem? (i := 623) (by decide +kernel)⟩
theorem lw_p27 : lw_okq (⟨"SilenceHoursModel", "receives", "(II)V"⟩, 14) := ⟨⟨by decide +kernel, by decide +kernel⟩, List.mem_of_getElem? (i := 531) (by decide +kernel), List.mem_of_getElem? (i := 626) (by decide +kernel), List.mem_of_getElem? (i := 627) (by decide +kernel)⟩
theorem lw_p28 : lw_okq (⟨"SilenceHoursModel", "asides", "()V"⟩, 14) := ⟨⟨by decide +kernel, by decide +kernel⟩, List.mem_of_getElem? (i := 531) (by decide +kernel), List.mem_of_getElem? (i := 634) (by decide +kernel), List.mem_of_getElem? (i := 635) (by decide +kernel)⟩
theorem lw_p29 : lw_okq (⟨"SilenceHoursModel", "bids", "(IIIII)I"⟩, 14) := ⟨⟨by decide +kernel, by decide +kernel⟩, List.mem_of_getElem? (i := 531) (by decide +kernel), List.mem_of_getElem? (i := 638) (by decide +kernel), List.mem_of_getElem? (i := 639) (by decide +kernel)⟩
theorem lw_p30 : lw_okq (⟨"SilenceHoursModel", "swaps", "()V"⟩, 14) := ⟨⟨by decide +kernel, by decide +kernel⟩, List.mem_of_getElem? (i := 531) (by decide +kernel), List.mem_of_getElem? (i := 645) (by decide +kernel), List.mem_of_getElem? (i := 646) (by decide +kernel)⟩
theorem lw_p31 : lw_okq (⟨"SilenceHoursModel", "backs", "()V"⟩, 14) := ⟨⟨by decide +kernel, by decide +kernel⟩, List.mem_of_getElem? (i := 531) (by decide +kernel), List.mem_of_getElem? (i := 649) (by decide +kernel), List.mem_of_getElem? (i := 650) (by decide +kernel)⟩
def lw_privs_2 : List (MethodName × Nat) := [(⟨"SilenceHours$Plan", "readBids", "()V"⟩, 8), (⟨"SilenceHours$Plan", "takeStreet", "()I"⟩, 8), (⟨"SilenceHours", "failPlan", "(IIIII)I"⟩, 5), (⟨"SilenceHours$State", "quietFrom", "(II)I"⟩, 19), (⟨"SilenceHoursModel", "notes", "()V"⟩, 14), (⟨"SilenceHoursModel", "isPerson", "(I)Z"⟩, 14), (⟨"SilenceHoursModel", "of", "(II)I"⟩, 14), (⟨"SilenceHoursModel", "free", "(I)I"⟩, 14), (⟨"SilenceHoursModel", "amount", "(III)I"⟩, 14), (⟨"SilenceHoursModel", "bidAt", "(II)I"⟩, 14), (⟨"SilenceHoursModel", "adds", "(III)V"⟩, 14), (⟨"SilenceHoursModel", "receives", "(II)V"⟩, 14), (⟨"SilenceHoursModel", "asides", "()V"⟩, 14), (⟨"SilenceHoursModel", "bids", "(IIIII)I"⟩, 14), (⟨"SilenceHoursModel", "swaps", "()V"⟩, 14), (⟨"SilenceHoursModel", "backs", "()V"⟩, 14)]
theorem lw_r2 : ∀ q ∈ lw_privs_2, lw_okq q := List.forall_mem_cons.mpr ⟨lw_p16, List.forall_mem_cons.mpr ⟨lw_p17, List.forall_mem_cons.mpr ⟨lw_p18, List.forall_mem_cons.mpr ⟨lw_p19, List.forall_mem_cons.mpr ⟨lw_p20, List.forall_mem_cons.mpr ⟨lw_p21, List.forall_mem_cons.mpr ⟨lw_p22, List.forall_mem_cons.mpr ⟨lw_p23, List.forall_mem_cons.mpr ⟨lw_p24, List.forall_mem_cons.mpr ⟨lw_p25, List.forall_mem_cons.mpr ⟨lw_p26, List.forall_mem_cons.mpr ⟨lw_p27, List.forall_mem_cons.mpr ⟨lw_p28, List.forall_mem_cons.mpr ⟨lw_p29, List.forall_mem_cons.mpr ⟨lw_p30, List.forall_mem_cons.mpr ⟨lw_p31, fun _ h => absurd h List.not_mem_nil⟩⟩⟩⟩⟩⟩⟩⟩⟩⟩⟩⟩⟩⟩⟩⟩
theorem lw_p32 : lw_okq (⟨"SilenceHoursModel", "settlesAll", "()V"⟩, 14) := ⟨⟨by decide +kernel, by decide +kernel⟩, List.mem_of_getElem? (i := 531) (by decide +kernel), List.mem_of_getElem? (i := 661) (by decide +kernel), List.mem_of_getElem? (i := 662) (by decide +kernel)⟩
theorem lw_p33 : lw_okq (⟨"SilenceHoursModel", "settles", "(I)V"⟩, 14) := ⟨⟨by decide +kernel, by decide +kernel⟩, List.mem_of_getElem? (i := 531) (by decide +kernel), List.mem_of_getElem? (i := 665) (by decide +kernel), List.mem_of_getElem? (i := 666) (by decide +kernel)⟩
theorem lw_p34 : lw_okq (⟨"SilenceHoursModel", "bidsFor", "(I)I"⟩, 14) := ⟨⟨by decide +kernel, by decide +kernel⟩, List.mem_of_getElem? (i := 531) (by decide +kernel), List.mem_of_getElem? (i := 669) (by decide +kernel), List.mem_of_getElem? (i := 670) (by decide +kernel)⟩
theorem lw_p35 : lw_okq (⟨"SilenceHoursModel", "slotOf", "(II)I"⟩, 14) := ⟨⟨by decide +kernel, by decide +kernel⟩, List.mem_of_getElem? (i := 531) (by decide +kernel), List.mem_of_getElem? (i := 673) (by decide +kernel), List.mem_of_getElem? (i := 674) (by decide +kernel)⟩
theorem lw_p36 : lw_okq (⟨"SilenceHoursModel", "puts", "(III)V"⟩, 14) := ⟨⟨by decide +kernel, by decide +kernel⟩, List.mem_of_getElem? (i := 531) (by decide +kernel), List.mem_of_getElem? (i := 677) (by decide +kernel), List.mem_of_getElem? (i := 678) (by decide +kernel)⟩
theorem lw_p37 : lw_okq (⟨"SilenceHoursModel", "winnerOf", "(I)I"⟩, 14) := ⟨⟨by decide +kernel, by decide +kernel⟩, List.mem_of_getElem? (i := 531) (by decide +kernel), List.mem_of_getElem? (i := 681) (by decide +kernel), List.mem_of_getElem? (i := 682) (by decide +kernel)⟩
theorem lw_p38 : lw_okq (⟨"SilenceHoursModel", "sumOf", "(II)I"⟩, 14) := ⟨⟨by decide +kernel, by decide +kernel⟩, List.mem_of_getElem? (i := 531) (by decide +kernel), List.mem_of_getElem? (i := 685) (by decide +kernel), List.mem_of_getElem? (i := 686) (by decide +kernel)⟩
theorem lw_p39 : lw_okq (⟨"SilenceHoursModel", "tied", "(I)I"⟩, 14) := ⟨⟨by decide +kernel, by decide +kernel⟩, List.mem_of_getElem? (i := 531) (by decide +kernel), List.mem_of_getElem? (i := 689) (by decide +kernel), List.mem_of_getElem? (i := 690) (by decide +kernel)⟩
theorem lw_p40 : lw_okq (⟨"SilenceHoursModel", "noisy", "()I"⟩, 14) := ⟨⟨by decide +kernel, by decide +kernel⟩, List.mem_of_getElem? (i := 531) (by decide +kernel), List.mem_of_getElem? (i := 693) (by decide +kernel), List.mem_of_getElem? (i := 694) (by decide +kernel)⟩
theorem lw_p41 : lw_okq (⟨"SilenceHoursModel", "reads", "()V"⟩, 14) := ⟨⟨by decide +kernel, by decide +kernel⟩, List.mem_of_getElem? (i := 531) (by decide +kernel), List.mem_of_getElem? (i := 713) (by decide +kernel), List.mem_of_getElem? (i := 714) (by decide +kernel)⟩
theorem lw_p42 : lw_okq (⟨"SilenceHoursModel", "here", "()I"⟩, 14) := ⟨⟨by decide +kernel, by decide +kernel⟩, List.mem_of_getElem? (i := 531) (by decide +kernel), List.mem_of_getElem? (i := 717) (by decide +kernel), List.mem_of_getElem? (i := 718) (by decide +kernel)⟩
theorem lw_p43 : lw_okq (⟨"SilenceHoursModel", "opens", "(I)V"⟩, 14) := ⟨⟨by decide +kernel, by decide +kernel⟩, List.mem_of_getElem? (i := 531) (by decide +kernel), List.mem_of_getElem? (i := 721) (by decide +kernel), List.mem_of_getElem? (i := 722) (by decide +kernel)⟩
theorem lw_p44 : lw_okq (⟨"SilenceHoursModel", "fails", "(I)V"⟩, 14) := ⟨⟨by decide +kernel, by decide +kernel⟩, List.mem_of_getElem? (i := 531) (by decide +kernel), List.mem_of_getElem? (i := 725) (by decide +kernel), List.mem_of_getElem? (i := 726) (by decide +kernel)⟩
theorem lw_p45 : lw_okq (⟨"SilenceHoursModel", "failedBy", "(IIIII)V"⟩, 14) := ⟨⟨by decide +kernel, by decide +kernel⟩, List.mem_of_getElem? (i := 531) (by decide +kernel), List.mem_of_getElem? (i := 729) (by decide +kernel), List.mem_of_getElem? (i := 730) (by decide +kernel)⟩
theorem lw_p46 : lw_okq (⟨"SilenceHoursModel", "number", "(II)I"⟩, 14) := ⟨⟨by decide +kernel, by decide +kernel⟩, List.mem_of_getElem? (i := 531) (by decide +kernel), List.mem_of_getElem? (i := 733) (by decide +kernel), List.mem_of_getElem? (i := 734) (by decide +kernel)⟩
theorem lw_p47 : lw_okq (⟨"SilenceHoursModel", "sign", "(I)V"⟩, 14) := ⟨⟨by decide +kernel, by decide +kernel⟩, List.mem_of_getElem? (i := 531) (by decide +kernel), List.mem_of_getElem? (i := 737) (by decide +kernel), List.mem_of_getElem? (i := 738) (by decide +kernel)⟩
def lw_privs_3 : List (MethodName × Nat) := [(⟨"SilenceHoursModel", "settlesAll", "()V"⟩, 14), (⟨"SilenceHoursModel", "settles", "(I)V"⟩, 14), (⟨"SilenceHoursModel", "bidsFor", "(I)I"⟩, 14), (⟨"SilenceHoursModel", "slotOf", "(II)I"⟩, 14), (⟨"SilenceHoursModel", "puts", "(III)V"⟩, 14), (⟨"SilenceHoursModel", "winnerOf", "(I)I"⟩, 14), (⟨"SilenceHoursModel", "sumOf", "(II)I"⟩, 14), (⟨"SilenceHoursModel", "tied", "(I)I"⟩, 14), (⟨"SilenceHoursModel", "noisy", "()I"⟩, 14), (⟨"SilenceHoursModel", "reads", "()V"⟩, 14), (⟨"SilenceHoursModel", "here", "()I"⟩, 14), (⟨"SilenceHoursModel", "opens", "(I)V"⟩, 14), (⟨"SilenceHoursModel", "fails", "(I)V"⟩, 14), (⟨"SilenceHoursModel", "failedBy", "(IIIII)V"⟩, 14), (⟨"SilenceHoursModel", "number", "(II)I"⟩, 14), (⟨"SilenceHoursModel", "sign", "(I)V"⟩, 14)]
theorem lw_r3 : ∀ q ∈ lw_privs_3, lw_okq q := List.forall_mem_cons.mpr ⟨lw_p32, List.forall_mem_cons.mpr ⟨lw_p33, List.forall_mem_cons.mpr ⟨lw_p34, List.forall_mem_cons.mpr ⟨lw_p35, List.forall_mem_cons.mpr ⟨lw_p36, List.forall_mem_cons.mpr ⟨lw_p37, List.forall_mem_cons.mpr ⟨lw_p38, List.forall_mem_cons.mpr ⟨lw_p39, List.forall_mem_cons.mpr ⟨lw_p40, List.forall_mem_cons.mpr ⟨lw_p41, List.forall_mem_cons.mpr ⟨lw_p42, List.forall_mem_cons.mpr ⟨lw_p43, List.forall_mem_cons.mpr ⟨lw_p44, List.forall_mem_cons.mpr ⟨lw_p45, List.forall_mem_cons.mpr ⟨lw_p46, List.forall_mem_cons.mpr ⟨lw_p47, fun _ h => absurd h List.not_mem_nil⟩⟩⟩⟩⟩⟩⟩⟩⟩⟩⟩⟩⟩⟩⟩⟩
theorem lw_p48 : lw_okq (⟨"SilenceHoursModel", "readPart", "()V"⟩, 14) := ⟨⟨by decide +kernel, by decide +kernel⟩, List.mem_of_getElem? (i := 531) (by decide +kernel), List.mem_of_getElem? (i := 741) (by decide +kernel), List.mem_of_getElem? (i := 742) (by decide +kernel)⟩
theorem lw_p49 : lw_okq (⟨"SilenceHoursModel", "allBids", "()I"⟩, 14) := ⟨⟨by decide +kernel, by decide +kernel⟩, List.mem_of_getElem? (i := 531) (by decide +kernel), List.mem_of_getElem? (i := 753) (by decide +kernel), List.mem_of_getElem? (i := 754) (by decide +kernel)⟩
theorem lw_p50 : lw_okq (⟨"SilenceHoursModel", "bidsBy", "(I)I"⟩, 14) := ⟨⟨by decide +kernel, by decide +kernel⟩, List.mem_of_getElem? (i := 531) (by decide +kernel), List.mem_of_getElem? (i := 757) (by decide +kernel), List.mem_of_getElem? (i := 758) (by decide +kernel)⟩
theorem lw_p51 : lw_okq (⟨"SilenceHoursModel", "money", "()I"⟩, 14) := ⟨⟨by decide +kernel, by decide +kernel⟩, List.mem_of_getElem? (i := 531) (by decide +kernel), List.mem_of_getElem? (i := 761) (by decide +kernel), List.mem_of_getElem? (i := 762) (by decide +kernel)⟩
theorem lw_p52 : lw_okq (⟨"SilenceHoursModel", "debts", "()I"⟩, 14) := ⟨⟨by decide +kernel, by decide +kernel⟩, List.mem_of_getElem? (i := 531) (by decide +kernel), List.mem_of_getElem? (i := 765) (by decide +kernel), List.mem_of_getElem? (i := 766) (by decide +kernel)⟩
def lw_privs_4 : List (MethodName × Nat) := [(⟨"SilenceHoursModel", "readPart", "()V"⟩, 14), (⟨"SilenceHoursModel", "allBids", "()I"⟩, 14), (⟨"SilenceHoursModel", "bidsBy", "(I)I"⟩, 14), (⟨"SilenceHoursModel", "money", "()I"⟩, 14), (⟨"SilenceHoursModel", "debts", "()I"⟩, 14)]
theorem lw_r4 : ∀ q ∈ lw_privs_4, lw_okq q := List.forall_mem_cons.mpr ⟨lw_p48, List.forall_mem_cons.mpr ⟨lw_p49, List.forall_mem_cons.mpr ⟨lw_p50, List.forall_mem_cons.mpr ⟨lw_p51, List.forall_mem_cons.mpr ⟨lw_p52, fun _ h => absurd h List.not_mem_nil⟩⟩⟩⟩⟩
def lw_privs : List (MethodName × Nat) := lw_privs_1 ++ (lw_privs_2 ++ (lw_privs_3 ++ (lw_privs_4)))
def lw_tbl : List Cond := k2_sels lw_privs ++ tables_1
theorem lw_privs_ok : ∀ q ∈ lw_privs, lw_okq q := by
  show ∀ q ∈ lw_privs_1 ++ (lw_privs_2 ++ (lw_privs_3 ++ (lw_privs_4))), lw_okq q
  exact List.forall_mem_append.mpr ⟨lw_r1, List.forall_mem_append.mpr ⟨lw_r2, List.forall_mem_append.mpr ⟨lw_r3, lw_r4⟩⟩⟩
/-! ===== BEGIN words of one list among another's, by their places ===== -/
/-! ===== END ===== -/

/-! ===== BEGIN printed: names, fields, word lists, decode rows ===== -/
def RX0 : String := "SilenceHours$History"
def TX0 : u_T := fun k => match k with
  | 0 => ("SilenceHours$History", "rows", "[LSilenceHours$State;", true)
  | 1 => ("SilenceHours$History", "oldest", "I", false)
  | _ => ("SilenceHours$History", "size", "I", false)
def tyX0 : Nat → FieldType := fun k => match k with
  | 0 => .array (.object "SilenceHours$State")
  | 1 => .int
  | _ => .int
abbrev wsX00 : List Cond := u_ws RX0 TX0 3
theorem nmX0 : ∀ a, a < 3 → ∀ b, b < 3 → a ≠ b → (TX0 a).2.1 ≠ (TX0 b).2.1 := by decide +kernel
theorem tyX0_ok : ∀ k, k < 3 → parseFieldDescriptor (TX0 k).2.2.1 = some (tyX0 k) := by decide +kernel
abbrev cX0_init : ByteArray := prog_2_method_1_code
def yX0_init : MethodName := ⟨RX0, "<init>", "()V"⟩
abbrev cX0_record : ByteArray := prog_2_method_2_code
def yX0_record : MethodName := ⟨RX0, "record", "(LSilenceHours$State;)V"⟩
abbrev cX0_restoreLatest : ByteArray := prog_2_method_3_code
def yX0_restoreLatest : MethodName := ⟨RX0, "restoreLatest", "(LSilenceHours$State;)V"⟩
def RX1 : String := "SilenceHours$Part"
def TX1 : u_T := fun k => match k with
  | 0 => ("SilenceHours$Part", "place", "I", false)
  | 1 => ("SilenceHours$Part", "depth", "I", false)
  | 2 => ("SilenceHours$Part", "side", "I", false)
  | 3 => ("SilenceHours$Part", "street", "I", false)
  | 4 => ("SilenceHours$Part", "firstHour", "I", false)
  | 5 => ("SilenceHours$Part", "lastHour", "I", false)
  | _ => ("SilenceHours$Part", "amount", "I", false)
def tyX1 : Nat → FieldType := fun k => match k with
  | 0 => .int
  | 1 => .int
  | 2 => .int
  | 3 => .int
  | 4 => .int
  | 5 => .int
  | _ => .int
abbrev wsX10 : List Cond := u_ws RX1 TX1 7
theorem nmX1 : ∀ a, a < 7 → ∀ b, b < 7 → a ≠ b → (TX1 a).2.1 ≠ (TX1 b).2.1 := by decide +kernel
theorem tyX1_ok : ∀ k, k < 7 → parseFieldDescriptor (TX1 k).2.2.1 = some (tyX1 k) := by decide +kernel
abbrev cX1_init : ByteArray := prog_3_method_1_code
def yX1_init : MethodName := ⟨RX1, "<init>", "()V"⟩
def RX2 : String := "SilenceHours$Plan"
def TX2 : u_T := fun k => match k with
  | 0 => ("SilenceHours$Plan", "text", "[I", true)
  | 1 => ("SilenceHours$Plan", "length", "I", false)
  | 2 => ("SilenceHours$Plan", "parts", "[LSilenceHours$Part;", true)
  | 3 => ("SilenceHours$Plan", "partCount", "I", false)
  | 4 => ("SilenceHours$Plan", "failedAt", "I", false)
  | 5 => ("SilenceHours$Plan", "depth", "I", false)
  | 6 => ("SilenceHours$Plan", "position", "I", false)
  | _ => ("SilenceHours$Plan", "factors", "[I", true)
def tyX2 : Nat → FieldType := fun k => match k with
  | 0 => .array .int
  | 1 => .int
  | 2 => .array (.object "SilenceHours$Part")
  | 3 => .int
  | 4 => .int
  | 5 => .int
  | 6 => .int
  | _ => .array .int
abbrev wsX20 : List Cond := u_ws RX2 TX2 8
theorem nmX2 : ∀ a, a < 8 → ∀ b, b < 8 → a ≠ b → (TX2 a).2.1 ≠ (TX2 b).2.1 := by decide +kernel
theorem tyX2_ok : ∀ k, k < 8 → parseFieldDescriptor (TX2 k).2.2.1 = some (tyX2 k) := by decide +kernel
abbrev cX2_init : ByteArray := prog_4_method_1_code
def yX2_init : MethodName := ⟨RX2, "<init>", "()V"⟩
abbrev cX2_readText : ByteArray := prog_4_method_2_code
def yX2_readText : MethodName := ⟨RX2, "readText", "()Z"⟩
abbrev cX2_readPiece : ByteArray := prog_4_method_3_code
def yX2_readPiece : MethodName := ⟨RX2, "readPiece", "()V"⟩
abbrev cX2_openGroup : ByteArray := prog_4_method_4_code
def yX2_openGroup : MethodName := ⟨RX2, "openGroup", "(I)V"⟩
abbrev cX2_closeGroup : ByteArray := prog_4_method_5_code
def yX2_closeGroup : MethodName := ⟨RX2, "closeGroup", "()V"⟩
abbrev cX2_readBids : ByteArray := prog_4_method_6_code
def yX2_readBids : MethodName := ⟨RX2, "readBids", "()V"⟩
abbrev cX2_takeStreet : ByteArray := prog_4_method_7_code
def yX2_takeStreet : MethodName := ⟨RX2, "takeStreet", "()I"⟩
abbrev cX2_takeNumber : ByteArray := prog_4_method_8_code
def yX2_takeNumber : MethodName := ⟨RX2, "takeNumber", "(II)I"⟩
abbrev cX2_take : ByteArray := prog_4_method_9_code
def yX2_take : MethodName := ⟨RX2, "take", "(C)V"⟩
abbrev cX2_takeIf : ByteArray := prog_4_method_10_code
def yX2_takeIf : MethodName := ⟨RX2, "takeIf", "(C)Z"⟩
abbrev cX2_skip : ByteArray := prog_4_method_11_code
def yX2_skip : MethodName := ⟨RX2, "skip", "()V"⟩
abbrev cX2_sign : ByteArray := prog_4_method_12_code
def yX2_sign : MethodName := ⟨RX2, "sign", "()I"⟩
abbrev cX2_isDigit : ByteArray := prog_4_method_13_code
def yX2_isDigit : MethodName := ⟨RX2, "isDigit", "(I)Z"⟩
abbrev cX2_failAt : ByteArray := prog_4_method_14_code
def yX2_failAt : MethodName := ⟨RX2, "failAt", "(I)V"⟩
abbrev cX2_hasFailed : ByteArray := prog_4_method_15_code
def yX2_hasFailed : MethodName := ⟨RX2, "hasFailed", "()Z"⟩
def RX3 : String := "SilenceHours$State"
def TX3 : u_T := fun k => match k with
  | 0 => ("SilenceHours$State", "day", "I", false)
  | 1 => ("SilenceHours$State", "fine", "I", false)
  | 2 => ("SilenceHours$State", "breaches", "I", false)
  | 3 => ("SilenceHours$State", "people", "I", false)
  | 4 => ("SilenceHours$State", "purses", "[I", true)
  | 5 => ("SilenceHours$State", "heldForBids", "[I", true)
  | 6 => ("SilenceHours$State", "debts", "[I", true)
  | 7 => ("SilenceHours$State", "breachStreets", "[I", true)
  | 8 => ("SilenceHours$State", "bidsWon", "[I", true)
  | 9 => ("SilenceHours$State", "paidForWon", "[I", true)
  | 10 => ("SilenceHours$State", "sharedOut", "[I", true)
  | 11 => ("SilenceHours$State", "breachesBy", "[I", true)
  | 12 => ("SilenceHours$State", "bids", "[I", true)
  | 13 => ("SilenceHours$State", "owners", "[I", true)
  | 14 => ("SilenceHours$State", "carried", "[I", true)
  | 15 => ("SilenceHours$State", "tieSides", "[I", true)
  | 16 => ("SilenceHours$State", "quietWinners", "[I", true)
  | 17 => ("SilenceHours$State", "lastPaid", "[I", true)
  | _ => ("SilenceHours$State", "funds", "[I", true)
def tyX3 : Nat → FieldType := fun k => match k with
  | 0 => .int
  | 1 => .int
  | 2 => .int
  | 3 => .int
  | 4 => .array .int
  | 5 => .array .int
  | 6 => .array .int
  | 7 => .array .int
  | 8 => .array .int
  | 9 => .array .int
  | 10 => .array .int
  | 11 => .array .int
  | 12 => .array .int
  | 13 => .array .int
  | 14 => .array .int
  | 15 => .array .int
  | 16 => .array .int
  | 17 => .array .int
  | _ => .array .int
abbrev wsX30 : List Cond := u_ws RX3 TX3 19
theorem nmX3 : ∀ a, a < 19 → ∀ b, b < 19 → a ≠ b → (TX3 a).2.1 ≠ (TX3 b).2.1 := by decide +kernel
theorem tyX3_ok : ∀ k, k < 19 → parseFieldDescriptor (TX3 k).2.2.1 = some (tyX3 k) := by decide +kernel
abbrev cX3_init : ByteArray := prog_5_method_1_code
def yX3_init : MethodName := ⟨RX3, "<init>", "()V"⟩
abbrev cX3_copyFrom : ByteArray := prog_5_method_2_code
def yX3_copyFrom : MethodName := ⟨RX3, "copyFrom", "(LSilenceHours$State;)V"⟩
abbrev cX3_markedBid : ByteArray := prog_5_method_3_code
def yX3_markedBid : MethodName := ⟨RX3, "markedBid", "(II)I"⟩
abbrev cX3_bidFor : ByteArray := prog_5_method_4_code
def yX3_bidFor : MethodName := ⟨RX3, "bidFor", "(III)I"⟩
abbrev cX3_bidAmount : ByteArray := prog_5_method_5_code
def yX3_bidAmount : MethodName := ⟨RX3, "bidAmount", "(II)I"⟩
abbrev cX3_freeMoney : ByteArray := prog_5_method_6_code
def yX3_freeMoney : MethodName := ⟨RX3, "freeMoney", "(I)I"⟩
abbrev cX3_bidError : ByteArray := prog_5_method_7_code
def yX3_bidError : MethodName := ⟨RX3, "bidError", "(III)I"⟩
abbrev cX3_placeBid : ByteArray := prog_5_method_8_code
def yX3_placeBid : MethodName := ⟨RX3, "placeBid", "(IIII)I"⟩
abbrev cX3_bidsBy : ByteArray := prog_5_method_9_code
def yX3_bidsBy : MethodName := ⟨RX3, "bidsBy", "(I)I"⟩
abbrev cX3_bidsFor : ByteArray := prog_5_method_10_code
def yX3_bidsFor : MethodName := ⟨RX3, "bidsFor", "(I)I"⟩
abbrev cX3_sumOfBids : ByteArray := prog_5_method_11_code
def yX3_sumOfBids : MethodName := ⟨RX3, "sumOfBids", "(II)I"⟩
abbrev cX3_receive : ByteArray := prog_5_method_12_code
def yX3_receive : MethodName := ⟨RX3, "receive", "(II)V"⟩
abbrev cX3_canBePaid : ByteArray := prog_5_method_13_code
def yX3_canBePaid : MethodName := ⟨RX3, "canBePaid", "(II)Z"⟩
abbrev cX3_allMoney : ByteArray := prog_5_method_14_code
def yX3_allMoney : MethodName := ⟨RX3, "allMoney", "()I"⟩
abbrev cX3_allDebts : ByteArray := prog_5_method_15_code
def yX3_allDebts : MethodName := ⟨RX3, "allDebts", "()I"⟩
abbrev cX3_allBids : ByteArray := prog_5_method_16_code
def yX3_allBids : MethodName := ⟨RX3, "allBids", "()I"⟩
abbrev cX3_strength : ByteArray := prog_5_method_17_code
def yX3_strength : MethodName := ⟨RX3, "strength", "(II)I"⟩
abbrev cX3_ownerThen : ByteArray := prog_5_method_18_code
def yX3_ownerThen : MethodName := ⟨RX3, "ownerThen", "(I)I"⟩
abbrev cX3_missingFor : ByteArray := prog_5_method_19_code
def yX3_missingFor : MethodName := ⟨RX3, "missingFor", "(II)I"⟩
abbrev cX3_settleDay : ByteArray := prog_5_method_20_code
def yX3_settleDay : MethodName := ⟨RX3, "settleDay", "()V"⟩
abbrev cX3_settleBids : ByteArray := prog_5_method_21_code
def yX3_settleBids : MethodName := ⟨RX3, "settleBids", "(I)V"⟩
abbrev cX3_collectFrom : ByteArray := prog_5_method_22_code
def yX3_collectFrom : MethodName := ⟨RX3, "collectFrom", "(II)I"⟩
abbrev cX3_shareOut : ByteArray := prog_5_method_23_code
def yX3_shareOut : MethodName := ⟨RX3, "shareOut", "(III)I"⟩
abbrev cX3_biddersForQuiet : ByteArray := prog_5_method_24_code
def yX3_biddersForQuiet : MethodName := ⟨RX3, "biddersForQuiet", "(I)I"⟩
abbrev cX3_noteBreach : ByteArray := prog_5_method_25_code
def yX3_noteBreach : MethodName := ⟨RX3, "noteBreach", "(II)I"⟩
abbrev cX3_shareFine : ByteArray := prog_5_method_26_code
def yX3_shareFine : MethodName := ⟨RX3, "shareFine", "(II)I"⟩
abbrev cX3_noisySlots : ByteArray := prog_5_method_27_code
def yX3_noisySlots : MethodName := ⟨RX3, "noisySlots", "()I"⟩
abbrev cX3_quietHours : ByteArray := prog_5_method_28_code
def yX3_quietHours : MethodName := ⟨RX3, "quietHours", "(I)I"⟩
abbrev cX3_longestQuiet : ByteArray := prog_5_method_29_code
def yX3_longestQuiet : MethodName := ⟨RX3, "longestQuiet", "(I)I"⟩
abbrev cX3_longestQuietStart : ByteArray := prog_5_method_30_code
def yX3_longestQuietStart : MethodName := ⟨RX3, "longestQuietStart", "(I)I"⟩
abbrev cX3_quietFrom : ByteArray := prog_5_method_31_code
def yX3_quietFrom : MethodName := ⟨RX3, "quietFrom", "(II)I"⟩
def RX4 : String := "SilenceHours"
def TX4 : u_T := fun k => match k with
  | 0 => ("SilenceHours", "state", "LSilenceHours$State;", true)
  | 1 => ("SilenceHours", "spare", "LSilenceHours$State;", true)
  | 2 => ("SilenceHours", "history", "LSilenceHours$History;", true)
  | 3 => ("SilenceHours", "plan", "LSilenceHours$Plan;", true)
  | _ => ("SilenceHours", "failureParts", "[I", true)
def tyX4 : Nat → FieldType := fun k => match k with
  | 0 => .object "SilenceHours$State"
  | 1 => .object "SilenceHours$State"
  | 2 => .object "SilenceHours$History"
  | 3 => .object "SilenceHours$Plan"
  | _ => .array .int
abbrev wsX40 : List Cond := u_ws RX4 TX4 5
theorem nmX4 : ∀ a, a < 5 → ∀ b, b < 5 → a ≠ b → (TX4 a).2.1 ≠ (TX4 b).2.1 := by decide +kernel
theorem tyX4_ok : ∀ k, k < 5 → parseFieldDescriptor (TX4 k).2.2.1 = some (tyX4 k) := by decide +kernel
abbrev cX4_init : ByteArray := prog_1_method_1_code
def yX4_init : MethodName := ⟨RX4, "<init>", "()V"⟩
abbrev cX4_join : ByteArray := prog_1_method_2_code
def yX4_join : MethodName := ⟨RX4, "join", "(I)I"⟩
abbrev cX4_pay : ByteArray := prog_1_method_3_code
def yX4_pay : MethodName := ⟨RX4, "pay", "(II)I"⟩
abbrev cX4_bid : ByteArray := prog_1_method_4_code
def yX4_bid : MethodName := ⟨RX4, "bid", "(IIIII)I"⟩
abbrev cX4_setFine : ByteArray := prog_1_method_5_code
def yX4_setFine : MethodName := ⟨RX4, "setFine", "(I)I"⟩
abbrev cX4_settle : ByteArray := prog_1_method_6_code
def yX4_settle : MethodName := ⟨RX4, "settle", "()I"⟩
abbrev cX4_breach : ByteArray := prog_1_method_7_code
def yX4_breach : MethodName := ⟨RX4, "breach", "(III)I"⟩
abbrev cX4_undo : ByteArray := prog_1_method_8_code
def yX4_undo : MethodName := ⟨RX4, "undo", "()I"⟩
abbrev cX4_append : ByteArray := prog_1_method_9_code
def yX4_append : MethodName := ⟨RX4, "append", "(I)I"⟩
abbrev cX4_clearText : ByteArray := prog_1_method_10_code
def yX4_clearText : MethodName := ⟨RX4, "clearText", "()I"⟩
abbrev cX4_run : ByteArray := prog_1_method_11_code
def yX4_run : MethodName := ⟨RX4, "run", "(I)I"⟩
abbrev cX4_failure : ByteArray := prog_1_method_12_code
def yX4_failure : MethodName := ⟨RX4, "failure", "(I)I"⟩
abbrev cX4_count : ByteArray := prog_1_method_13_code
def yX4_count : MethodName := ⟨RX4, "count", "(I)I"⟩
abbrev cX4_person : ByteArray := prog_1_method_14_code
def yX4_person : MethodName := ⟨RX4, "person", "(II)I"⟩
abbrev cX4_slot : ByteArray := prog_1_method_15_code
def yX4_slot : MethodName := ⟨RX4, "slot", "(III)I"⟩
abbrev cX4_bidOf : ByteArray := prog_1_method_16_code
def yX4_bidOf : MethodName := ⟨RX4, "bidOf", "(III)I"⟩
abbrev cX4_fund : ByteArray := prog_1_method_17_code
def yX4_fund : MethodName := ⟨RX4, "fund", "(I)I"⟩
abbrev cX4_winner : ByteArray := prog_1_method_18_code
def yX4_winner : MethodName := ⟨RX4, "winner", "(II)I"⟩
abbrev cX4_needed : ByteArray := prog_1_method_19_code
def yX4_needed : MethodName := ⟨RX4, "needed", "(III)I"⟩
abbrev cX4_quiet : ByteArray := prog_1_method_20_code
def yX4_quiet : MethodName := ⟨RX4, "quiet", "(II)I"⟩
abbrev cX4_purseThen : ByteArray := prog_1_method_21_code
def yX4_purseThen : MethodName := ⟨RX4, "purseThen", "(I)I"⟩
abbrev cX4_failPlan : ByteArray := prog_1_method_22_code
def yX4_failPlan : MethodName := ⟨RX4, "failPlan", "(IIIII)I"⟩
abbrev cX4_isPerson : ByteArray := prog_1_method_23_code
def yX4_isPerson : MethodName := ⟨RX4, "isPerson", "(I)Z"⟩
abbrev cX4_isStreet : ByteArray := prog_1_method_24_code
def yX4_isStreet : MethodName := ⟨RX4, "isStreet", "(I)Z"⟩
abbrev cX4_isSlot : ByteArray := prog_1_method_25_code
def yX4_isSlot : MethodName := ⟨RX4, "isSlot", "(II)Z"⟩
abbrev cX4_isSide : ByteArray := prog_1_method_26_code
def yX4_isSide : MethodName := ⟨RX4, "isSide", "(I)Z"⟩
abbrev cX4_isWithin : ByteArray := prog_1_method_27_code
def yX4_isWithin : MethodName := ⟨RX4, "isWithin", "(III)Z"⟩
abbrev cX4_slotAt : ByteArray := prog_1_method_28_code
def yX4_slotAt : MethodName := ⟨RX4, "slotAt", "(II)I"⟩
abbrev cX4_otherSide : ByteArray := prog_1_method_29_code
def yX4_otherSide : MethodName := ⟨RX4, "otherSide", "(I)I"⟩
def RX5 : String := "SilenceHoursModel"
def TX5 : u_T := fun k => match k with
  | 0 => ("SilenceHoursModel", "now", "[I", true)
  | 1 => ("SilenceHoursModel", "kept", "[I", true)
  | 2 => ("SilenceHoursModel", "states", "I", false)
  | 3 => ("SilenceHoursModel", "aside", "[I", true)
  | 4 => ("SilenceHoursModel", "text", "[I", true)
  | 5 => ("SilenceHoursModel", "length", "I", false)
  | 6 => ("SilenceHoursModel", "at", "I", false)
  | 7 => ("SilenceHoursModel", "depth", "I", false)
  | 8 => ("SilenceHoursModel", "times", "[I", true)
  | 9 => ("SilenceHoursModel", "isFailed", "Z", false)
  | 10 => ("SilenceHoursModel", "hasFailure", "Z", false)
  | 11 => ("SilenceHoursModel", "failed", "[I", true)
  | 12 => ("SilenceHoursModel", "parts", "[I", true)
  | _ => ("SilenceHoursModel", "many", "I", false)
def tyX5 : Nat → FieldType := fun k => match k with
  | 0 => .array .int
  | 1 => .array .int
  | 2 => .int
  | 3 => .array .int
  | 4 => .array .int
  | 5 => .int
  | 6 => .int
  | 7 => .int
  | 8 => .array .int
  | 9 => .boolean
  | 10 => .boolean
  | 11 => .array .int
  | 12 => .array .int
  | _ => .int
abbrev wsX50 : List Cond := u_ws RX5 TX5 14
theorem nmX5 : ∀ a, a < 14 → ∀ b, b < 14 → a ≠ b → (TX5 a).2.1 ≠ (TX5 b).2.1 := by decide +kernel
theorem tyX5_ok : ∀ k, k < 14 → parseFieldDescriptor (TX5 k).2.2.1 = some (tyX5 k) := by decide +kernel
abbrev cX5_init : ByteArray := prog_7_method_1_code
def yX5_init : MethodName := ⟨RX5, "<init>", "()V"⟩
abbrev cX5_in : ByteArray := prog_7_method_2_code
def yX5_in : MethodName := ⟨RX5, "in", "(III)Z"⟩
abbrev cX5_isPerson : ByteArray := prog_7_method_3_code
def yX5_isPerson : MethodName := ⟨RX5, "isPerson", "(I)Z"⟩
abbrev cX5_isSlot : ByteArray := prog_7_method_4_code
def yX5_isSlot : MethodName := ⟨RX5, "isSlot", "(II)Z"⟩
abbrev cX5_of : ByteArray := prog_7_method_5_code
def yX5_of : MethodName := ⟨RX5, "of", "(II)I"⟩
abbrev cX5_adds : ByteArray := prog_7_method_6_code
def yX5_adds : MethodName := ⟨RX5, "adds", "(III)V"⟩
abbrev cX5_slotOf : ByteArray := prog_7_method_7_code
def yX5_slotOf : MethodName := ⟨RX5, "slotOf", "(II)I"⟩
abbrev cX5_puts : ByteArray := prog_7_method_8_code
def yX5_puts : MethodName := ⟨RX5, "puts", "(III)V"⟩
abbrev cX5_bidAt : ByteArray := prog_7_method_9_code
def yX5_bidAt : MethodName := ⟨RX5, "bidAt", "(II)I"⟩
abbrev cX5_amount : ByteArray := prog_7_method_10_code
def yX5_amount : MethodName := ⟨RX5, "amount", "(III)I"⟩
abbrev cX5_sumOf : ByteArray := prog_7_method_11_code
def yX5_sumOf : MethodName := ⟨RX5, "sumOf", "(II)I"⟩
abbrev cX5_bidsFor : ByteArray := prog_7_method_12_code
def yX5_bidsFor : MethodName := ⟨RX5, "bidsFor", "(I)I"⟩
abbrev cX5_bidsBy : ByteArray := prog_7_method_13_code
def yX5_bidsBy : MethodName := ⟨RX5, "bidsBy", "(I)I"⟩
abbrev cX5_free : ByteArray := prog_7_method_14_code
def yX5_free : MethodName := ⟨RX5, "free", "(I)I"⟩
abbrev cX5_noisy : ByteArray := prog_7_method_15_code
def yX5_noisy : MethodName := ⟨RX5, "noisy", "()I"⟩
abbrev cX5_notes : ByteArray := prog_7_method_16_code
def yX5_notes : MethodName := ⟨RX5, "notes", "()V"⟩
abbrev cX5_asides : ByteArray := prog_7_method_17_code
def yX5_asides : MethodName := ⟨RX5, "asides", "()V"⟩
abbrev cX5_backs : ByteArray := prog_7_method_18_code
def yX5_backs : MethodName := ⟨RX5, "backs", "()V"⟩
abbrev cX5_swaps : ByteArray := prog_7_method_19_code
def yX5_swaps : MethodName := ⟨RX5, "swaps", "()V"⟩
abbrev cX5_undo : ByteArray := prog_7_method_20_code
def yX5_undo : MethodName := ⟨RX5, "undo", "()I"⟩
abbrev cX5_receives : ByteArray := prog_7_method_21_code
def yX5_receives : MethodName := ⟨RX5, "receives", "(II)V"⟩
abbrev cX5_join : ByteArray := prog_7_method_22_code
def yX5_join : MethodName := ⟨RX5, "join", "(I)I"⟩
abbrev cX5_pay : ByteArray := prog_7_method_23_code
def yX5_pay : MethodName := ⟨RX5, "pay", "(II)I"⟩
abbrev cX5_bids : ByteArray := prog_7_method_24_code
def yX5_bids : MethodName := ⟨RX5, "bids", "(IIIII)I"⟩
abbrev cX5_bid : ByteArray := prog_7_method_25_code
def yX5_bid : MethodName := ⟨RX5, "bid", "(IIIII)I"⟩
abbrev cX5_setFine : ByteArray := prog_7_method_26_code
def yX5_setFine : MethodName := ⟨RX5, "setFine", "(I)I"⟩
abbrev cX5_tied : ByteArray := prog_7_method_27_code
def yX5_tied : MethodName := ⟨RX5, "tied", "(I)I"⟩
abbrev cX5_winnerOf : ByteArray := prog_7_method_28_code
def yX5_winnerOf : MethodName := ⟨RX5, "winnerOf", "(I)I"⟩
abbrev cX5_settles : ByteArray := prog_7_method_29_code
def yX5_settles : MethodName := ⟨RX5, "settles", "(I)V"⟩
abbrev cX5_settlesAll : ByteArray := prog_7_method_30_code
def yX5_settlesAll : MethodName := ⟨RX5, "settlesAll", "()V"⟩
abbrev cX5_settle : ByteArray := prog_7_method_31_code
def yX5_settle : MethodName := ⟨RX5, "settle", "()I"⟩
abbrev cX5_breach : ByteArray := prog_7_method_32_code
def yX5_breach : MethodName := ⟨RX5, "breach", "(III)I"⟩
abbrev cX5_fails : ByteArray := prog_7_method_33_code
def yX5_fails : MethodName := ⟨RX5, "fails", "(I)V"⟩
abbrev cX5_failedBy : ByteArray := prog_7_method_34_code
def yX5_failedBy : MethodName := ⟨RX5, "failedBy", "(IIIII)V"⟩
abbrev cX5_here : ByteArray := prog_7_method_35_code
def yX5_here : MethodName := ⟨RX5, "here", "()I"⟩
abbrev cX5_sign : ByteArray := prog_7_method_36_code
def yX5_sign : MethodName := ⟨RX5, "sign", "(I)V"⟩
abbrev cX5_number : ByteArray := prog_7_method_37_code
def yX5_number : MethodName := ⟨RX5, "number", "(II)I"⟩
abbrev cX5_opens : ByteArray := prog_7_method_38_code
def yX5_opens : MethodName := ⟨RX5, "opens", "(I)V"⟩
abbrev cX5_readPart : ByteArray := prog_7_method_39_code
def yX5_readPart : MethodName := ⟨RX5, "readPart", "()V"⟩
abbrev cX5_reads : ByteArray := prog_7_method_40_code
def yX5_reads : MethodName := ⟨RX5, "reads", "()V"⟩
abbrev cX5_append : ByteArray := prog_7_method_41_code
def yX5_append : MethodName := ⟨RX5, "append", "(I)I"⟩
abbrev cX5_clearText : ByteArray := prog_7_method_42_code
def yX5_clearText : MethodName := ⟨RX5, "clearText", "()I"⟩
abbrev cX5_run : ByteArray := prog_7_method_43_code
def yX5_run : MethodName := ⟨RX5, "run", "(I)I"⟩
abbrev cX5_failure : ByteArray := prog_7_method_44_code
def yX5_failure : MethodName := ⟨RX5, "failure", "(I)I"⟩
abbrev cX5_money : ByteArray := prog_7_method_45_code
def yX5_money : MethodName := ⟨RX5, "money", "()I"⟩
abbrev cX5_debts : ByteArray := prog_7_method_46_code
def yX5_debts : MethodName := ⟨RX5, "debts", "()I"⟩
abbrev cX5_allBids : ByteArray := prog_7_method_47_code
def yX5_allBids : MethodName := ⟨RX5, "allBids", "()I"⟩
abbrev cX5_count : ByteArray := prog_7_method_48_code
def yX5_count : MethodName := ⟨RX5, "count", "(I)I"⟩
abbrev cX5_person : ByteArray := prog_7_method_49_code
def yX5_person : MethodName := ⟨RX5, "person", "(II)I"⟩
abbrev cX5_slot : ByteArray := prog_7_method_50_code
def yX5_slot : MethodName := ⟨RX5, "slot", "(III)I"⟩
abbrev cX5_bidOf : ByteArray := prog_7_method_51_code
def yX5_bidOf : MethodName := ⟨RX5, "bidOf", "(III)I"⟩
abbrev cX5_fund : ByteArray := prog_7_method_52_code
def yX5_fund : MethodName := ⟨RX5, "fund", "(I)I"⟩
abbrev cX5_winner : ByteArray := prog_7_method_53_code
def yX5_winner : MethodName := ⟨RX5, "winner", "(II)I"⟩
abbrev cX5_needed : ByteArray := prog_7_method_54_code
def yX5_needed : MethodName := ⟨RX5, "needed", "(III)I"⟩
abbrev cX5_quiet : ByteArray := prog_7_method_55_code
def yX5_quiet : MethodName := ⟨RX5, "quiet", "(II)I"⟩
abbrev cX5_purseThen : ByteArray := prog_7_method_56_code
def yX5_purseThen : MethodName := ⟨RX5, "purseThen", "(I)I"⟩
def RJ6 : String := "java/lang/Integer"
def TJ6 : u_T := fun k => match k with
  | _ => ("", "", "", false)
def tyJ6 : Nat → FieldType := fun k => match k with
  | _ => .int
abbrev wsJ60 : List Cond := u_ws RJ6 TJ6 0
theorem nmJ6 : ∀ a, a < 0 → ∀ b, b < 0 → a ≠ b → (TJ6 a).2.1 ≠ (TJ6 b).2.1 := by decide +kernel
theorem tyJ6_ok : ∀ k, k < 0 → parseFieldDescriptor (TJ6 k).2.2.1 = some (tyJ6 k) := by decide +kernel
abbrev cJ6_bitCount_0f7a4 : ByteArray := prog_8_method_49_code
def yJ6_bitCount_0f7a4 : MethodName := ⟨RJ6, "bitCount", "(I)I"⟩
def RJ9 : String := "java/lang/Math"
def TJ9 : u_T := fun k => match k with
  | _ => ("", "", "", false)
def tyJ9 : Nat → FieldType := fun k => match k with
  | _ => .int
abbrev wsJ90 : List Cond := u_ws RJ9 TJ9 0
theorem nmJ9 : ∀ a, a < 0 → ∀ b, b < 0 → a ≠ b → (TJ9 a).2.1 ≠ (TJ9 b).2.1 := by decide +kernel
theorem tyJ9_ok : ∀ k, k < 0 → parseFieldDescriptor (TJ9 k).2.2.1 = some (tyJ9 k) := by decide +kernel
abbrev cJ9_max_7cf53 : ByteArray := prog_9_method_65_code
def yJ9_max_7cf53 : MethodName := ⟨RJ9, "max", "(II)I"⟩
abbrev cJ9_min_7cf53 : ByteArray := prog_9_method_69_code
def yJ9_min_7cf53 : MethodName := ⟨RJ9, "min", "(II)I"⟩
def RJ10 : String := "java/lang/System"
def TJ10 : u_T := fun k => match k with
  | _ => ("", "", "", false)
def tyJ10 : Nat → FieldType := fun k => match k with
  | _ => .int
abbrev wsJ100 : List Cond := u_ws RJ10 TJ10 0
theorem nmJ10 : ∀ a, a < 0 → ∀ b, b < 0 → a ≠ b → (TJ10 a).2.1 ≠ (TJ10 b).2.1 := by decide +kernel
theorem tyJ10_ok : ∀ k, k < 0 → parseFieldDescriptor (TJ10 k).2.2.1 = some (tyJ10 k) := by decide +kernel
def RJ7 : String := "java/util/Arrays"
def TJ7 : u_T := fun k => match k with
  | _ => ("", "", "", false)
def tyJ7 : Nat → FieldType := fun k => match k with
  | _ => .int
abbrev wsJ70 : List Cond := u_ws RJ7 TJ7 0
theorem nmJ7 : ∀ a, a < 0 → ∀ b, b < 0 → a ≠ b → (TJ7 a).2.1 ≠ (TJ7 b).2.1 := by decide +kernel
theorem tyJ7_ok : ∀ k, k < 0 → parseFieldDescriptor (TJ7 k).2.2.1 = some (tyJ7 k) := by decide +kernel
abbrev cJ7_fill_53178 : ByteArray := prog_11_method_103_code
def yJ7_fill_53178 : MethodName := ⟨RJ7, "fill", "([II)V"⟩
def RL : String := "SilenceHoursLaw"
abbrev cL_law : ByteArray := code
def yL_law : MethodName := ⟨RL, "law", "([I)Z"⟩
abbrev vwCl : List vw_C := [(RX0, TX0, 3), (RX1, TX1, 7), (RX2, TX2, 8), (RX3, TX3, 19), (RX4, TX4, 5), (RX5, TX5, 14)]
