section
-- ===== PART A: goes FIRST, ahead of the names: the tables' words, and 'selects' of the private methods out of them =====
/-- a private method of a class that the tables say can be made, by its rows of tables_1 -/
def lw_okq (q : MethodName × Nat) : Prop := (q.1.cls ≠ "java/lang/invoke/MethodHandle" ∧ q.1.cls ≠ "java/lang/invoke/VarHandle") ∧ Cond.instantiable q.1.cls q.2 ∈ tables_1 ∧ Cond.privateMethod q.1 ∈ tables_1 ∧ Cond.instanceMethod q.1 ∈ tables_1
theorem lw_p0 : lw_okq (⟨"SilenceHours", "isPerson", "(I)Z"⟩, 5) := ⟨⟨by decide +kernel, by decide +kernel⟩, List.mem_of_getElem? (i := 12) (by decide +kernel), List.mem_of_getElem? (i := 231) (by decide +kernel), List.mem_of_getElem? (i := 232) (by decide +kernel)⟩
theorem lw_p1 : lw_okq (⟨"SilenceHours$State", "settleBids", "(I)V"⟩, 19) := ⟨⟨by decide +kernel, by decide +kernel⟩, List.mem_of_getElem? (i := 20) (by decide +kernel), List.mem_of_getElem? (i := 305) (by decide +kernel), List.mem_of_getElem? (i := 306) (by decide +kernel)⟩
theorem lw_p2 : lw_okq (⟨"SilenceHours$State", "collectFrom", "(II)I"⟩, 19) := ⟨⟨by decide +kernel, by decide +kernel⟩, List.mem_of_getElem? (i := 20) (by decide +kernel), List.mem_of_getElem? (i := 321) (by decide +kernel), List.mem_of_getElem? (i := 322) (by decide +kernel)⟩
theorem lw_p3 : lw_okq (⟨"SilenceHours$State", "shareOut", "(III)I"⟩, 19) := ⟨⟨by decide +kernel, by decide +kernel⟩, List.mem_of_getElem? (i := 20) (by decide +kernel), List.mem_of_getElem? (i := 328) (by decide +kernel), List.mem_of_getElem? (i := 329) (by decide +kernel)⟩
theorem lw_p4 : lw_okq (⟨"SilenceHours$State", "biddersForQuiet", "(I)I"⟩, 19) := ⟨⟨by decide +kernel, by decide +kernel⟩, List.mem_of_getElem? (i := 20) (by decide +kernel), List.mem_of_getElem? (i := 333) (by decide +kernel), List.mem_of_getElem? (i := 334) (by decide +kernel)⟩
theorem lw_p5 : lw_okq (⟨"SilenceHours$State", "shareFine", "(II)I"⟩, 19) := ⟨⟨by decide +kernel, by decide +kernel⟩, List.mem_of_getElem? (i := 20) (by decide +kernel), List.mem_of_getElem? (i := 357) (by decide +kernel), List.mem_of_getElem? (i := 358) (by decide +kernel)⟩
theorem lw_p6 : lw_okq (⟨"SilenceHours$Plan", "hasFailed", "()Z"⟩, 8) := ⟨⟨by decide +kernel, by decide +kernel⟩, List.mem_of_getElem? (i := 119) (by decide +kernel), List.mem_of_getElem? (i := 391) (by decide +kernel), List.mem_of_getElem? (i := 392) (by decide +kernel)⟩
theorem lw_p7 : lw_okq (⟨"SilenceHours$Plan", "readPiece", "()V"⟩, 8) := ⟨⟨by decide +kernel, by decide +kernel⟩, List.mem_of_getElem? (i := 119) (by decide +kernel), List.mem_of_getElem? (i := 395) (by decide +kernel), List.mem_of_getElem? (i := 396) (by decide +kernel)⟩
theorem lw_p8 : lw_okq (⟨"SilenceHours$Plan", "sign", "()I"⟩, 8) := ⟨⟨by decide +kernel, by decide +kernel⟩, List.mem_of_getElem? (i := 119) (by decide +kernel), List.mem_of_getElem? (i := 399) (by decide +kernel), List.mem_of_getElem? (i := 400) (by decide +kernel)⟩
theorem lw_p9 : lw_okq (⟨"SilenceHours$Plan", "closeGroup", "()V"⟩, 8) := ⟨⟨by decide +kernel, by decide +kernel⟩, List.mem_of_getElem? (i := 119) (by decide +kernel), List.mem_of_getElem? (i := 403) (by decide +kernel), List.mem_of_getElem? (i := 404) (by decide +kernel)⟩
theorem lw_p10 : lw_okq (⟨"SilenceHours$Plan", "take", "(C)V"⟩, 8) := ⟨⟨by decide +kernel, by decide +kernel⟩, List.mem_of_getElem? (i := 119) (by decide +kernel), List.mem_of_getElem? (i := 407) (by decide +kernel), List.mem_of_getElem? (i := 408) (by decide +kernel)⟩
theorem lw_p11 : lw_okq (⟨"SilenceHours$Plan", "takeIf", "(C)Z"⟩, 8) := ⟨⟨by decide +kernel, by decide +kernel⟩, List.mem_of_getElem? (i := 119) (by decide +kernel), List.mem_of_getElem? (i := 411) (by decide +kernel), List.mem_of_getElem? (i := 412) (by decide +kernel)⟩
theorem lw_p12 : lw_okq (⟨"SilenceHours$Plan", "failAt", "(I)V"⟩, 8) := ⟨⟨by decide +kernel, by decide +kernel⟩, List.mem_of_getElem? (i := 119) (by decide +kernel), List.mem_of_getElem? (i := 415) (by decide +kernel), List.mem_of_getElem? (i := 416) (by decide +kernel)⟩
theorem lw_p13 : lw_okq (⟨"SilenceHours$Plan", "openGroup", "(I)V"⟩, 8) := ⟨⟨by decide +kernel, by decide +kernel⟩, List.mem_of_getElem? (i := 119) (by decide +kernel), List.mem_of_getElem? (i := 419) (by decide +kernel), List.mem_of_getElem? (i := 420) (by decide +kernel)⟩
theorem lw_p14 : lw_okq (⟨"SilenceHours$Plan", "takeNumber", "(II)I"⟩, 8) := ⟨⟨by decide +kernel, by decide +kernel⟩, List.mem_of_getElem? (i := 119) (by decide +kernel), List.mem_of_getElem? (i := 427) (by decide +kernel), List.mem_of_getElem? (i := 428) (by decide +kernel)⟩
theorem lw_p15 : lw_okq (⟨"SilenceHours$Plan", "skip", "()V"⟩, 8) := ⟨⟨by decide +kernel, by decide +kernel⟩, List.mem_of_getElem? (i := 119) (by decide +kernel), List.mem_of_getElem? (i := 431) (by decide +kernel), List.mem_of_getElem? (i := 432) (by decide +kernel)⟩
def lw_privs_1 : List (MethodName × Nat) := [(⟨"SilenceHours", "isPerson", "(I)Z"⟩, 5), (⟨"SilenceHours$State", "settleBids", "(I)V"⟩, 19), (⟨"SilenceHours$State", "collectFrom", "(II)I"⟩, 19), (⟨"SilenceHours$State", "shareOut", "(III)I"⟩, 19), (⟨"SilenceHours$State", "biddersForQuiet", "(I)I"⟩, 19), (⟨"SilenceHours$State", "shareFine", "(II)I"⟩, 19), (⟨"SilenceHours$Plan", "hasFailed", "()Z"⟩, 8), (⟨"SilenceHours$Plan", "readPiece", "()V"⟩, 8), (⟨"SilenceHours$Plan", "sign", "()I"⟩, 8), (⟨"SilenceHours$Plan", "closeGroup", "()V"⟩, 8), (⟨"SilenceHours$Plan", "take", "(C)V"⟩, 8), (⟨"SilenceHours$Plan", "takeIf", "(C)Z"⟩, 8), (⟨"SilenceHours$Plan", "failAt", "(I)V"⟩, 8), (⟨"SilenceHours$Plan", "openGroup", "(I)V"⟩, 8), (⟨"SilenceHours$Plan", "takeNumber", "(II)I"⟩, 8), (⟨"SilenceHours$Plan", "skip", "()V"⟩, 8)]
theorem lw_r1 : ∀ q ∈ lw_privs_1, lw_okq q := List.forall_mem_cons.mpr ⟨lw_p0, List.forall_mem_cons.mpr ⟨lw_p1, List.forall_mem_cons.mpr ⟨lw_p2, List.forall_mem_cons.mpr ⟨lw_p3, List.forall_mem_cons.mpr ⟨lw_p4, List.forall_mem_cons.mpr ⟨lw_p5, List.forall_mem_cons.mpr ⟨lw_p6, List.forall_mem_cons.mpr ⟨lw_p7, List.forall_mem_cons.mpr ⟨lw_p8, List.forall_mem_cons.mpr ⟨lw_p9, List.forall_mem_cons.mpr ⟨lw_p10, List.forall_mem_cons.mpr ⟨lw_p11, List.forall_mem_cons.mpr ⟨lw_p12, List.forall_mem_cons.mpr ⟨lw_p13, List.forall_mem_cons.mpr ⟨lw_p14, List.forall_mem_cons.mpr ⟨lw_p15, fun _ h => absurd h List.not_mem_nil⟩⟩⟩⟩⟩⟩⟩⟩⟩⟩⟩⟩⟩⟩⟩⟩
theorem lw_p16 : lw_okq (⟨"SilenceHours$Plan", "readBids", "()V"⟩, 8) := ⟨⟨by decide +kernel, by decide +kernel⟩, List.mem_of_getElem? (i := 119) (by decide +kernel), List.mem_of_getElem? (i := 435) (by decide +kernel), List.mem_of_getElem? (i := 436) (by decide +kernel)⟩
theorem lw_p17 : lw_okq (⟨"SilenceHours$Plan", "takeStreet", "()I"⟩, 8) := ⟨⟨by decide +kernel, by decide +kernel⟩, List.mem_of_getElem? (i := 119) (by decide +kernel), List.mem_of_getElem? (i := 439) (by decide +kernel), List.mem_of_getElem? (i := 440) (by decide +kernel)⟩
theorem lw_p18 : lw_okq (⟨"SilenceHours", "failPlan", "(IIIII)I"⟩, 5) := ⟨⟨by decide +kernel, by decide +kernel⟩, List.mem_of_getElem? (i := 12) (by decide +kernel), List.mem_of_getElem? (i := 444) (by decide +kernel), List.mem_of_getElem? (i := 445) (by decide +kernel)⟩
theorem lw_p19 : lw_okq (⟨"SilenceHours$State", "quietFrom", "(II)I"⟩, 19) := ⟨⟨by decide +kernel, by decide +kernel⟩, List.mem_of_getElem? (i := 20) (by decide +kernel), List.mem_of_getElem? (i := 519) (by decide +kernel), List.mem_of_getElem? (i := 520) (by decide +kernel)⟩
theorem lw_p20 : lw_okq (⟨"SilenceHoursModel", "notes", "()V"⟩, 14) := ⟨⟨by decide +kernel, by decide +kernel⟩, List.mem_of_getElem? (i := 531) (by decide +kernel), List.mem_of_getElem? (i := 592) (by decide +kernel), List.mem_of_getElem? (i := 593) (by decide +kernel)⟩
theorem lw_p21 : lw_okq (⟨"SilenceHoursModel", "isPerson", "(I)Z"⟩, 14) := ⟨⟨by decide +kernel, by decide +kernel⟩, List.mem_of_getElem? (i := 531) (by decide +kernel), List.mem_of_getElem? (i := 600) (by decide +kernel), List.mem_of_getElem? (i := 601) (by decide +kernel)⟩
theorem lw_p22 : lw_okq (⟨"SilenceHoursModel", "of", "(II)I"⟩, 14) := ⟨⟨by decide +kernel, by decide +kernel⟩, List.mem_of_getElem? (i := 531) (by decide +kernel), List.mem_of_getElem? (i := 605) (by decide +kernel), List.mem_of_getElem? (i := 606) (by decide +kernel)⟩
theorem lw_p23 : lw_okq (⟨"SilenceHoursModel", "free", "(I)I"⟩, 14) := ⟨⟨by decide +kernel, by decide +kernel⟩, List.mem_of_getElem? (i := 531) (by decide +kernel), List.mem_of_getElem? (i := 609) (by decide +kernel), List.mem_of_getElem? (i := 610) (by decide +kernel)⟩
theorem lw_p24 : lw_okq (⟨"SilenceHoursModel", "amount", "(III)I"⟩, 14) := ⟨⟨by decide +kernel, by decide +kernel⟩, List.mem_of_getElem? (i := 531) (by decide +kernel), List.mem_of_getElem? (i := 613) (by decide +kernel), List.mem_of_getElem? (i := 614) (by decide +kernel)⟩
theorem lw_p25 : lw_okq (⟨"SilenceHoursModel", "bidAt", "(II)I"⟩, 14) := ⟨⟨by decide +kernel, by decide +kernel⟩, List.mem_of_getElem? (i := 531) (by decide +kernel), List.mem_of_getElem? (i := 617) (by decide +kernel), List.mem_of_getElem? (i := 618) (by decide +kernel)⟩
theorem lw_p26 : lw_okq (⟨"SilenceHoursModel", "adds", "(III)V"⟩, 14) := ⟨⟨by decide +kernel, by decide +kernel⟩, List.mem_of_getElem? (i := 531) (by decide +kernel), List.mem_of_getElem? (i := 622) (by decide +kernel), List.mem_of_getElem? (i := 623) (by decide +kernel)⟩
theorem lw_p27 : lw_okq (⟨"SilenceHoursModel", "receives", "(II)V"⟩, 14) := ⟨⟨by decide +kernel, by decide +kernel⟩, List.mem_of_getElem? (i := 531) (by decide +kernel), List.mem_of_getElem? (i := 626) (by decide +kernel), List.mem_of_getElem? (i := 627) (by decide +kernel)⟩
theorem lw_p28 : lw_okq (⟨"SilenceHoursModel", "asides", "()V"⟩, 14) := ⟨⟨by decide +kernel, by decide +kernel⟩, List.mem_of_getElem? (i := 531) (by decide +kernel), List.mem_of_getElem? (i := 634) (by decide +kernel), List.mem_of_getElem? (i := 635) (by decide +kernel)⟩
theorem lw_p29 : lw_okq (⟨"SilenceHoursModel", "bids", "(IIIII)I"⟩, 14) := ⟨⟨by decide +kernel, by decide +kernel⟩, List.mem_of_getElem? (i := 531) (by decide +kernel), List.mem_of_getElem? (i := 638) (by decide +kernel), List.mem_of_getElem? (i := 639) (by decide +kernel)⟩
theorem lw_p30 : lw_okq (⟨"SilenceHoursModel", "swaps", "()V"⟩, 14) := ⟨⟨by decide +kernel, by decide +kernel⟩, List.mem_of_getElem? (i := 531) (by decide +kernel), List.mem_of_getElem? (i := 645) (by decide +kernel), List.mem_of_getElem? (i := 646) (by decide +kernel)⟩
theorem lw_p31 : lw_okq (⟨"SilenceHoursModel", "backs", "()V"⟩, 14) := ⟨⟨by decide +kernel, by decide +kernel⟩, List.mem_of_getElem? (i := 531) (by decide +kernel), List.mem_of_getElem? (i := 649) (by decide +kernel), List.mem_of_getElem? (i := 650) (by decide +kernel)⟩
def lw_privs_2 : List (MethodName × Nat) := [(⟨"SilenceHours$Plan", "readBids", "()V"⟩, 8), (⟨"SilenceHours$Plan", "takeStreet", "()I"⟩, 8), (⟨"SilenceHours", "failPlan", "(IIIII)I"⟩, 5), (⟨"SilenceHours$State", "quietFrom", "(II)I"⟩, 19), (⟨"SilenceHoursModel", "notes", "()V"⟩, 14), (⟨"SilenceHoursModel", "isPerson", "(I)Z"⟩, 14), (⟨"SilenceHoursModel", "of", "(II)I"⟩, 14), (⟨"SilenceHoursModel", "free", "(I)I"⟩, 14), (⟨"SilenceHoursModel", "amount", "(III)I"⟩, 14), (⟨"SilenceHoursModel", "bidAt", "(II)I"⟩, 14), (⟨"SilenceHoursModel", "adds", "(III)V"⟩, 14), (⟨"SilenceHoursModel", "receives", "(II)V"⟩, 14), (⟨"SilenceHoursModel", "asides", "()V"⟩, 14), (⟨"SilenceHoursModel", "bids", "(IIIII)I"⟩, 14), (⟨"SilenceHoursModel", "swaps", "()V"⟩, 14), (⟨"SilenceHoursModel", "backs", "()V"⟩, 14)]
theorem lw_r2 : ∀ q ∈ lw_privs_2, lw_okq q := List.forall_mem_cons.mpr ⟨lw_p16, List.forall_mem_cons.mpr ⟨lw_p17, List.forall_mem_cons.mpr ⟨lw_p18, List.forall_mem_cons.mpr ⟨lw_p19, List.forall_mem_cons.mpr ⟨lw_p20, List.forall_mem_cons.mpr ⟨lw_p21, List.forall_mem_cons.mpr ⟨lw_p22, List.forall_mem_cons.mpr ⟨lw_p23, List.forall_mem_cons.mpr ⟨lw_p24, List.forall_mem_cons.mpr ⟨lw_p25, List.forall_mem_cons.mpr ⟨lw_p26, List.forall_mem_cons.mpr ⟨lw_p27, List.forall_mem_cons.mpr ⟨lw_p28, List.forall_mem_cons.mpr ⟨lw_p29, List.forall_mem_cons.mpr ⟨lw_p30, List.forall_mem_cons.mpr ⟨lw_p31, fun _ h => absurd h List.not_mem_nil⟩⟩⟩⟩⟩⟩⟩⟩⟩⟩⟩⟩⟩⟩⟩⟩
theorem lw_p32 : lw_okq (⟨"SilenceHoursModel", "settlesAll", "()V"⟩, 14) := ⟨⟨by decide +kernel, by decide +kernel⟩, List.mem_of_getElem? (i := 531) (by decide +kernel), List.mem_of_getElem? (i := 661) (by decide +kernel), List.mem_of_getElem? (i := 662) (by decide +kernel)⟩
theorem lw_p33 : lw_okq (⟨"SilenceHoursModel", "settles", "(I)V"⟩, 14) := ⟨⟨by decide +kernel, by decide +kernel⟩, List.mem_of_getElem? (i := 531) (by decide +kernel), List.mem_of_getElem? (i := 665) (by decide +kernel), List.mem_of_getElem? (i := 666) (by decide +kernel)⟩
theorem lw_p34 : lw_okq (⟨"SilenceHoursModel", "bidsFor", "(I)I"⟩, 14) := ⟨⟨by decide +kernel, by decide +kernel⟩, List.mem_of_getElem? (i := 531) (by decide +kernel), List.mem_of_getElem? (i := 669) (by decide +kernel), List.mem_of_getElem? (i := 670) (by decide +kernel)⟩
theorem lw_p35 : lw_okq (⟨"SilenceHoursModel", "slotOf", "(II)I"⟩, 14) := ⟨⟨by decide +kernel, by decide +kernel⟩, List.mem_of_getElem? (i := 531) (by decide +kernel), List.mem_of_getElem? (i := 673) (by decide +kernel), List.mem_of_getElem? (i := 674) (by decide +kernel)⟩
theorem lw_p36 : lw_okq (⟨"SilenceHoursModel", "puts", "(III)V"⟩, 14) := ⟨⟨by decide +kernel, by decide +kernel⟩, List.mem_of_getElem? (i := 531) (by decide +kernel), List.mem_of_getElem? (i := 677) (by decide +kernel), List.mem_of_getElem? (i := 678) (by decide +kernel)⟩
theorem lw_p37 : lw_okq (⟨"SilenceHoursModel", "winnerOf", "(I)I"⟩, 14) := ⟨⟨by decide +kernel, by decide +kernel⟩, List.mem_of_getElem? (i := 531) (by decide +kernel), List.mem_of_getElem? (i := 681) (by decide +kernel), List.mem_of_getElem? (i := 682) (by decide +kernel)⟩
theorem lw_p38 : lw_okq (⟨"SilenceHoursModel", "sumOf", "(II)I"⟩, 14) := ⟨⟨by decide +kernel, by decide +kernel⟩, List.mem_of_getElem? (i := 531) (by decide +kernel), List.mem_of_getElem? (i := 685) (by decide +kernel), List.mem_of_getElem? (i := 686) (by decide +kernel)⟩
theorem lw_p39 : lw_okq (⟨"SilenceHoursModel", "tied", "(I)I"⟩, 14) := ⟨⟨by decide +kernel, by decide +kernel⟩, List.mem_of_getElem? (i := 531) (by decide +kernel), List.mem_of_getElem? (i := 689) (by decide +kernel), List.mem_of_getElem? (i := 690) (by decide +kernel)⟩
theorem lw_p40 : lw_okq (⟨"SilenceHoursModel", "noisy", "()I"⟩, 14) := ⟨⟨by decide +kernel, by decide +kernel⟩, List.mem_of_getElem? (i := 531) (by decide +kernel), List.mem_of_getElem? (i := 693) (by decide +kernel), List.mem_of_getElem? (i := 694) (by decide +kernel)⟩
theorem lw_p41 : lw_okq (⟨"SilenceHoursModel", "reads", "()V"⟩, 14) := ⟨⟨by decide +kernel, by decide +kernel⟩, List.mem_of_getElem? (i := 531) (by decide +kernel), List.mem_of_getElem? (i := 713) (by decide +kernel), List.mem_of_getElem? (i := 714) (by decide +kernel)⟩
theorem lw_p42 : lw_okq (⟨"SilenceHoursModel", "here", "()I"⟩, 14) := ⟨⟨by decide +kernel, by decide +kernel⟩, List.mem_of_getElem? (i := 531) (by decide +kernel), List.mem_of_getElem? (i := 717) (by decide +kernel), List.mem_of_getElem? (i := 718) (by decide +kernel)⟩
theorem lw_p43 : lw_okq (⟨"SilenceHoursModel", "opens", "(I)V"⟩, 14) := ⟨⟨by decide +kernel, by decide +kernel⟩, List.mem_of_getElem? (i := 531) (by decide +kernel), List.mem_of_getElem? (i := 721) (by decide +kernel), List.mem_of_getElem? (i := 722) (by decide +kernel)⟩
theorem lw_p44 : lw_okq (⟨"SilenceHoursModel", "fails", "(I)V"⟩, 14) := ⟨⟨by decide +kernel, by decide +kernel⟩, List.mem_of_getElem? (i := 531) (by decide +kernel), List.mem_of_getElem? (i := 725) (by decide +kernel), List.mem_of_getElem? (i := 726) (by decide +kernel)⟩
theorem lw_p45 : lw_okq (⟨"SilenceHoursModel", "failedBy", "(IIIII)V"⟩, 14) := ⟨⟨by decide +kernel, by decide +kernel⟩, List.mem_of_getElem? (i := 531) (by decide +kernel), List.mem_of_getElem? (i := 729) (by decide +kernel), List.mem_of_getElem? (i := 730) (by decide +kernel)⟩
theorem lw_p46 : lw_okq (⟨"SilenceHoursModel", "number", "(II)I"⟩, 14) := ⟨⟨by decide +kernel, by decide +kernel⟩, List.mem_of_getElem? (i := 531) (by decide +kernel), List.mem_of_getElem? (i := 733) (by decide +kernel), List.mem_of_getElem? (i := 734) (by decide +kernel)⟩
theorem lw_p47 : lw_okq (⟨"SilenceHoursModel", "sign", "(I)V"⟩, 14) := ⟨⟨by decide +kernel, by decide +kernel⟩, List.mem_of_getElem? (i := 531) (by decide +kernel), List.mem_of_getElem? (i := 737) (by decide +kernel), List.mem_of_getElem? (i := 738) (by decide +kernel)⟩
def lw_privs_3 : List (MethodName × Nat) := [(⟨"SilenceHoursModel", "settlesAll", "()V"⟩, 14), (⟨"SilenceHoursModel", "settles", "(I)V"⟩, 14), (⟨"SilenceHoursModel", "bidsFor", "(I)I"⟩, 14), (⟨"SilenceHoursModel", "slotOf", "(II)I"⟩, 14), (⟨"SilenceHoursModel", "puts", "(III)V"⟩, 14), (⟨"SilenceHoursModel", "winnerOf", "(I)I"⟩, 14), (⟨"SilenceHoursModel", "sumOf", "(II)I"⟩, 14), (⟨"SilenceHoursModel", "tied", "(I)I"⟩, 14), (⟨"SilenceHoursModel", "noisy", "()I"⟩, 14), (⟨"SilenceHoursModel", "reads", "()V"⟩, 14), (⟨"SilenceHoursModel", "here", "()I"⟩, 14), (⟨"SilenceHoursModel", "opens", "(I)V"⟩, 14), (⟨"SilenceHoursModel", "fails", "(I)V"⟩, 14), (⟨"SilenceHoursModel", "failedBy", "(IIIII)V"⟩, 14), (⟨"SilenceHoursModel", "number", "(II)I"⟩, 14), (⟨"SilenceHoursModel", "sign", "(I)V"⟩, 14)]
theorem lw_r3 : ∀ q ∈ lw_privs_3, lw_okq q := List.forall_mem_cons.mpr ⟨lw_p32, List.forall_mem_cons.mpr ⟨lw_p33, List.forall_mem_cons.mpr ⟨lw_p34, List.forall_mem_cons.mpr ⟨lw_p35, List.forall_mem_cons.mpr ⟨lw_p36, List.forall_mem_cons.mpr ⟨lw_p37, List.forall_mem_cons.mpr ⟨lw_p38, List.forall_mem_cons.mpr ⟨lw_p39, List.forall_mem_cons.mpr ⟨lw_p40, List.forall_mem_cons.mpr ⟨lw_p41, List.forall_mem_cons.mpr ⟨lw_p42, List.forall_mem_cons.mpr ⟨lw_p43, List.forall_mem_cons.mpr ⟨lw_p44, List.forall_mem_cons.mpr ⟨lw_p45, List.forall_mem_cons.mpr ⟨lw_p46, List.forall_mem_cons.mpr ⟨lw_p47, fun _ h => absurd h List.not_mem_nil⟩⟩⟩⟩⟩⟩⟩⟩⟩⟩⟩⟩⟩⟩⟩⟩
theorem lw_p48 : lw_okq (⟨"SilenceHoursModel", "readPart", "()V"⟩, 14) := ⟨⟨by decide +kernel, by decide +kernel⟩, List.mem_of_getElem? (i := 531) (by decide +kernel), List.mem_of_getElem? (i := 741) (by decide +kernel), List.mem_of_getElem? (i := 742) (by decide +kernel)⟩
theorem lw_p49 : lw_okq (⟨"SilenceHoursModel", "allBids", "()I"⟩, 14) := ⟨⟨by decide +kernel, by decide +kernel⟩, List.mem_of_getElem? (i := 531) (by decide +kernel), List.mem_of_getElem? (i := 753) (by decide +kernel), List.mem_of_getElem? (i := 754) (by decide +kernel)⟩
theorem lw_p50 : lw_okq (⟨"SilenceHoursModel", "bidsBy", "(I)I"⟩, 14) := ⟨⟨by decide +kernel, by decide +kernel⟩, List.mem_of_getElem? (i := 531) (by decide +kernel), List.mem_of_getElem? (i := 757) (by decide +kernel), List.mem_of_getElem? (i := 758) (by decide +kernel)⟩
theorem lw_p51 : lw_okq (⟨"SilenceHoursModel", "money", "()I"⟩, 14) := ⟨⟨by decide +kernel, by decide +kernel⟩, List.mem_of_getElem? (i := 531) (by decide +kernel), List.mem_of_getElem? (i := 761) (by decide +kernel), List.mem_of_getElem? (i := 762) (by decide +kernel)⟩
theorem lw_p52 : lw_okq (⟨"SilenceHoursModel", "debts", "()I"⟩, 14) := ⟨⟨by decide +kernel, by decide +kernel⟩, List.mem_of_getElem? (i := 531) (by decide +kernel), List.mem_of_getElem? (i := 765) (by decide +kernel), List.mem_of_getElem? (i := 766) (by decide +kernel)⟩
def lw_privs_4 : List (MethodName × Nat) := [(⟨"SilenceHoursModel", "readPart", "()V"⟩, 14), (⟨"SilenceHoursModel", "allBids", "()I"⟩, 14), (⟨"SilenceHoursModel", "bidsBy", "(I)I"⟩, 14), (⟨"SilenceHoursModel", "money", "()I"⟩, 14), (⟨"SilenceHoursModel", "debts", "()I"⟩, 14)]
theorem lw_r4 : ∀ q ∈ lw_privs_4, lw_okq q := List.forall_mem_cons.mpr ⟨lw_p48, List.forall_mem_cons.mpr ⟨lw_p49, List.forall_mem_cons.mpr ⟨lw_p50, List.forall_mem_cons.mpr ⟨lw_p51, List.forall_mem_cons.mpr ⟨lw_p52, fun _ h => absurd h List.not_mem_nil⟩⟩⟩⟩⟩
def lw_privs : List (MethodName × Nat) := lw_privs_1 ++ (lw_privs_2 ++ (lw_privs_3 ++ (lw_privs_4)))
def lw_tbl : List Cond := k2_sels lw_privs ++ tables_1
theorem lw_privs_ok : ∀ q ∈ lw_privs, lw_okq q := by
  show ∀ q ∈ lw_privs_1 ++ (lw_privs_2 ++ (lw_privs_3 ++ (lw_privs_4))), lw_okq q
  exact List.forall_mem_append.mpr ⟨lw_r1, List.forall_mem_append.mpr ⟨lw_r2, List.forall_mem_append.mpr ⟨lw_r3, lw_r4⟩⟩⟩
/-! ===== BEGIN words of one list among another's, by their places ===== -/
/-! ===== END ===== -/

/-! ===== BEGIN printed: names, fields, word lists, decode rows ===== -/
def RX0 : String := "SilenceHours$History"
def TX0 : u_T := fun k => match k with
  | 0 => ("SilenceHours$History", "rows", "[LSilenceHours$State;", true)
  | 1 => ("SilenceHours$History", "oldest", "I", false)
  | _ => ("SilenceHours$History", "size", "I", false)
def tyX0 : Nat → FieldType := fun k => match k with
  | 0 => .array (.object "SilenceHours$State")
  | 1 => .int
  | _ => .int
abbrev wsX00 : List Cond := u_ws RX0 TX0 3
theorem nmX0 : ∀ a, a < 3 → ∀ b, b < 3 → a ≠ b → (TX0 a).2.1 ≠ (TX0 b).2.1 := by decide +kernel
theorem tyX0_ok : ∀ k, k < 3 → parseFieldDescriptor (TX0 k).2.2.1 = some (tyX0 k) := by decide +kernel
abbrev cX0_init : ByteArray := prog_2_method_1_code
def yX0_init : MethodName := ⟨RX0, "<init>", "()V"⟩
abbrev cX0_record : ByteArray := prog_2_method_2_code
def yX0_record : MethodName := ⟨RX0, "record", "(LSilenceHours$State;)V"⟩
abbrev cX0_restoreLatest : ByteArray := prog_2_method_3_code
def yX0_restoreLatest : MethodName := ⟨RX0, "restoreLatest", "(LSilenceHours$State;)V"⟩
def RX1 : String := "SilenceHours$Part"
def TX1 : u_T := fun k => match k with
  | 0 => ("SilenceHours$Part", "place", "I", false)
  | 1 => ("SilenceHours$Part", "depth", "I", false)
  | 2 => ("SilenceHours$Part", "side", "I", false)
  | 3 => ("SilenceHours$Part", "street", "I", false)
  | 4 => ("SilenceHours$Part", "firstHour", "I", false)
  | 5 => ("SilenceHours$Part", "lastHour", "I", false)
  | _ => ("SilenceHours$Part", "amount", "I", false)
def tyX1 : Nat → FieldType := fun k => match k with
  | 0 => .int
  | 1 => .int
  | 2 => .int
  | 3 => .int
  | 4 => .int
  | 5 => .int
  | _ => .int
abbrev wsX10 : List Cond := u_ws RX1 TX1 7
theorem nmX1 : ∀ a, a < 7 → ∀ b, b < 7 → a ≠ b → (TX1 a).2.1 ≠ (TX1 b).2.1 := by decide +kernel
theorem tyX1_ok : ∀ k, k < 7 → parseFieldDescriptor (TX1 k).2.2.1 = some (tyX1 k) := by decide +kernel
abbrev cX1_init : ByteArray := prog_3_method_1_code
def yX1_init : MethodName := ⟨RX1, "<init>", "()V"⟩
def RX2 : String := "SilenceHours$Plan"
def TX2 : u_T := fun k => match k with
  | 0 => ("SilenceHours$Plan", "text", "[I", true)
  | 1 => ("SilenceHours$Plan", "length", "I", false)
  | 2 => ("SilenceHours$Plan", "parts", "[LSilenceHours$Part;", true)
  | 3 => ("SilenceHours$Plan", "partCount", "I", false)
  | 4 => ("SilenceHours$Plan", "failedAt", "I", false)
  | 5 => ("SilenceHours$Plan", "depth", "I", false)
  | 6 => ("SilenceHours$Plan", "position", "I", false)
  | _ => ("SilenceHours$Plan", "factors", "[I", true)
def tyX2 : Nat → FieldType := fun k => match k with
  | 0 => .array .int
  | 1 => .int
  | 2 => .array (.object "SilenceHours$Part")
  | 3 => .int
  | 4 => .int
  | 5 => .int
  | 6 => .int
  | _ => .array .int
abbrev wsX20 : List Cond := u_ws RX2 TX2 8
theorem nmX2 : ∀ a, a < 8 → ∀ b, b < 8 → a ≠ b → (TX2 a).2.1 ≠ (TX2 b).2.1 := by decide +kernel
theorem tyX2_ok : ∀ k, k < 8 → parseFieldDescriptor (TX2 k).2.2.1 = some (tyX2 k) := by decide +kernel
abbrev cX2_init : ByteArray := prog_4_method_1_code
def yX2_init : MethodName := ⟨RX2, "<init>", "()V"⟩
abbrev cX2_readText : ByteArray := prog_4_method_2_code
def yX2_readText : MethodName := ⟨RX2, "readText", "()Z"⟩
abbrev cX2_readPiece : ByteArray := prog_4_method_3_code
def yX2_readPiece : MethodName := ⟨RX2, "readPiece", "()V"⟩
abbrev cX2_openGroup : ByteArray := prog_4_method_4_code
def yX2_openGroup : MethodName := ⟨RX2, "openGroup", "(I)V"⟩
abbrev cX2_closeGroup : ByteArray := prog_4_method_5_code
def yX2_closeGroup : MethodName := ⟨RX2, "closeGroup", "()V"⟩
abbrev cX2_readBids : ByteArray := prog_4_method_6_code
def yX2_readBids : MethodName := ⟨RX2, "readBids", "()V"⟩
abbrev cX2_takeStreet : ByteArray := prog_4_method_7_code
def yX2_takeStreet : MethodName := ⟨RX2, "takeStreet", "()I"⟩
abbrev cX2_takeNumber : ByteArray := prog_4_method_8_code
def yX2_takeNumber : MethodName := ⟨RX2, "takeNumber", "(II)I"⟩
abbrev cX2_take : ByteArray := prog_4_method_9_code
def yX2_take : MethodName := ⟨RX2, "take", "(C)V"⟩
abbrev cX2_takeIf : ByteArray := prog_4_method_10_code
def yX2_takeIf : MethodName := ⟨RX2, "takeIf", "(C)Z"⟩
abbrev cX2_skip : ByteArray := prog_4_method_11_code
def yX2_skip : MethodName := ⟨RX2, "skip", "()V"⟩
abbrev cX2_sign : ByteArray := prog_4_method_12_code
def yX2_sign : MethodName := ⟨RX2, "sign", "()I"⟩
abbrev cX2_isDigit : ByteArray := prog_4_method_13_code
def yX2_isDigit : MethodName := ⟨RX2, "isDigit", "(I)Z"⟩
abbrev cX2_failAt : ByteArray := prog_4_method_14_code
def yX2_failAt : MethodName := ⟨RX2, "failAt", "(I)V"⟩
abbrev cX2_hasFailed : ByteArray := prog_4_method_15_code
def yX2_hasFailed : MethodName := ⟨RX2, "hasFailed", "()Z"⟩
def RX3 : String := "SilenceHours$State"
def TX3 : u_T := fun k => match k with
  | 0 => ("SilenceHours$State", "day", "I", false)
  | 1 => ("SilenceHours$State", "fine", "I", false)
  | 2 => ("SilenceHours$State", "breaches", "I", false)
  | 3 => ("SilenceHours$State", "people", "I", false)
  | 4 => ("SilenceHours$State", "purses", "[I", true)
  | 5 => ("SilenceHours$State", "heldForBids", "[I", true)
  | 6 => ("SilenceHours$State", "debts", "[I", true)
  | 7 => ("SilenceHours$State", "breachStreets", "[I", true)
  | 8 => ("SilenceHours$State", "bidsWon", "[I", true)
  | 9 => ("SilenceHours$State", "paidForWon", "[I", true)
  | 10 => ("SilenceHours$State", "sharedOut", "[I", true)
  | 11 => ("SilenceHours$State", "breachesBy", "[I", true)
  | 12 => ("SilenceHours$State", "bids", "[I", true)
  | 13 => ("SilenceHours$State", "owners", "[I", true)
  | 14 => ("SilenceHours$State", "carried", "[I", true)
  | 15 => ("SilenceHours$State", "tieSides", "[I", true)
  | 16 => ("SilenceHours$State", "quietWinners", "[I", true)
  | 17 => ("SilenceHours$State", "lastPaid", "[I", true)
  | _ => ("SilenceHours$State", "funds", "[I", true)
def tyX3 : Nat → FieldType := fun k => match k with
  | 0 => .int
  | 1 => .int
  | 2 => .int
  | 3 => .int
  | 4 => .array .int
  | 5 => .array .int
  | 6 => .array .int
  | 7 => .array .int
  | 8 => .array .int
  | 9 => .array .int
  | 10 => .array .int
  | 11 => .array .int
  | 12 => .array .int
  | 13 => .array .int
  | 14 => .array .int
  | 15 => .array .int
  | 16 => .array .int
  | 17 => .array .int
  | _ => .array .int
abbrev wsX30 : List Cond := u_ws RX3 TX3 19
theorem nmX3 : ∀ a, a < 19 → ∀ b, b < 19 → a ≠ b → (TX3 a).2.1 ≠ (TX3 b).2.1 := by decide +kernel
theorem tyX3_ok : ∀ k, k < 19 → parseFieldDescriptor (TX3 k).2.2.1 = some (tyX3 k) := by decide +kernel
abbrev cX3_init : ByteArray := prog_5_method_1_code
def yX3_init : MethodName := ⟨RX3, "<init>", "()V"⟩
abbrev cX3_copyFrom : ByteArray := prog_5_method_2_code
def yX3_copyFrom : MethodName := ⟨RX3, "copyFrom", "(LSilenceHours$State;)V"⟩
abbrev cX3_markedBid : ByteArray := prog_5_method_3_code
def yX3_markedBid : MethodName := ⟨RX3, "markedBid", "(II)I"⟩
abbrev cX3_bidFor : ByteArray := prog_5_method_4_code
def yX3_bidFor : MethodName := ⟨RX3, "bidFor", "(III)I"⟩
abbrev cX3_bidAmount : ByteArray := prog_5_method_5_code
def yX3_bidAmount : MethodName := ⟨RX3, "bidAmount", "(II)I"⟩
abbrev cX3_freeMoney : ByteArray := prog_5_method_6_code
def yX3_freeMoney : MethodName := ⟨RX3, "freeMoney", "(I)I"⟩
abbrev cX3_bidError : ByteArray := prog_5_method_7_code
def yX3_bidError : MethodName := ⟨RX3, "bidError", "(III)I"⟩
abbrev cX3_placeBid : ByteArray := prog_5_method_8_code
def yX3_placeBid : MethodName := ⟨RX3, "placeBid", "(IIII)I"⟩
abbrev cX3_bidsBy : ByteArray := prog_5_method_9_code
def yX3_bidsBy : MethodName := ⟨RX3, "bidsBy", "(I)I"⟩
abbrev cX3_bidsFor : ByteArray := prog_5_method_10_code
def yX3_bidsFor : MethodName := ⟨RX3, "bidsFor", "(I)I"⟩
abbrev cX3_sumOfBids : ByteArray := prog_5_method_11_code
def yX3_sumOfBids : MethodName := ⟨RX3, "sumOfBids", "(II)I"⟩
abbrev cX3_receive : ByteArray := prog_5_method_12_code
def yX3_receive : MethodName := ⟨RX3, "receive", "(II)V"⟩
abbrev cX3_canBePaid : ByteArray := prog_5_method_13_code
def yX3_canBePaid : MethodName := ⟨RX3, "canBePaid", "(II)Z"⟩
abbrev cX3_allMoney : ByteArray := prog_5_method_14_code
def yX3_allMoney : MethodName := ⟨RX3, "allMoney", "()I"⟩
abbrev cX3_allDebts : ByteArray := prog_5_method_15_code
def yX3_allDebts : MethodName := ⟨RX3, "allDebts", "()I"⟩
abbrev cX3_allBids : ByteArray := prog_5_method_16_code
def yX3_allBids : MethodName := ⟨RX3, "allBids", "()I"⟩
abbrev cX3_strength : ByteArray := prog_5_method_17_code
def yX3_strength : MethodName := ⟨RX3, "strength", "(II)I"⟩
abbrev cX3_ownerThen : ByteArray := prog_5_method_18_code
def yX3_ownerThen : MethodName := ⟨RX3, "ownerThen", "(I)I"⟩
abbrev cX3_missingFor : ByteArray := prog_5_method_19_code
def yX3_missingFor : MethodName := ⟨RX3, "missingFor", "(II)I"⟩
abbrev cX3_settleDay : ByteArray := prog_5_method_20_code
def yX3_settleDay : MethodName := ⟨RX3, "settleDay", "()V"⟩
abbrev cX3_settleBids : ByteArray := prog_5_method_21_code
def yX3_settleBids : MethodName := ⟨RX3, "settleBids", "(I)V"⟩
abbrev cX3_collectFrom : ByteArray := prog_5_method_22_code
def yX3_collectFrom : MethodName := ⟨RX3, "collectFrom", "(II)I"⟩
abbrev cX3_shareOut : ByteArray := prog_5_method_23_code
def yX3_shareOut : MethodName := ⟨RX3, "shareOut", "(III)I"⟩
abbrev cX3_biddersForQuiet : ByteArray := prog_5_method_24_code
def yX3_biddersForQuiet : MethodName := ⟨RX3, "biddersForQuiet", "(I)I"⟩
abbrev cX3_noteBreach : ByteArray := prog_5_method_25_code
def yX3_noteBreach : MethodName := ⟨RX3, "noteBreach", "(II)I"⟩
abbrev cX3_shareFine : ByteArray := prog_5_method_26_code
def yX3_shareFine : MethodName := ⟨RX3, "shareFine", "(II)I"⟩
abbrev cX3_noisySlots : ByteArray := prog_5_method_27_code
def yX3_noisySlots : MethodName := ⟨RX3, "noisySlots", "()I"⟩
abbrev cX3_quietHours : ByteArray := prog_5_method_28_code
def yX3_quietHours : MethodName := ⟨RX3, "quietHours", "(I)I"⟩
abbrev cX3_longestQuiet : ByteArray := prog_5_method_29_code
def yX3_longestQuiet : MethodName := ⟨RX3, "longestQuiet", "(I)I"⟩
abbrev cX3_longestQuietStart : ByteArray := prog_5_method_30_code
def yX3_longestQuietStart : MethodName := ⟨RX3, "longestQuietStart", "(I)I"⟩
abbrev cX3_quietFrom : ByteArray := prog_5_method_31_code
def yX3_quietFrom : MethodName := ⟨RX3, "quietFrom", "(II)I"⟩
def RX4 : String := "SilenceHours"
def TX4 : u_T := fun k => match k with
  | 0 => ("SilenceHours", "state", "LSilenceHours$State;", true)
  | 1 => ("SilenceHours", "spare", "LSilenceHours$State;", true)
  | 2 => ("SilenceHours", "history", "LSilenceHours$History;", true)
  | 3 => ("SilenceHours", "plan", "LSilenceHours$Plan;", true)
  | _ => ("SilenceHours", "failureParts", "[I", true)
def tyX4 : Nat → FieldType := fun k => match k with
  | 0 => .object "SilenceHours$State"
  | 1 => .object "SilenceHours$State"
  | 2 => .object "SilenceHours$History"
  | 3 => .object "SilenceHours$Plan"
  | _ => .array .int
abbrev wsX40 : List Cond := u_ws RX4 TX4 5
theorem nmX4 : ∀ a, a < 5 → ∀ b, b < 5 → a ≠ b → (TX4 a).2.1 ≠ (TX4 b).2.1 := by decide +kernel
theorem tyX4_ok : ∀ k, k < 5 → parseFieldDescriptor (TX4 k).2.2.1 = some (tyX4 k) := by decide +kernel
abbrev cX4_init : ByteArray := prog_1_method_1_code
def yX4_init : MethodName := ⟨RX4, "<init>", "()V"⟩
abbrev cX4_join : ByteArray := prog_1_method_2_code
def yX4_join : MethodName := ⟨RX4, "join", "(I)I"⟩
abbrev cX4_pay : ByteArray := prog_1_method_3_code
def yX4_pay : MethodName := ⟨RX4, "pay", "(II)I"⟩
abbrev cX4_bid : ByteArray := prog_1_method_4_code
def yX4_bid : MethodName := ⟨RX4, "bid", "(IIIII)I"⟩
abbrev cX4_setFine : ByteArray := prog_1_method_5_code
def yX4_setFine : MethodName := ⟨RX4, "setFine", "(I)I"⟩
abbrev cX4_settle : ByteArray := prog_1_method_6_code
def yX4_settle : MethodName := ⟨RX4, "settle", "()I"⟩
abbrev cX4_breach : ByteArray := prog_1_method_7_code
def yX4_breach : MethodName := ⟨RX4, "breach", "(III)I"⟩
abbrev cX4_undo : ByteArray := prog_1_method_8_code
def yX4_undo : MethodName := ⟨RX4, "undo", "()I"⟩
abbrev cX4_append : ByteArray := prog_1_method_9_code
def yX4_append : MethodName := ⟨RX4, "append", "(I)I"⟩
abbrev cX4_clearText : ByteArray := prog_1_method_10_code
def yX4_clearText : MethodName := ⟨RX4, "clearText", "()I"⟩
abbrev cX4_run : ByteArray := prog_1_method_11_code
def yX4_run : MethodName := ⟨RX4, "run", "(I)I"⟩
abbrev cX4_failure : ByteArray := prog_1_method_12_code
def yX4_failure : MethodName := ⟨RX4, "failure", "(I)I"⟩
abbrev cX4_count : ByteArray := prog_1_method_13_code
def yX4_count : MethodName := ⟨RX4, "count", "(I)I"⟩
abbrev cX4_person : ByteArray := prog_1_method_14_code
def yX4_person : MethodName := ⟨RX4, "person", "(II)I"⟩
abbrev cX4_slot : ByteArray := prog_1_method_15_code
def yX4_slot : MethodName := ⟨RX4, "slot", "(III)I"⟩
abbrev cX4_bidOf : ByteArray := prog_1_method_16_code
def yX4_bidOf : MethodName := ⟨RX4, "bidOf", "(III)I"⟩
abbrev cX4_fund : ByteArray := prog_1_method_17_code
def yX4_fund : MethodName := ⟨RX4, "fund", "(I)I"⟩
abbrev cX4_winner : ByteArray := prog_1_method_18_code
def yX4_winner : MethodName := ⟨RX4, "winner", "(II)I"⟩
abbrev cX4_needed : ByteArray := prog_1_method_19_code
def yX4_needed : MethodName := ⟨RX4, "needed", "(III)I"⟩
abbrev cX4_quiet : ByteArray := prog_1_method_20_code
def yX4_quiet : MethodName := ⟨RX4, "quiet", "(II)I"⟩
abbrev cX4_purseThen : ByteArray := prog_1_method_21_code
def yX4_purseThen : MethodName := ⟨RX4, "purseThen", "(I)I"⟩
abbrev cX4_failPlan : ByteArray := prog_1_method_22_code
def yX4_failPlan : MethodName := ⟨RX4, "failPlan", "(IIIII)I"⟩
abbrev cX4_isPerson : ByteArray := prog_1_method_23_code
def yX4_isPerson : MethodName := ⟨RX4, "isPerson", "(I)Z"⟩
abbrev cX4_isStreet : ByteArray := prog_1_method_24_code
def yX4_isStreet : MethodName := ⟨RX4, "isStreet", "(I)Z"⟩
abbrev cX4_isSlot : ByteArray := prog_1_method_25_code
def yX4_isSlot : MethodName := ⟨RX4, "isSlot", "(II)Z"⟩
abbrev cX4_isSide : ByteArray := prog_1_method_26_code
def yX4_isSide : MethodName := ⟨RX4, "isSide", "(I)Z"⟩
abbrev cX4_isWithin : ByteArray := prog_1_method_27_code
def yX4_isWithin : MethodName := ⟨RX4, "isWithin", "(III)Z"⟩
abbrev cX4_slotAt : ByteArray := prog_1_method_28_code
def yX4_slotAt : MethodName := ⟨RX4, "slotAt", "(II)I"⟩
abbrev cX4_otherSide : ByteArray := prog_1_method_29_code
def yX4_otherSide : MethodName := ⟨RX4, "otherSide", "(I)I"⟩
def RX5 : String := "SilenceHoursModel"
def TX5 : u_T := fun k => match k with
  | 0 => ("SilenceHoursModel", "now", "[I", true)
  | 1 => ("SilenceHoursModel", "kept", "[I", true)
  | 2 => ("SilenceHoursModel", "states", "I", false)
  | 3 => ("SilenceHoursModel", "aside", "[I", true)
  | 4 => ("SilenceHoursModel", "text", "[I", true)
  | 5 => ("SilenceHoursModel", "length", "I", false)
  | 6 => ("SilenceHoursModel", "at", "I", false)
  | 7 => ("SilenceHoursModel", "depth", "I", false)
  | 8 => ("SilenceHoursModel", "times", "[I", true)
  | 9 => ("SilenceHoursModel", "isFailed", "Z", false)
  | 10 => ("SilenceHoursModel", "hasFailure", "Z", false)
  | 11 => ("SilenceHoursModel", "failed", "[I", true)
  | 12 => ("SilenceHoursModel", "parts", "[I", true)
  | _ => ("SilenceHoursModel", "many", "I", false)
def tyX5 : Nat → FieldType := fun k => match k with
  | 0 => .array .int
  | 1 => .array .int
  | 2 => .int
  | 3 => .array .int
  | 4 => .array .int
  | 5 => .int
  | 6 => .int
  | 7 => .int
  | 8 => .array .int
  | 9 => .boolean
  | 10 => .boolean
  | 11 => .array .int
  | 12 => .array .int
  | _ => .int
abbrev wsX50 : List Cond := u_ws RX5 TX5 14
theorem nmX5 : ∀ a, a < 14 → ∀ b, b < 14 → a ≠ b → (TX5 a).2.1 ≠ (TX5 b).2.1 := by decide +kernel
theorem tyX5_ok : ∀ k, k < 14 → parseFieldDescriptor (TX5 k).2.2.1 = some (tyX5 k) := by decide +kernel
abbrev cX5_init : ByteArray := prog_7_method_1_code
def yX5_init : MethodName := ⟨RX5, "<init>", "()V"⟩
abbrev cX5_in : ByteArray := prog_7_method_2_code
def yX5_in : MethodName := ⟨RX5, "in", "(III)Z"⟩
abbrev cX5_isPerson : ByteArray := prog_7_method_3_code
def yX5_isPerson : MethodName := ⟨RX5, "isPerson", "(I)Z"⟩
abbrev cX5_isSlot : ByteArray := prog_7_method_4_code
def yX5_isSlot : MethodName := ⟨RX5, "isSlot", "(II)Z"⟩
abbrev cX5_of : ByteArray := prog_7_method_5_code
def yX5_of : MethodName := ⟨RX5, "of", "(II)I"⟩
abbrev cX5_adds : ByteArray := prog_7_method_6_code
def yX5_adds : MethodName := ⟨RX5, "adds", "(III)V"⟩
abbrev cX5_slotOf : ByteArray := prog_7_method_7_code
def yX5_slotOf : MethodName := ⟨RX5, "slotOf", "(II)I"⟩
abbrev cX5_puts : ByteArray := prog_7_method_8_code
def yX5_puts : MethodName := ⟨RX5, "puts", "(III)V"⟩
abbrev cX5_bidAt : ByteArray := prog_7_method_9_code
def yX5_bidAt : MethodName := ⟨RX5, "bidAt", "(II)I"⟩
abbrev cX5_amount : ByteArray := prog_7_method_10_code
def yX5_amount : MethodName := ⟨RX5, "amount", "(III)I"⟩
abbrev cX5_sumOf : ByteArray := prog_7_method_11_code
def yX5_sumOf : MethodName := ⟨RX5, "sumOf", "(II)I"⟩
abbrev cX5_bidsFor : ByteArray := prog_7_method_12_code
def yX5_bidsFor : MethodName := ⟨RX5, "bidsFor", "(I)I"⟩
abbrev cX5_bidsBy : ByteArray := prog_7_method_13_code
def yX5_bidsBy : MethodName := ⟨RX5, "bidsBy", "(I)I"⟩
abbrev cX5_free : ByteArray := prog_7_method_14_code
def yX5_free : MethodName := ⟨RX5, "free", "(I)I"⟩
abbrev cX5_noisy : ByteArray := prog_7_method_15_code
def yX5_noisy : MethodName := ⟨RX5, "noisy", "()I"⟩
abbrev cX5_notes : ByteArray := prog_7_method_16_code
def yX5_notes : MethodName := ⟨RX5, "notes", "()V"⟩
abbrev cX5_asides : ByteArray := prog_7_method_17_code
def yX5_asides : MethodName := ⟨RX5, "asides", "()V"⟩
abbrev cX5_backs : ByteArray := prog_7_method_18_code
def yX5_backs : MethodName := ⟨RX5, "backs", "()V"⟩
abbrev cX5_swaps : ByteArray := prog_7_method_19_code
def yX5_swaps : MethodName := ⟨RX5, "swaps", "()V"⟩
abbrev cX5_undo : ByteArray := prog_7_method_20_code
def yX5_undo : MethodName := ⟨RX5, "undo", "()I"⟩
abbrev cX5_receives : ByteArray := prog_7_method_21_code
def yX5_receives : MethodName := ⟨RX5, "receives", "(II)V"⟩
abbrev cX5_join : ByteArray := prog_7_method_22_code
def yX5_join : MethodName := ⟨RX5, "join", "(I)I"⟩
abbrev cX5_pay : ByteArray := prog_7_method_23_code
def yX5_pay : MethodName := ⟨RX5, "pay", "(II)I"⟩
abbrev cX5_bids : ByteArray := prog_7_method_24_code
def yX5_bids : MethodName := ⟨RX5, "bids", "(IIIII)I"⟩
abbrev cX5_bid : ByteArray := prog_7_method_25_code
def yX5_bid : MethodName := ⟨RX5, "bid", "(IIIII)I"⟩
abbrev cX5_setFine : ByteArray := prog_7_method_26_code
def yX5_setFine : MethodName := ⟨RX5, "setFine", "(I)I"⟩
abbrev cX5_tied : ByteArray := prog_7_method_27_code
def yX5_tied : MethodName := ⟨RX5, "tied", "(I)I"⟩
abbrev cX5_winnerOf : ByteArray := prog_7_method_28_code
def yX5_winnerOf : MethodName := ⟨RX5, "winnerOf", "(I)I"⟩
abbrev cX5_settles : ByteArray := prog_7_method_29_code
def yX5_settles : MethodName := ⟨RX5, "settles", "(I)V"⟩
abbrev cX5_settlesAll : ByteArray := prog_7_method_30_code
def yX5_settlesAll : MethodName := ⟨RX5, "settlesAll", "()V"⟩
abbrev cX5_settle : ByteArray := prog_7_method_31_code
def yX5_settle : MethodName := ⟨RX5, "settle", "()I"⟩
abbrev cX5_breach : ByteArray := prog_7_method_32_code
def yX5_breach : MethodName := ⟨RX5, "breach", "(III)I"⟩
abbrev cX5_fails : ByteArray := prog_7_method_33_code
def yX5_fails : MethodName := ⟨RX5, "fails", "(I)V"⟩
abbrev cX5_failedBy : ByteArray := prog_7_method_34_code
def yX5_failedBy : MethodName := ⟨RX5, "failedBy", "(IIIII)V"⟩
abbrev cX5_here : ByteArray := prog_7_method_35_code
def yX5_here : MethodName := ⟨RX5, "here", "()I"⟩
abbrev cX5_sign : ByteArray := prog_7_method_36_code
def yX5_sign : MethodName := ⟨RX5, "sign", "(I)V"⟩
abbrev cX5_number : ByteArray := prog_7_method_37_code
def yX5_number : MethodName := ⟨RX5, "number", "(II)I"⟩
abbrev cX5_opens : ByteArray := prog_7_method_38_code
def yX5_opens : MethodName := ⟨RX5, "opens", "(I)V"⟩
abbrev cX5_readPart : ByteArray := prog_7_method_39_code
def yX5_readPart : MethodName := ⟨RX5, "readPart", "()V"⟩
abbrev cX5_reads : ByteArray := prog_7_method_40_code
def yX5_reads : MethodName := ⟨RX5, "reads", "()V"⟩
abbrev cX5_append : ByteArray := prog_7_method_41_code
def yX5_append : MethodName := ⟨RX5, "append", "(I)I"⟩
abbrev cX5_clearText : ByteArray := prog_7_method_42_code
def yX5_clearText : MethodName := ⟨RX5, "clearText", "()I"⟩
abbrev cX5_run : ByteArray := prog_7_method_43_code
def yX5_run : MethodName := ⟨RX5, "run", "(I)I"⟩
abbrev cX5_failure : ByteArray := prog_7_method_44_code
def yX5_failure : MethodName := ⟨RX5, "failure", "(I)I"⟩
abbrev cX5_money : ByteArray := prog_7_method_45_code
def yX5_money : MethodName := ⟨RX5, "money", "()I"⟩
abbrev cX5_debts : ByteArray := prog_7_method_46_code
def yX5_debts : MethodName := ⟨RX5, "debts", "()I"⟩
abbrev cX5_allBids : ByteArray := prog_7_method_47_code
def yX5_allBids : MethodName := ⟨RX5, "allBids", "()I"⟩
abbrev cX5_count : ByteArray := prog_7_method_48_code
def yX5_count : MethodName := ⟨RX5, "count", "(I)I"⟩
abbrev cX5_person : ByteArray := prog_7_method_49_code
def yX5_person : MethodName := ⟨RX5, "person", "(II)I"⟩
abbrev cX5_slot : ByteArray := prog_7_method_50_code
def yX5_slot : MethodName := ⟨RX5, "slot", "(III)I"⟩
abbrev cX5_bidOf : ByteArray := prog_7_method_51_code
def yX5_bidOf : MethodName := ⟨RX5, "bidOf", "(III)I"⟩
abbrev cX5_fund : ByteArray := prog_7_method_52_code
def yX5_fund : MethodName := ⟨RX5, "fund", "(I)I"⟩
abbrev cX5_winner : ByteArray := prog_7_method_53_code
def yX5_winner : MethodName := ⟨RX5, "winner", "(II)I"⟩
abbrev cX5_needed : ByteArray := prog_7_method_54_code
def yX5_needed : MethodName := ⟨RX5, "needed", "(III)I"⟩
abbrev cX5_quiet : ByteArray := prog_7_method_55_code
def yX5_quiet : MethodName := ⟨RX5, "quiet", "(II)I"⟩
abbrev cX5_purseThen : ByteArray := prog_7_method_56_code
def yX5_purseThen : MethodName := ⟨RX5, "purseThen", "(I)I"⟩
def RJ6 : String := "java/lang/Integer"
def TJ6 : u_T := fun k => match k with
  | _ => ("", "", "", false)
def tyJ6 : Nat → FieldType := fun k => match k with
  | _ => .int
abbrev wsJ60 : List Cond := u_ws RJ6 TJ6 0
theorem nmJ6 : ∀ a, a < 0 → ∀ b, b < 0 → a ≠ b → (TJ6 a).2.1 ≠ (TJ6 b).2.1 := by decide +kernel
theorem tyJ6_ok : ∀ k, k < 0 → parseFieldDescriptor (TJ6 k).2.2.1 = some (tyJ6 k) := by decide +kernel
abbrev cJ6_bitCount_0f7a4 : ByteArray := prog_8_method_49_code
def yJ6_bitCount_0f7a4 : MethodName := ⟨RJ6, "bitCount", "(I)I"⟩
def RJ9 : String := "java/lang/Math"
def TJ9 : u_T := fun k => match k with
  | _ => ("", "", "", false)
def tyJ9 : Nat → FieldType := fun k => match k with
  | _ => .int
abbrev wsJ90 : List Cond := u_ws RJ9 TJ9 0
theorem nmJ9 : ∀ a, a < 0 → ∀ b, b < 0 → a ≠ b → (TJ9 a).2.1 ≠ (TJ9 b).2.1 := by decide +kernel
theorem tyJ9_ok : ∀ k, k < 0 → parseFieldDescriptor (TJ9 k).2.2.1 = some (tyJ9 k) := by decide +kernel
abbrev cJ9_max_7cf53 : ByteArray := prog_9_method_65_code
def yJ9_max_7cf53 : MethodName := ⟨RJ9, "max", "(II)I"⟩
abbrev cJ9_min_7cf53 : ByteArray := prog_9_method_69_code
def yJ9_min_7cf53 : MethodName := ⟨RJ9, "min", "(II)I"⟩
def RJ10 : String := "java/lang/System"
def TJ10 : u_T := fun k => match k with
  | _ => ("", "", "", false)
def tyJ10 : Nat → FieldType := fun k => match k with
  | _ => .int
abbrev wsJ100 : List Cond := u_ws RJ10 TJ10 0
theorem nmJ10 : ∀ a, a < 0 → ∀ b, b < 0 → a ≠ b → (TJ10 a).2.1 ≠ (TJ10 b).2.1 := by decide +kernel
theorem tyJ10_ok : ∀ k, k < 0 → parseFieldDescriptor (TJ10 k).2.2.1 = some (tyJ10 k) := by decide +kernel
def RJ7 : String := "java/util/Arrays"
def TJ7 : u_T := fun k => match k with
  | _ => ("", "", "", false)
def tyJ7 : Nat → FieldType := fun k => match k with
  | _ => .int
abbrev wsJ70 : List Cond := u_ws RJ7 TJ7 0
theorem nmJ7 : ∀ a, a < 0 → ∀ b, b < 0 → a ≠ b → (TJ7 a).2.1 ≠ (TJ7 b).2.1 := by decide +kernel
theorem tyJ7_ok : ∀ k, k < 0 → parseFieldDescriptor (TJ7 k).2.2.1 = some (tyJ7 k) := by decide +kernel
abbrev cJ7_fill_53178 : ByteArray := prog_11_method_103_code
def yJ7_fill_53178 : MethodName := ⟨RJ7, "fill", "([II)V"⟩
def RL : String := "SilenceHoursLaw"
abbrev cL_law : ByteArray := code
def yL_law : MethodName := ⟨RL, "law", "([I)Z"⟩
abbrev vwCl : List vw_C := [(RX0, TX0, 3), (RX1, TX1, 7), (RX2, TX2, 8), (RX3, TX3, 19), (RX4, TX4, 5), (RX5, TX5, 14)]
end
section
/-- the good words of the tables -/
def zWS : List Cond := lw_tbl.filter goodWord
theorem zWS_of {w : Cond} (i : Nat) (h : lw_tbl[i]? = some w) (hg : goodWord w = true) : w ∈ zWS := List.mem_filter.mpr ⟨List.mem_of_getElem? h, hg⟩
theorem zWS_all {ws : List Cond} (ps : List Nat) (hp : ws = ps.filterMap (fun i => lw_tbl[i]?)) (h : ws.all goodWord = true) : ∀ w ∈ ws, w ∈ zWS := by
  intro w hw
  have h1 := List.all_eq_true.mp h w hw
  rw [hp] at hw
  obtain ⟨i, -, hi⟩ := List.mem_filterMap.mp hw
  exact zWS_of i hi h1
theorem in_L : Cond.initialized "SilenceHoursLaw" ∈ zWS := zWS_of 53 (by decide +kernel) rfl
theorem in_X4 : Cond.initialized "SilenceHours" ∈ zWS := zWS_of 54 (by decide +kernel) rfl
theorem in_X3 : Cond.initialized "SilenceHours$State" ∈ zWS := zWS_of 55 (by decide +kernel) rfl
theorem in_X0 : Cond.initialized "SilenceHours$History" ∈ zWS := zWS_of 56 (by decide +kernel) rfl
theorem in_X2 : Cond.initialized "SilenceHours$Plan" ∈ zWS := zWS_of 57 (by decide +kernel) rfl
theorem in_X1 : Cond.initialized "SilenceHours$Part" ∈ zWS := zWS_of 58 (by decide +kernel) rfl
theorem in_X5 : Cond.initialized "SilenceHoursModel" ∈ zWS := zWS_of 59 (by decide +kernel) rfl
theorem in_J10 : Cond.initialized "java/lang/System" ∈ zWS := zWS_of 60 (by decide +kernel) rfl
theorem in_J9 : Cond.initialized "java/lang/Math" ∈ zWS := zWS_of 61 (by decide +kernel) rfl
theorem in_J7 : Cond.initialized "java/util/Arrays" ∈ zWS := zWS_of 62 (by decide +kernel) rfl
theorem in_J6 : Cond.initialized "java/lang/Integer" ∈ zWS := zWS_of 63 (by decide +kernel) rfl
theorem cl_L_7 : Cond.classLink "SilenceHoursLaw" 7 "SilenceHours" ∈ zWS := zWS_of 64 (by decide +kernel) rfl
theorem it_X4 : Cond.instantiable "SilenceHours" 5 ∈ zWS := zWS_of 65 (by decide +kernel) rfl
theorem ml_L_9 : Cond.methodLink "SilenceHoursLaw" 9 yX4_init ∈ zWS := zWS_of 66 (by decide +kernel) rfl
theorem im_yX4_init : Cond.instanceMethod yX4_init ∈ zWS := zWS_of 67 (by decide +kernel) rfl
set_option maxRecDepth 100000 in
theorem co_yX4_init : Cond.code yX4_init prog_1_method_1_code 1 none ∈ zWS := zWS_of 68 rfl rfl
theorem ml_X4_3 : Cond.methodLink "SilenceHours" 3 objectInit ∈ zWS := zWS_of 69 (by decide +kernel) rfl
theorem im_objectInit : Cond.instanceMethod objectInit ∈ zWS := zWS_of 70 (by decide +kernel) rfl
set_option maxRecDepth 100000 in
theorem co_objectInit : Cond.code objectInit object_method_1_code 1 none ∈ zWS := zWS_of 71 rfl rfl
theorem cl_X4_9 : Cond.classLink "SilenceHours" 9 "SilenceHours$State" ∈ zWS := zWS_of 72 (by decide +kernel) rfl
theorem it_X3 : Cond.instantiable "SilenceHours$State" 19 ∈ zWS := zWS_of 73 (by decide +kernel) rfl
theorem im_yX3_init : Cond.instanceMethod yX3_init ∈ zWS := zWS_of 75 (by decide +kernel) rfl
set_option maxRecDepth 100000 in
theorem co_yX3_init : Cond.code yX3_init prog_5_method_1_code 1 none ∈ zWS := zWS_of 76 rfl rfl
theorem ml_X3_3 : Cond.methodLink "SilenceHours$State" 3 objectInit ∈ zWS := zWS_of 77 (by decide +kernel) rfl
theorem fl_X3_61 : Cond.fieldLink "SilenceHours$State" 61 "SilenceHours$State" "day" "I" ∈ zWS := zWS_of 78 (by decide +kernel) rfl
theorem fl_X4_87 : Cond.fieldLink "SilenceHours" 87 "SilenceHours$State" "day" "I" ∈ zWS := zWS_of 79 (by decide +kernel) rfl
theorem fl_X3_9 : Cond.fieldLink "SilenceHours$State" 9 "SilenceHours$State" "fine" "I" ∈ zWS := zWS_of 80 (by decide +kernel) rfl
theorem fl_X4_84 : Cond.fieldLink "SilenceHours" 84 "SilenceHours$State" "fine" "I" ∈ zWS := zWS_of 81 (by decide +kernel) rfl
theorem fl_X3_64 : Cond.fieldLink "SilenceHours$State" 64 "SilenceHours$State" "breaches" "I" ∈ zWS := zWS_of 82 (by decide +kernel) rfl
theorem fl_X4_169 : Cond.fieldLink "SilenceHours" 169 "SilenceHours$State" "breaches" "I" ∈ zWS := zWS_of 83 (by decide +kernel) rfl
theorem fl_X4_42 : Cond.fieldLink "SilenceHours" 42 "SilenceHours$State" "people" "I" ∈ zWS := zWS_of 84 (by decide +kernel) rfl
theorem fl_X3_67 : Cond.fieldLink "SilenceHours$State" 67 "SilenceHours$State" "people" "I" ∈ zWS := zWS_of 85 (by decide +kernel) rfl
theorem fl_X3_15 : Cond.fieldLink "SilenceHours$State" 15 "SilenceHours$State" "purses" "[I" ∈ zWS := zWS_of 86 (by decide +kernel) rfl
theorem fl_X4_50 : Cond.fieldLink "SilenceHours" 50 "SilenceHours$State" "purses" "[I" ∈ zWS := zWS_of 87 (by decide +kernel) rfl
theorem fl_X3_19 : Cond.fieldLink "SilenceHours$State" 19 "SilenceHours$State" "heldForBids" "[I" ∈ zWS := zWS_of 88 (by decide +kernel) rfl
theorem fl_X3_22 : Cond.fieldLink "SilenceHours$State" 22 "SilenceHours$State" "debts" "[I" ∈ zWS := zWS_of 89 (by decide +kernel) rfl
theorem fl_X4_176 : Cond.fieldLink "SilenceHours" 176 "SilenceHours$State" "debts" "[I" ∈ zWS := zWS_of 90 (by decide +kernel) rfl
theorem fl_X3_25 : Cond.fieldLink "SilenceHours$State" 25 "SilenceHours$State" "breachStreets" "[I" ∈ zWS := zWS_of 91 (by decide +kernel) rfl
theorem fl_X3_28 : Cond.fieldLink "SilenceHours$State" 28 "SilenceHours$State" "bidsWon" "[I" ∈ zWS := zWS_of 92 (by decide +kernel) rfl
theorem fl_X4_182 : Cond.fieldLink "SilenceHours" 182 "SilenceHours$State" "bidsWon" "[I" ∈ zWS := zWS_of 93 (by decide +kernel) rfl
theorem fl_X3_31 : Cond.fieldLink "SilenceHours$State" 31 "SilenceHours$State" "paidForWon" "[I" ∈ zWS := zWS_of 94 (by decide +kernel) rfl
theorem fl_X4_185 : Cond.fieldLink "SilenceHours" 185 "SilenceHours$State" "paidForWon" "[I" ∈ zWS := zWS_of 95 (by decide +kernel) rfl
theorem fl_X3_34 : Cond.fieldLink "SilenceHours$State" 34 "SilenceHours$State" "sharedOut" "[I" ∈ zWS := zWS_of 96 (by decide +kernel) rfl
theorem fl_X4_188 : Cond.fieldLink "SilenceHours" 188 "SilenceHours$State" "sharedOut" "[I" ∈ zWS := zWS_of 97 (by decide +kernel) rfl
theorem fl_X3_37 : Cond.fieldLink "SilenceHours$State" 37 "SilenceHours$State" "breachesBy" "[I" ∈ zWS := zWS_of 98 (by decide +kernel) rfl
theorem fl_X4_191 : Cond.fieldLink "SilenceHours" 191 "SilenceHours$State" "breachesBy" "[I" ∈ zWS := zWS_of 99 (by decide +kernel) rfl
theorem fl_X3_40 : Cond.fieldLink "SilenceHours$State" 40 "SilenceHours$State" "bids" "[I" ∈ zWS := zWS_of 100 (by decide +kernel) rfl
theorem fl_X3_43 : Cond.fieldLink "SilenceHours$State" 43 "SilenceHours$State" "owners" "[I" ∈ zWS := zWS_of 101 (by decide +kernel) rfl
theorem fl_X4_97 : Cond.fieldLink "SilenceHours" 97 "SilenceHours$State" "owners" "[I" ∈ zWS := zWS_of 102 (by decide +kernel) rfl
theorem fl_X3_46 : Cond.fieldLink "SilenceHours$State" 46 "SilenceHours$State" "carried" "[I" ∈ zWS := zWS_of 103 (by decide +kernel) rfl
theorem fl_X4_197 : Cond.fieldLink "SilenceHours" 197 "SilenceHours$State" "carried" "[I" ∈ zWS := zWS_of 104 (by decide +kernel) rfl
theorem fl_X3_49 : Cond.fieldLink "SilenceHours$State" 49 "SilenceHours$State" "tieSides" "[I" ∈ zWS := zWS_of 105 (by decide +kernel) rfl
theorem fl_X3_52 : Cond.fieldLink "SilenceHours$State" 52 "SilenceHours$State" "quietWinners" "[I" ∈ zWS := zWS_of 106 (by decide +kernel) rfl
theorem fl_X3_55 : Cond.fieldLink "SilenceHours$State" 55 "SilenceHours$State" "lastPaid" "[I" ∈ zWS := zWS_of 107 (by decide +kernel) rfl
theorem fl_X4_203 : Cond.fieldLink "SilenceHours" 203 "SilenceHours$State" "lastPaid" "[I" ∈ zWS := zWS_of 108 (by decide +kernel) rfl
theorem fl_X3_58 : Cond.fieldLink "SilenceHours$State" 58 "SilenceHours$State" "funds" "[I" ∈ zWS := zWS_of 109 (by decide +kernel) rfl
theorem fl_X4_212 : Cond.fieldLink "SilenceHours" 212 "SilenceHours$State" "funds" "[I" ∈ zWS := zWS_of 110 (by decide +kernel) rfl
theorem ac_int : Cond.arrayClass FieldType.int ∈ zWS := zWS_of 150 (by decide +kernel) rfl
theorem cl_X4_19 : Cond.classLink "SilenceHours" 19 "SilenceHours$History" ∈ zWS := zWS_of 151 (by decide +kernel) rfl
theorem it_X0 : Cond.instantiable "SilenceHours$History" 3 ∈ zWS := zWS_of 152 (by decide +kernel) rfl
theorem ml_X4_21 : Cond.methodLink "SilenceHours" 21 yX0_init ∈ zWS := zWS_of 153 (by decide +kernel) rfl
theorem im_yX0_init : Cond.instanceMethod yX0_init ∈ zWS := zWS_of 154 (by decide +kernel) rfl
set_option maxRecDepth 100000 in
theorem co_yX0_init : Cond.code yX0_init prog_2_method_1_code 2 none ∈ zWS := zWS_of 155 rfl rfl
theorem ml_X0_3 : Cond.methodLink "SilenceHours$History" 3 objectInit ∈ zWS := zWS_of 156 (by decide +kernel) rfl
theorem cl_X0_9 : Cond.classLink "SilenceHours$History" 9 "SilenceHours$State" ∈ zWS := zWS_of 157 (by decide +kernel) rfl
theorem fl_X0_11 : Cond.fieldLink "SilenceHours$History" 11 "SilenceHours$History" "rows" "[LSilenceHours$State;" ∈ zWS := zWS_of 160 (by decide +kernel) rfl
theorem fl_X0_18 : Cond.fieldLink "SilenceHours$History" 18 "SilenceHours$History" "oldest" "I" ∈ zWS := zWS_of 161 (by decide +kernel) rfl
theorem fl_X0_22 : Cond.fieldLink "SilenceHours$History" 22 "SilenceHours$History" "size" "I" ∈ zWS := zWS_of 162 (by decide +kernel) rfl
theorem fl_X4_103 : Cond.fieldLink "SilenceHours" 103 "SilenceHours$History" "size" "I" ∈ zWS := zWS_of 163 (by decide +kernel) rfl
theorem cl_X4_26 : Cond.classLink "SilenceHours" 26 "SilenceHours$Plan" ∈ zWS := zWS_of 171 (by decide +kernel) rfl
theorem it_X2 : Cond.instantiable "SilenceHours$Plan" 8 ∈ zWS := zWS_of 172 (by decide +kernel) rfl
theorem ml_X4_28 : Cond.methodLink "SilenceHours" 28 yX2_init ∈ zWS := zWS_of 173 (by decide +kernel) rfl
theorem im_yX2_init : Cond.instanceMethod yX2_init ∈ zWS := zWS_of 174 (by decide +kernel) rfl
set_option maxRecDepth 100000 in
theorem co_yX2_init : Cond.code yX2_init prog_4_method_1_code 2 none ∈ zWS := zWS_of 175 rfl rfl
theorem ml_X2_3 : Cond.methodLink "SilenceHours$Plan" 3 objectInit ∈ zWS := zWS_of 176 (by decide +kernel) rfl
theorem cl_X2_15 : Cond.classLink "SilenceHours$Plan" 15 "SilenceHours$Part" ∈ zWS := zWS_of 177 (by decide +kernel) rfl
theorem it_X1 : Cond.instantiable "SilenceHours$Part" 7 ∈ zWS := zWS_of 179 (by decide +kernel) rfl
theorem im_yX1_init : Cond.instanceMethod yX1_init ∈ zWS := zWS_of 181 (by decide +kernel) rfl
set_option maxRecDepth 100000 in
theorem co_yX1_init : Cond.code yX1_init prog_3_method_1_code 1 none ∈ zWS := zWS_of 182 rfl rfl
theorem ml_X1_1 : Cond.methodLink "SilenceHours$Part" 1 objectInit ∈ zWS := zWS_of 183 (by decide +kernel) rfl
theorem fl_X2_84 : Cond.fieldLink "SilenceHours$Plan" 84 "SilenceHours$Part" "place" "I" ∈ zWS := zWS_of 184 (by decide +kernel) rfl
theorem fl_X4_153 : Cond.fieldLink "SilenceHours" 153 "SilenceHours$Part" "place" "I" ∈ zWS := zWS_of 185 (by decide +kernel) rfl
theorem fl_X2_87 : Cond.fieldLink "SilenceHours$Plan" 87 "SilenceHours$Part" "depth" "I" ∈ zWS := zWS_of 186 (by decide +kernel) rfl
theorem fl_X4_156 : Cond.fieldLink "SilenceHours" 156 "SilenceHours$Part" "depth" "I" ∈ zWS := zWS_of 187 (by decide +kernel) rfl
theorem fl_X2_88 : Cond.fieldLink "SilenceHours$Plan" 88 "SilenceHours$Part" "side" "I" ∈ zWS := zWS_of 188 (by decide +kernel) rfl
theorem fl_X4_157 : Cond.fieldLink "SilenceHours" 157 "SilenceHours$Part" "side" "I" ∈ zWS := zWS_of 189 (by decide +kernel) rfl
theorem fl_X2_91 : Cond.fieldLink "SilenceHours$Plan" 91 "SilenceHours$Part" "street" "I" ∈ zWS := zWS_of 190 (by decide +kernel) rfl
theorem fl_X4_147 : Cond.fieldLink "SilenceHours" 147 "SilenceHours$Part" "street" "I" ∈ zWS := zWS_of 191 (by decide +kernel) rfl
theorem fl_X2_94 : Cond.fieldLink "SilenceHours$Plan" 94 "SilenceHours$Part" "firstHour" "I" ∈ zWS := zWS_of 192 (by decide +kernel) rfl
theorem fl_X4_139 : Cond.fieldLink "SilenceHours" 139 "SilenceHours$Part" "firstHour" "I" ∈ zWS := zWS_of 193 (by decide +kernel) rfl
theorem fl_X2_97 : Cond.fieldLink "SilenceHours$Plan" 97 "SilenceHours$Part" "lastHour" "I" ∈ zWS := zWS_of 194 (by decide +kernel) rfl
theorem fl_X4_144 : Cond.fieldLink "SilenceHours" 144 "SilenceHours$Part" "lastHour" "I" ∈ zWS := zWS_of 195 (by decide +kernel) rfl
theorem fl_X2_100 : Cond.fieldLink "SilenceHours$Plan" 100 "SilenceHours$Part" "amount" "I" ∈ zWS := zWS_of 196 (by decide +kernel) rfl
theorem fl_X4_150 : Cond.fieldLink "SilenceHours" 150 "SilenceHours$Part" "amount" "I" ∈ zWS := zWS_of 197 (by decide +kernel) rfl
theorem fl_X2_9 : Cond.fieldLink "SilenceHours$Plan" 9 "SilenceHours$Plan" "text" "[I" ∈ zWS := zWS_of 213 (by decide +kernel) rfl
theorem fl_X4_112 : Cond.fieldLink "SilenceHours" 112 "SilenceHours$Plan" "text" "[I" ∈ zWS := zWS_of 214 (by decide +kernel) rfl
theorem fl_X2_38 : Cond.fieldLink "SilenceHours$Plan" 38 "SilenceHours$Plan" "length" "I" ∈ zWS := zWS_of 215 (by decide +kernel) rfl
theorem fl_X4_109 : Cond.fieldLink "SilenceHours" 109 "SilenceHours$Plan" "length" "I" ∈ zWS := zWS_of 216 (by decide +kernel) rfl
theorem fl_X2_17 : Cond.fieldLink "SilenceHours$Plan" 17 "SilenceHours$Plan" "parts" "[LSilenceHours$Part;" ∈ zWS := zWS_of 217 (by decide +kernel) rfl
theorem fl_X4_135 : Cond.fieldLink "SilenceHours" 135 "SilenceHours$Plan" "parts" "[LSilenceHours$Part;" ∈ zWS := zWS_of 218 (by decide +kernel) rfl
theorem fl_X2_35 : Cond.fieldLink "SilenceHours$Plan" 35 "SilenceHours$Plan" "partCount" "I" ∈ zWS := zWS_of 219 (by decide +kernel) rfl
theorem fl_X4_132 : Cond.fieldLink "SilenceHours" 132 "SilenceHours$Plan" "partCount" "I" ∈ zWS := zWS_of 220 (by decide +kernel) rfl
theorem fl_X2_21 : Cond.fieldLink "SilenceHours$Plan" 21 "SilenceHours$Plan" "failedAt" "I" ∈ zWS := zWS_of 221 (by decide +kernel) rfl
theorem fl_X4_119 : Cond.fieldLink "SilenceHours" 119 "SilenceHours$Plan" "failedAt" "I" ∈ zWS := zWS_of 222 (by decide +kernel) rfl
theorem fl_X2_32 : Cond.fieldLink "SilenceHours$Plan" 32 "SilenceHours$Plan" "depth" "I" ∈ zWS := zWS_of 223 (by decide +kernel) rfl
theorem fl_X4_122 : Cond.fieldLink "SilenceHours" 122 "SilenceHours$Plan" "depth" "I" ∈ zWS := zWS_of 224 (by decide +kernel) rfl
theorem fl_X2_29 : Cond.fieldLink "SilenceHours$Plan" 29 "SilenceHours$Plan" "position" "I" ∈ zWS := zWS_of 225 (by decide +kernel) rfl
theorem fl_X2_25 : Cond.fieldLink "SilenceHours$Plan" 25 "SilenceHours$Plan" "factors" "[I" ∈ zWS := zWS_of 226 (by decide +kernel) rfl
theorem fl_X4_12 : Cond.fieldLink "SilenceHours" 12 "SilenceHours" "state" "LSilenceHours$State;" ∈ zWS := zWS_of 244 (by decide +kernel) rfl
theorem fl_X4_16 : Cond.fieldLink "SilenceHours" 16 "SilenceHours" "spare" "LSilenceHours$State;" ∈ zWS := zWS_of 245 (by decide +kernel) rfl
theorem fl_X4_22 : Cond.fieldLink "SilenceHours" 22 "SilenceHours" "history" "LSilenceHours$History;" ∈ zWS := zWS_of 246 (by decide +kernel) rfl
theorem fl_X4_29 : Cond.fieldLink "SilenceHours" 29 "SilenceHours" "plan" "LSilenceHours$Plan;" ∈ zWS := zWS_of 247 (by decide +kernel) rfl
theorem fl_X4_33 : Cond.fieldLink "SilenceHours" 33 "SilenceHours" "failureParts" "[I" ∈ zWS := zWS_of 248 (by decide +kernel) rfl
theorem ml_L_13 : Cond.methodLink "SilenceHoursLaw" 13 yX4_join ∈ zWS := zWS_of 260 (by decide +kernel) rfl
theorem im_yX4_join : Cond.instanceMethod yX4_join ∈ zWS := zWS_of 261 (by decide +kernel) rfl
theorem se_yX4_join : Cond.selects "SilenceHours" yX4_join yX4_join ∈ zWS := zWS_of 262 (by decide +kernel) rfl
set_option maxRecDepth 100000 in
theorem co_yX4_join : Cond.code yX4_join prog_1_method_2_code 2 (Option.some FieldType.int) ∈ zWS := zWS_of 263 rfl rfl
theorem cs_X4_37 : Cond.constant "SilenceHours" 37 (100000) ∈ zWS := zWS_of 264 (by decide +kernel) rfl
theorem ml_X4_38 : Cond.methodLink "SilenceHours" 38 yX4_isWithin ∈ zWS := zWS_of 265 (by decide +kernel) rfl
theorem st_yX4_isWithin : Cond.static yX4_isWithin ∈ zWS := zWS_of 266 (by decide +kernel) rfl
set_option maxRecDepth 100000 in
theorem co_yX4_isWithin : Cond.code yX4_isWithin prog_1_method_27_code 3 (Option.some FieldType.boolean) ∈ zWS := zWS_of 267 rfl rfl
theorem ml_X4_46 : Cond.methodLink "SilenceHours" 46 yX0_record ∈ zWS := zWS_of 268 (by decide +kernel) rfl
theorem im_yX0_record : Cond.instanceMethod yX0_record ∈ zWS := zWS_of 269 (by decide +kernel) rfl
theorem se_yX0_record : Cond.selects "SilenceHours$History" yX0_record yX0_record ∈ zWS := zWS_of 270 (by decide +kernel) rfl
set_option maxRecDepth 100000 in
theorem co_yX0_record : Cond.code yX0_record prog_2_method_2_code 2 none ∈ zWS := zWS_of 271 rfl rfl
theorem ml_X0_25 : Cond.methodLink "SilenceHours$History" 25 yX3_copyFrom ∈ zWS := zWS_of 272 (by decide +kernel) rfl
theorem im_yX3_copyFrom : Cond.instanceMethod yX3_copyFrom ∈ zWS := zWS_of 273 (by decide +kernel) rfl
theorem se_yX3_copyFrom : Cond.selects "SilenceHours$State" yX3_copyFrom yX3_copyFrom ∈ zWS := zWS_of 274 (by decide +kernel) rfl
set_option maxRecDepth 100000 in
theorem co_yX3_copyFrom : Cond.code yX3_copyFrom prog_5_method_2_code 2 none ∈ zWS := zWS_of 275 rfl rfl
theorem ml_X3_70 : Cond.methodLink "SilenceHours$State" 70 arraycopyName ∈ zWS := zWS_of 276 (by decide +kernel) rfl
theorem st_arraycopyName : Cond.static arraycopyName ∈ zWS := zWS_of 277 (by decide +kernel) rfl
theorem na_arraycopyName : Cond.native arraycopyName ∈ zWS := zWS_of 278 (by decide +kernel) rfl
theorem ml_L_18 : Cond.methodLink "SilenceHoursLaw" 18 yX4_pay ∈ zWS := zWS_of 279 (by decide +kernel) rfl
theorem im_yX4_pay : Cond.instanceMethod yX4_pay ∈ zWS := zWS_of 280 (by decide +kernel) rfl
theorem se_yX4_pay : Cond.selects "SilenceHours" yX4_pay yX4_pay ∈ zWS := zWS_of 281 (by decide +kernel) rfl
set_option maxRecDepth 100000 in
theorem co_yX4_pay : Cond.code yX4_pay prog_1_method_3_code 3 (Option.some FieldType.int) ∈ zWS := zWS_of 282 rfl rfl
theorem ml_X4_53 : Cond.methodLink "SilenceHours" 53 yX4_isPerson ∈ zWS := zWS_of 283 (by decide +kernel) rfl
theorem im_yX4_isPerson : Cond.instanceMethod yX4_isPerson ∈ zWS := zWS_of 285 (by decide +kernel) rfl
set_option maxRecDepth 100000 in
theorem co_yX4_isPerson : Cond.code yX4_isPerson prog_1_method_23_code 2 (Option.some FieldType.boolean) ∈ zWS := zWS_of 286 rfl rfl
theorem cs_X4_57 : Cond.constant "SilenceHours" 57 (-100000) ∈ zWS := zWS_of 287 (by decide +kernel) rfl
theorem ml_X4_58 : Cond.methodLink "SilenceHours" 58 yX3_canBePaid ∈ zWS := zWS_of 288 (by decide +kernel) rfl
theorem im_yX3_canBePaid : Cond.instanceMethod yX3_canBePaid ∈ zWS := zWS_of 289 (by decide +kernel) rfl
theorem se_yX3_canBePaid : Cond.selects "SilenceHours$State" yX3_canBePaid yX3_canBePaid ∈ zWS := zWS_of 290 (by decide +kernel) rfl
set_option maxRecDepth 100000 in
theorem co_yX3_canBePaid : Cond.code yX3_canBePaid prog_5_method_13_code 4 (Option.some FieldType.boolean) ∈ zWS := zWS_of 291 rfl rfl
theorem ml_X3_84 : Cond.methodLink "SilenceHours$State" 84 yX3_freeMoney ∈ zWS := zWS_of 292 (by decide +kernel) rfl
theorem im_yX3_freeMoney : Cond.instanceMethod yX3_freeMoney ∈ zWS := zWS_of 293 (by decide +kernel) rfl
theorem se_yX3_freeMoney : Cond.selects "SilenceHours$State" yX3_freeMoney yX3_freeMoney ∈ zWS := zWS_of 294 (by decide +kernel) rfl
set_option maxRecDepth 100000 in
theorem co_yX3_freeMoney : Cond.code yX3_freeMoney prog_5_method_6_code 2 (Option.some FieldType.int) ∈ zWS := zWS_of 295 rfl rfl
theorem ml_X3_95 : Cond.methodLink "SilenceHours$State" 95 Lib.Math.min.name ∈ zWS := zWS_of 296 (by decide +kernel) rfl
theorem st_Lib_Math_min_name : Cond.static Lib.Math.min.name ∈ zWS := zWS_of 297 (by decide +kernel) rfl
set_option maxRecDepth 100000 in
theorem co_Lib_Math_min_name : Cond.code Lib.Math.min.name prog_9_method_69_code 2 (Option.some FieldType.int) ∈ zWS := zWS_of 298 rfl rfl
theorem cs_X3_100 : Cond.constant "SilenceHours$State" 100 (10000000) ∈ zWS := zWS_of 299 (by decide +kernel) rfl
theorem ml_X4_62 : Cond.methodLink "SilenceHours" 62 yX3_receive ∈ zWS := zWS_of 300 (by decide +kernel) rfl
theorem im_yX3_receive : Cond.instanceMethod yX3_receive ∈ zWS := zWS_of 301 (by decide +kernel) rfl
theorem se_yX3_receive : Cond.selects "SilenceHours$State" yX3_receive yX3_receive ∈ zWS := zWS_of 302 (by decide +kernel) rfl
set_option maxRecDepth 100000 in
theorem co_yX3_receive : Cond.code yX3_receive prog_5_method_12_code 4 none ∈ zWS := zWS_of 303 rfl rfl
theorem ml_L_23 : Cond.methodLink "SilenceHoursLaw" 23 yX4_bid ∈ zWS := zWS_of 304 (by decide +kernel) rfl
theorem im_yX4_bid : Cond.instanceMethod yX4_bid ∈ zWS := zWS_of 305 (by decide +kernel) rfl
theorem se_yX4_bid : Cond.selects "SilenceHours" yX4_bid yX4_bid ∈ zWS := zWS_of 306 (by decide +kernel) rfl
set_option maxRecDepth 100000 in
theorem co_yX4_bid : Cond.code yX4_bid prog_1_method_4_code 8 (Option.some FieldType.int) ∈ zWS := zWS_of 307 rfl rfl
theorem ml_X4_66 : Cond.methodLink "SilenceHours" 66 yX4_isSlot ∈ zWS := zWS_of 308 (by decide +kernel) rfl
theorem st_yX4_isSlot : Cond.static yX4_isSlot ∈ zWS := zWS_of 309 (by decide +kernel) rfl
set_option maxRecDepth 100000 in
theorem co_yX4_isSlot : Cond.code yX4_isSlot prog_1_method_25_code 2 (Option.some FieldType.boolean) ∈ zWS := zWS_of 310 rfl rfl
theorem ml_X4_209 : Cond.methodLink "SilenceHours" 209 yX4_isStreet ∈ zWS := zWS_of 311 (by decide +kernel) rfl
theorem st_yX4_isStreet : Cond.static yX4_isStreet ∈ zWS := zWS_of 312 (by decide +kernel) rfl
set_option maxRecDepth 100000 in
theorem co_yX4_isStreet : Cond.code yX4_isStreet prog_1_method_24_code 1 (Option.some FieldType.boolean) ∈ zWS := zWS_of 313 rfl rfl
theorem ml_X4_69 : Cond.methodLink "SilenceHours" 69 yX4_isSide ∈ zWS := zWS_of 314 (by decide +kernel) rfl
theorem st_yX4_isSide : Cond.static yX4_isSide ∈ zWS := zWS_of 315 (by decide +kernel) rfl
set_option maxRecDepth 100000 in
theorem co_yX4_isSide : Cond.code yX4_isSide prog_1_method_26_code 1 (Option.some FieldType.boolean) ∈ zWS := zWS_of 316 rfl rfl
theorem ml_X4_72 : Cond.methodLink "SilenceHours" 72 yX4_slotAt ∈ zWS := zWS_of 317 (by decide +kernel) rfl
theorem st_yX4_slotAt : Cond.static yX4_slotAt ∈ zWS := zWS_of 318 (by decide +kernel) rfl
set_option maxRecDepth 100000 in
theorem co_yX4_slotAt : Cond.code yX4_slotAt prog_1_method_28_code 2 (Option.some FieldType.int) ∈ zWS := zWS_of 319 rfl rfl
theorem ml_X4_76 : Cond.methodLink "SilenceHours" 76 yX3_bidError ∈ zWS := zWS_of 320 (by decide +kernel) rfl
theorem im_yX3_bidError : Cond.instanceMethod yX3_bidError ∈ zWS := zWS_of 321 (by decide +kernel) rfl
theorem se_yX3_bidError : Cond.selects "SilenceHours$State" yX3_bidError yX3_bidError ∈ zWS := zWS_of 322 (by decide +kernel) rfl
set_option maxRecDepth 100000 in
theorem co_yX3_bidError : Cond.code yX3_bidError prog_5_method_7_code 5 (Option.some FieldType.int) ∈ zWS := zWS_of 323 rfl rfl
theorem ml_X3_88 : Cond.methodLink "SilenceHours$State" 88 yX3_bidAmount ∈ zWS := zWS_of 325 (by decide +kernel) rfl
theorem im_yX3_bidAmount : Cond.instanceMethod yX3_bidAmount ∈ zWS := zWS_of 326 (by decide +kernel) rfl
theorem se_yX3_bidAmount : Cond.selects "SilenceHours$State" yX3_bidAmount yX3_bidAmount ∈ zWS := zWS_of 327 (by decide +kernel) rfl
set_option maxRecDepth 100000 in
theorem co_yX3_bidAmount : Cond.code yX3_bidAmount prog_5_method_5_code 3 (Option.some FieldType.int) ∈ zWS := zWS_of 328 rfl rfl
theorem ml_X3_76 : Cond.methodLink "SilenceHours$State" 76 yX3_bidFor ∈ zWS := zWS_of 329 (by decide +kernel) rfl
theorem im_yX3_bidFor : Cond.instanceMethod yX3_bidFor ∈ zWS := zWS_of 330 (by decide +kernel) rfl
theorem se_yX3_bidFor : Cond.selects "SilenceHours$State" yX3_bidFor yX3_bidFor ∈ zWS := zWS_of 331 (by decide +kernel) rfl
set_option maxRecDepth 100000 in
theorem co_yX3_bidFor : Cond.code yX3_bidFor prog_5_method_4_code 6 (Option.some FieldType.int) ∈ zWS := zWS_of 332 rfl rfl
theorem ml_X4_80 : Cond.methodLink "SilenceHours" 80 yX3_placeBid ∈ zWS := zWS_of 333 (by decide +kernel) rfl
theorem im_yX3_placeBid : Cond.instanceMethod yX3_placeBid ∈ zWS := zWS_of 334 (by decide +kernel) rfl
theorem se_yX3_placeBid : Cond.selects "SilenceHours$State" yX3_placeBid yX3_placeBid ∈ zWS := zWS_of 335 (by decide +kernel) rfl
set_option maxRecDepth 100000 in
theorem co_yX3_placeBid : Cond.code yX3_placeBid prog_5_method_8_code 6 (Option.some FieldType.int) ∈ zWS := zWS_of 336 rfl rfl
theorem ml_L_28 : Cond.methodLink "SilenceHoursLaw" 28 yX4_setFine ∈ zWS := zWS_of 337 (by decide +kernel) rfl
theorem im_yX4_setFine : Cond.instanceMethod yX4_setFine ∈ zWS := zWS_of 338 (by decide +kernel) rfl
theorem se_yX4_setFine : Cond.selects "SilenceHours" yX4_setFine yX4_setFine ∈ zWS := zWS_of 339 (by decide +kernel) rfl
set_option maxRecDepth 100000 in
theorem co_yX4_setFine : Cond.code yX4_setFine prog_1_method_5_code 3 (Option.some FieldType.int) ∈ zWS := zWS_of 340 rfl rfl
theorem ml_L_32 : Cond.methodLink "SilenceHoursLaw" 32 yX4_settle ∈ zWS := zWS_of 341 (by decide +kernel) rfl
theorem im_yX4_settle : Cond.instanceMethod yX4_settle ∈ zWS := zWS_of 342 (by decide +kernel) rfl
theorem se_yX4_settle : Cond.selects "SilenceHours" yX4_settle yX4_settle ∈ zWS := zWS_of 343 (by decide +kernel) rfl
set_option maxRecDepth 100000 in
theorem co_yX4_settle : Cond.code yX4_settle prog_1_method_6_code 1 (Option.some FieldType.int) ∈ zWS := zWS_of 344 rfl rfl
theorem ml_X4_90 : Cond.methodLink "SilenceHours" 90 yX3_settleDay ∈ zWS := zWS_of 345 (by decide +kernel) rfl
theorem im_yX3_settleDay : Cond.instanceMethod yX3_settleDay ∈ zWS := zWS_of 346 (by decide +kernel) rfl
theorem se_yX3_settleDay : Cond.selects "SilenceHours$State" yX3_settleDay yX3_settleDay ∈ zWS := zWS_of 347 (by decide +kernel) rfl
set_option maxRecDepth 100000 in
theorem co_yX3_settleDay : Cond.code yX3_settleDay prog_5_method_20_code 2 none ∈ zWS := zWS_of 348 rfl rfl
theorem ml_X3_107 : Cond.methodLink "SilenceHours$State" 107 yX3_bidsFor ∈ zWS := zWS_of 349 (by decide +kernel) rfl
theorem im_yX3_bidsFor : Cond.instanceMethod yX3_bidsFor ∈ zWS := zWS_of 350 (by decide +kernel) rfl
theorem se_yX3_bidsFor : Cond.selects "SilenceHours$State" yX3_bidsFor yX3_bidsFor ∈ zWS := zWS_of 351 (by decide +kernel) rfl
set_option maxRecDepth 100000 in
theorem co_yX3_bidsFor : Cond.code yX3_bidsFor prog_5_method_10_code 4 (Option.some FieldType.int) ∈ zWS := zWS_of 352 rfl rfl
theorem ml_X3_92 : Cond.methodLink "SilenceHours$State" 92 yX3_markedBid ∈ zWS := zWS_of 353 (by decide +kernel) rfl
theorem im_yX3_markedBid : Cond.instanceMethod yX3_markedBid ∈ zWS := zWS_of 354 (by decide +kernel) rfl
theorem se_yX3_markedBid : Cond.selects "SilenceHours$State" yX3_markedBid yX3_markedBid ∈ zWS := zWS_of 355 (by decide +kernel) rfl
set_option maxRecDepth 100000 in
theorem co_yX3_markedBid : Cond.code yX3_markedBid prog_5_method_3_code 3 (Option.some FieldType.int) ∈ zWS := zWS_of 356 rfl rfl
theorem ml_X3_122 : Cond.methodLink "SilenceHours$State" 122 yX3_settleBids ∈ zWS := zWS_of 357 (by decide +kernel) rfl
theorem im_yX3_settleBids : Cond.instanceMethod yX3_settleBids ∈ zWS := zWS_of 359 (by decide +kernel) rfl
set_option maxRecDepth 100000 in
theorem co_yX3_settleBids : Cond.code yX3_settleBids prog_5_method_21_code 6 none ∈ zWS := zWS_of 360 rfl rfl
theorem ml_X3_113 : Cond.methodLink "SilenceHours$State" 113 yX3_ownerThen ∈ zWS := zWS_of 361 (by decide +kernel) rfl
theorem im_yX3_ownerThen : Cond.instanceMethod yX3_ownerThen ∈ zWS := zWS_of 362 (by decide +kernel) rfl
theorem se_yX3_ownerThen : Cond.selects "SilenceHours$State" yX3_ownerThen yX3_ownerThen ∈ zWS := zWS_of 363 (by decide +kernel) rfl
set_option maxRecDepth 100000 in
theorem co_yX3_ownerThen : Cond.code yX3_ownerThen prog_5_method_18_code 4 (Option.some FieldType.int) ∈ zWS := zWS_of 364 rfl rfl
theorem ml_X3_110 : Cond.methodLink "SilenceHours$State" 110 yX3_strength ∈ zWS := zWS_of 365 (by decide +kernel) rfl
theorem im_yX3_strength : Cond.instanceMethod yX3_strength ∈ zWS := zWS_of 366 (by decide +kernel) rfl
theorem se_yX3_strength : Cond.selects "SilenceHours$State" yX3_strength yX3_strength ∈ zWS := zWS_of 367 (by decide +kernel) rfl
set_option maxRecDepth 100000 in
theorem co_yX3_strength : Cond.code yX3_strength prog_5_method_17_code 3 (Option.some FieldType.int) ∈ zWS := zWS_of 368 rfl rfl
theorem ml_X3_104 : Cond.methodLink "SilenceHours$State" 104 yX3_sumOfBids ∈ zWS := zWS_of 369 (by decide +kernel) rfl
theorem im_yX3_sumOfBids : Cond.instanceMethod yX3_sumOfBids ∈ zWS := zWS_of 370 (by decide +kernel) rfl
theorem se_yX3_sumOfBids : Cond.selects "SilenceHours$State" yX3_sumOfBids yX3_sumOfBids ∈ zWS := zWS_of 371 (by decide +kernel) rfl
set_option maxRecDepth 100000 in
theorem co_yX3_sumOfBids : Cond.code yX3_sumOfBids prog_5_method_11_code 5 (Option.some FieldType.int) ∈ zWS := zWS_of 372 rfl rfl
theorem ml_X3_132 : Cond.methodLink "SilenceHours$State" 132 yX3_collectFrom ∈ zWS := zWS_of 373 (by decide +kernel) rfl
theorem im_yX3_collectFrom : Cond.instanceMethod yX3_collectFrom ∈ zWS := zWS_of 375 (by decide +kernel) rfl
set_option maxRecDepth 100000 in
theorem co_yX3_collectFrom : Cond.code yX3_collectFrom prog_5_method_22_code 6 (Option.some FieldType.int) ∈ zWS := zWS_of 376 rfl rfl
theorem st_yX4_otherSide : Cond.static yX4_otherSide ∈ zWS := zWS_of 378 (by decide +kernel) rfl
set_option maxRecDepth 100000 in
theorem co_yX4_otherSide : Cond.code yX4_otherSide prog_1_method_29_code 1 (Option.some FieldType.int) ∈ zWS := zWS_of 379 rfl rfl
theorem ml_X3_135 : Cond.methodLink "SilenceHours$State" 135 yX3_shareOut ∈ zWS := zWS_of 380 (by decide +kernel) rfl
theorem im_yX3_shareOut : Cond.instanceMethod yX3_shareOut ∈ zWS := zWS_of 382 (by decide +kernel) rfl
set_option maxRecDepth 100000 in
theorem co_yX3_shareOut : Cond.code yX3_shareOut prog_5_method_23_code 8 (Option.some FieldType.int) ∈ zWS := zWS_of 383 rfl rfl
theorem ml_X3_141 : Cond.methodLink "SilenceHours$State" 141 yX3_receive ∈ zWS := zWS_of 384 (by decide +kernel) rfl
theorem ml_X3_138 : Cond.methodLink "SilenceHours$State" 138 yX3_biddersForQuiet ∈ zWS := zWS_of 385 (by decide +kernel) rfl
theorem im_yX3_biddersForQuiet : Cond.instanceMethod yX3_biddersForQuiet ∈ zWS := zWS_of 387 (by decide +kernel) rfl
set_option maxRecDepth 100000 in
theorem co_yX3_biddersForQuiet : Cond.code yX3_biddersForQuiet prog_5_method_24_code 4 (Option.some FieldType.int) ∈ zWS := zWS_of 388 rfl rfl
theorem ml_X3_126 : Cond.methodLink "SilenceHours$State" 126 yJ7_fill_53178 ∈ zWS := zWS_of 389 (by decide +kernel) rfl
theorem st_yJ7_fill_53178 : Cond.static yJ7_fill_53178 ∈ zWS := zWS_of 390 (by decide +kernel) rfl
set_option maxRecDepth 100000 in
theorem co_yJ7_fill_53178 : Cond.code yJ7_fill_53178 prog_11_method_103_code 4 none ∈ zWS := zWS_of 391 rfl rfl
theorem ml_X4_93 : Cond.methodLink "SilenceHours" 93 yX3_noisySlots ∈ zWS := zWS_of 392 (by decide +kernel) rfl
theorem im_yX3_noisySlots : Cond.instanceMethod yX3_noisySlots ∈ zWS := zWS_of 393 (by decide +kernel) rfl
theorem se_yX3_noisySlots : Cond.selects "SilenceHours$State" yX3_noisySlots yX3_noisySlots ∈ zWS := zWS_of 394 (by decide +kernel) rfl
set_option maxRecDepth 100000 in
theorem co_yX3_noisySlots : Cond.code yX3_noisySlots prog_5_method_27_code 3 (Option.some FieldType.int) ∈ zWS := zWS_of 395 rfl rfl
theorem ml_X3_153 : Cond.methodLink "SilenceHours$State" 153 yX3_quietHours ∈ zWS := zWS_of 396 (by decide +kernel) rfl
theorem im_yX3_quietHours : Cond.instanceMethod yX3_quietHours ∈ zWS := zWS_of 397 (by decide +kernel) rfl
theorem se_yX3_quietHours : Cond.selects "SilenceHours$State" yX3_quietHours yX3_quietHours ∈ zWS := zWS_of 398 (by decide +kernel) rfl
set_option maxRecDepth 100000 in
theorem co_yX3_quietHours : Cond.code yX3_quietHours prog_5_method_28_code 4 (Option.some FieldType.int) ∈ zWS := zWS_of 399 rfl rfl
theorem ml_L_37 : Cond.methodLink "SilenceHoursLaw" 37 yX4_breach ∈ zWS := zWS_of 401 (by decide +kernel) rfl
theorem im_yX4_breach : Cond.instanceMethod yX4_breach ∈ zWS := zWS_of 402 (by decide +kernel) rfl
theorem se_yX4_breach : Cond.selects "SilenceHours" yX4_breach yX4_breach ∈ zWS := zWS_of 403 (by decide +kernel) rfl
set_option maxRecDepth 100000 in
theorem co_yX4_breach : Cond.code yX4_breach prog_1_method_7_code 5 (Option.some FieldType.int) ∈ zWS := zWS_of 404 rfl rfl
theorem ml_X4_100 : Cond.methodLink "SilenceHours" 100 yX3_noteBreach ∈ zWS := zWS_of 405 (by decide +kernel) rfl
theorem im_yX3_noteBreach : Cond.instanceMethod yX3_noteBreach ∈ zWS := zWS_of 406 (by decide +kernel) rfl
theorem se_yX3_noteBreach : Cond.selects "SilenceHours$State" yX3_noteBreach yX3_noteBreach ∈ zWS := zWS_of 407 (by decide +kernel) rfl
set_option maxRecDepth 100000 in
theorem co_yX3_noteBreach : Cond.code yX3_noteBreach prog_5_method_25_code 6 (Option.some FieldType.int) ∈ zWS := zWS_of 408 rfl rfl
theorem ml_X3_145 : Cond.methodLink "SilenceHours$State" 145 yX3_shareFine ∈ zWS := zWS_of 409 (by decide +kernel) rfl
theorem im_yX3_shareFine : Cond.instanceMethod yX3_shareFine ∈ zWS := zWS_of 411 (by decide +kernel) rfl
set_option maxRecDepth 100000 in
theorem co_yX3_shareFine : Cond.code yX3_shareFine prog_5_method_26_code 6 (Option.some FieldType.int) ∈ zWS := zWS_of 412 rfl rfl
theorem ml_X3_148 : Cond.methodLink "SilenceHours$State" 148 yJ6_bitCount_0f7a4 ∈ zWS := zWS_of 413 (by decide +kernel) rfl
theorem st_yJ6_bitCount_0f7a4 : Cond.static yJ6_bitCount_0f7a4 ∈ zWS := zWS_of 414 (by decide +kernel) rfl
set_option maxRecDepth 100000 in
theorem co_yJ6_bitCount_0f7a4 : Cond.code yJ6_bitCount_0f7a4 prog_8_method_49_code 1 (Option.some FieldType.int) ∈ zWS := zWS_of 415 rfl rfl
theorem cs_J6_265 : Cond.constant "java/lang/Integer" 265 (1431655765) ∈ zWS := zWS_of 416 (by decide +kernel) rfl
theorem cs_J6_266 : Cond.constant "java/lang/Integer" 266 (858993459) ∈ zWS := zWS_of 417 (by decide +kernel) rfl
theorem cs_J6_267 : Cond.constant "java/lang/Integer" 267 (252645135) ∈ zWS := zWS_of 418 (by decide +kernel) rfl
theorem ml_L_42 : Cond.methodLink "SilenceHoursLaw" 42 yX4_undo ∈ zWS := zWS_of 419 (by decide +kernel) rfl
theorem im_yX4_undo : Cond.instanceMethod yX4_undo ∈ zWS := zWS_of 420 (by decide +kernel) rfl
theorem se_yX4_undo : Cond.selects "SilenceHours" yX4_undo yX4_undo ∈ zWS := zWS_of 421 (by decide +kernel) rfl
set_option maxRecDepth 100000 in
theorem co_yX4_undo : Cond.code yX4_undo prog_1_method_8_code 1 (Option.some FieldType.int) ∈ zWS := zWS_of 422 rfl rfl
theorem ml_X4_106 : Cond.methodLink "SilenceHours" 106 yX0_restoreLatest ∈ zWS := zWS_of 423 (by decide +kernel) rfl
theorem im_yX0_restoreLatest : Cond.instanceMethod yX0_restoreLatest ∈ zWS := zWS_of 424 (by decide +kernel) rfl
theorem se_yX0_restoreLatest : Cond.selects "SilenceHours$History" yX0_restoreLatest yX0_restoreLatest ∈ zWS := zWS_of 425 (by decide +kernel) rfl
set_option maxRecDepth 100000 in
theorem co_yX0_restoreLatest : Cond.code yX0_restoreLatest prog_2_method_3_code 2 none ∈ zWS := zWS_of 426 rfl rfl
theorem ml_L_46 : Cond.methodLink "SilenceHoursLaw" 46 yX4_append ∈ zWS := zWS_of 427 (by decide +kernel) rfl
theorem im_yX4_append : Cond.instanceMethod yX4_append ∈ zWS := zWS_of 428 (by decide +kernel) rfl
theorem se_yX4_append : Cond.selects "SilenceHours" yX4_append yX4_append ∈ zWS := zWS_of 429 (by decide +kernel) rfl
set_option maxRecDepth 100000 in
theorem co_yX4_append : Cond.code yX4_append prog_1_method_9_code 2 (Option.some FieldType.int) ∈ zWS := zWS_of 430 rfl rfl
theorem ml_L_50 : Cond.methodLink "SilenceHoursLaw" 50 yX4_clearText ∈ zWS := zWS_of 431 (by decide +kernel) rfl
theorem im_yX4_clearText : Cond.instanceMethod yX4_clearText ∈ zWS := zWS_of 432 (by decide +kernel) rfl
theorem se_yX4_clearText : Cond.selects "SilenceHours" yX4_clearText yX4_clearText ∈ zWS := zWS_of 433 (by decide +kernel) rfl
set_option maxRecDepth 100000 in
theorem co_yX4_clearText : Cond.code yX4_clearText prog_1_method_10_code 2 (Option.some FieldType.int) ∈ zWS := zWS_of 434 rfl rfl
theorem ml_L_54 : Cond.methodLink "SilenceHoursLaw" 54 yX4_run ∈ zWS := zWS_of 435 (by decide +kernel) rfl
theorem im_yX4_run : Cond.instanceMethod yX4_run ∈ zWS := zWS_of 436 (by decide +kernel) rfl
theorem se_yX4_run : Cond.selects "SilenceHours" yX4_run yX4_run ∈ zWS := zWS_of 437 (by decide +kernel) rfl
set_option maxRecDepth 100000 in
theorem co_yX4_run : Cond.code yX4_run prog_1_method_11_code 8 (Option.some FieldType.int) ∈ zWS := zWS_of 438 rfl rfl
theorem ml_X4_115 : Cond.methodLink "SilenceHours" 115 yX2_readText ∈ zWS := zWS_of 439 (by decide +kernel) rfl
theorem im_yX2_readText : Cond.instanceMethod yX2_readText ∈ zWS := zWS_of 440 (by decide +kernel) rfl
theorem se_yX2_readText : Cond.selects "SilenceHours$Plan" yX2_readText yX2_readText ∈ zWS := zWS_of 441 (by decide +kernel) rfl
set_option maxRecDepth 100000 in
theorem co_yX2_readText : Cond.code yX2_readText prog_4_method_2_code 2 (Option.some FieldType.boolean) ∈ zWS := zWS_of 442 rfl rfl
theorem ml_X2_41 : Cond.methodLink "SilenceHours$Plan" 41 yX2_hasFailed ∈ zWS := zWS_of 443 (by decide +kernel) rfl
theorem im_yX2_hasFailed : Cond.instanceMethod yX2_hasFailed ∈ zWS := zWS_of 445 (by decide +kernel) rfl
set_option maxRecDepth 100000 in
theorem co_yX2_hasFailed : Cond.code yX2_hasFailed prog_4_method_15_code 1 (Option.some FieldType.boolean) ∈ zWS := zWS_of 446 rfl rfl
theorem ml_X2_45 : Cond.methodLink "SilenceHours$Plan" 45 yX2_readPiece ∈ zWS := zWS_of 447 (by decide +kernel) rfl
theorem im_yX2_readPiece : Cond.instanceMethod yX2_readPiece ∈ zWS := zWS_of 449 (by decide +kernel) rfl
set_option maxRecDepth 100000 in
theorem co_yX2_readPiece : Cond.code yX2_readPiece prog_4_method_3_code 2 none ∈ zWS := zWS_of 450 rfl rfl
theorem ml_X2_52 : Cond.methodLink "SilenceHours$Plan" 52 yX2_sign ∈ zWS := zWS_of 451 (by decide +kernel) rfl
theorem im_yX2_sign : Cond.instanceMethod yX2_sign ∈ zWS := zWS_of 453 (by decide +kernel) rfl
set_option maxRecDepth 100000 in
theorem co_yX2_sign : Cond.code yX2_sign prog_4_method_12_code 1 (Option.some FieldType.int) ∈ zWS := zWS_of 454 rfl rfl
theorem ml_X2_56 : Cond.methodLink "SilenceHours$Plan" 56 yX2_closeGroup ∈ zWS := zWS_of 455 (by decide +kernel) rfl
theorem im_yX2_closeGroup : Cond.instanceMethod yX2_closeGroup ∈ zWS := zWS_of 457 (by decide +kernel) rfl
set_option maxRecDepth 100000 in
theorem co_yX2_closeGroup : Cond.code yX2_closeGroup prog_4_method_5_code 1 none ∈ zWS := zWS_of 458 rfl rfl
theorem ml_X2_70 : Cond.methodLink "SilenceHours$Plan" 70 yX2_take ∈ zWS := zWS_of 459 (by decide +kernel) rfl
theorem im_yX2_take : Cond.instanceMethod yX2_take ∈ zWS := zWS_of 461 (by decide +kernel) rfl
set_option maxRecDepth 100000 in
theorem co_yX2_take : Cond.code yX2_take prog_4_method_9_code 2 none ∈ zWS := zWS_of 462 rfl rfl
theorem ml_X2_77 : Cond.methodLink "SilenceHours$Plan" 77 yX2_takeIf ∈ zWS := zWS_of 463 (by decide +kernel) rfl
theorem im_yX2_takeIf : Cond.instanceMethod yX2_takeIf ∈ zWS := zWS_of 465 (by decide +kernel) rfl
set_option maxRecDepth 100000 in
theorem co_yX2_takeIf : Cond.code yX2_takeIf prog_4_method_10_code 3 (Option.some FieldType.boolean) ∈ zWS := zWS_of 466 rfl rfl
theorem ml_X2_48 : Cond.methodLink "SilenceHours$Plan" 48 yX2_failAt ∈ zWS := zWS_of 467 (by decide +kernel) rfl
theorem im_yX2_failAt : Cond.instanceMethod yX2_failAt ∈ zWS := zWS_of 469 (by decide +kernel) rfl
set_option maxRecDepth 100000 in
theorem co_yX2_failAt : Cond.code yX2_failAt prog_4_method_14_code 2 none ∈ zWS := zWS_of 470 rfl rfl
theorem ml_X2_59 : Cond.methodLink "SilenceHours$Plan" 59 yX2_openGroup ∈ zWS := zWS_of 471 (by decide +kernel) rfl
theorem im_yX2_openGroup : Cond.instanceMethod yX2_openGroup ∈ zWS := zWS_of 473 (by decide +kernel) rfl
set_option maxRecDepth 100000 in
theorem co_yX2_openGroup : Cond.code yX2_openGroup prog_4_method_4_code 2 none ∈ zWS := zWS_of 474 rfl rfl
theorem ml_X2_62 : Cond.methodLink "SilenceHours$Plan" 62 yX2_isDigit ∈ zWS := zWS_of 475 (by decide +kernel) rfl
theorem st_yX2_isDigit : Cond.static yX2_isDigit ∈ zWS := zWS_of 476 (by decide +kernel) rfl
set_option maxRecDepth 100000 in
theorem co_yX2_isDigit : Cond.code yX2_isDigit prog_4_method_13_code 1 (Option.some FieldType.boolean) ∈ zWS := zWS_of 477 rfl rfl
theorem ml_X2_66 : Cond.methodLink "SilenceHours$Plan" 66 yX2_takeNumber ∈ zWS := zWS_of 479 (by decide +kernel) rfl
theorem im_yX2_takeNumber : Cond.instanceMethod yX2_takeNumber ∈ zWS := zWS_of 481 (by decide +kernel) rfl
set_option maxRecDepth 100000 in
theorem co_yX2_takeNumber : Cond.code yX2_takeNumber prog_4_method_8_code 8 (Option.some FieldType.int) ∈ zWS := zWS_of 482 rfl rfl
theorem ml_X2_106 : Cond.methodLink "SilenceHours$Plan" 106 yX2_skip ∈ zWS := zWS_of 483 (by decide +kernel) rfl
theorem im_yX2_skip : Cond.instanceMethod yX2_skip ∈ zWS := zWS_of 485 (by decide +kernel) rfl
set_option maxRecDepth 100000 in
theorem co_yX2_skip : Cond.code yX2_skip prog_4_method_11_code 1 none ∈ zWS := zWS_of 486 rfl rfl
theorem ml_X2_74 : Cond.methodLink "SilenceHours$Plan" 74 yX2_readBids ∈ zWS := zWS_of 487 (by decide +kernel) rfl
theorem im_yX2_readBids : Cond.instanceMethod yX2_readBids ∈ zWS := zWS_of 489 (by decide +kernel) rfl
set_option maxRecDepth 100000 in
theorem co_yX2_readBids : Cond.code yX2_readBids prog_4_method_6_code 8 none ∈ zWS := zWS_of 490 rfl rfl
theorem ml_X2_81 : Cond.methodLink "SilenceHours$Plan" 81 yX2_takeStreet ∈ zWS := zWS_of 491 (by decide +kernel) rfl
theorem im_yX2_takeStreet : Cond.instanceMethod yX2_takeStreet ∈ zWS := zWS_of 493 (by decide +kernel) rfl
set_option maxRecDepth 100000 in
theorem co_yX2_takeStreet : Cond.code yX2_takeStreet prog_4_method_7_code 2 (Option.some FieldType.int) ∈ zWS := zWS_of 494 rfl rfl
theorem ml_X4_125 : Cond.methodLink "SilenceHours" 125 yX4_failPlan ∈ zWS := zWS_of 496 (by decide +kernel) rfl
theorem im_yX4_failPlan : Cond.instanceMethod yX4_failPlan ∈ zWS := zWS_of 498 (by decide +kernel) rfl
set_option maxRecDepth 100000 in
theorem co_yX4_failPlan : Cond.code yX4_failPlan prog_1_method_22_code 6 (Option.some FieldType.int) ∈ zWS := zWS_of 499 rfl rfl
theorem ml_X4_129 : Cond.methodLink "SilenceHours" 129 yX3_copyFrom ∈ zWS := zWS_of 500 (by decide +kernel) rfl
theorem ml_L_58 : Cond.methodLink "SilenceHoursLaw" 58 yX4_failure ∈ zWS := zWS_of 501 (by decide +kernel) rfl
theorem im_yX4_failure : Cond.instanceMethod yX4_failure ∈ zWS := zWS_of 502 (by decide +kernel) rfl
theorem se_yX4_failure : Cond.selects "SilenceHours" yX4_failure yX4_failure ∈ zWS := zWS_of 503 (by decide +kernel) rfl
set_option maxRecDepth 100000 in
theorem co_yX4_failure : Cond.code yX4_failure prog_1_method_12_code 3 (Option.some FieldType.int) ∈ zWS := zWS_of 504 rfl rfl
theorem ml_L_62 : Cond.methodLink "SilenceHoursLaw" 62 yX4_count ∈ zWS := zWS_of 505 (by decide +kernel) rfl
theorem im_yX4_count : Cond.instanceMethod yX4_count ∈ zWS := zWS_of 506 (by decide +kernel) rfl
theorem se_yX4_count : Cond.selects "SilenceHours" yX4_count yX4_count ∈ zWS := zWS_of 507 (by decide +kernel) rfl
set_option maxRecDepth 100000 in
theorem co_yX4_count : Cond.code yX4_count prog_1_method_13_code 2 (Option.some FieldType.int) ∈ zWS := zWS_of 508 rfl rfl
theorem ml_X4_160 : Cond.methodLink "SilenceHours" 160 yX3_allBids ∈ zWS := zWS_of 509 (by decide +kernel) rfl
theorem im_yX3_allBids : Cond.instanceMethod yX3_allBids ∈ zWS := zWS_of 510 (by decide +kernel) rfl
theorem se_yX3_allBids : Cond.selects "SilenceHours$State" yX3_allBids yX3_allBids ∈ zWS := zWS_of 511 (by decide +kernel) rfl
set_option maxRecDepth 100000 in
theorem co_yX3_allBids : Cond.code yX3_allBids prog_5_method_16_code 3 (Option.some FieldType.int) ∈ zWS := zWS_of 512 rfl rfl
theorem ml_X3_101 : Cond.methodLink "SilenceHours$State" 101 yX3_bidsBy ∈ zWS := zWS_of 513 (by decide +kernel) rfl
theorem im_yX3_bidsBy : Cond.instanceMethod yX3_bidsBy ∈ zWS := zWS_of 514 (by decide +kernel) rfl
theorem se_yX3_bidsBy : Cond.selects "SilenceHours$State" yX3_bidsBy yX3_bidsBy ∈ zWS := zWS_of 515 (by decide +kernel) rfl
set_option maxRecDepth 100000 in
theorem co_yX3_bidsBy : Cond.code yX3_bidsBy prog_5_method_9_code 4 (Option.some FieldType.int) ∈ zWS := zWS_of 516 rfl rfl
theorem ml_X4_163 : Cond.methodLink "SilenceHours" 163 yX3_allMoney ∈ zWS := zWS_of 517 (by decide +kernel) rfl
theorem im_yX3_allMoney : Cond.instanceMethod yX3_allMoney ∈ zWS := zWS_of 518 (by decide +kernel) rfl
theorem se_yX3_allMoney : Cond.selects "SilenceHours$State" yX3_allMoney yX3_allMoney ∈ zWS := zWS_of 519 (by decide +kernel) rfl
set_option maxRecDepth 100000 in
theorem co_yX3_allMoney : Cond.code yX3_allMoney prog_5_method_14_code 3 (Option.some FieldType.int) ∈ zWS := zWS_of 520 rfl rfl
theorem ml_X4_166 : Cond.methodLink "SilenceHours" 166 yX3_allDebts ∈ zWS := zWS_of 521 (by decide +kernel) rfl
theorem im_yX3_allDebts : Cond.instanceMethod yX3_allDebts ∈ zWS := zWS_of 522 (by decide +kernel) rfl
theorem se_yX3_allDebts : Cond.selects "SilenceHours$State" yX3_allDebts yX3_allDebts ∈ zWS := zWS_of 523 (by decide +kernel) rfl
set_option maxRecDepth 100000 in
theorem co_yX3_allDebts : Cond.code yX3_allDebts prog_5_method_15_code 3 (Option.some FieldType.int) ∈ zWS := zWS_of 524 rfl rfl
theorem ml_L_66 : Cond.methodLink "SilenceHoursLaw" 66 yX4_person ∈ zWS := zWS_of 525 (by decide +kernel) rfl
theorem im_yX4_person : Cond.instanceMethod yX4_person ∈ zWS := zWS_of 526 (by decide +kernel) rfl
theorem se_yX4_person : Cond.selects "SilenceHours" yX4_person yX4_person ∈ zWS := zWS_of 527 (by decide +kernel) rfl
set_option maxRecDepth 100000 in
theorem co_yX4_person : Cond.code yX4_person prog_1_method_14_code 3 (Option.some FieldType.int) ∈ zWS := zWS_of 528 rfl rfl
theorem ml_X4_172 : Cond.methodLink "SilenceHours" 172 yX3_freeMoney ∈ zWS := zWS_of 529 (by decide +kernel) rfl
theorem ml_X4_179 : Cond.methodLink "SilenceHours" 179 yX3_bidsBy ∈ zWS := zWS_of 530 (by decide +kernel) rfl
theorem ml_L_70 : Cond.methodLink "SilenceHoursLaw" 70 yX4_slot ∈ zWS := zWS_of 531 (by decide +kernel) rfl
theorem im_yX4_slot : Cond.instanceMethod yX4_slot ∈ zWS := zWS_of 532 (by decide +kernel) rfl
theorem se_yX4_slot : Cond.selects "SilenceHours" yX4_slot yX4_slot ∈ zWS := zWS_of 533 (by decide +kernel) rfl
set_option maxRecDepth 100000 in
theorem co_yX4_slot : Cond.code yX4_slot prog_1_method_15_code 5 (Option.some FieldType.int) ∈ zWS := zWS_of 534 rfl rfl
theorem ml_X4_194 : Cond.methodLink "SilenceHours" 194 yX3_sumOfBids ∈ zWS := zWS_of 535 (by decide +kernel) rfl
theorem ml_X4_200 : Cond.methodLink "SilenceHours" 200 yX3_bidsFor ∈ zWS := zWS_of 536 (by decide +kernel) rfl
theorem ml_L_74 : Cond.methodLink "SilenceHoursLaw" 74 yX4_bidOf ∈ zWS := zWS_of 537 (by decide +kernel) rfl
theorem im_yX4_bidOf : Cond.instanceMethod yX4_bidOf ∈ zWS := zWS_of 538 (by decide +kernel) rfl
theorem se_yX4_bidOf : Cond.selects "SilenceHours" yX4_bidOf yX4_bidOf ∈ zWS := zWS_of 539 (by decide +kernel) rfl
set_option maxRecDepth 100000 in
theorem co_yX4_bidOf : Cond.code yX4_bidOf prog_1_method_16_code 5 (Option.some FieldType.int) ∈ zWS := zWS_of 540 rfl rfl
theorem ml_X4_206 : Cond.methodLink "SilenceHours" 206 yX3_markedBid ∈ zWS := zWS_of 541 (by decide +kernel) rfl
theorem ml_L_78 : Cond.methodLink "SilenceHoursLaw" 78 yX4_fund ∈ zWS := zWS_of 542 (by decide +kernel) rfl
theorem im_yX4_fund : Cond.instanceMethod yX4_fund ∈ zWS := zWS_of 543 (by decide +kernel) rfl
theorem se_yX4_fund : Cond.selects "SilenceHours" yX4_fund yX4_fund ∈ zWS := zWS_of 544 (by decide +kernel) rfl
set_option maxRecDepth 100000 in
theorem co_yX4_fund : Cond.code yX4_fund prog_1_method_17_code 2 (Option.some FieldType.int) ∈ zWS := zWS_of 545 rfl rfl
theorem ml_L_82 : Cond.methodLink "SilenceHoursLaw" 82 yX4_winner ∈ zWS := zWS_of 546 (by decide +kernel) rfl
theorem im_yX4_winner : Cond.instanceMethod yX4_winner ∈ zWS := zWS_of 547 (by decide +kernel) rfl
theorem se_yX4_winner : Cond.selects "SilenceHours" yX4_winner yX4_winner ∈ zWS := zWS_of 548 (by decide +kernel) rfl
set_option maxRecDepth 100000 in
theorem co_yX4_winner : Cond.code yX4_winner prog_1_method_18_code 3 (Option.some FieldType.int) ∈ zWS := zWS_of 549 rfl rfl
theorem ml_X4_215 : Cond.methodLink "SilenceHours" 215 yX3_ownerThen ∈ zWS := zWS_of 550 (by decide +kernel) rfl
theorem ml_L_86 : Cond.methodLink "SilenceHoursLaw" 86 yX4_needed ∈ zWS := zWS_of 551 (by decide +kernel) rfl
theorem im_yX4_needed : Cond.instanceMethod yX4_needed ∈ zWS := zWS_of 552 (by decide +kernel) rfl
theorem se_yX4_needed : Cond.selects "SilenceHours" yX4_needed yX4_needed ∈ zWS := zWS_of 553 (by decide +kernel) rfl
set_option maxRecDepth 100000 in
theorem co_yX4_needed : Cond.code yX4_needed prog_1_method_19_code 4 (Option.some FieldType.int) ∈ zWS := zWS_of 554 rfl rfl
theorem ml_X4_218 : Cond.methodLink "SilenceHours" 218 yX3_missingFor ∈ zWS := zWS_of 555 (by decide +kernel) rfl
theorem im_yX3_missingFor : Cond.instanceMethod yX3_missingFor ∈ zWS := zWS_of 556 (by decide +kernel) rfl
theorem se_yX3_missingFor : Cond.selects "SilenceHours$State" yX3_missingFor yX3_missingFor ∈ zWS := zWS_of 557 (by decide +kernel) rfl
set_option maxRecDepth 100000 in
theorem co_yX3_missingFor : Cond.code yX3_missingFor prog_5_method_19_code 5 (Option.some FieldType.int) ∈ zWS := zWS_of 558 rfl rfl
theorem ml_X3_119 : Cond.methodLink "SilenceHours$State" 119 Lib.Math.max.name ∈ zWS := zWS_of 559 (by decide +kernel) rfl
theorem st_Lib_Math_max_name : Cond.static Lib.Math.max.name ∈ zWS := zWS_of 560 (by decide +kernel) rfl
set_option maxRecDepth 100000 in
theorem co_Lib_Math_max_name : Cond.code Lib.Math.max.name prog_9_method_65_code 2 (Option.some FieldType.int) ∈ zWS := zWS_of 561 rfl rfl
theorem ml_L_90 : Cond.methodLink "SilenceHoursLaw" 90 yX4_quiet ∈ zWS := zWS_of 562 (by decide +kernel) rfl
theorem im_yX4_quiet : Cond.instanceMethod yX4_quiet ∈ zWS := zWS_of 563 (by decide +kernel) rfl
theorem se_yX4_quiet : Cond.selects "SilenceHours" yX4_quiet yX4_quiet ∈ zWS := zWS_of 564 (by decide +kernel) rfl
set_option maxRecDepth 100000 in
theorem co_yX4_quiet : Cond.code yX4_quiet prog_1_method_20_code 3 (Option.some FieldType.int) ∈ zWS := zWS_of 565 rfl rfl
theorem ml_X4_221 : Cond.methodLink "SilenceHours" 221 yX3_quietHours ∈ zWS := zWS_of 566 (by decide +kernel) rfl
theorem ml_X4_224 : Cond.methodLink "SilenceHours" 224 yX3_longestQuiet ∈ zWS := zWS_of 567 (by decide +kernel) rfl
theorem im_yX3_longestQuiet : Cond.instanceMethod yX3_longestQuiet ∈ zWS := zWS_of 568 (by decide +kernel) rfl
theorem se_yX3_longestQuiet : Cond.selects "SilenceHours$State" yX3_longestQuiet yX3_longestQuiet ∈ zWS := zWS_of 569 (by decide +kernel) rfl
set_option maxRecDepth 100000 in
theorem co_yX3_longestQuiet : Cond.code yX3_longestQuiet prog_5_method_29_code 4 (Option.some FieldType.int) ∈ zWS := zWS_of 570 rfl rfl
theorem ml_X3_159 : Cond.methodLink "SilenceHours$State" 159 yX3_quietFrom ∈ zWS := zWS_of 571 (by decide +kernel) rfl
theorem im_yX3_quietFrom : Cond.instanceMethod yX3_quietFrom ∈ zWS := zWS_of 573 (by decide +kernel) rfl
set_option maxRecDepth 100000 in
theorem co_yX3_quietFrom : Cond.code yX3_quietFrom prog_5_method_31_code 4 (Option.some FieldType.int) ∈ zWS := zWS_of 574 rfl rfl
theorem ml_X4_227 : Cond.methodLink "SilenceHours" 227 yX3_longestQuietStart ∈ zWS := zWS_of 575 (by decide +kernel) rfl
theorem im_yX3_longestQuietStart : Cond.instanceMethod yX3_longestQuietStart ∈ zWS := zWS_of 576 (by decide +kernel) rfl
theorem se_yX3_longestQuietStart : Cond.selects "SilenceHours$State" yX3_longestQuietStart yX3_longestQuietStart ∈ zWS := zWS_of 577 (by decide +kernel) rfl
set_option maxRecDepth 100000 in
theorem co_yX3_longestQuietStart : Cond.code yX3_longestQuietStart prog_5_method_30_code 6 (Option.some FieldType.int) ∈ zWS := zWS_of 578 rfl rfl
theorem ml_L_94 : Cond.methodLink "SilenceHoursLaw" 94 yX4_purseThen ∈ zWS := zWS_of 579 (by decide +kernel) rfl
theorem im_yX4_purseThen : Cond.instanceMethod yX4_purseThen ∈ zWS := zWS_of 580 (by decide +kernel) rfl
theorem se_yX4_purseThen : Cond.selects "SilenceHours" yX4_purseThen yX4_purseThen ∈ zWS := zWS_of 581 (by decide +kernel) rfl
set_option maxRecDepth 100000 in
theorem co_yX4_purseThen : Cond.code yX4_purseThen prog_1_method_21_code 2 (Option.some FieldType.int) ∈ zWS := zWS_of 582 rfl rfl
theorem cl_L_10 : Cond.classLink "SilenceHoursLaw" 10 "SilenceHoursModel" ∈ zWS := zWS_of 583 (by decide +kernel) rfl
theorem it_X5 : Cond.instantiable "SilenceHoursModel" 14 ∈ zWS := zWS_of 584 (by decide +kernel) rfl
theorem ml_L_12 : Cond.methodLink "SilenceHoursLaw" 12 yX5_init ∈ zWS := zWS_of 585 (by decide +kernel) rfl
theorem im_yX5_init : Cond.instanceMethod yX5_init ∈ zWS := zWS_of 586 (by decide +kernel) rfl
set_option maxRecDepth 100000 in
theorem co_yX5_init : Cond.code yX5_init prog_7_method_1_code 1 none ∈ zWS := zWS_of 587 rfl rfl
theorem ml_X5_1 : Cond.methodLink "SilenceHoursModel" 1 objectInit ∈ zWS := zWS_of 588 (by decide +kernel) rfl
theorem fl_X5_7 : Cond.fieldLink "SilenceHoursModel" 7 "SilenceHoursModel" "now" "[I" ∈ zWS := zWS_of 589 (by decide +kernel) rfl
theorem fl_X5_13 : Cond.fieldLink "SilenceHoursModel" 13 "SilenceHoursModel" "kept" "[I" ∈ zWS := zWS_of 590 (by decide +kernel) rfl
theorem fl_X5_49 : Cond.fieldLink "SilenceHoursModel" 49 "SilenceHoursModel" "states" "I" ∈ zWS := zWS_of 591 (by decide +kernel) rfl
theorem fl_X5_16 : Cond.fieldLink "SilenceHoursModel" 16 "SilenceHoursModel" "aside" "[I" ∈ zWS := zWS_of 592 (by decide +kernel) rfl
theorem fl_X5_19 : Cond.fieldLink "SilenceHoursModel" 19 "SilenceHoursModel" "text" "[I" ∈ zWS := zWS_of 593 (by decide +kernel) rfl
theorem fl_X5_135 : Cond.fieldLink "SilenceHoursModel" 135 "SilenceHoursModel" "length" "I" ∈ zWS := zWS_of 594 (by decide +kernel) rfl
theorem fl_X5_132 : Cond.fieldLink "SilenceHoursModel" 132 "SilenceHoursModel" "at" "I" ∈ zWS := zWS_of 595 (by decide +kernel) rfl
theorem fl_X5_122 : Cond.fieldLink "SilenceHoursModel" 122 "SilenceHoursModel" "depth" "I" ∈ zWS := zWS_of 596 (by decide +kernel) rfl
theorem fl_X5_22 : Cond.fieldLink "SilenceHoursModel" 22 "SilenceHoursModel" "times" "[I" ∈ zWS := zWS_of 597 (by decide +kernel) rfl
theorem fl_X5_118 : Cond.fieldLink "SilenceHoursModel" 118 "SilenceHoursModel" "isFailed" "Z" ∈ zWS := zWS_of 598 (by decide +kernel) rfl
theorem fl_X5_129 : Cond.fieldLink "SilenceHoursModel" 129 "SilenceHoursModel" "hasFailure" "Z" ∈ zWS := zWS_of 599 (by decide +kernel) rfl
theorem fl_X5_25 : Cond.fieldLink "SilenceHoursModel" 25 "SilenceHoursModel" "failed" "[I" ∈ zWS := zWS_of 600 (by decide +kernel) rfl
theorem fl_X5_28 : Cond.fieldLink "SilenceHoursModel" 28 "SilenceHoursModel" "parts" "[I" ∈ zWS := zWS_of 601 (by decide +kernel) rfl
theorem fl_X5_144 : Cond.fieldLink "SilenceHoursModel" 144 "SilenceHoursModel" "many" "I" ∈ zWS := zWS_of 602 (by decide +kernel) rfl
theorem ml_L_45 : Cond.methodLink "SilenceHoursLaw" 45 yX5_undo ∈ zWS := zWS_of 632 (by decide +kernel) rfl
theorem im_yX5_undo : Cond.instanceMethod yX5_undo ∈ zWS := zWS_of 633 (by decide +kernel) rfl
theorem se_yX5_undo : Cond.selects "SilenceHoursModel" yX5_undo yX5_undo ∈ zWS := zWS_of 634 (by decide +kernel) rfl
set_option maxRecDepth 100000 in
theorem co_yX5_undo : Cond.code yX5_undo prog_7_method_20_code 2 (Option.some FieldType.int) ∈ zWS := zWS_of 635 rfl rfl
theorem ml_L_17 : Cond.methodLink "SilenceHoursLaw" 17 yX5_join ∈ zWS := zWS_of 636 (by decide +kernel) rfl
theorem im_yX5_join : Cond.instanceMethod yX5_join ∈ zWS := zWS_of 637 (by decide +kernel) rfl
theorem se_yX5_join : Cond.selects "SilenceHoursModel" yX5_join yX5_join ∈ zWS := zWS_of 638 (by decide +kernel) rfl
set_option maxRecDepth 100000 in
theorem co_yX5_join : Cond.code yX5_join prog_7_method_22_code 4 (Option.some FieldType.int) ∈ zWS := zWS_of 639 rfl rfl
theorem cs_X5_57 : Cond.constant "SilenceHoursModel" 57 (100000) ∈ zWS := zWS_of 640 (by decide +kernel) rfl
theorem ml_X5_31 : Cond.methodLink "SilenceHoursModel" 31 yX5_in ∈ zWS := zWS_of 641 (by decide +kernel) rfl
theorem st_yX5_in : Cond.static yX5_in ∈ zWS := zWS_of 642 (by decide +kernel) rfl
set_option maxRecDepth 100000 in
theorem co_yX5_in : Cond.code yX5_in prog_7_method_2_code 3 (Option.some FieldType.boolean) ∈ zWS := zWS_of 643 rfl rfl
theorem ml_X5_58 : Cond.methodLink "SilenceHoursModel" 58 yX5_notes ∈ zWS := zWS_of 644 (by decide +kernel) rfl
theorem im_yX5_notes : Cond.instanceMethod yX5_notes ∈ zWS := zWS_of 646 (by decide +kernel) rfl
set_option maxRecDepth 100000 in
theorem co_yX5_notes : Cond.code yX5_notes prog_7_method_16_code 2 none ∈ zWS := zWS_of 647 rfl rfl
theorem ml_L_22 : Cond.methodLink "SilenceHoursLaw" 22 yX5_pay ∈ zWS := zWS_of 648 (by decide +kernel) rfl
theorem im_yX5_pay : Cond.instanceMethod yX5_pay ∈ zWS := zWS_of 649 (by decide +kernel) rfl
theorem se_yX5_pay : Cond.selects "SilenceHoursModel" yX5_pay yX5_pay ∈ zWS := zWS_of 650 (by decide +kernel) rfl
set_option maxRecDepth 100000 in
theorem co_yX5_pay : Cond.code yX5_pay prog_7_method_23_code 5 (Option.some FieldType.int) ∈ zWS := zWS_of 651 rfl rfl
theorem ml_X5_61 : Cond.methodLink "SilenceHoursModel" 61 yX5_isPerson ∈ zWS := zWS_of 652 (by decide +kernel) rfl
theorem im_yX5_isPerson : Cond.instanceMethod yX5_isPerson ∈ zWS := zWS_of 654 (by decide +kernel) rfl
set_option maxRecDepth 100000 in
theorem co_yX5_isPerson : Cond.code yX5_isPerson prog_7_method_3_code 2 (Option.some FieldType.boolean) ∈ zWS := zWS_of 655 rfl rfl
theorem cs_X5_65 : Cond.constant "SilenceHoursModel" 65 (-100000) ∈ zWS := zWS_of 656 (by decide +kernel) rfl
theorem ml_X5_43 : Cond.methodLink "SilenceHoursModel" 43 yX5_of ∈ zWS := zWS_of 657 (by decide +kernel) rfl
theorem im_yX5_of : Cond.instanceMethod yX5_of ∈ zWS := zWS_of 659 (by decide +kernel) rfl
set_option maxRecDepth 100000 in
theorem co_yX5_of : Cond.code yX5_of prog_7_method_5_code 3 (Option.some FieldType.int) ∈ zWS := zWS_of 660 rfl rfl
theorem ml_X5_66 : Cond.methodLink "SilenceHoursModel" 66 yX5_free ∈ zWS := zWS_of 661 (by decide +kernel) rfl
theorem im_yX5_free : Cond.instanceMethod yX5_free ∈ zWS := zWS_of 663 (by decide +kernel) rfl
set_option maxRecDepth 100000 in
theorem co_yX5_free : Cond.code yX5_free prog_7_method_14_code 4 (Option.some FieldType.int) ∈ zWS := zWS_of 664 rfl rfl
theorem ml_X5_39 : Cond.methodLink "SilenceHoursModel" 39 yX5_amount ∈ zWS := zWS_of 665 (by decide +kernel) rfl
theorem im_yX5_amount : Cond.instanceMethod yX5_amount ∈ zWS := zWS_of 667 (by decide +kernel) rfl
set_option maxRecDepth 100000 in
theorem co_yX5_amount : Cond.code yX5_amount prog_7_method_10_code 5 (Option.some FieldType.int) ∈ zWS := zWS_of 668 rfl rfl
theorem ml_X5_35 : Cond.methodLink "SilenceHoursModel" 35 yX5_bidAt ∈ zWS := zWS_of 669 (by decide +kernel) rfl
theorem im_yX5_bidAt : Cond.instanceMethod yX5_bidAt ∈ zWS := zWS_of 671 (by decide +kernel) rfl
set_option maxRecDepth 100000 in
theorem co_yX5_bidAt : Cond.code yX5_bidAt prog_7_method_9_code 3 (Option.some FieldType.int) ∈ zWS := zWS_of 672 rfl rfl
theorem cs_X5_70 : Cond.constant "SilenceHoursModel" 70 (10000000) ∈ zWS := zWS_of 673 (by decide +kernel) rfl
theorem ml_X5_53 : Cond.methodLink "SilenceHoursModel" 53 yX5_adds ∈ zWS := zWS_of 674 (by decide +kernel) rfl
theorem im_yX5_adds : Cond.instanceMethod yX5_adds ∈ zWS := zWS_of 676 (by decide +kernel) rfl
set_option maxRecDepth 100000 in
theorem co_yX5_adds : Cond.code yX5_adds prog_7_method_6_code 4 none ∈ zWS := zWS_of 677 rfl rfl
theorem ml_X5_71 : Cond.methodLink "SilenceHoursModel" 71 yX5_receives ∈ zWS := zWS_of 678 (by decide +kernel) rfl
theorem im_yX5_receives : Cond.instanceMethod yX5_receives ∈ zWS := zWS_of 680 (by decide +kernel) rfl
set_option maxRecDepth 100000 in
theorem co_yX5_receives : Cond.code yX5_receives prog_7_method_21_code 4 none ∈ zWS := zWS_of 681 rfl rfl
theorem ml_L_27 : Cond.methodLink "SilenceHoursLaw" 27 yX5_bid ∈ zWS := zWS_of 682 (by decide +kernel) rfl
theorem im_yX5_bid : Cond.instanceMethod yX5_bid ∈ zWS := zWS_of 683 (by decide +kernel) rfl
theorem se_yX5_bid : Cond.selects "SilenceHoursModel" yX5_bid yX5_bid ∈ zWS := zWS_of 684 (by decide +kernel) rfl
set_option maxRecDepth 100000 in
theorem co_yX5_bid : Cond.code yX5_bid prog_7_method_25_code 7 (Option.some FieldType.int) ∈ zWS := zWS_of 685 rfl rfl
theorem ml_X5_79 : Cond.methodLink "SilenceHoursModel" 79 yX5_asides ∈ zWS := zWS_of 686 (by decide +kernel) rfl
theorem im_yX5_asides : Cond.instanceMethod yX5_asides ∈ zWS := zWS_of 688 (by decide +kernel) rfl
set_option maxRecDepth 100000 in
theorem co_yX5_asides : Cond.code yX5_asides prog_7_method_17_code 2 none ∈ zWS := zWS_of 689 rfl rfl
theorem ml_X5_82 : Cond.methodLink "SilenceHoursModel" 82 yX5_bids ∈ zWS := zWS_of 690 (by decide +kernel) rfl
theorem im_yX5_bids : Cond.instanceMethod yX5_bids ∈ zWS := zWS_of 692 (by decide +kernel) rfl
set_option maxRecDepth 100000 in
theorem co_yX5_bids : Cond.code yX5_bids prog_7_method_24_code 8 (Option.some FieldType.int) ∈ zWS := zWS_of 693 rfl rfl
theorem ml_X5_75 : Cond.methodLink "SilenceHoursModel" 75 yX5_isSlot ∈ zWS := zWS_of 694 (by decide +kernel) rfl
theorem st_yX5_isSlot : Cond.static yX5_isSlot ∈ zWS := zWS_of 695 (by decide +kernel) rfl
set_option maxRecDepth 100000 in
theorem co_yX5_isSlot : Cond.code yX5_isSlot prog_7_method_4_code 2 (Option.some FieldType.boolean) ∈ zWS := zWS_of 696 rfl rfl
theorem ml_X5_86 : Cond.methodLink "SilenceHoursModel" 86 yX5_swaps ∈ zWS := zWS_of 697 (by decide +kernel) rfl
theorem im_yX5_swaps : Cond.instanceMethod yX5_swaps ∈ zWS := zWS_of 699 (by decide +kernel) rfl
set_option maxRecDepth 100000 in
theorem co_yX5_swaps : Cond.code yX5_swaps prog_7_method_19_code 3 none ∈ zWS := zWS_of 700 rfl rfl
theorem ml_X5_89 : Cond.methodLink "SilenceHoursModel" 89 yX5_backs ∈ zWS := zWS_of 701 (by decide +kernel) rfl
theorem im_yX5_backs : Cond.instanceMethod yX5_backs ∈ zWS := zWS_of 703 (by decide +kernel) rfl
set_option maxRecDepth 100000 in
theorem co_yX5_backs : Cond.code yX5_backs prog_7_method_18_code 2 none ∈ zWS := zWS_of 704 rfl rfl
theorem ml_L_31 : Cond.methodLink "SilenceHoursLaw" 31 yX5_setFine ∈ zWS := zWS_of 705 (by decide +kernel) rfl
theorem im_yX5_setFine : Cond.instanceMethod yX5_setFine ∈ zWS := zWS_of 706 (by decide +kernel) rfl
theorem se_yX5_setFine : Cond.selects "SilenceHoursModel" yX5_setFine yX5_setFine ∈ zWS := zWS_of 707 (by decide +kernel) rfl
set_option maxRecDepth 100000 in
theorem co_yX5_setFine : Cond.code yX5_setFine prog_7_method_26_code 3 (Option.some FieldType.int) ∈ zWS := zWS_of 708 rfl rfl
theorem ml_L_36 : Cond.methodLink "SilenceHoursLaw" 36 yX5_settle ∈ zWS := zWS_of 709 (by decide +kernel) rfl
theorem im_yX5_settle : Cond.instanceMethod yX5_settle ∈ zWS := zWS_of 710 (by decide +kernel) rfl
theorem se_yX5_settle : Cond.selects "SilenceHoursModel" yX5_settle yX5_settle ∈ zWS := zWS_of 711 (by decide +kernel) rfl
set_option maxRecDepth 100000 in
theorem co_yX5_settle : Cond.code yX5_settle prog_7_method_31_code 1 (Option.some FieldType.int) ∈ zWS := zWS_of 712 rfl rfl
theorem ml_X5_111 : Cond.methodLink "SilenceHoursModel" 111 yX5_settlesAll ∈ zWS := zWS_of 713 (by decide +kernel) rfl
theorem im_yX5_settlesAll : Cond.instanceMethod yX5_settlesAll ∈ zWS := zWS_of 715 (by decide +kernel) rfl
set_option maxRecDepth 100000 in
theorem co_yX5_settlesAll : Cond.code yX5_settlesAll prog_7_method_30_code 2 none ∈ zWS := zWS_of 716 rfl rfl
theorem ml_X5_107 : Cond.methodLink "SilenceHoursModel" 107 yX5_settles ∈ zWS := zWS_of 717 (by decide +kernel) rfl
theorem im_yX5_settles : Cond.instanceMethod yX5_settles ∈ zWS := zWS_of 719 (by decide +kernel) rfl
set_option maxRecDepth 100000 in
theorem co_yX5_settles : Cond.code yX5_settles prog_7_method_29_code 11 none ∈ zWS := zWS_of 720 rfl rfl
theorem ml_X5_92 : Cond.methodLink "SilenceHoursModel" 92 yX5_bidsFor ∈ zWS := zWS_of 721 (by decide +kernel) rfl
theorem im_yX5_bidsFor : Cond.instanceMethod yX5_bidsFor ∈ zWS := zWS_of 723 (by decide +kernel) rfl
set_option maxRecDepth 100000 in
theorem co_yX5_bidsFor : Cond.code yX5_bidsFor prog_7_method_12_code 4 (Option.some FieldType.int) ∈ zWS := zWS_of 724 rfl rfl
theorem ml_X5_46 : Cond.methodLink "SilenceHoursModel" 46 yX5_slotOf ∈ zWS := zWS_of 725 (by decide +kernel) rfl
theorem im_yX5_slotOf : Cond.instanceMethod yX5_slotOf ∈ zWS := zWS_of 727 (by decide +kernel) rfl
set_option maxRecDepth 100000 in
theorem co_yX5_slotOf : Cond.code yX5_slotOf prog_7_method_7_code 3 (Option.some FieldType.int) ∈ zWS := zWS_of 728 rfl rfl
theorem ml_X5_101 : Cond.methodLink "SilenceHoursModel" 101 yX5_puts ∈ zWS := zWS_of 729 (by decide +kernel) rfl
theorem im_yX5_puts : Cond.instanceMethod yX5_puts ∈ zWS := zWS_of 731 (by decide +kernel) rfl
set_option maxRecDepth 100000 in
theorem co_yX5_puts : Cond.code yX5_puts prog_7_method_8_code 4 none ∈ zWS := zWS_of 732 rfl rfl
theorem ml_X5_104 : Cond.methodLink "SilenceHoursModel" 104 yX5_winnerOf ∈ zWS := zWS_of 733 (by decide +kernel) rfl
theorem im_yX5_winnerOf : Cond.instanceMethod yX5_winnerOf ∈ zWS := zWS_of 735 (by decide +kernel) rfl
set_option maxRecDepth 100000 in
theorem co_yX5_winnerOf : Cond.code yX5_winnerOf prog_7_method_28_code 4 (Option.some FieldType.int) ∈ zWS := zWS_of 736 rfl rfl
theorem ml_X5_95 : Cond.methodLink "SilenceHoursModel" 95 yX5_sumOf ∈ zWS := zWS_of 737 (by decide +kernel) rfl
theorem im_yX5_sumOf : Cond.instanceMethod yX5_sumOf ∈ zWS := zWS_of 739 (by decide +kernel) rfl
set_option maxRecDepth 100000 in
theorem co_yX5_sumOf : Cond.code yX5_sumOf prog_7_method_11_code 5 (Option.some FieldType.int) ∈ zWS := zWS_of 740 rfl rfl
theorem ml_X5_98 : Cond.methodLink "SilenceHoursModel" 98 yX5_tied ∈ zWS := zWS_of 741 (by decide +kernel) rfl
theorem im_yX5_tied : Cond.instanceMethod yX5_tied ∈ zWS := zWS_of 743 (by decide +kernel) rfl
set_option maxRecDepth 100000 in
theorem co_yX5_tied : Cond.code yX5_tied prog_7_method_27_code 2 (Option.some FieldType.int) ∈ zWS := zWS_of 744 rfl rfl
theorem ml_X5_114 : Cond.methodLink "SilenceHoursModel" 114 yX5_noisy ∈ zWS := zWS_of 745 (by decide +kernel) rfl
theorem im_yX5_noisy : Cond.instanceMethod yX5_noisy ∈ zWS := zWS_of 747 (by decide +kernel) rfl
set_option maxRecDepth 100000 in
theorem co_yX5_noisy : Cond.code yX5_noisy prog_7_method_15_code 3 (Option.some FieldType.int) ∈ zWS := zWS_of 748 rfl rfl
theorem ml_L_41 : Cond.methodLink "SilenceHoursLaw" 41 yX5_breach ∈ zWS := zWS_of 749 (by decide +kernel) rfl
theorem im_yX5_breach : Cond.instanceMethod yX5_breach ∈ zWS := zWS_of 750 (by decide +kernel) rfl
theorem se_yX5_breach : Cond.selects "SilenceHoursModel" yX5_breach yX5_breach ∈ zWS := zWS_of 751 (by decide +kernel) rfl
set_option maxRecDepth 100000 in
theorem co_yX5_breach : Cond.code yX5_breach prog_7_method_32_code 10 (Option.some FieldType.int) ∈ zWS := zWS_of 752 rfl rfl
theorem ml_L_49 : Cond.methodLink "SilenceHoursLaw" 49 yX5_append ∈ zWS := zWS_of 753 (by decide +kernel) rfl
theorem im_yX5_append : Cond.instanceMethod yX5_append ∈ zWS := zWS_of 754 (by decide +kernel) rfl
theorem se_yX5_append : Cond.selects "SilenceHoursModel" yX5_append yX5_append ∈ zWS := zWS_of 755 (by decide +kernel) rfl
set_option maxRecDepth 100000 in
theorem co_yX5_append : Cond.code yX5_append prog_7_method_41_code 2 (Option.some FieldType.int) ∈ zWS := zWS_of 756 rfl rfl
theorem ml_L_53 : Cond.methodLink "SilenceHoursLaw" 53 yX5_clearText ∈ zWS := zWS_of 757 (by decide +kernel) rfl
theorem im_yX5_clearText : Cond.instanceMethod yX5_clearText ∈ zWS := zWS_of 758 (by decide +kernel) rfl
theorem se_yX5_clearText : Cond.selects "SilenceHoursModel" yX5_clearText yX5_clearText ∈ zWS := zWS_of 759 (by decide +kernel) rfl
set_option maxRecDepth 100000 in
theorem co_yX5_clearText : Cond.code yX5_clearText prog_7_method_42_code 2 (Option.some FieldType.int) ∈ zWS := zWS_of 760 rfl rfl
theorem ml_L_57 : Cond.methodLink "SilenceHoursLaw" 57 yX5_run ∈ zWS := zWS_of 761 (by decide +kernel) rfl
theorem im_yX5_run : Cond.instanceMethod yX5_run ∈ zWS := zWS_of 762 (by decide +kernel) rfl
theorem se_yX5_run : Cond.selects "SilenceHoursModel" yX5_run yX5_run ∈ zWS := zWS_of 763 (by decide +kernel) rfl
set_option maxRecDepth 100000 in
theorem co_yX5_run : Cond.code yX5_run prog_7_method_43_code 6 (Option.some FieldType.int) ∈ zWS := zWS_of 764 rfl rfl
theorem ml_X5_159 : Cond.methodLink "SilenceHoursModel" 159 yX5_reads ∈ zWS := zWS_of 765 (by decide +kernel) rfl
theorem im_yX5_reads : Cond.instanceMethod yX5_reads ∈ zWS := zWS_of 767 (by decide +kernel) rfl
set_option maxRecDepth 100000 in
theorem co_yX5_reads : Cond.code yX5_reads prog_7_method_40_code 3 none ∈ zWS := zWS_of 768 rfl rfl
theorem ml_X5_138 : Cond.methodLink "SilenceHoursModel" 138 yX5_here ∈ zWS := zWS_of 769 (by decide +kernel) rfl
theorem im_yX5_here : Cond.instanceMethod yX5_here ∈ zWS := zWS_of 771 (by decide +kernel) rfl
set_option maxRecDepth 100000 in
theorem co_yX5_here : Cond.code yX5_here prog_7_method_35_code 1 (Option.some FieldType.int) ∈ zWS := zWS_of 772 rfl rfl
theorem ml_X5_153 : Cond.methodLink "SilenceHoursModel" 153 yX5_opens ∈ zWS := zWS_of 773 (by decide +kernel) rfl
theorem im_yX5_opens : Cond.instanceMethod yX5_opens ∈ zWS := zWS_of 775 (by decide +kernel) rfl
set_option maxRecDepth 100000 in
theorem co_yX5_opens : Cond.code yX5_opens prog_7_method_38_code 2 none ∈ zWS := zWS_of 776 rfl rfl
theorem ml_X5_141 : Cond.methodLink "SilenceHoursModel" 141 yX5_fails ∈ zWS := zWS_of 777 (by decide +kernel) rfl
theorem im_yX5_fails : Cond.instanceMethod yX5_fails ∈ zWS := zWS_of 779 (by decide +kernel) rfl
set_option maxRecDepth 100000 in
theorem co_yX5_fails : Cond.code yX5_fails prog_7_method_33_code 2 none ∈ zWS := zWS_of 780 rfl rfl
theorem ml_X5_125 : Cond.methodLink "SilenceHoursModel" 125 yX5_failedBy ∈ zWS := zWS_of 781 (by decide +kernel) rfl
theorem im_yX5_failedBy : Cond.instanceMethod yX5_failedBy ∈ zWS := zWS_of 783 (by decide +kernel) rfl
set_option maxRecDepth 100000 in
theorem co_yX5_failedBy : Cond.code yX5_failedBy prog_7_method_34_code 6 none ∈ zWS := zWS_of 784 rfl rfl
theorem ml_X5_150 : Cond.methodLink "SilenceHoursModel" 150 yX5_number ∈ zWS := zWS_of 785 (by decide +kernel) rfl
theorem im_yX5_number : Cond.instanceMethod yX5_number ∈ zWS := zWS_of 787 (by decide +kernel) rfl
set_option maxRecDepth 100000 in
theorem co_yX5_number : Cond.code yX5_number prog_7_method_37_code 5 (Option.some FieldType.int) ∈ zWS := zWS_of 788 rfl rfl
theorem ml_X5_147 : Cond.methodLink "SilenceHoursModel" 147 yX5_sign ∈ zWS := zWS_of 789 (by decide +kernel) rfl
theorem im_yX5_sign : Cond.instanceMethod yX5_sign ∈ zWS := zWS_of 791 (by decide +kernel) rfl
set_option maxRecDepth 100000 in
theorem co_yX5_sign : Cond.code yX5_sign prog_7_method_36_code 2 none ∈ zWS := zWS_of 792 rfl rfl
theorem ml_X5_156 : Cond.methodLink "SilenceHoursModel" 156 yX5_readPart ∈ zWS := zWS_of 793 (by decide +kernel) rfl
theorem im_yX5_readPart : Cond.instanceMethod yX5_readPart ∈ zWS := zWS_of 795 (by decide +kernel) rfl
set_option maxRecDepth 100000 in
theorem co_yX5_readPart : Cond.code yX5_readPart prog_7_method_39_code 4 none ∈ zWS := zWS_of 796 rfl rfl
theorem ml_L_61 : Cond.methodLink "SilenceHoursLaw" 61 yX5_failure ∈ zWS := zWS_of 797 (by decide +kernel) rfl
theorem im_yX5_failure : Cond.instanceMethod yX5_failure ∈ zWS := zWS_of 798 (by decide +kernel) rfl
theorem se_yX5_failure : Cond.selects "SilenceHoursModel" yX5_failure yX5_failure ∈ zWS := zWS_of 799 (by decide +kernel) rfl
set_option maxRecDepth 100000 in
theorem co_yX5_failure : Cond.code yX5_failure prog_7_method_44_code 2 (Option.some FieldType.int) ∈ zWS := zWS_of 800 rfl rfl
theorem ml_L_65 : Cond.methodLink "SilenceHoursLaw" 65 yX5_count ∈ zWS := zWS_of 801 (by decide +kernel) rfl
theorem im_yX5_count : Cond.instanceMethod yX5_count ∈ zWS := zWS_of 802 (by decide +kernel) rfl
theorem se_yX5_count : Cond.selects "SilenceHoursModel" yX5_count yX5_count ∈ zWS := zWS_of 803 (by decide +kernel) rfl
set_option maxRecDepth 100000 in
theorem co_yX5_count : Cond.code yX5_count prog_7_method_48_code 2 (Option.some FieldType.int) ∈ zWS := zWS_of 804 rfl rfl
theorem ml_X5_165 : Cond.methodLink "SilenceHoursModel" 165 yX5_allBids ∈ zWS := zWS_of 805 (by decide +kernel) rfl
theorem im_yX5_allBids : Cond.instanceMethod yX5_allBids ∈ zWS := zWS_of 807 (by decide +kernel) rfl
set_option maxRecDepth 100000 in
theorem co_yX5_allBids : Cond.code yX5_allBids prog_7_method_47_code 3 (Option.some FieldType.int) ∈ zWS := zWS_of 808 rfl rfl
theorem ml_X5_162 : Cond.methodLink "SilenceHoursModel" 162 yX5_bidsBy ∈ zWS := zWS_of 809 (by decide +kernel) rfl
theorem im_yX5_bidsBy : Cond.instanceMethod yX5_bidsBy ∈ zWS := zWS_of 811 (by decide +kernel) rfl
set_option maxRecDepth 100000 in
theorem co_yX5_bidsBy : Cond.code yX5_bidsBy prog_7_method_13_code 4 (Option.some FieldType.int) ∈ zWS := zWS_of 812 rfl rfl
theorem ml_X5_168 : Cond.methodLink "SilenceHoursModel" 168 yX5_money ∈ zWS := zWS_of 813 (by decide +kernel) rfl
theorem im_yX5_money : Cond.instanceMethod yX5_money ∈ zWS := zWS_of 815 (by decide +kernel) rfl
set_option maxRecDepth 100000 in
theorem co_yX5_money : Cond.code yX5_money prog_7_method_45_code 3 (Option.some FieldType.int) ∈ zWS := zWS_of 816 rfl rfl
theorem ml_X5_171 : Cond.methodLink "SilenceHoursModel" 171 yX5_debts ∈ zWS := zWS_of 817 (by decide +kernel) rfl
theorem im_yX5_debts : Cond.instanceMethod yX5_debts ∈ zWS := zWS_of 819 (by decide +kernel) rfl
set_option maxRecDepth 100000 in
theorem co_yX5_debts : Cond.code yX5_debts prog_7_method_46_code 3 (Option.some FieldType.int) ∈ zWS := zWS_of 820 rfl rfl
theorem ml_L_69 : Cond.methodLink "SilenceHoursLaw" 69 yX5_person ∈ zWS := zWS_of 821 (by decide +kernel) rfl
theorem im_yX5_person : Cond.instanceMethod yX5_person ∈ zWS := zWS_of 822 (by decide +kernel) rfl
theorem se_yX5_person : Cond.selects "SilenceHoursModel" yX5_person yX5_person ∈ zWS := zWS_of 823 (by decide +kernel) rfl
set_option maxRecDepth 100000 in
theorem co_yX5_person : Cond.code yX5_person prog_7_method_49_code 3 (Option.some FieldType.int) ∈ zWS := zWS_of 824 rfl rfl
theorem ml_L_73 : Cond.methodLink "SilenceHoursLaw" 73 yX5_slot ∈ zWS := zWS_of 825 (by decide +kernel) rfl
theorem im_yX5_slot : Cond.instanceMethod yX5_slot ∈ zWS := zWS_of 826 (by decide +kernel) rfl
theorem se_yX5_slot : Cond.selects "SilenceHoursModel" yX5_slot yX5_slot ∈ zWS := zWS_of 827 (by decide +kernel) rfl
set_option maxRecDepth 100000 in
theorem co_yX5_slot : Cond.code yX5_slot prog_7_method_50_code 5 (Option.some FieldType.int) ∈ zWS := zWS_of 828 rfl rfl
theorem ml_L_77 : Cond.methodLink "SilenceHoursLaw" 77 yX5_bidOf ∈ zWS := zWS_of 829 (by decide +kernel) rfl
theorem im_yX5_bidOf : Cond.instanceMethod yX5_bidOf ∈ zWS := zWS_of 830 (by decide +kernel) rfl
theorem se_yX5_bidOf : Cond.selects "SilenceHoursModel" yX5_bidOf yX5_bidOf ∈ zWS := zWS_of 831 (by decide +kernel) rfl
set_option maxRecDepth 100000 in
theorem co_yX5_bidOf : Cond.code yX5_bidOf prog_7_method_51_code 5 (Option.some FieldType.int) ∈ zWS := zWS_of 832 rfl rfl
theorem ml_L_81 : Cond.methodLink "SilenceHoursLaw" 81 yX5_fund ∈ zWS := zWS_of 833 (by decide +kernel) rfl
theorem im_yX5_fund : Cond.instanceMethod yX5_fund ∈ zWS := zWS_of 834 (by decide +kernel) rfl
theorem se_yX5_fund : Cond.selects "SilenceHoursModel" yX5_fund yX5_fund ∈ zWS := zWS_of 835 (by decide +kernel) rfl
set_option maxRecDepth 100000 in
theorem co_yX5_fund : Cond.code yX5_fund prog_7_method_52_code 2 (Option.some FieldType.int) ∈ zWS := zWS_of 836 rfl rfl
theorem ml_L_85 : Cond.methodLink "SilenceHoursLaw" 85 yX5_winner ∈ zWS := zWS_of 837 (by decide +kernel) rfl
theorem im_yX5_winner : Cond.instanceMethod yX5_winner ∈ zWS := zWS_of 838 (by decide +kernel) rfl
theorem se_yX5_winner : Cond.selects "SilenceHoursModel" yX5_winner yX5_winner ∈ zWS := zWS_of 839 (by decide +kernel) rfl
set_option maxRecDepth 100000 in
theorem co_yX5_winner : Cond.code yX5_winner prog_7_method_53_code 3 (Option.some FieldType.int) ∈ zWS := zWS_of 840 rfl rfl
theorem ml_L_89 : Cond.methodLink "SilenceHoursLaw" 89 yX5_needed ∈ zWS := zWS_of 841 (by decide +kernel) rfl
theorem im_yX5_needed : Cond.instanceMethod yX5_needed ∈ zWS := zWS_of 842 (by decide +kernel) rfl
theorem se_yX5_needed : Cond.selects "SilenceHoursModel" yX5_needed yX5_needed ∈ zWS := zWS_of 843 (by decide +kernel) rfl
set_option maxRecDepth 100000 in
theorem co_yX5_needed : Cond.code yX5_needed prog_7_method_54_code 8 (Option.some FieldType.int) ∈ zWS := zWS_of 844 rfl rfl
theorem ml_L_93 : Cond.methodLink "SilenceHoursLaw" 93 yX5_quiet ∈ zWS := zWS_of 845 (by decide +kernel) rfl
theorem im_yX5_quiet : Cond.instanceMethod yX5_quiet ∈ zWS := zWS_of 846 (by decide +kernel) rfl
theorem se_yX5_quiet : Cond.selects "SilenceHoursModel" yX5_quiet yX5_quiet ∈ zWS := zWS_of 847 (by decide +kernel) rfl
set_option maxRecDepth 100000 in
theorem co_yX5_quiet : Cond.code yX5_quiet prog_7_method_55_code 9 (Option.some FieldType.int) ∈ zWS := zWS_of 848 rfl rfl
theorem ml_L_97 : Cond.methodLink "SilenceHoursLaw" 97 yX5_purseThen ∈ zWS := zWS_of 849 (by decide +kernel) rfl
theorem im_yX5_purseThen : Cond.instanceMethod yX5_purseThen ∈ zWS := zWS_of 850 (by decide +kernel) rfl
theorem se_yX5_purseThen : Cond.selects "SilenceHoursModel" yX5_purseThen yX5_purseThen ∈ zWS := zWS_of 851 (by decide +kernel) rfl
set_option maxRecDepth 100000 in
theorem co_yX5_purseThen : Cond.code yX5_purseThen prog_7_method_56_code 3 (Option.some FieldType.int) ∈ zWS := zWS_of 852 rfl rfl
theorem se_yX4_isPerson : Cond.selects RX4 yX4_isPerson yX4_isPerson ∈ zWS := zWS_of 0 (by decide +kernel) rfl
theorem se_yX3_settleBids : Cond.selects RX3 yX3_settleBids yX3_settleBids ∈ zWS := zWS_of 1 (by decide +kernel) rfl
theorem se_yX3_collectFrom : Cond.selects RX3 yX3_collectFrom yX3_collectFrom ∈ zWS := zWS_of 2 (by decide +kernel) rfl
theorem se_yX3_shareOut : Cond.selects RX3 yX3_shareOut yX3_shareOut ∈ zWS := zWS_of 3 (by decide +kernel) rfl
theorem se_yX3_biddersForQuiet : Cond.selects RX3 yX3_biddersForQuiet yX3_biddersForQuiet ∈ zWS := zWS_of 4 (by decide +kernel) rfl
theorem se_yX3_shareFine : Cond.selects RX3 yX3_shareFine yX3_shareFine ∈ zWS := zWS_of 5 (by decide +kernel) rfl
theorem se_yX2_hasFailed : Cond.selects RX2 yX2_hasFailed yX2_hasFailed ∈ zWS := zWS_of 6 (by decide +kernel) rfl
theorem se_yX2_readPiece : Cond.selects RX2 yX2_readPiece yX2_readPiece ∈ zWS := zWS_of 7 (by decide +kernel) rfl
theorem se_yX2_sign : Cond.selects RX2 yX2_sign yX2_sign ∈ zWS := zWS_of 8 (by decide +kernel) rfl
theorem se_yX2_closeGroup : Cond.selects RX2 yX2_closeGroup yX2_closeGroup ∈ zWS := zWS_of 9 (by decide +kernel) rfl
theorem se_yX2_take : Cond.selects RX2 yX2_take yX2_take ∈ zWS := zWS_of 10 (by decide +kernel) rfl
theorem se_yX2_takeIf : Cond.selects RX2 yX2_takeIf yX2_takeIf ∈ zWS := zWS_of 11 (by decide +kernel) rfl
theorem se_yX2_failAt : Cond.selects RX2 yX2_failAt yX2_failAt ∈ zWS := zWS_of 12 (by decide +kernel) rfl
theorem se_yX2_openGroup : Cond.selects RX2 yX2_openGroup yX2_openGroup ∈ zWS := zWS_of 13 (by decide +kernel) rfl
theorem se_yX2_takeNumber : Cond.selects RX2 yX2_takeNumber yX2_takeNumber ∈ zWS := zWS_of 14 (by decide +kernel) rfl
theorem se_yX2_skip : Cond.selects RX2 yX2_skip yX2_skip ∈ zWS := zWS_of 15 (by decide +kernel) rfl
theorem se_yX2_readBids : Cond.selects RX2 yX2_readBids yX2_readBids ∈ zWS := zWS_of 16 (by decide +kernel) rfl
theorem se_yX2_takeStreet : Cond.selects RX2 yX2_takeStreet yX2_takeStreet ∈ zWS := zWS_of 17 (by decide +kernel) rfl
theorem se_yX4_failPlan : Cond.selects RX4 yX4_failPlan yX4_failPlan ∈ zWS := zWS_of 18 (by decide +kernel) rfl
theorem se_yX3_quietFrom : Cond.selects RX3 yX3_quietFrom yX3_quietFrom ∈ zWS := zWS_of 19 (by decide +kernel) rfl
theorem se_yX5_notes : Cond.selects RX5 yX5_notes yX5_notes ∈ zWS := zWS_of 20 (by decide +kernel) rfl
theorem se_yX5_isPerson : Cond.selects RX5 yX5_isPerson yX5_isPerson ∈ zWS := zWS_of 21 (by decide +kernel) rfl
theorem se_yX5_of : Cond.selects RX5 yX5_of yX5_of ∈ zWS := zWS_of 22 (by decide +kernel) rfl
theorem se_yX5_free : Cond.selects RX5 yX5_free yX5_free ∈ zWS := zWS_of 23 (by decide +kernel) rfl
theorem se_yX5_amount : Cond.selects RX5 yX5_amount yX5_amount ∈ zWS := zWS_of 24 (by decide +kernel) rfl
theorem se_yX5_bidAt : Cond.selects RX5 yX5_bidAt yX5_bidAt ∈ zWS := zWS_of 25 (by decide +kernel) rfl
theorem se_yX5_adds : Cond.selects RX5 yX5_adds yX5_adds ∈ zWS := zWS_of 26 (by decide +kernel) rfl
theorem se_yX5_receives : Cond.selects RX5 yX5_receives yX5_receives ∈ zWS := zWS_of 27 (by decide +kernel) rfl
theorem se_yX5_asides : Cond.selects RX5 yX5_asides yX5_asides ∈ zWS := zWS_of 28 (by decide +kernel) rfl
theorem se_yX5_bids : Cond.selects RX5 yX5_bids yX5_bids ∈ zWS := zWS_of 29 (by decide +kernel) rfl
theorem se_yX5_swaps : Cond.selects RX5 yX5_swaps yX5_swaps ∈ zWS := zWS_of 30 (by decide +kernel) rfl
theorem se_yX5_backs : Cond.selects RX5 yX5_backs yX5_backs ∈ zWS := zWS_of 31 (by decide +kernel) rfl
theorem se_yX5_settlesAll : Cond.selects RX5 yX5_settlesAll yX5_settlesAll ∈ zWS := zWS_of 32 (by decide +kernel) rfl
theorem se_yX5_settles : Cond.selects RX5 yX5_settles yX5_settles ∈ zWS := zWS_of 33 (by decide +kernel) rfl
theorem se_yX5_bidsFor : Cond.selects RX5 yX5_bidsFor yX5_bidsFor ∈ zWS := zWS_of 34 (by decide +kernel) rfl
theorem se_yX5_slotOf : Cond.selects RX5 yX5_slotOf yX5_slotOf ∈ zWS := zWS_of 35 (by decide +kernel) rfl
theorem se_yX5_puts : Cond.selects RX5 yX5_puts yX5_puts ∈ zWS := zWS_of 36 (by decide +kernel) rfl
theorem se_yX5_winnerOf : Cond.selects RX5 yX5_winnerOf yX5_winnerOf ∈ zWS := zWS_of 37 (by decide +kernel) rfl
theorem se_yX5_sumOf : Cond.selects RX5 yX5_sumOf yX5_sumOf ∈ zWS := zWS_of 38 (by decide +kernel) rfl
theorem se_yX5_tied : Cond.selects RX5 yX5_tied yX5_tied ∈ zWS := zWS_of 39 (by decide +kernel) rfl
theorem se_yX5_noisy : Cond.selects RX5 yX5_noisy yX5_noisy ∈ zWS := zWS_of 40 (by decide +kernel) rfl
theorem se_yX5_reads : Cond.selects RX5 yX5_reads yX5_reads ∈ zWS := zWS_of 41 (by decide +kernel) rfl
theorem se_yX5_here : Cond.selects RX5 yX5_here yX5_here ∈ zWS := zWS_of 42 (by decide +kernel) rfl
theorem se_yX5_opens : Cond.selects RX5 yX5_opens yX5_opens ∈ zWS := zWS_of 43 (by decide +kernel) rfl
theorem se_yX5_fails : Cond.selects RX5 yX5_fails yX5_fails ∈ zWS := zWS_of 44 (by decide +kernel) rfl
theorem se_yX5_failedBy : Cond.selects RX5 yX5_failedBy yX5_failedBy ∈ zWS := zWS_of 45 (by decide +kernel) rfl
theorem se_yX5_number : Cond.selects RX5 yX5_number yX5_number ∈ zWS := zWS_of 46 (by decide +kernel) rfl
theorem se_yX5_sign : Cond.selects RX5 yX5_sign yX5_sign ∈ zWS := zWS_of 47 (by decide +kernel) rfl
theorem se_yX5_readPart : Cond.selects RX5 yX5_readPart yX5_readPart ∈ zWS := zWS_of 48 (by decide +kernel) rfl
theorem se_yX5_allBids : Cond.selects RX5 yX5_allBids yX5_allBids ∈ zWS := zWS_of 49 (by decide +kernel) rfl
theorem se_yX5_bidsBy : Cond.selects RX5 yX5_bidsBy yX5_bidsBy ∈ zWS := zWS_of 50 (by decide +kernel) rfl
theorem se_yX5_money : Cond.selects RX5 yX5_money yX5_money ∈ zWS := zWS_of 51 (by decide +kernel) rfl
theorem se_yX5_debts : Cond.selects RX5 yX5_debts yX5_debts ∈ zWS := zWS_of 52 (by decide +kernel) rfl
theorem zinX0 : ∀ w ∈ wsX00, w ∈ zWS := zWS_all [164, 166, 168] (by decide +kernel) (by decide +kernel)
theorem zinX1 : ∀ w ∈ wsX10, w ∈ zWS := zWS_all [198, 200, 202, 204, 206, 208, 210] (by decide +kernel) (by decide +kernel)
theorem zinX2 : ∀ w ∈ wsX20, w ∈ zWS := zWS_all [227, 229, 231, 233, 235, 237, 239, 241] (by decide +kernel) (by decide +kernel)
theorem zinX3 : ∀ w ∈ wsX30, w ∈ zWS := zWS_all [111, 113, 115, 117, 119, 121, 123, 125, 127, 129, 131, 133, 135, 137, 139, 141, 143, 145, 147] (by decide +kernel) (by decide +kernel)
theorem zinX4 : ∀ w ∈ wsX40, w ∈ zWS := zWS_all [249, 251, 253, 255, 257] (by decide +kernel) (by decide +kernel)
theorem zinX5 : ∀ w ∈ wsX50, w ∈ zWS := zWS_all [603, 605, 607, 609, 611, 613, 615, 617, 619, 621, 623, 625, 627, 629] (by decide +kernel) (by decide +kernel)
end
section
theorem dX0_init_0 : decode cX0_init 0 = .ok (.aload_n 0, 1) := by decide +kernel
theorem dX0_init_1 : decode cX0_init 1 = .ok (.invokespecial 3, 3) := by decide +kernel
theorem dX0_init_4 : decode cX0_init 4 = .ok (.aload_n 0, 1) := by decide +kernel
theorem dX0_init_5 : decode cX0_init 5 = .ok (.iconst 5, 1) := by decide +kernel
theorem dX0_init_6 : decode cX0_init 6 = .ok (.anewarray 9, 3) := by decide +kernel
theorem dX0_init_9 : decode cX0_init 9 = .ok (.putfield 11, 3) := by decide +kernel
theorem dX0_init_12 : decode cX0_init 12 = .ok (.iconst 0, 1) := by decide +kernel
theorem dX0_init_13 : decode cX0_init 13 = .ok (.istore_n 1, 1) := by decide +kernel
theorem dX0_init_14 : decode cX0_init 14 = .ok (.iload_n 1, 1) := by decide +kernel
theorem dX0_init_15 : decode cX0_init 15 = .ok (.iconst 5, 1) := by decide +kernel
theorem dX0_init_16 : decode cX0_init 16 = .ok (.if_icmp .ge 22, 3) := by decide +kernel
theorem dX0_init_19 : decode cX0_init 19 = .ok (.aload_n 0, 1) := by decide +kernel
theorem dX0_init_20 : decode cX0_init 20 = .ok (.getfield 11, 3) := by decide +kernel
theorem dX0_init_23 : decode cX0_init 23 = .ok (.iload_n 1, 1) := by decide +kernel
theorem dX0_init_24 : decode cX0_init 24 = .ok (.new 9, 3) := by decide +kernel
theorem dX0_init_27 : decode cX0_init 27 = .ok (.dup, 1) := by decide +kernel
theorem dX0_init_28 : decode cX0_init 28 = .ok (.invokespecial 17, 3) := by decide +kernel
theorem dX0_init_31 : decode cX0_init 31 = .ok (.aastore, 1) := by decide +kernel
theorem dX0_init_32 : decode cX0_init 32 = .ok (.iinc 1 1, 3) := by decide +kernel
theorem dX0_init_35 : decode cX0_init 35 = .ok (.goto (-21), 3) := by decide +kernel
theorem dX0_init_38 : decode cX0_init 38 = .ok (.return_, 1) := by decide +kernel
theorem dX0_record_0 : decode cX0_record 0 = .ok (.aload_n 0, 1) := by decide +kernel
theorem dX0_record_1 : decode cX0_record 1 = .ok (.getfield 11, 3) := by decide +kernel
theorem dX0_record_4 : decode cX0_record 4 = .ok (.aload_n 0, 1) := by decide +kernel
theorem dX0_record_5 : decode cX0_record 5 = .ok (.getfield 18, 3) := by decide +kernel
theorem dX0_record_8 : decode cX0_record 8 = .ok (.aload_n 0, 1) := by decide +kernel
theorem dX0_record_9 : decode cX0_record 9 = .ok (.getfield 22, 3) := by decide +kernel
theorem dX0_record_12 : decode cX0_record 12 = .ok (.iadd, 1) := by decide +kernel
theorem dX0_record_13 : decode cX0_record 13 = .ok (.iconst 5, 1) := by decide +kernel
theorem dX0_record_14 : decode cX0_record 14 = .ok (.irem, 1) := by decide +kernel
theorem dX0_record_15 : decode cX0_record 15 = .ok (.aaload, 1) := by decide +kernel
theorem dX0_record_16 : decode cX0_record 16 = .ok (.aload_n 1, 1) := by decide +kernel
theorem dX0_record_17 : decode cX0_record 17 = .ok (.invokevirtual 25, 3) := by decide +kernel
theorem dX0_record_20 : decode cX0_record 20 = .ok (.aload_n 0, 1) := by decide +kernel
theorem dX0_record_21 : decode cX0_record 21 = .ok (.getfield 22, 3) := by decide +kernel
theorem dX0_record_24 : decode cX0_record 24 = .ok (.iconst 5, 1) := by decide +kernel
theorem dX0_record_25 : decode cX0_record 25 = .ok (.if_icmp .ge 16, 3) := by decide +kernel
theorem dX0_record_28 : decode cX0_record 28 = .ok (.aload_n 0, 1) := by decide +kernel
theorem dX0_record_29 : decode cX0_record 29 = .ok (.dup, 1) := by decide +kernel
theorem dX0_record_30 : decode cX0_record 30 = .ok (.getfield 22, 3) := by decide +kernel
theorem dX0_record_33 : decode cX0_record 33 = .ok (.iconst 1, 1) := by decide +kernel
theorem dX0_record_34 : decode cX0_record 34 = .ok (.iadd, 1) := by decide +kernel
theorem dX0_record_35 : decode cX0_record 35 = .ok (.putfield 22, 3) := by decide +kernel
theorem dX0_record_38 : decode cX0_record 38 = .ok (.goto 15, 3) := by decide +kernel
theorem dX0_record_41 : decode cX0_record 41 = .ok (.aload_n 0, 1) := by decide +kernel
theorem dX0_record_42 : decode cX0_record 42 = .ok (.aload_n 0, 1) := by decide +kernel
theorem dX0_record_43 : decode cX0_record 43 = .ok (.getfield 18, 3) := by decide +kernel
theorem dX0_record_46 : decode cX0_record 46 = .ok (.iconst 1, 1) := by decide +kernel
theorem dX0_record_47 : decode cX0_record 47 = .ok (.iadd, 1) := by decide +kernel
theorem dX0_record_48 : decode cX0_record 48 = .ok (.iconst 5, 1) := by decide +kernel
theorem dX0_record_49 : decode cX0_record 49 = .ok (.irem, 1) := by decide +kernel
theorem dX0_record_50 : decode cX0_record 50 = .ok (.putfield 18, 3) := by decide +kernel
theorem dX0_record_53 : decode cX0_record 53 = .ok (.return_, 1) := by decide +kernel
theorem dX0_restoreLatest_0 : decode cX0_restoreLatest 0 = .ok (.aload_n 0, 1) := by decide +kernel
theorem dX0_restoreLatest_1 : decode cX0_restoreLatest 1 = .ok (.getfield 22, 3) := by decide +kernel
theorem dX0_restoreLatest_4 : decode cX0_restoreLatest 4 = .ok (.ifCond .le 33, 3) := by decide +kernel
theorem dX0_restoreLatest_7 : decode cX0_restoreLatest 7 = .ok (.aload_n 0, 1) := by decide +kernel
theorem dX0_restoreLatest_8 : decode cX0_restoreLatest 8 = .ok (.dup, 1) := by decide +kernel
theorem dX0_restoreLatest_9 : decode cX0_restoreLatest 9 = .ok (.getfield 22, 3) := by decide +kernel
theorem dX0_restoreLatest_12 : decode cX0_restoreLatest 12 = .ok (.iconst 1, 1) := by decide +kernel
theorem dX0_restoreLatest_13 : decode cX0_restoreLatest 13 = .ok (.isub, 1) := by decide +kernel
theorem dX0_restoreLatest_14 : decode cX0_restoreLatest 14 = .ok (.putfield 22, 3) := by decide +kernel
theorem dX0_restoreLatest_17 : decode cX0_restoreLatest 17 = .ok (.aload_n 1, 1) := by decide +kernel
theorem dX0_restoreLatest_18 : decode cX0_restoreLatest 18 = .ok (.aload_n 0, 1) := by decide +kernel
theorem dX0_restoreLatest_19 : decode cX0_restoreLatest 19 = .ok (.getfield 11, 3) := by decide +kernel
theorem dX0_restoreLatest_22 : decode cX0_restoreLatest 22 = .ok (.aload_n 0, 1) := by decide +kernel
theorem dX0_restoreLatest_23 : decode cX0_restoreLatest 23 = .ok (.getfield 18, 3) := by decide +kernel
theorem dX0_restoreLatest_26 : decode cX0_restoreLatest 26 = .ok (.aload_n 0, 1) := by decide +kernel
theorem dX0_restoreLatest_27 : decode cX0_restoreLatest 27 = .ok (.getfield 22, 3) := by decide +kernel
theorem dX0_restoreLatest_30 : decode cX0_restoreLatest 30 = .ok (.iadd, 1) := by decide +kernel
theorem dX0_restoreLatest_31 : decode cX0_restoreLatest 31 = .ok (.iconst 5, 1) := by decide +kernel
theorem dX0_restoreLatest_32 : decode cX0_restoreLatest 32 = .ok (.irem, 1) := by decide +kernel
theorem dX0_restoreLatest_33 : decode cX0_restoreLatest 33 = .ok (.aaload, 1) := by decide +kernel
theorem dX0_restoreLatest_34 : decode cX0_restoreLatest 34 = .ok (.invokevirtual 25, 3) := by decide +kernel
theorem dX0_restoreLatest_37 : decode cX0_restoreLatest 37 = .ok (.return_, 1) := by decide +kernel
theorem dX1_init_0 : decode cX1_init 0 = .ok (.aload_n 0, 1) := by decide +kernel
theorem dX1_init_1 : decode cX1_init 1 = .ok (.invokespecial 1, 3) := by decide +kernel
theorem dX1_init_4 : decode cX1_init 4 = .ok (.return_, 1) := by decide +kernel
theorem dX2_init_0 : decode cX2_init 0 = .ok (.aload_n 0, 1) := by decide +kernel
theorem dX2_init_1 : decode cX2_init 1 = .ok (.invokespecial 3, 3) := by decide +kernel
theorem dX2_init_4 : decode cX2_init 4 = .ok (.aload_n 0, 1) := by decide +kernel
theorem dX2_init_5 : decode cX2_init 5 = .ok (.bipush 100, 2) := by decide +kernel
theorem dX2_init_7 : decode cX2_init 7 = .ok (.newarray .int, 2) := by decide +kernel
theorem dX2_init_9 : decode cX2_init 9 = .ok (.putfield 9, 3) := by decide +kernel
theorem dX2_init_12 : decode cX2_init 12 = .ok (.aload_n 0, 1) := by decide +kernel
theorem dX2_init_13 : decode cX2_init 13 = .ok (.bipush 14, 2) := by decide +kernel
theorem dX2_init_15 : decode cX2_init 15 = .ok (.anewarray 15, 3) := by decide +kernel
theorem dX2_init_18 : decode cX2_init 18 = .ok (.putfield 17, 3) := by decide +kernel
theorem dX2_init_21 : decode cX2_init 21 = .ok (.aload_n 0, 1) := by decide +kernel
theorem dX2_init_22 : decode cX2_init 22 = .ok (.iconst (-1), 1) := by decide +kernel
theorem dX2_init_23 : decode cX2_init 23 = .ok (.putfield 21, 3) := by decide +kernel
theorem dX2_init_26 : decode cX2_init 26 = .ok (.aload_n 0, 1) := by decide +kernel
theorem dX2_init_27 : decode cX2_init 27 = .ok (.iconst 5, 1) := by decide +kernel
theorem dX2_init_28 : decode cX2_init 28 = .ok (.newarray .int, 2) := by decide +kernel
theorem dX2_init_30 : decode cX2_init 30 = .ok (.putfield 25, 3) := by decide +kernel
theorem dX2_init_33 : decode cX2_init 33 = .ok (.iconst 0, 1) := by decide +kernel
theorem dX2_init_34 : decode cX2_init 34 = .ok (.istore_n 1, 1) := by decide +kernel
theorem dX2_init_35 : decode cX2_init 35 = .ok (.iload_n 1, 1) := by decide +kernel
theorem dX2_init_36 : decode cX2_init 36 = .ok (.bipush 14, 2) := by decide +kernel
theorem dX2_init_38 : decode cX2_init 38 = .ok (.if_icmp .ge 22, 3) := by decide +kernel
theorem dX2_init_41 : decode cX2_init 41 = .ok (.aload_n 0, 1) := by decide +kernel
theorem dX2_init_42 : decode cX2_init 42 = .ok (.getfield 17, 3) := by decide +kernel
theorem dX2_init_45 : decode cX2_init 45 = .ok (.iload_n 1, 1) := by decide +kernel
theorem dX2_init_46 : decode cX2_init 46 = .ok (.new 15, 3) := by decide +kernel
theorem dX2_init_49 : decode cX2_init 49 = .ok (.dup, 1) := by decide +kernel
theorem dX2_init_50 : decode cX2_init 50 = .ok (.invokespecial 28, 3) := by decide +kernel
theorem dX2_init_53 : decode cX2_init 53 = .ok (.aastore, 1) := by decide +kernel
theorem dX2_init_54 : decode cX2_init 54 = .ok (.iinc 1 1, 3) := by decide +kernel
theorem dX2_init_57 : decode cX2_init 57 = .ok (.goto (-22), 3) := by decide +kernel
theorem dX2_init_60 : decode cX2_init 60 = .ok (.aload_n 0, 1) := by decide +kernel
theorem dX2_init_61 : decode cX2_init 61 = .ok (.getfield 25, 3) := by decide +kernel
theorem dX2_init_64 : decode cX2_init 64 = .ok (.iconst 0, 1) := by decide +kernel
theorem dX2_init_65 : decode cX2_init 65 = .ok (.iconst 1, 1) := by decide +kernel
theorem dX2_init_66 : decode cX2_init 66 = .ok (.iastore, 1) := by decide +kernel
theorem dX2_init_67 : decode cX2_init 67 = .ok (.return_, 1) := by decide +kernel
theorem dX2_readText_0 : decode cX2_readText 0 = .ok (.aload_n 0, 1) := by decide +kernel
theorem dX2_readText_1 : decode cX2_readText 1 = .ok (.iconst 0, 1) := by decide +kernel
theorem dX2_readText_2 : decode cX2_readText 2 = .ok (.putfield 29, 3) := by decide +kernel
theorem dX2_readText_5 : decode cX2_readText 5 = .ok (.aload_n 0, 1) := by decide +kernel
theorem dX2_readText_6 : decode cX2_readText 6 = .ok (.iconst 0, 1) := by decide +kernel
theorem dX2_readText_7 : decode cX2_readText 7 = .ok (.putfield 32, 3) := by decide +kernel
theorem dX2_readText_10 : decode cX2_readText 10 = .ok (.aload_n 0, 1) := by decide +kernel
theorem dX2_readText_11 : decode cX2_readText 11 = .ok (.iconst 0, 1) := by decide +kernel
theorem dX2_readText_12 : decode cX2_readText 12 = .ok (.putfield 35, 3) := by decide +kernel
theorem dX2_readText_15 : decode cX2_readText 15 = .ok (.aload_n 0, 1) := by decide +kernel
theorem dX2_readText_16 : decode cX2_readText 16 = .ok (.iconst (-1), 1) := by decide +kernel
theorem dX2_readText_17 : decode cX2_readText 17 = .ok (.putfield 21, 3) := by decide +kernel
theorem dX2_readText_20 : decode cX2_readText 20 = .ok (.iconst 0, 1) := by decide +kernel
theorem dX2_readText_21 : decode cX2_readText 21 = .ok (.istore_n 1, 1) := by decide +kernel
theorem dX2_readText_22 : decode cX2_readText 22 = .ok (.iload_n 1, 1) := by decide +kernel
theorem dX2_readText_23 : decode cX2_readText 23 = .ok (.bipush 100, 2) := by decide +kernel
theorem dX2_readText_25 : decode cX2_readText 25 = .ok (.if_icmp .ge 31, 3) := by decide +kernel
theorem dX2_readText_28 : decode cX2_readText 28 = .ok (.aload_n 0, 1) := by decide +kernel
theorem dX2_readText_29 : decode cX2_readText 29 = .ok (.getfield 29, 3) := by decide +kernel
theorem dX2_readText_32 : decode cX2_readText 32 = .ok (.aload_n 0, 1) := by decide +kernel
theorem dX2_readText_33 : decode cX2_readText 33 = .ok (.getfield 38, 3) := by decide +kernel
theorem dX2_readText_36 : decode cX2_readText 36 = .ok (.if_icmp .ge 20, 3) := by decide +kernel
theorem dX2_readText_39 : decode cX2_readText 39 = .ok (.aload_n 0, 1) := by decide +kernel
theorem dX2_readText_40 : decode cX2_readText 40 = .ok (.invokevirtual 41, 3) := by decide +kernel
theorem dX2_readText_43 : decode cX2_readText 43 = .ok (.ifCond .ne 13, 3) := by decide +kernel
theorem dX2_readText_46 : decode cX2_readText 46 = .ok (.aload_n 0, 1) := by decide +kernel
theorem dX2_readText_47 : decode cX2_readText 47 = .ok (.invokevirtual 45, 3) := by decide +kernel
theorem dX2_readText_50 : decode cX2_readText 50 = .ok (.iinc 1 1, 3) := by decide +kernel
theorem dX2_readText_53 : decode cX2_readText 53 = .ok (.goto (-31), 3) := by decide +kernel
theorem dX2_readText_56 : decode cX2_readText 56 = .ok (.aload_n 0, 1) := by decide +kernel
theorem dX2_readText_57 : decode cX2_readText 57 = .ok (.getfield 32, 3) := by decide +kernel
theorem dX2_readText_60 : decode cX2_readText 60 = .ok (.ifCond .le 11, 3) := by decide +kernel
theorem dX2_readText_63 : decode cX2_readText 63 = .ok (.aload_n 0, 1) := by decide +kernel
theorem dX2_readText_64 : decode cX2_readText 64 = .ok (.aload_n 0, 1) := by decide +kernel
theorem dX2_readText_65 : decode cX2_readText 65 = .ok (.getfield 29, 3) := by decide +kernel
theorem dX2_readText_68 : decode cX2_readText 68 = .ok (.invokevirtual 48, 3) := by decide +kernel
theorem dX2_readText_71 : decode cX2_readText 71 = .ok (.aload_n 0, 1) := by decide +kernel
theorem dX2_readText_72 : decode cX2_readText 72 = .ok (.invokevirtual 41, 3) := by decide +kernel
theorem dX2_readText_75 : decode cX2_readText 75 = .ok (.ifCond .ne 7, 3) := by decide +kernel
theorem dX2_readText_78 : decode cX2_readText 78 = .ok (.iconst 1, 1) := by decide +kernel
theorem dX2_readText_79 : decode cX2_readText 79 = .ok (.goto 4, 3) := by decide +kernel
theorem dX2_readText_82 : decode cX2_readText 82 = .ok (.iconst 0, 1) := by decide +kernel
theorem dX2_readText_83 : decode cX2_readText 83 = .ok (.ireturn, 1) := by decide +kernel
theorem dX2_readPiece_0 : decode cX2_readPiece 0 = .ok (.aload_n 0, 1) := by decide +kernel
theorem dX2_readPiece_1 : decode cX2_readPiece 1 = .ok (.invokevirtual 52, 3) := by decide +kernel
theorem dX2_readPiece_4 : decode cX2_readPiece 4 = .ok (.bipush 41, 2) := by decide +kernel
theorem dX2_readPiece_6 : decode cX2_readPiece 6 = .ok (.if_icmp .ne 10, 3) := by decide +kernel
theorem dX2_readPiece_9 : decode cX2_readPiece 9 = .ok (.aload_n 0, 1) := by decide +kernel
theorem dX2_readPiece_10 : decode cX2_readPiece 10 = .ok (.invokevirtual 56, 3) := by decide +kernel
theorem dX2_readPiece_13 : decode cX2_readPiece 13 = .ok (.goto 56, 3) := by decide +kernel
theorem dX2_readPiece_16 : decode cX2_readPiece 16 = .ok (.aload_n 0, 1) := by decide +kernel
theorem dX2_readPiece_17 : decode cX2_readPiece 17 = .ok (.invokevirtual 52, 3) := by decide +kernel
theorem dX2_readPiece_20 : decode cX2_readPiece 20 = .ok (.bipush 40, 2) := by decide +kernel
theorem dX2_readPiece_22 : decode cX2_readPiece 22 = .ok (.if_icmp .ne 11, 3) := by decide +kernel
theorem dX2_readPiece_25 : decode cX2_readPiece 25 = .ok (.aload_n 0, 1) := by decide +kernel
theorem dX2_readPiece_26 : decode cX2_readPiece 26 = .ok (.iconst 1, 1) := by decide +kernel
theorem dX2_readPiece_27 : decode cX2_readPiece 27 = .ok (.invokevirtual 59, 3) := by decide +kernel
theorem dX2_readPiece_30 : decode cX2_readPiece 30 = .ok (.goto 39, 3) := by decide +kernel
theorem dX2_readPiece_33 : decode cX2_readPiece 33 = .ok (.aload_n 0, 1) := by decide +kernel
theorem dX2_readPiece_34 : decode cX2_readPiece 34 = .ok (.invokevirtual 52, 3) := by decide +kernel
theorem dX2_readPiece_37 : decode cX2_readPiece 37 = .ok (.invokestatic 62, 3) := by decide +kernel
theorem dX2_readPiece_40 : decode cX2_readPiece 40 = .ok (.ifCond .eq 25, 3) := by decide +kernel
theorem dX2_readPiece_43 : decode cX2_readPiece 43 = .ok (.aload_n 0, 1) := by decide +kernel
theorem dX2_readPiece_44 : decode cX2_readPiece 44 = .ok (.iconst 2, 1) := by decide +kernel
theorem dX2_readPiece_45 : decode cX2_readPiece 45 = .ok (.bipush 9, 2) := by decide +kernel
theorem dX2_readPiece_47 : decode cX2_readPiece 47 = .ok (.invokevirtual 66, 3) := by decide +kernel
theorem dX2_readPiece_50 : decode cX2_readPiece 50 = .ok (.istore_n 1, 1) := by decide +kernel
theorem dX2_readPiece_51 : decode cX2_readPiece 51 = .ok (.aload_n 0, 1) := by decide +kernel
theorem dX2_readPiece_52 : decode cX2_readPiece 52 = .ok (.bipush 42, 2) := by decide +kernel
theorem dX2_readPiece_54 : decode cX2_readPiece 54 = .ok (.invokevirtual 70, 3) := by decide +kernel
theorem dX2_readPiece_57 : decode cX2_readPiece 57 = .ok (.aload_n 0, 1) := by decide +kernel
theorem dX2_readPiece_58 : decode cX2_readPiece 58 = .ok (.iload_n 1, 1) := by decide +kernel
theorem dX2_readPiece_59 : decode cX2_readPiece 59 = .ok (.invokevirtual 59, 3) := by decide +kernel
theorem dX2_readPiece_62 : decode cX2_readPiece 62 = .ok (.goto 7, 3) := by decide +kernel
theorem dX2_readPiece_65 : decode cX2_readPiece 65 = .ok (.aload_n 0, 1) := by decide +kernel
theorem dX2_readPiece_66 : decode cX2_readPiece 66 = .ok (.invokevirtual 74, 3) := by decide +kernel
theorem dX2_readPiece_69 : decode cX2_readPiece 69 = .ok (.return_, 1) := by decide +kernel
theorem dX2_openGroup_0 : decode cX2_openGroup 0 = .ok (.aload_n 0, 1) := by decide +kernel
theorem dX2_openGroup_1 : decode cX2_openGroup 1 = .ok (.getfield 32, 3) := by decide +kernel
theorem dX2_openGroup_4 : decode cX2_openGroup 4 = .ok (.iconst 4, 1) := by decide +kernel
theorem dX2_openGroup_5 : decode cX2_openGroup 5 = .ok (.if_icmp .lt 11, 3) := by decide +kernel
theorem dX2_openGroup_8 : decode cX2_openGroup 8 = .ok (.aload_n 0, 1) := by decide +kernel
theorem dX2_openGroup_9 : decode cX2_openGroup 9 = .ok (.aload_n 0, 1) := by decide +kernel
theorem dX2_openGroup_10 : decode cX2_openGroup 10 = .ok (.getfield 29, 3) := by decide +kernel
theorem dX2_openGroup_13 : decode cX2_openGroup 13 = .ok (.invokevirtual 48, 3) := by decide +kernel
theorem dX2_openGroup_16 : decode cX2_openGroup 16 = .ok (.aload_n 0, 1) := by decide +kernel
theorem dX2_openGroup_17 : decode cX2_openGroup 17 = .ok (.bipush 40, 2) := by decide +kernel
theorem dX2_openGroup_19 : decode cX2_openGroup 19 = .ok (.invokevirtual 70, 3) := by decide +kernel
theorem dX2_openGroup_22 : decode cX2_openGroup 22 = .ok (.aload_n 0, 1) := by decide +kernel
theorem dX2_openGroup_23 : decode cX2_openGroup 23 = .ok (.invokevirtual 41, 3) := by decide +kernel
theorem dX2_openGroup_26 : decode cX2_openGroup 26 = .ok (.ifCond .ne 35, 3) := by decide +kernel
theorem dX2_openGroup_29 : decode cX2_openGroup 29 = .ok (.aload_n 0, 1) := by decide +kernel
theorem dX2_openGroup_30 : decode cX2_openGroup 30 = .ok (.getfield 25, 3) := by decide +kernel
theorem dX2_openGroup_33 : decode cX2_openGroup 33 = .ok (.aload_n 0, 1) := by decide +kernel
theorem dX2_openGroup_34 : decode cX2_openGroup 34 = .ok (.getfield 32, 3) := by decide +kernel
theorem dX2_openGroup_37 : decode cX2_openGroup 37 = .ok (.iconst 1, 1) := by decide +kernel
theorem dX2_openGroup_38 : decode cX2_openGroup 38 = .ok (.iadd, 1) := by decide +kernel
theorem dX2_openGroup_39 : decode cX2_openGroup 39 = .ok (.aload_n 0, 1) := by decide +kernel
theorem dX2_openGroup_40 : decode cX2_openGroup 40 = .ok (.getfield 25, 3) := by decide +kernel
theorem dX2_openGroup_43 : decode cX2_openGroup 43 = .ok (.aload_n 0, 1) := by decide +kernel
theorem dX2_openGroup_44 : decode cX2_openGroup 44 = .ok (.getfield 32, 3) := by decide +kernel
theorem dX2_openGroup_47 : decode cX2_openGroup 47 = .ok (.iaload, 1) := by decide +kernel
theorem dX2_openGroup_48 : decode cX2_openGroup 48 = .ok (.iload_n 1, 1) := by decide +kernel
theorem dX2_openGroup_49 : decode cX2_openGroup 49 = .ok (.imul, 1) := by decide +kernel
theorem dX2_openGroup_50 : decode cX2_openGroup 50 = .ok (.iastore, 1) := by decide +kernel
theorem dX2_openGroup_51 : decode cX2_openGroup 51 = .ok (.aload_n 0, 1) := by decide +kernel
theorem dX2_openGroup_52 : decode cX2_openGroup 52 = .ok (.dup, 1) := by decide +kernel
theorem dX2_openGroup_53 : decode cX2_openGroup 53 = .ok (.getfield 32, 3) := by decide +kernel
theorem dX2_openGroup_56 : decode cX2_openGroup 56 = .ok (.iconst 1, 1) := by decide +kernel
theorem dX2_openGroup_57 : decode cX2_openGroup 57 = .ok (.iadd, 1) := by decide +kernel
theorem dX2_openGroup_58 : decode cX2_openGroup 58 = .ok (.putfield 32, 3) := by decide +kernel
theorem dX2_openGroup_61 : decode cX2_openGroup 61 = .ok (.return_, 1) := by decide +kernel
theorem dX2_closeGroup_0 : decode cX2_closeGroup 0 = .ok (.aload_n 0, 1) := by decide +kernel
theorem dX2_closeGroup_1 : decode cX2_closeGroup 1 = .ok (.getfield 32, 3) := by decide +kernel
theorem dX2_closeGroup_4 : decode cX2_closeGroup 4 = .ok (.ifCond .le 22, 3) := by decide +kernel
theorem dX2_closeGroup_7 : decode cX2_closeGroup 7 = .ok (.aload_n 0, 1) := by decide +kernel
theorem dX2_closeGroup_8 : decode cX2_closeGroup 8 = .ok (.bipush 41, 2) := by decide +kernel
theorem dX2_closeGroup_10 : decode cX2_closeGroup 10 = .ok (.invokevirtual 70, 3) := by decide +kernel
theorem dX2_closeGroup_13 : decode cX2_closeGroup 13 = .ok (.aload_n 0, 1) := by decide +kernel
theorem dX2_closeGroup_14 : decode cX2_closeGroup 14 = .ok (.dup, 1) := by decide +kernel
theorem dX2_closeGroup_15 : decode cX2_closeGroup 15 = .ok (.getfield 32, 3) := by decide +kernel
theorem dX2_closeGroup_18 : decode cX2_closeGroup 18 = .ok (.iconst 1, 1) := by decide +kernel
theorem dX2_closeGroup_19 : decode cX2_closeGroup 19 = .ok (.isub, 1) := by decide +kernel
theorem dX2_closeGroup_20 : decode cX2_closeGroup 20 = .ok (.putfield 32, 3) := by decide +kernel
theorem dX2_closeGroup_23 : decode cX2_closeGroup 23 = .ok (.goto 11, 3) := by decide +kernel
theorem dX2_closeGroup_26 : decode cX2_closeGroup 26 = .ok (.aload_n 0, 1) := by decide +kernel
theorem dX2_closeGroup_27 : decode cX2_closeGroup 27 = .ok (.aload_n 0, 1) := by decide +kernel
theorem dX2_closeGroup_28 : decode cX2_closeGroup 28 = .ok (.getfield 29, 3) := by decide +kernel
theorem dX2_closeGroup_31 : decode cX2_closeGroup 31 = .ok (.invokevirtual 48, 3) := by decide +kernel
theorem dX2_closeGroup_34 : decode cX2_closeGroup 34 = .ok (.return_, 1) := by decide +kernel
theorem dX2_readBids_0 : decode cX2_readBids 0 = .ok (.aload_n 0, 1) := by decide +kernel
theorem dX2_readBids_1 : decode cX2_readBids 1 = .ok (.getfield 29, 3) := by decide +kernel
theorem dX2_readBids_4 : decode cX2_readBids 4 = .ok (.istore_n 1, 1) := by decide +kernel
theorem dX2_readBids_5 : decode cX2_readBids 5 = .ok (.aload_n 0, 1) := by decide +kernel
theorem dX2_readBids_6 : decode cX2_readBids 6 = .ok (.bipush 113, 2) := by decide +kernel
theorem dX2_readBids_8 : decode cX2_readBids 8 = .ok (.invokevirtual 77, 3) := by decide +kernel
theorem dX2_readBids_11 : decode cX2_readBids 11 = .ok (.istore_n 2, 1) := by decide +kernel
theorem dX2_readBids_12 : decode cX2_readBids 12 = .ok (.iload_n 2, 1) := by decide +kernel
theorem dX2_readBids_13 : decode cX2_readBids 13 = .ok (.ifCond .ne 9, 3) := by decide +kernel
theorem dX2_readBids_16 : decode cX2_readBids 16 = .ok (.aload_n 0, 1) := by decide +kernel
theorem dX2_readBids_17 : decode cX2_readBids 17 = .ok (.bipush 110, 2) := by decide +kernel
theorem dX2_readBids_19 : decode cX2_readBids 19 = .ok (.invokevirtual 70, 3) := by decide +kernel
theorem dX2_readBids_22 : decode cX2_readBids 22 = .ok (.aload_n 0, 1) := by decide +kernel
theorem dX2_readBids_23 : decode cX2_readBids 23 = .ok (.invokevirtual 81, 3) := by decide +kernel
theorem dX2_readBids_26 : decode cX2_readBids 26 = .ok (.istore_n 3, 1) := by decide +kernel
theorem dX2_readBids_27 : decode cX2_readBids 27 = .ok (.aload_n 0, 1) := by decide +kernel
theorem dX2_readBids_28 : decode cX2_readBids 28 = .ok (.bipush 58, 2) := by decide +kernel
theorem dX2_readBids_30 : decode cX2_readBids 30 = .ok (.invokevirtual 70, 3) := by decide +kernel
theorem dX2_readBids_33 : decode cX2_readBids 33 = .ok (.aload_n 0, 1) := by decide +kernel
theorem dX2_readBids_34 : decode cX2_readBids 34 = .ok (.iconst 0, 1) := by decide +kernel
theorem dX2_readBids_35 : decode cX2_readBids 35 = .ok (.bipush 23, 2) := by decide +kernel
theorem dX2_readBids_37 : decode cX2_readBids 37 = .ok (.invokevirtual 66, 3) := by decide +kernel
theorem dX2_readBids_40 : decode cX2_readBids 40 = .ok (.istore 4, 2) := by decide +kernel
theorem dX2_readBids_42 : decode cX2_readBids 42 = .ok (.aload_n 0, 1) := by decide +kernel
theorem dX2_readBids_43 : decode cX2_readBids 43 = .ok (.bipush 45, 2) := by decide +kernel
theorem dX2_readBids_45 : decode cX2_readBids 45 = .ok (.invokevirtual 77, 3) := by decide +kernel
theorem dX2_readBids_48 : decode cX2_readBids 48 = .ok (.ifCond .eq 14, 3) := by decide +kernel
theorem dX2_readBids_51 : decode cX2_readBids 51 = .ok (.aload_n 0, 1) := by decide +kernel
theorem dX2_readBids_52 : decode cX2_readBids 52 = .ok (.iload 4, 2) := by decide +kernel
theorem dX2_readBids_54 : decode cX2_readBids 54 = .ok (.bipush 23, 2) := by decide +kernel
theorem dX2_readBids_56 : decode cX2_readBids 56 = .ok (.invokevirtual 66, 3) := by decide +kernel
theorem dX2_readBids_59 : decode cX2_readBids 59 = .ok (.goto 5, 3) := by decide +kernel
theorem dX2_readBids_62 : decode cX2_readBids 62 = .ok (.iload 4, 2) := by decide +kernel
theorem dX2_readBids_64 : decode cX2_readBids 64 = .ok (.istore 5, 2) := by decide +kernel
theorem dX2_readBids_66 : decode cX2_readBids 66 = .ok (.aload_n 0, 1) := by decide +kernel
theorem dX2_readBids_67 : decode cX2_readBids 67 = .ok (.bipush 61, 2) := by decide +kernel
theorem dX2_readBids_69 : decode cX2_readBids 69 = .ok (.invokevirtual 70, 3) := by decide +kernel
theorem dX2_readBids_72 : decode cX2_readBids 72 = .ok (.aload_n 0, 1) := by decide +kernel
theorem dX2_readBids_73 : decode cX2_readBids 73 = .ok (.iconst 1, 1) := by decide +kernel
theorem dX2_readBids_74 : decode cX2_readBids 74 = .ok (.sipush 999, 3) := by decide +kernel
theorem dX2_readBids_77 : decode cX2_readBids 77 = .ok (.invokevirtual 66, 3) := by decide +kernel
theorem dX2_readBids_80 : decode cX2_readBids 80 = .ok (.istore 6, 2) := by decide +kernel
theorem dX2_readBids_82 : decode cX2_readBids 82 = .ok (.aload_n 0, 1) := by decide +kernel
theorem dX2_readBids_83 : decode cX2_readBids 83 = .ok (.bipush 59, 2) := by decide +kernel
theorem dX2_readBids_85 : decode cX2_readBids 85 = .ok (.invokevirtual 70, 3) := by decide +kernel
theorem dX2_readBids_88 : decode cX2_readBids 88 = .ok (.aload_n 0, 1) := by decide +kernel
theorem dX2_readBids_89 : decode cX2_readBids 89 = .ok (.invokevirtual 41, 3) := by decide +kernel
theorem dX2_readBids_92 : decode cX2_readBids 92 = .ok (.ifCond .ne 99, 3) := by decide +kernel
theorem dX2_readBids_95 : decode cX2_readBids 95 = .ok (.aload_n 0, 1) := by decide +kernel
theorem dX2_readBids_96 : decode cX2_readBids 96 = .ok (.getfield 35, 3) := by decide +kernel
theorem dX2_readBids_99 : decode cX2_readBids 99 = .ok (.bipush 14, 2) := by decide +kernel
theorem dX2_readBids_101 : decode cX2_readBids 101 = .ok (.if_icmp .ge 90, 3) := by decide +kernel
theorem dX2_readBids_104 : decode cX2_readBids 104 = .ok (.aload_n 0, 1) := by decide +kernel
theorem dX2_readBids_105 : decode cX2_readBids 105 = .ok (.getfield 17, 3) := by decide +kernel
theorem dX2_readBids_108 : decode cX2_readBids 108 = .ok (.aload_n 0, 1) := by decide +kernel
theorem dX2_readBids_109 : decode cX2_readBids 109 = .ok (.getfield 35, 3) := by decide +kernel
theorem dX2_readBids_112 : decode cX2_readBids 112 = .ok (.aaload, 1) := by decide +kernel
theorem dX2_readBids_113 : decode cX2_readBids 113 = .ok (.astore 7, 2) := by decide +kernel
theorem dX2_readBids_115 : decode cX2_readBids 115 = .ok (.aload 7, 2) := by decide +kernel
theorem dX2_readBids_117 : decode cX2_readBids 117 = .ok (.iload_n 1, 1) := by decide +kernel
theorem dX2_readBids_118 : decode cX2_readBids 118 = .ok (.putfield 84, 3) := by decide +kernel
theorem dX2_readBids_121 : decode cX2_readBids 121 = .ok (.aload 7, 2) := by decide +kernel
theorem dX2_readBids_123 : decode cX2_readBids 123 = .ok (.aload_n 0, 1) := by decide +kernel
theorem dX2_readBids_124 : decode cX2_readBids 124 = .ok (.getfield 32, 3) := by decide +kernel
theorem dX2_readBids_127 : decode cX2_readBids 127 = .ok (.putfield 87, 3) := by decide +kernel
theorem dX2_readBids_130 : decode cX2_readBids 130 = .ok (.aload 7, 2) := by decide +kernel
theorem dX2_readBids_132 : decode cX2_readBids 132 = .ok (.iload_n 2, 1) := by decide +kernel
theorem dX2_readBids_133 : decode cX2_readBids 133 = .ok (.ifCond .eq 7, 3) := by decide +kernel
theorem dX2_readBids_136 : decode cX2_readBids 136 = .ok (.iconst 0, 1) := by decide +kernel
theorem dX2_readBids_137 : decode cX2_readBids 137 = .ok (.goto 4, 3) := by decide +kernel
theorem dX2_readBids_140 : decode cX2_readBids 140 = .ok (.iconst 1, 1) := by decide +kernel
theorem dX2_readBids_141 : decode cX2_readBids 141 = .ok (.putfield 88, 3) := by decide +kernel
theorem dX2_readBids_144 : decode cX2_readBids 144 = .ok (.aload 7, 2) := by decide +kernel
theorem dX2_readBids_146 : decode cX2_readBids 146 = .ok (.iload_n 3, 1) := by decide +kernel
theorem dX2_readBids_147 : decode cX2_readBids 147 = .ok (.putfield 91, 3) := by decide +kernel
theorem dX2_readBids_150 : decode cX2_readBids 150 = .ok (.aload 7, 2) := by decide +kernel
theorem dX2_readBids_152 : decode cX2_readBids 152 = .ok (.iload 4, 2) := by decide +kernel
theorem dX2_readBids_154 : decode cX2_readBids 154 = .ok (.putfield 94, 3) := by decide +kernel
theorem dX2_readBids_157 : decode cX2_readBids 157 = .ok (.aload 7, 2) := by decide +kernel
theorem dX2_readBids_159 : decode cX2_readBids 159 = .ok (.iload 5, 2) := by decide +kernel
theorem dX2_readBids_161 : decode cX2_readBids 161 = .ok (.putfield 97, 3) := by decide +kernel
theorem dX2_readBids_164 : decode cX2_readBids 164 = .ok (.aload 7, 2) := by decide +kernel
theorem dX2_readBids_166 : decode cX2_readBids 166 = .ok (.iload 6, 2) := by decide +kernel
theorem dX2_readBids_168 : decode cX2_readBids 168 = .ok (.aload_n 0, 1) := by decide +kernel
theorem dX2_readBids_169 : decode cX2_readBids 169 = .ok (.getfield 25, 3) := by decide +kernel
theorem dX2_readBids_172 : decode cX2_readBids 172 = .ok (.aload_n 0, 1) := by decide +kernel
theorem dX2_readBids_173 : decode cX2_readBids 173 = .ok (.getfield 32, 3) := by decide +kernel
theorem dX2_readBids_176 : decode cX2_readBids 176 = .ok (.iaload, 1) := by decide +kernel
theorem dX2_readBids_177 : decode cX2_readBids 177 = .ok (.imul, 1) := by decide +kernel
theorem dX2_readBids_178 : decode cX2_readBids 178 = .ok (.putfield 100, 3) := by decide +kernel
theorem dX2_readBids_181 : decode cX2_readBids 181 = .ok (.aload_n 0, 1) := by decide +kernel
theorem dX2_readBids_182 : decode cX2_readBids 182 = .ok (.dup, 1) := by decide +kernel
theorem dX2_readBids_183 : decode cX2_readBids 183 = .ok (.getfield 35, 3) := by decide +kernel
theorem dX2_readBids_186 : decode cX2_readBids 186 = .ok (.iconst 1, 1) := by decide +kernel
theorem dX2_readBids_187 : decode cX2_readBids 187 = .ok (.iadd, 1) := by decide +kernel
theorem dX2_readBids_188 : decode cX2_readBids 188 = .ok (.putfield 35, 3) := by decide +kernel
theorem dX2_readBids_191 : decode cX2_readBids 191 = .ok (.return_, 1) := by decide +kernel
theorem dX2_takeStreet_0 : decode cX2_takeStreet 0 = .ok (.aload_n 0, 1) := by decide +kernel
theorem dX2_takeStreet_1 : decode cX2_takeStreet 1 = .ok (.invokevirtual 52, 3) := by decide +kernel
theorem dX2_takeStreet_4 : decode cX2_takeStreet 4 = .ok (.bipush 48, 2) := by decide +kernel
theorem dX2_takeStreet_6 : decode cX2_takeStreet 6 = .ok (.isub, 1) := by decide +kernel
theorem dX2_takeStreet_7 : decode cX2_takeStreet 7 = .ok (.istore_n 1, 1) := by decide +kernel
theorem dX2_takeStreet_8 : decode cX2_takeStreet 8 = .ok (.iload_n 1, 1) := by decide +kernel
theorem dX2_takeStreet_9 : decode cX2_takeStreet 9 = .ok (.invokestatic 103, 3) := by decide +kernel
theorem dX2_takeStreet_12 : decode cX2_takeStreet 12 = .ok (.ifCond .ne 11, 3) := by decide +kernel
theorem dX2_takeStreet_15 : decode cX2_takeStreet 15 = .ok (.aload_n 0, 1) := by decide +kernel
theorem dX2_takeStreet_16 : decode cX2_takeStreet 16 = .ok (.aload_n 0, 1) := by decide +kernel
theorem dX2_takeStreet_17 : decode cX2_takeStreet 17 = .ok (.getfield 29, 3) := by decide +kernel
theorem dX2_takeStreet_20 : decode cX2_takeStreet 20 = .ok (.invokevirtual 48, 3) := by decide +kernel
theorem dX2_takeStreet_23 : decode cX2_takeStreet 23 = .ok (.aload_n 0, 1) := by decide +kernel
theorem dX2_takeStreet_24 : decode cX2_takeStreet 24 = .ok (.invokevirtual 106, 3) := by decide +kernel
theorem dX2_takeStreet_27 : decode cX2_takeStreet 27 = .ok (.iload_n 1, 1) := by decide +kernel
theorem dX2_takeStreet_28 : decode cX2_takeStreet 28 = .ok (.ireturn, 1) := by decide +kernel
theorem dX2_takeNumber_0 : decode cX2_takeNumber 0 = .ok (.aload_n 0, 1) := by decide +kernel
theorem dX2_takeNumber_1 : decode cX2_takeNumber 1 = .ok (.getfield 29, 3) := by decide +kernel
theorem dX2_takeNumber_4 : decode cX2_takeNumber 4 = .ok (.istore_n 3, 1) := by decide +kernel
theorem dX2_takeNumber_5 : decode cX2_takeNumber 5 = .ok (.iconst 0, 1) := by decide +kernel
theorem dX2_takeNumber_6 : decode cX2_takeNumber 6 = .ok (.istore 4, 2) := by decide +kernel
theorem dX2_takeNumber_8 : decode cX2_takeNumber 8 = .ok (.iconst 1, 1) := by decide +kernel
theorem dX2_takeNumber_9 : decode cX2_takeNumber 9 = .ok (.istore 5, 2) := by decide +kernel
theorem dX2_takeNumber_11 : decode cX2_takeNumber 11 = .ok (.iconst 0, 1) := by decide +kernel
theorem dX2_takeNumber_12 : decode cX2_takeNumber 12 = .ok (.istore 6, 2) := by decide +kernel
theorem dX2_takeNumber_14 : decode cX2_takeNumber 14 = .ok (.iload 6, 2) := by decide +kernel
theorem dX2_takeNumber_16 : decode cX2_takeNumber 16 = .ok (.iconst 3, 1) := by decide +kernel
theorem dX2_takeNumber_17 : decode cX2_takeNumber 17 = .ok (.if_icmp .ge 55, 3) := by decide +kernel
theorem dX2_takeNumber_20 : decode cX2_takeNumber 20 = .ok (.iload 5, 2) := by decide +kernel
theorem dX2_takeNumber_22 : decode cX2_takeNumber 22 = .ok (.ifCond .eq 50, 3) := by decide +kernel
theorem dX2_takeNumber_25 : decode cX2_takeNumber 25 = .ok (.aload_n 0, 1) := by decide +kernel
theorem dX2_takeNumber_26 : decode cX2_takeNumber 26 = .ok (.invokevirtual 52, 3) := by decide +kernel
theorem dX2_takeNumber_29 : decode cX2_takeNumber 29 = .ok (.invokestatic 62, 3) := by decide +kernel
theorem dX2_takeNumber_32 : decode cX2_takeNumber 32 = .ok (.ifCond .eq 40, 3) := by decide +kernel
theorem dX2_takeNumber_35 : decode cX2_takeNumber 35 = .ok (.iload 4, 2) := by decide +kernel
theorem dX2_takeNumber_37 : decode cX2_takeNumber 37 = .ok (.bipush 10, 2) := by decide +kernel
theorem dX2_takeNumber_39 : decode cX2_takeNumber 39 = .ok (.imul, 1) := by decide +kernel
theorem dX2_takeNumber_40 : decode cX2_takeNumber 40 = .ok (.aload_n 0, 1) := by decide +kernel
theorem dX2_takeNumber_41 : decode cX2_takeNumber 41 = .ok (.invokevirtual 52, 3) := by decide +kernel
theorem dX2_takeNumber_44 : decode cX2_takeNumber 44 = .ok (.iadd, 1) := by decide +kernel
theorem dX2_takeNumber_45 : decode cX2_takeNumber 45 = .ok (.bipush 48, 2) := by decide +kernel
theorem dX2_takeNumber_47 : decode cX2_takeNumber 47 = .ok (.isub, 1) := by decide +kernel
theorem dX2_takeNumber_48 : decode cX2_takeNumber 48 = .ok (.istore 4, 2) := by decide +kernel
theorem dX2_takeNumber_50 : decode cX2_takeNumber 50 = .ok (.aload_n 0, 1) := by decide +kernel
theorem dX2_takeNumber_51 : decode cX2_takeNumber 51 = .ok (.invokevirtual 106, 3) := by decide +kernel
theorem dX2_takeNumber_54 : decode cX2_takeNumber 54 = .ok (.iload 4, 2) := by decide +kernel
theorem dX2_takeNumber_56 : decode cX2_takeNumber 56 = .ok (.ifCond .le 7, 3) := by decide +kernel
theorem dX2_takeNumber_59 : decode cX2_takeNumber 59 = .ok (.iconst 1, 1) := by decide +kernel
theorem dX2_takeNumber_60 : decode cX2_takeNumber 60 = .ok (.goto 4, 3) := by decide +kernel
theorem dX2_takeNumber_63 : decode cX2_takeNumber 63 = .ok (.iconst 0, 1) := by decide +kernel
theorem dX2_takeNumber_64 : decode cX2_takeNumber 64 = .ok (.istore 5, 2) := by decide +kernel
theorem dX2_takeNumber_66 : decode cX2_takeNumber 66 = .ok (.iinc 6 1, 3) := by decide +kernel
theorem dX2_takeNumber_69 : decode cX2_takeNumber 69 = .ok (.goto (-55), 3) := by decide +kernel
theorem dX2_takeNumber_72 : decode cX2_takeNumber 72 = .ok (.aload_n 0, 1) := by decide +kernel
theorem dX2_takeNumber_73 : decode cX2_takeNumber 73 = .ok (.getfield 29, 3) := by decide +kernel
theorem dX2_takeNumber_76 : decode cX2_takeNumber 76 = .ok (.iload_n 3, 1) := by decide +kernel
theorem dX2_takeNumber_77 : decode cX2_takeNumber 77 = .ok (.if_icmp .ne 7, 3) := by decide +kernel
theorem dX2_takeNumber_80 : decode cX2_takeNumber 80 = .ok (.iconst 1, 1) := by decide +kernel
theorem dX2_takeNumber_81 : decode cX2_takeNumber 81 = .ok (.goto 4, 3) := by decide +kernel
theorem dX2_takeNumber_84 : decode cX2_takeNumber 84 = .ok (.iconst 0, 1) := by decide +kernel
theorem dX2_takeNumber_85 : decode cX2_takeNumber 85 = .ok (.istore 6, 2) := by decide +kernel
theorem dX2_takeNumber_87 : decode cX2_takeNumber 87 = .ok (.aload_n 0, 1) := by decide +kernel
theorem dX2_takeNumber_88 : decode cX2_takeNumber 88 = .ok (.invokevirtual 52, 3) := by decide +kernel
theorem dX2_takeNumber_91 : decode cX2_takeNumber 91 = .ok (.invokestatic 62, 3) := by decide +kernel
theorem dX2_takeNumber_94 : decode cX2_takeNumber 94 = .ok (.istore 7, 2) := by decide +kernel
theorem dX2_takeNumber_96 : decode cX2_takeNumber 96 = .ok (.iload 6, 2) := by decide +kernel
theorem dX2_takeNumber_98 : decode cX2_takeNumber 98 = .ok (.ifCond .ne 8, 3) := by decide +kernel
theorem dX2_takeNumber_101 : decode cX2_takeNumber 101 = .ok (.iload 7, 2) := by decide +kernel
theorem dX2_takeNumber_103 : decode cX2_takeNumber 103 = .ok (.ifCond .eq 11, 3) := by decide +kernel
theorem dX2_takeNumber_106 : decode cX2_takeNumber 106 = .ok (.aload_n 0, 1) := by decide +kernel
theorem dX2_takeNumber_107 : decode cX2_takeNumber 107 = .ok (.aload_n 0, 1) := by decide +kernel
theorem dX2_takeNumber_108 : decode cX2_takeNumber 108 = .ok (.getfield 29, 3) := by decide +kernel
theorem dX2_takeNumber_111 : decode cX2_takeNumber 111 = .ok (.invokevirtual 48, 3) := by decide +kernel
theorem dX2_takeNumber_114 : decode cX2_takeNumber 114 = .ok (.iload 4, 2) := by decide +kernel
theorem dX2_takeNumber_116 : decode cX2_takeNumber 116 = .ok (.iload_n 1, 1) := by decide +kernel
theorem dX2_takeNumber_117 : decode cX2_takeNumber 117 = .ok (.iload_n 2, 1) := by decide +kernel
theorem dX2_takeNumber_118 : decode cX2_takeNumber 118 = .ok (.invokestatic 109, 3) := by decide +kernel
theorem dX2_takeNumber_121 : decode cX2_takeNumber 121 = .ok (.ifCond .ne 8, 3) := by decide +kernel
theorem dX2_takeNumber_124 : decode cX2_takeNumber 124 = .ok (.aload_n 0, 1) := by decide +kernel
theorem dX2_takeNumber_125 : decode cX2_takeNumber 125 = .ok (.iload_n 3, 1) := by decide +kernel
theorem dX2_takeNumber_126 : decode cX2_takeNumber 126 = .ok (.invokevirtual 48, 3) := by decide +kernel
theorem dX2_takeNumber_129 : decode cX2_takeNumber 129 = .ok (.iload 4, 2) := by decide +kernel
theorem dX2_takeNumber_131 : decode cX2_takeNumber 131 = .ok (.ireturn, 1) := by decide +kernel
theorem dX2_take_0 : decode cX2_take 0 = .ok (.aload_n 0, 1) := by decide +kernel
theorem dX2_take_1 : decode cX2_take 1 = .ok (.iload_n 1, 1) := by decide +kernel
theorem dX2_take_2 : decode cX2_take 2 = .ok (.invokevirtual 77, 3) := by decide +kernel
theorem dX2_take_5 : decode cX2_take 5 = .ok (.ifCond .ne 11, 3) := by decide +kernel
theorem dX2_take_8 : decode cX2_take 8 = .ok (.aload_n 0, 1) := by decide +kernel
theorem dX2_take_9 : decode cX2_take 9 = .ok (.aload_n 0, 1) := by decide +kernel
theorem dX2_take_10 : decode cX2_take 10 = .ok (.getfield 29, 3) := by decide +kernel
theorem dX2_take_13 : decode cX2_take 13 = .ok (.invokevirtual 48, 3) := by decide +kernel
theorem dX2_take_16 : decode cX2_take 16 = .ok (.return_, 1) := by decide +kernel
theorem dX2_takeIf_0 : decode cX2_takeIf 0 = .ok (.aload_n 0, 1) := by decide +kernel
theorem dX2_takeIf_1 : decode cX2_takeIf 1 = .ok (.invokevirtual 41, 3) := by decide +kernel
theorem dX2_takeIf_4 : decode cX2_takeIf 4 = .ok (.ifCond .ne 15, 3) := by decide +kernel
theorem dX2_takeIf_7 : decode cX2_takeIf 7 = .ok (.aload_n 0, 1) := by decide +kernel
theorem dX2_takeIf_8 : decode cX2_takeIf 8 = .ok (.invokevirtual 52, 3) := by decide +kernel
theorem dX2_takeIf_11 : decode cX2_takeIf 11 = .ok (.iload_n 1, 1) := by decide +kernel
theorem dX2_takeIf_12 : decode cX2_takeIf 12 = .ok (.if_icmp .ne 7, 3) := by decide +kernel
theorem dX2_takeIf_15 : decode cX2_takeIf 15 = .ok (.iconst 1, 1) := by decide +kernel
theorem dX2_takeIf_16 : decode cX2_takeIf 16 = .ok (.goto 4, 3) := by decide +kernel
theorem dX2_takeIf_19 : decode cX2_takeIf 19 = .ok (.iconst 0, 1) := by decide +kernel
theorem dX2_takeIf_20 : decode cX2_takeIf 20 = .ok (.istore_n 2, 1) := by decide +kernel
theorem dX2_takeIf_21 : decode cX2_takeIf 21 = .ok (.iload_n 2, 1) := by decide +kernel
theorem dX2_takeIf_22 : decode cX2_takeIf 22 = .ok (.ifCond .eq 13, 3) := by decide +kernel
theorem dX2_takeIf_25 : decode cX2_takeIf 25 = .ok (.aload_n 0, 1) := by decide +kernel
theorem dX2_takeIf_26 : decode cX2_takeIf 26 = .ok (.dup, 1) := by decide +kernel
theorem dX2_takeIf_27 : decode cX2_takeIf 27 = .ok (.getfield 29, 3) := by decide +kernel
theorem dX2_takeIf_30 : decode cX2_takeIf 30 = .ok (.iconst 1, 1) := by decide +kernel
theorem dX2_takeIf_31 : decode cX2_takeIf 31 = .ok (.iadd, 1) := by decide +kernel
theorem dX2_takeIf_32 : decode cX2_takeIf 32 = .ok (.putfield 29, 3) := by decide +kernel
theorem dX2_takeIf_35 : decode cX2_takeIf 35 = .ok (.iload_n 2, 1) := by decide +kernel
theorem dX2_takeIf_36 : decode cX2_takeIf 36 = .ok (.ireturn, 1) := by decide +kernel
theorem dX2_skip_0 : decode cX2_skip 0 = .ok (.aload_n 0, 1) := by decide +kernel
theorem dX2_skip_1 : decode cX2_skip 1 = .ok (.invokevirtual 41, 3) := by decide +kernel
theorem dX2_skip_4 : decode cX2_skip 4 = .ok (.ifCond .ne 13, 3) := by decide +kernel
theorem dX2_skip_7 : decode cX2_skip 7 = .ok (.aload_n 0, 1) := by decide +kernel
theorem dX2_skip_8 : decode cX2_skip 8 = .ok (.dup, 1) := by decide +kernel
theorem dX2_skip_9 : decode cX2_skip 9 = .ok (.getfield 29, 3) := by decide +kernel
theorem dX2_skip_12 : decode cX2_skip 12 = .ok (.iconst 1, 1) := by decide +kernel
theorem dX2_skip_13 : decode cX2_skip 13 = .ok (.iadd, 1) := by decide +kernel
theorem dX2_skip_14 : decode cX2_skip 14 = .ok (.putfield 29, 3) := by decide +kernel
theorem dX2_skip_17 : decode cX2_skip 17 = .ok (.return_, 1) := by decide +kernel
theorem dX2_sign_0 : decode cX2_sign 0 = .ok (.aload_n 0, 1) := by decide +kernel
theorem dX2_sign_1 : decode cX2_sign 1 = .ok (.getfield 29, 3) := by decide +kernel
theorem dX2_sign_4 : decode cX2_sign 4 = .ok (.aload_n 0, 1) := by decide +kernel
theorem dX2_sign_5 : decode cX2_sign 5 = .ok (.getfield 38, 3) := by decide +kernel
theorem dX2_sign_8 : decode cX2_sign 8 = .ok (.if_icmp .ge 15, 3) := by decide +kernel
theorem dX2_sign_11 : decode cX2_sign 11 = .ok (.aload_n 0, 1) := by decide +kernel
theorem dX2_sign_12 : decode cX2_sign 12 = .ok (.getfield 9, 3) := by decide +kernel
theorem dX2_sign_15 : decode cX2_sign 15 = .ok (.aload_n 0, 1) := by decide +kernel
theorem dX2_sign_16 : decode cX2_sign 16 = .ok (.getfield 29, 3) := by decide +kernel
theorem dX2_sign_19 : decode cX2_sign 19 = .ok (.iaload, 1) := by decide +kernel
theorem dX2_sign_20 : decode cX2_sign 20 = .ok (.goto 4, 3) := by decide +kernel
theorem dX2_sign_23 : decode cX2_sign 23 = .ok (.iconst 0, 1) := by decide +kernel
theorem dX2_sign_24 : decode cX2_sign 24 = .ok (.ireturn, 1) := by decide +kernel
theorem dX2_isDigit_0 : decode cX2_isDigit 0 = .ok (.iload_n 0, 1) := by decide +kernel
theorem dX2_isDigit_1 : decode cX2_isDigit 1 = .ok (.bipush 48, 2) := by decide +kernel
theorem dX2_isDigit_3 : decode cX2_isDigit 3 = .ok (.bipush 57, 2) := by decide +kernel
theorem dX2_isDigit_5 : decode cX2_isDigit 5 = .ok (.invokestatic 109, 3) := by decide +kernel
theorem dX2_isDigit_8 : decode cX2_isDigit 8 = .ok (.ireturn, 1) := by decide +kernel
theorem dX2_failAt_0 : decode cX2_failAt 0 = .ok (.aload_n 0, 1) := by decide +kernel
theorem dX2_failAt_1 : decode cX2_failAt 1 = .ok (.invokevirtual 41, 3) := by decide +kernel
theorem dX2_failAt_4 : decode cX2_failAt 4 = .ok (.ifCond .ne 8, 3) := by decide +kernel
theorem dX2_failAt_7 : decode cX2_failAt 7 = .ok (.aload_n 0, 1) := by decide +kernel
theorem dX2_failAt_8 : decode cX2_failAt 8 = .ok (.iload_n 1, 1) := by decide +kernel
theorem dX2_failAt_9 : decode cX2_failAt 9 = .ok (.putfield 21, 3) := by decide +kernel
theorem dX2_failAt_12 : decode cX2_failAt 12 = .ok (.return_, 1) := by decide +kernel
theorem dX2_hasFailed_0 : decode cX2_hasFailed 0 = .ok (.aload_n 0, 1) := by decide +kernel
theorem dX2_hasFailed_1 : decode cX2_hasFailed 1 = .ok (.getfield 21, 3) := by decide +kernel
theorem dX2_hasFailed_4 : decode cX2_hasFailed 4 = .ok (.iconst (-1), 1) := by decide +kernel
theorem dX2_hasFailed_5 : decode cX2_hasFailed 5 = .ok (.if_icmp .eq 7, 3) := by decide +kernel
theorem dX2_hasFailed_8 : decode cX2_hasFailed 8 = .ok (.iconst 1, 1) := by decide +kernel
theorem dX2_hasFailed_9 : decode cX2_hasFailed 9 = .ok (.goto 4, 3) := by decide +kernel
theorem dX2_hasFailed_12 : decode cX2_hasFailed 12 = .ok (.iconst 0, 1) := by decide +kernel
theorem dX2_hasFailed_13 : decode cX2_hasFailed 13 = .ok (.ireturn, 1) := by decide +kernel
theorem dX3_init_0 : decode cX3_init 0 = .ok (.aload_n 0, 1) := by decide +kernel
theorem dX3_init_1 : decode cX3_init 1 = .ok (.invokespecial 3, 3) := by decide +kernel
theorem dX3_init_4 : decode cX3_init 4 = .ok (.aload_n 0, 1) := by decide +kernel
theorem dX3_init_5 : decode cX3_init 5 = .ok (.bipush 20, 2) := by decide +kernel
theorem dX3_init_7 : decode cX3_init 7 = .ok (.putfield 9, 3) := by decide +kernel
theorem dX3_init_10 : decode cX3_init 10 = .ok (.aload_n 0, 1) := by decide +kernel
theorem dX3_init_11 : decode cX3_init 11 = .ok (.bipush 12, 2) := by decide +kernel
theorem dX3_init_13 : decode cX3_init 13 = .ok (.newarray .int, 2) := by decide +kernel
theorem dX3_init_15 : decode cX3_init 15 = .ok (.putfield 15, 3) := by decide +kernel
theorem dX3_init_18 : decode cX3_init 18 = .ok (.aload_n 0, 1) := by decide +kernel
theorem dX3_init_19 : decode cX3_init 19 = .ok (.bipush 12, 2) := by decide +kernel
theorem dX3_init_21 : decode cX3_init 21 = .ok (.newarray .int, 2) := by decide +kernel
theorem dX3_init_23 : decode cX3_init 23 = .ok (.putfield 19, 3) := by decide +kernel
theorem dX3_init_26 : decode cX3_init 26 = .ok (.aload_n 0, 1) := by decide +kernel
theorem dX3_init_27 : decode cX3_init 27 = .ok (.bipush 12, 2) := by decide +kernel
theorem dX3_init_29 : decode cX3_init 29 = .ok (.newarray .int, 2) := by decide +kernel
theorem dX3_init_31 : decode cX3_init 31 = .ok (.putfield 22, 3) := by decide +kernel
theorem dX3_init_34 : decode cX3_init 34 = .ok (.aload_n 0, 1) := by decide +kernel
theorem dX3_init_35 : decode cX3_init 35 = .ok (.bipush 12, 2) := by decide +kernel
theorem dX3_init_37 : decode cX3_init 37 = .ok (.newarray .int, 2) := by decide +kernel
theorem dX3_init_39 : decode cX3_init 39 = .ok (.putfield 25, 3) := by decide +kernel
theorem dX3_init_42 : decode cX3_init 42 = .ok (.aload_n 0, 1) := by decide +kernel
theorem dX3_init_43 : decode cX3_init 43 = .ok (.bipush 12, 2) := by decide +kernel
theorem dX3_init_45 : decode cX3_init 45 = .ok (.newarray .int, 2) := by decide +kernel
theorem dX3_init_47 : decode cX3_init 47 = .ok (.putfield 28, 3) := by decide +kernel
theorem dX3_init_50 : decode cX3_init 50 = .ok (.aload_n 0, 1) := by decide +kernel
theorem dX3_init_51 : decode cX3_init 51 = .ok (.bipush 12, 2) := by decide +kernel
theorem dX3_init_53 : decode cX3_init 53 = .ok (.newarray .int, 2) := by decide +kernel
theorem dX3_init_55 : decode cX3_init 55 = .ok (.putfield 31, 3) := by decide +kernel
theorem dX3_init_58 : decode cX3_init 58 = .ok (.aload_n 0, 1) := by decide +kernel
theorem dX3_init_59 : decode cX3_init 59 = .ok (.bipush 12, 2) := by decide +kernel
theorem dX3_init_61 : decode cX3_init 61 = .ok (.newarray .int, 2) := by decide +kernel
theorem dX3_init_63 : decode cX3_init 63 = .ok (.putfield 34, 3) := by decide +kernel
theorem dX3_init_66 : decode cX3_init 66 = .ok (.aload_n 0, 1) := by decide +kernel
theorem dX3_init_67 : decode cX3_init 67 = .ok (.bipush 12, 2) := by decide +kernel
theorem dX3_init_69 : decode cX3_init 69 = .ok (.newarray .int, 2) := by decide +kernel
theorem dX3_init_71 : decode cX3_init 71 = .ok (.putfield 37, 3) := by decide +kernel
theorem dX3_init_74 : decode cX3_init 74 = .ok (.aload_n 0, 1) := by decide +kernel
theorem dX3_init_75 : decode cX3_init 75 = .ok (.sipush 1152, 3) := by decide +kernel
theorem dX3_init_78 : decode cX3_init 78 = .ok (.newarray .int, 2) := by decide +kernel
theorem dX3_init_80 : decode cX3_init 80 = .ok (.putfield 40, 3) := by decide +kernel
theorem dX3_init_83 : decode cX3_init 83 = .ok (.aload_n 0, 1) := by decide +kernel
theorem dX3_init_84 : decode cX3_init 84 = .ok (.bipush 96, 2) := by decide +kernel
theorem dX3_init_86 : decode cX3_init 86 = .ok (.newarray .int, 2) := by decide +kernel
theorem dX3_init_88 : decode cX3_init 88 = .ok (.putfield 43, 3) := by decide +kernel
theorem dX3_init_91 : decode cX3_init 91 = .ok (.aload_n 0, 1) := by decide +kernel
theorem dX3_init_92 : decode cX3_init 92 = .ok (.bipush 96, 2) := by decide +kernel
theorem dX3_init_94 : decode cX3_init 94 = .ok (.newarray .int, 2) := by decide +kernel
theorem dX3_init_96 : decode cX3_init 96 = .ok (.putfield 46, 3) := by decide +kernel
theorem dX3_init_99 : decode cX3_init 99 = .ok (.aload_n 0, 1) := by decide +kernel
theorem dX3_init_100 : decode cX3_init 100 = .ok (.bipush 96, 2) := by decide +kernel
theorem dX3_init_102 : decode cX3_init 102 = .ok (.newarray .int, 2) := by decide +kernel
theorem dX3_init_104 : decode cX3_init 104 = .ok (.putfield 49, 3) := by decide +kernel
theorem dX3_init_107 : decode cX3_init 107 = .ok (.aload_n 0, 1) := by decide +kernel
theorem dX3_init_108 : decode cX3_init 108 = .ok (.bipush 96, 2) := by decide +kernel
theorem dX3_init_110 : decode cX3_init 110 = .ok (.newarray .int, 2) := by decide +kernel
theorem dX3_init_112 : decode cX3_init 112 = .ok (.putfield 52, 3) := by decide +kernel
theorem dX3_init_115 : decode cX3_init 115 = .ok (.aload_n 0, 1) := by decide +kernel
theorem dX3_init_116 : decode cX3_init 116 = .ok (.bipush 96, 2) := by decide +kernel
theorem dX3_init_118 : decode cX3_init 118 = .ok (.newarray .int, 2) := by decide +kernel
theorem dX3_init_120 : decode cX3_init 120 = .ok (.putfield 55, 3) := by decide +kernel
theorem dX3_init_123 : decode cX3_init 123 = .ok (.aload_n 0, 1) := by decide +kernel
theorem dX3_init_124 : decode cX3_init 124 = .ok (.iconst 4, 1) := by decide +kernel
theorem dX3_init_125 : decode cX3_init 125 = .ok (.newarray .int, 2) := by decide +kernel
theorem dX3_init_127 : decode cX3_init 127 = .ok (.putfield 58, 3) := by decide +kernel
theorem dX3_init_130 : decode cX3_init 130 = .ok (.return_, 1) := by decide +kernel
theorem dX3_copyFrom_0 : decode cX3_copyFrom 0 = .ok (.aload_n 0, 1) := by decide +kernel
theorem dX3_copyFrom_1 : decode cX3_copyFrom 1 = .ok (.aload_n 1, 1) := by decide +kernel
theorem dX3_copyFrom_2 : decode cX3_copyFrom 2 = .ok (.getfield 61, 3) := by decide +kernel
theorem dX3_copyFrom_5 : decode cX3_copyFrom 5 = .ok (.putfield 61, 3) := by decide +kernel
theorem dX3_copyFrom_8 : decode cX3_copyFrom 8 = .ok (.aload_n 0, 1) := by decide +kernel
theorem dX3_copyFrom_9 : decode cX3_copyFrom 9 = .ok (.aload_n 1, 1) := by decide +kernel
theorem dX3_copyFrom_10 : decode cX3_copyFrom 10 = .ok (.getfield 9, 3) := by decide +kernel
theorem dX3_copyFrom_13 : decode cX3_copyFrom 13 = .ok (.putfield 9, 3) := by decide +kernel
theorem dX3_copyFrom_16 : decode cX3_copyFrom 16 = .ok (.aload_n 0, 1) := by decide +kernel
theorem dX3_copyFrom_17 : decode cX3_copyFrom 17 = .ok (.aload_n 1, 1) := by decide +kernel
theorem dX3_copyFrom_18 : decode cX3_copyFrom 18 = .ok (.getfield 64, 3) := by decide +kernel
theorem dX3_copyFrom_21 : decode cX3_copyFrom 21 = .ok (.putfield 64, 3) := by decide +kernel
theorem dX3_copyFrom_24 : decode cX3_copyFrom 24 = .ok (.aload_n 0, 1) := by decide +kernel
theorem dX3_copyFrom_25 : decode cX3_copyFrom 25 = .ok (.aload_n 1, 1) := by decide +kernel
theorem dX3_copyFrom_26 : decode cX3_copyFrom 26 = .ok (.getfield 67, 3) := by decide +kernel
theorem dX3_copyFrom_29 : decode cX3_copyFrom 29 = .ok (.putfield 67, 3) := by decide +kernel
theorem dX3_copyFrom_32 : decode cX3_copyFrom 32 = .ok (.aload_n 1, 1) := by decide +kernel
theorem dX3_copyFrom_33 : decode cX3_copyFrom 33 = .ok (.getfield 15, 3) := by decide +kernel
theorem dX3_copyFrom_36 : decode cX3_copyFrom 36 = .ok (.iconst 0, 1) := by decide +kernel
theorem dX3_copyFrom_37 : decode cX3_copyFrom 37 = .ok (.aload_n 0, 1) := by decide +kernel
theorem dX3_copyFrom_38 : decode cX3_copyFrom 38 = .ok (.getfield 15, 3) := by decide +kernel
theorem dX3_copyFrom_41 : decode cX3_copyFrom 41 = .ok (.iconst 0, 1) := by decide +kernel
theorem dX3_copyFrom_42 : decode cX3_copyFrom 42 = .ok (.bipush 12, 2) := by decide +kernel
theorem dX3_copyFrom_44 : decode cX3_copyFrom 44 = .ok (.invokestatic 70, 3) := by decide +kernel
theorem dX3_copyFrom_47 : decode cX3_copyFrom 47 = .ok (.aload_n 1, 1) := by decide +kernel
theorem dX3_copyFrom_48 : decode cX3_copyFrom 48 = .ok (.getfield 19, 3) := by decide +kernel
theorem dX3_copyFrom_51 : decode cX3_copyFrom 51 = .ok (.iconst 0, 1) := by decide +kernel
theorem dX3_copyFrom_52 : decode cX3_copyFrom 52 = .ok (.aload_n 0, 1) := by decide +kernel
theorem dX3_copyFrom_53 : decode cX3_copyFrom 53 = .ok (.getfield 19, 3) := by decide +kernel
theorem dX3_copyFrom_56 : decode cX3_copyFrom 56 = .ok (.iconst 0, 1) := by decide +kernel
theorem dX3_copyFrom_57 : decode cX3_copyFrom 57 = .ok (.bipush 12, 2) := by decide +kernel
theorem dX3_copyFrom_59 : decode cX3_copyFrom 59 = .ok (.invokestatic 70, 3) := by decide +kernel
theorem dX3_copyFrom_62 : decode cX3_copyFrom 62 = .ok (.aload_n 1, 1) := by decide +kernel
theorem dX3_copyFrom_63 : decode cX3_copyFrom 63 = .ok (.getfield 22, 3) := by decide +kernel
theorem dX3_copyFrom_66 : decode cX3_copyFrom 66 = .ok (.iconst 0, 1) := by decide +kernel
theorem dX3_copyFrom_67 : decode cX3_copyFrom 67 = .ok (.aload_n 0, 1) := by decide +kernel
theorem dX3_copyFrom_68 : decode cX3_copyFrom 68 = .ok (.getfield 22, 3) := by decide +kernel
theorem dX3_copyFrom_71 : decode cX3_copyFrom 71 = .ok (.iconst 0, 1) := by decide +kernel
theorem dX3_copyFrom_72 : decode cX3_copyFrom 72 = .ok (.bipush 12, 2) := by decide +kernel
theorem dX3_copyFrom_74 : decode cX3_copyFrom 74 = .ok (.invokestatic 70, 3) := by decide +kernel
theorem dX3_copyFrom_77 : decode cX3_copyFrom 77 = .ok (.aload_n 1, 1) := by decide +kernel
theorem dX3_copyFrom_78 : decode cX3_copyFrom 78 = .ok (.getfield 25, 3) := by decide +kernel
theorem dX3_copyFrom_81 : decode cX3_copyFrom 81 = .ok (.iconst 0, 1) := by decide +kernel
theorem dX3_copyFrom_82 : decode cX3_copyFrom 82 = .ok (.aload_n 0, 1) := by decide +kernel
theorem dX3_copyFrom_83 : decode cX3_copyFrom 83 = .ok (.getfield 25, 3) := by decide +kernel
theorem dX3_copyFrom_86 : decode cX3_copyFrom 86 = .ok (.iconst 0, 1) := by decide +kernel
theorem dX3_copyFrom_87 : decode cX3_copyFrom 87 = .ok (.bipush 12, 2) := by decide +kernel
theorem dX3_copyFrom_89 : decode cX3_copyFrom 89 = .ok (.invokestatic 70, 3) := by decide +kernel
theorem dX3_copyFrom_92 : decode cX3_copyFrom 92 = .ok (.aload_n 1, 1) := by decide +kernel
theorem dX3_copyFrom_93 : decode cX3_copyFrom 93 = .ok (.getfield 28, 3) := by decide +kernel
theorem dX3_copyFrom_96 : decode cX3_copyFrom 96 = .ok (.iconst 0, 1) := by decide +kernel
theorem dX3_copyFrom_97 : decode cX3_copyFrom 97 = .ok (.aload_n 0, 1) := by decide +kernel
theorem dX3_copyFrom_98 : decode cX3_copyFrom 98 = .ok (.getfield 28, 3) := by decide +kernel
theorem dX3_copyFrom_101 : decode cX3_copyFrom 101 = .ok (.iconst 0, 1) := by decide +kernel
theorem dX3_copyFrom_102 : decode cX3_copyFrom 102 = .ok (.bipush 12, 2) := by decide +kernel
theorem dX3_copyFrom_104 : decode cX3_copyFrom 104 = .ok (.invokestatic 70, 3) := by decide +kernel
theorem dX3_copyFrom_107 : decode cX3_copyFrom 107 = .ok (.aload_n 1, 1) := by decide +kernel
theorem dX3_copyFrom_108 : decode cX3_copyFrom 108 = .ok (.getfield 31, 3) := by decide +kernel
theorem dX3_copyFrom_111 : decode cX3_copyFrom 111 = .ok (.iconst 0, 1) := by decide +kernel
theorem dX3_copyFrom_112 : decode cX3_copyFrom 112 = .ok (.aload_n 0, 1) := by decide +kernel
theorem dX3_copyFrom_113 : decode cX3_copyFrom 113 = .ok (.getfield 31, 3) := by decide +kernel
theorem dX3_copyFrom_116 : decode cX3_copyFrom 116 = .ok (.iconst 0, 1) := by decide +kernel
theorem dX3_copyFrom_117 : decode cX3_copyFrom 117 = .ok (.bipush 12, 2) := by decide +kernel
theorem dX3_copyFrom_119 : decode cX3_copyFrom 119 = .ok (.invokestatic 70, 3) := by decide +kernel
theorem dX3_copyFrom_122 : decode cX3_copyFrom 122 = .ok (.aload_n 1, 1) := by decide +kernel
theorem dX3_copyFrom_123 : decode cX3_copyFrom 123 = .ok (.getfield 34, 3) := by decide +kernel
theorem dX3_copyFrom_126 : decode cX3_copyFrom 126 = .ok (.iconst 0, 1) := by decide +kernel
theorem dX3_copyFrom_127 : decode cX3_copyFrom 127 = .ok (.aload_n 0, 1) := by decide +kernel
theorem dX3_copyFrom_128 : decode cX3_copyFrom 128 = .ok (.getfield 34, 3) := by decide +kernel
theorem dX3_copyFrom_131 : decode cX3_copyFrom 131 = .ok (.iconst 0, 1) := by decide +kernel
theorem dX3_copyFrom_132 : decode cX3_copyFrom 132 = .ok (.bipush 12, 2) := by decide +kernel
theorem dX3_copyFrom_134 : decode cX3_copyFrom 134 = .ok (.invokestatic 70, 3) := by decide +kernel
theorem dX3_copyFrom_137 : decode cX3_copyFrom 137 = .ok (.aload_n 1, 1) := by decide +kernel
theorem dX3_copyFrom_138 : decode cX3_copyFrom 138 = .ok (.getfield 37, 3) := by decide +kernel
theorem dX3_copyFrom_141 : decode cX3_copyFrom 141 = .ok (.iconst 0, 1) := by decide +kernel
theorem dX3_copyFrom_142 : decode cX3_copyFrom 142 = .ok (.aload_n 0, 1) := by decide +kernel
theorem dX3_copyFrom_143 : decode cX3_copyFrom 143 = .ok (.getfield 37, 3) := by decide +kernel
theorem dX3_copyFrom_146 : decode cX3_copyFrom 146 = .ok (.iconst 0, 1) := by decide +kernel
theorem dX3_copyFrom_147 : decode cX3_copyFrom 147 = .ok (.bipush 12, 2) := by decide +kernel
theorem dX3_copyFrom_149 : decode cX3_copyFrom 149 = .ok (.invokestatic 70, 3) := by decide +kernel
theorem dX3_copyFrom_152 : decode cX3_copyFrom 152 = .ok (.aload_n 1, 1) := by decide +kernel
theorem dX3_copyFrom_153 : decode cX3_copyFrom 153 = .ok (.getfield 40, 3) := by decide +kernel
theorem dX3_copyFrom_156 : decode cX3_copyFrom 156 = .ok (.iconst 0, 1) := by decide +kernel
theorem dX3_copyFrom_157 : decode cX3_copyFrom 157 = .ok (.aload_n 0, 1) := by decide +kernel
theorem dX3_copyFrom_158 : decode cX3_copyFrom 158 = .ok (.getfield 40, 3) := by decide +kernel
theorem dX3_copyFrom_161 : decode cX3_copyFrom 161 = .ok (.iconst 0, 1) := by decide +kernel
theorem dX3_copyFrom_162 : decode cX3_copyFrom 162 = .ok (.sipush 1152, 3) := by decide +kernel
theorem dX3_copyFrom_165 : decode cX3_copyFrom 165 = .ok (.invokestatic 70, 3) := by decide +kernel
theorem dX3_copyFrom_168 : decode cX3_copyFrom 168 = .ok (.aload_n 1, 1) := by decide +kernel
theorem dX3_copyFrom_169 : decode cX3_copyFrom 169 = .ok (.getfield 43, 3) := by decide +kernel
theorem dX3_copyFrom_172 : decode cX3_copyFrom 172 = .ok (.iconst 0, 1) := by decide +kernel
theorem dX3_copyFrom_173 : decode cX3_copyFrom 173 = .ok (.aload_n 0, 1) := by decide +kernel
theorem dX3_copyFrom_174 : decode cX3_copyFrom 174 = .ok (.getfield 43, 3) := by decide +kernel
theorem dX3_copyFrom_177 : decode cX3_copyFrom 177 = .ok (.iconst 0, 1) := by decide +kernel
theorem dX3_copyFrom_178 : decode cX3_copyFrom 178 = .ok (.bipush 96, 2) := by decide +kernel
theorem dX3_copyFrom_180 : decode cX3_copyFrom 180 = .ok (.invokestatic 70, 3) := by decide +kernel
theorem dX3_copyFrom_183 : decode cX3_copyFrom 183 = .ok (.aload_n 1, 1) := by decide +kernel
theorem dX3_copyFrom_184 : decode cX3_copyFrom 184 = .ok (.getfield 46, 3) := by decide +kernel
theorem dX3_copyFrom_187 : decode cX3_copyFrom 187 = .ok (.iconst 0, 1) := by decide +kernel
theorem dX3_copyFrom_188 : decode cX3_copyFrom 188 = .ok (.aload_n 0, 1) := by decide +kernel
theorem dX3_copyFrom_189 : decode cX3_copyFrom 189 = .ok (.getfield 46, 3) := by decide +kernel
theorem dX3_copyFrom_192 : decode cX3_copyFrom 192 = .ok (.iconst 0, 1) := by decide +kernel
theorem dX3_copyFrom_193 : decode cX3_copyFrom 193 = .ok (.bipush 96, 2) := by decide +kernel
theorem dX3_copyFrom_195 : decode cX3_copyFrom 195 = .ok (.invokestatic 70, 3) := by decide +kernel
theorem dX3_copyFrom_198 : decode cX3_copyFrom 198 = .ok (.aload_n 1, 1) := by decide +kernel
theorem dX3_copyFrom_199 : decode cX3_copyFrom 199 = .ok (.getfield 49, 3) := by decide +kernel
theorem dX3_copyFrom_202 : decode cX3_copyFrom 202 = .ok (.iconst 0, 1) := by decide +kernel
theorem dX3_copyFrom_203 : decode cX3_copyFrom 203 = .ok (.aload_n 0, 1) := by decide +kernel
theorem dX3_copyFrom_204 : decode cX3_copyFrom 204 = .ok (.getfield 49, 3) := by decide +kernel
theorem dX3_copyFrom_207 : decode cX3_copyFrom 207 = .ok (.iconst 0, 1) := by decide +kernel
theorem dX3_copyFrom_208 : decode cX3_copyFrom 208 = .ok (.bipush 96, 2) := by decide +kernel
theorem dX3_copyFrom_210 : decode cX3_copyFrom 210 = .ok (.invokestatic 70, 3) := by decide +kernel
theorem dX3_copyFrom_213 : decode cX3_copyFrom 213 = .ok (.aload_n 1, 1) := by decide +kernel
theorem dX3_copyFrom_214 : decode cX3_copyFrom 214 = .ok (.getfield 52, 3) := by decide +kernel
theorem dX3_copyFrom_217 : decode cX3_copyFrom 217 = .ok (.iconst 0, 1) := by decide +kernel
theorem dX3_copyFrom_218 : decode cX3_copyFrom 218 = .ok (.aload_n 0, 1) := by decide +kernel
theorem dX3_copyFrom_219 : decode cX3_copyFrom 219 = .ok (.getfield 52, 3) := by decide +kernel
theorem dX3_copyFrom_222 : decode cX3_copyFrom 222 = .ok (.iconst 0, 1) := by decide +kernel
theorem dX3_copyFrom_223 : decode cX3_copyFrom 223 = .ok (.bipush 96, 2) := by decide +kernel
theorem dX3_copyFrom_225 : decode cX3_copyFrom 225 = .ok (.invokestatic 70, 3) := by decide +kernel
theorem dX3_copyFrom_228 : decode cX3_copyFrom 228 = .ok (.aload_n 1, 1) := by decide +kernel
theorem dX3_copyFrom_229 : decode cX3_copyFrom 229 = .ok (.getfield 55, 3) := by decide +kernel
theorem dX3_copyFrom_232 : decode cX3_copyFrom 232 = .ok (.iconst 0, 1) := by decide +kernel
theorem dX3_copyFrom_233 : decode cX3_copyFrom 233 = .ok (.aload_n 0, 1) := by decide +kernel
theorem dX3_copyFrom_234 : decode cX3_copyFrom 234 = .ok (.getfield 55, 3) := by decide +kernel
theorem dX3_copyFrom_237 : decode cX3_copyFrom 237 = .ok (.iconst 0, 1) := by decide +kernel
theorem dX3_copyFrom_238 : decode cX3_copyFrom 238 = .ok (.bipush 96, 2) := by decide +kernel
theorem dX3_copyFrom_240 : decode cX3_copyFrom 240 = .ok (.invokestatic 70, 3) := by decide +kernel
theorem dX3_copyFrom_243 : decode cX3_copyFrom 243 = .ok (.aload_n 1, 1) := by decide +kernel
theorem dX3_copyFrom_244 : decode cX3_copyFrom 244 = .ok (.getfield 58, 3) := by decide +kernel
theorem dX3_copyFrom_247 : decode cX3_copyFrom 247 = .ok (.iconst 0, 1) := by decide +kernel
theorem dX3_copyFrom_248 : decode cX3_copyFrom 248 = .ok (.aload_n 0, 1) := by decide +kernel
theorem dX3_copyFrom_249 : decode cX3_copyFrom 249 = .ok (.getfield 58, 3) := by decide +kernel
theorem dX3_copyFrom_252 : decode cX3_copyFrom 252 = .ok (.iconst 0, 1) := by decide +kernel
theorem dX3_copyFrom_253 : decode cX3_copyFrom 253 = .ok (.iconst 4, 1) := by decide +kernel
theorem dX3_copyFrom_254 : decode cX3_copyFrom 254 = .ok (.invokestatic 70, 3) := by decide +kernel
theorem dX3_copyFrom_257 : decode cX3_copyFrom 257 = .ok (.return_, 1) := by decide +kernel
theorem dX3_markedBid_0 : decode cX3_markedBid 0 = .ok (.aload_n 0, 1) := by decide +kernel
theorem dX3_markedBid_1 : decode cX3_markedBid 1 = .ok (.getfield 40, 3) := by decide +kernel
theorem dX3_markedBid_4 : decode cX3_markedBid 4 = .ok (.iload_n 1, 1) := by decide +kernel
theorem dX3_markedBid_5 : decode cX3_markedBid 5 = .ok (.bipush 96, 2) := by decide +kernel
theorem dX3_markedBid_7 : decode cX3_markedBid 7 = .ok (.imul, 1) := by decide +kernel
theorem dX3_markedBid_8 : decode cX3_markedBid 8 = .ok (.iload_n 2, 1) := by decide +kernel
theorem dX3_markedBid_9 : decode cX3_markedBid 9 = .ok (.iadd, 1) := by decide +kernel
theorem dX3_markedBid_10 : decode cX3_markedBid 10 = .ok (.iaload, 1) := by decide +kernel
theorem dX3_markedBid_11 : decode cX3_markedBid 11 = .ok (.ireturn, 1) := by decide +kernel
theorem dX3_bidFor_0 : decode cX3_bidFor 0 = .ok (.aload_n 0, 1) := by decide +kernel
theorem dX3_bidFor_1 : decode cX3_bidFor 1 = .ok (.getfield 40, 3) := by decide +kernel
theorem dX3_bidFor_4 : decode cX3_bidFor 4 = .ok (.iload_n 1, 1) := by decide +kernel
theorem dX3_bidFor_5 : decode cX3_bidFor 5 = .ok (.bipush 96, 2) := by decide +kernel
theorem dX3_bidFor_7 : decode cX3_bidFor 7 = .ok (.imul, 1) := by decide +kernel
theorem dX3_bidFor_8 : decode cX3_bidFor 8 = .ok (.iload_n 2, 1) := by decide +kernel
theorem dX3_bidFor_9 : decode cX3_bidFor 9 = .ok (.iadd, 1) := by decide +kernel
theorem dX3_bidFor_10 : decode cX3_bidFor 10 = .ok (.iaload, 1) := by decide +kernel
theorem dX3_bidFor_11 : decode cX3_bidFor 11 = .ok (.istore 4, 2) := by decide +kernel
theorem dX3_bidFor_13 : decode cX3_bidFor 13 = .ok (.iload 4, 2) := by decide +kernel
theorem dX3_bidFor_15 : decode cX3_bidFor 15 = .ok (.sipush 1000, 3) := by decide +kernel
theorem dX3_bidFor_18 : decode cX3_bidFor 18 = .ok (.if_icmp .le 7, 3) := by decide +kernel
theorem dX3_bidFor_21 : decode cX3_bidFor 21 = .ok (.iconst 1, 1) := by decide +kernel
theorem dX3_bidFor_22 : decode cX3_bidFor 22 = .ok (.goto 4, 3) := by decide +kernel
theorem dX3_bidFor_25 : decode cX3_bidFor 25 = .ok (.iconst 0, 1) := by decide +kernel
theorem dX3_bidFor_26 : decode cX3_bidFor 26 = .ok (.istore 5, 2) := by decide +kernel
theorem dX3_bidFor_28 : decode cX3_bidFor 28 = .ok (.iload_n 3, 1) := by decide +kernel
theorem dX3_bidFor_29 : decode cX3_bidFor 29 = .ok (.iconst 1, 1) := by decide +kernel
theorem dX3_bidFor_30 : decode cX3_bidFor 30 = .ok (.if_icmp .ne 19, 3) := by decide +kernel
theorem dX3_bidFor_33 : decode cX3_bidFor 33 = .ok (.iload 5, 2) := by decide +kernel
theorem dX3_bidFor_35 : decode cX3_bidFor 35 = .ok (.ifCond .eq 12, 3) := by decide +kernel
theorem dX3_bidFor_38 : decode cX3_bidFor 38 = .ok (.iload 4, 2) := by decide +kernel
theorem dX3_bidFor_40 : decode cX3_bidFor 40 = .ok (.sipush 1000, 3) := by decide +kernel
theorem dX3_bidFor_43 : decode cX3_bidFor 43 = .ok (.isub, 1) := by decide +kernel
theorem dX3_bidFor_44 : decode cX3_bidFor 44 = .ok (.goto 4, 3) := by decide +kernel
theorem dX3_bidFor_47 : decode cX3_bidFor 47 = .ok (.iconst 0, 1) := by decide +kernel
theorem dX3_bidFor_48 : decode cX3_bidFor 48 = .ok (.ireturn, 1) := by decide +kernel
theorem dX3_bidFor_49 : decode cX3_bidFor 49 = .ok (.iload 5, 2) := by decide +kernel
theorem dX3_bidFor_51 : decode cX3_bidFor 51 = .ok (.ifCond .eq 7, 3) := by decide +kernel
theorem dX3_bidFor_54 : decode cX3_bidFor 54 = .ok (.iconst 0, 1) := by decide +kernel
theorem dX3_bidFor_55 : decode cX3_bidFor 55 = .ok (.goto 5, 3) := by decide +kernel
theorem dX3_bidFor_58 : decode cX3_bidFor 58 = .ok (.iload 4, 2) := by decide +kernel
theorem dX3_bidFor_60 : decode cX3_bidFor 60 = .ok (.ireturn, 1) := by decide +kernel
theorem dX3_bidAmount_0 : decode cX3_bidAmount 0 = .ok (.aload_n 0, 1) := by decide +kernel
theorem dX3_bidAmount_1 : decode cX3_bidAmount 1 = .ok (.iload_n 1, 1) := by decide +kernel
theorem dX3_bidAmount_2 : decode cX3_bidAmount 2 = .ok (.iload_n 2, 1) := by decide +kernel
theorem dX3_bidAmount_3 : decode cX3_bidAmount 3 = .ok (.iconst 0, 1) := by decide +kernel
theorem dX3_bidAmount_4 : decode cX3_bidAmount 4 = .ok (.invokevirtual 76, 3) := by decide +kernel
theorem dX3_bidAmount_7 : decode cX3_bidAmount 7 = .ok (.aload_n 0, 1) := by decide +kernel
theorem dX3_bidAmount_8 : decode cX3_bidAmount 8 = .ok (.iload_n 1, 1) := by decide +kernel
theorem dX3_bidAmount_9 : decode cX3_bidAmount 9 = .ok (.iload_n 2, 1) := by decide +kernel
theorem dX3_bidAmount_10 : decode cX3_bidAmount 10 = .ok (.iconst 1, 1) := by decide +kernel
theorem dX3_bidAmount_11 : decode cX3_bidAmount 11 = .ok (.invokevirtual 76, 3) := by decide +kernel
theorem dX3_bidAmount_14 : decode cX3_bidAmount 14 = .ok (.iadd, 1) := by decide +kernel
theorem dX3_bidAmount_15 : decode cX3_bidAmount 15 = .ok (.ireturn, 1) := by decide +kernel
theorem dX3_freeMoney_0 : decode cX3_freeMoney 0 = .ok (.aload_n 0, 1) := by decide +kernel
theorem dX3_freeMoney_1 : decode cX3_freeMoney 1 = .ok (.getfield 15, 3) := by decide +kernel
theorem dX3_freeMoney_4 : decode cX3_freeMoney 4 = .ok (.iload_n 1, 1) := by decide +kernel
theorem dX3_freeMoney_5 : decode cX3_freeMoney 5 = .ok (.iaload, 1) := by decide +kernel
theorem dX3_freeMoney_6 : decode cX3_freeMoney 6 = .ok (.aload_n 0, 1) := by decide +kernel
theorem dX3_freeMoney_7 : decode cX3_freeMoney 7 = .ok (.getfield 19, 3) := by decide +kernel
theorem dX3_freeMoney_10 : decode cX3_freeMoney 10 = .ok (.iload_n 1, 1) := by decide +kernel
theorem dX3_freeMoney_11 : decode cX3_freeMoney 11 = .ok (.iaload, 1) := by decide +kernel
theorem dX3_freeMoney_12 : decode cX3_freeMoney 12 = .ok (.isub, 1) := by decide +kernel
theorem dX3_freeMoney_13 : decode cX3_freeMoney 13 = .ok (.ireturn, 1) := by decide +kernel
theorem dX3_bidError_0 : decode cX3_bidError 0 = .ok (.iload_n 3, 1) := by decide +kernel
theorem dX3_bidError_1 : decode cX3_bidError 1 = .ok (.iconst 0, 1) := by decide +kernel
theorem dX3_bidError_2 : decode cX3_bidError 2 = .ok (.sipush 999, 3) := by decide +kernel
theorem dX3_bidError_5 : decode cX3_bidError 5 = .ok (.invokestatic 80, 3) := by decide +kernel
theorem dX3_bidError_8 : decode cX3_bidError 8 = .ok (.ifCond .ne 5, 3) := by decide +kernel
theorem dX3_bidError_11 : decode cX3_bidError 11 = .ok (.iconst (-1), 1) := by decide +kernel
theorem dX3_bidError_12 : decode cX3_bidError 12 = .ok (.ireturn, 1) := by decide +kernel
theorem dX3_bidError_13 : decode cX3_bidError 13 = .ok (.aload_n 0, 1) := by decide +kernel
theorem dX3_bidError_14 : decode cX3_bidError 14 = .ok (.iload_n 1, 1) := by decide +kernel
theorem dX3_bidError_15 : decode cX3_bidError 15 = .ok (.invokevirtual 84, 3) := by decide +kernel
theorem dX3_bidError_18 : decode cX3_bidError 18 = .ok (.aload_n 0, 1) := by decide +kernel
theorem dX3_bidError_19 : decode cX3_bidError 19 = .ok (.iload_n 1, 1) := by decide +kernel
theorem dX3_bidError_20 : decode cX3_bidError 20 = .ok (.iload_n 2, 1) := by decide +kernel
theorem dX3_bidError_21 : decode cX3_bidError 21 = .ok (.invokevirtual 88, 3) := by decide +kernel
theorem dX3_bidError_24 : decode cX3_bidError 24 = .ok (.iadd, 1) := by decide +kernel
theorem dX3_bidError_25 : decode cX3_bidError 25 = .ok (.iload_n 3, 1) := by decide +kernel
theorem dX3_bidError_26 : decode cX3_bidError 26 = .ok (.if_icmp .ge 7, 3) := by decide +kernel
theorem dX3_bidError_29 : decode cX3_bidError 29 = .ok (.iconst 1, 1) := by decide +kernel
theorem dX3_bidError_30 : decode cX3_bidError 30 = .ok (.goto 4, 3) := by decide +kernel
theorem dX3_bidError_33 : decode cX3_bidError 33 = .ok (.iconst 0, 1) := by decide +kernel
theorem dX3_bidError_34 : decode cX3_bidError 34 = .ok (.istore 4, 2) := by decide +kernel
theorem dX3_bidError_36 : decode cX3_bidError 36 = .ok (.aload_n 0, 1) := by decide +kernel
theorem dX3_bidError_37 : decode cX3_bidError 37 = .ok (.getfield 22, 3) := by decide +kernel
theorem dX3_bidError_40 : decode cX3_bidError 40 = .ok (.iload_n 1, 1) := by decide +kernel
theorem dX3_bidError_41 : decode cX3_bidError 41 = .ok (.iaload, 1) := by decide +kernel
theorem dX3_bidError_42 : decode cX3_bidError 42 = .ok (.ifCond .gt 8, 3) := by decide +kernel
theorem dX3_bidError_45 : decode cX3_bidError 45 = .ok (.iload 4, 2) := by decide +kernel
theorem dX3_bidError_47 : decode cX3_bidError 47 = .ok (.ifCond .eq 8, 3) := by decide +kernel
theorem dX3_bidError_50 : decode cX3_bidError 50 = .ok (.bipush (-2), 2) := by decide +kernel
theorem dX3_bidError_52 : decode cX3_bidError 52 = .ok (.goto 4, 3) := by decide +kernel
theorem dX3_bidError_55 : decode cX3_bidError 55 = .ok (.iconst 0, 1) := by decide +kernel
theorem dX3_bidError_56 : decode cX3_bidError 56 = .ok (.ireturn, 1) := by decide +kernel
theorem dX3_placeBid_0 : decode cX3_placeBid 0 = .ok (.aload_n 0, 1) := by decide +kernel
theorem dX3_placeBid_1 : decode cX3_placeBid 1 = .ok (.getfield 19, 3) := by decide +kernel
theorem dX3_placeBid_4 : decode cX3_placeBid 4 = .ok (.iload_n 1, 1) := by decide +kernel
theorem dX3_placeBid_5 : decode cX3_placeBid 5 = .ok (.dup2, 1) := by decide +kernel
theorem dX3_placeBid_6 : decode cX3_placeBid 6 = .ok (.iaload, 1) := by decide +kernel
theorem dX3_placeBid_7 : decode cX3_placeBid 7 = .ok (.iload 4, 2) := by decide +kernel
theorem dX3_placeBid_9 : decode cX3_placeBid 9 = .ok (.aload_n 0, 1) := by decide +kernel
theorem dX3_placeBid_10 : decode cX3_placeBid 10 = .ok (.iload_n 1, 1) := by decide +kernel
theorem dX3_placeBid_11 : decode cX3_placeBid 11 = .ok (.iload_n 2, 1) := by decide +kernel
theorem dX3_placeBid_12 : decode cX3_placeBid 12 = .ok (.invokevirtual 88, 3) := by decide +kernel
theorem dX3_placeBid_15 : decode cX3_placeBid 15 = .ok (.isub, 1) := by decide +kernel
theorem dX3_placeBid_16 : decode cX3_placeBid 16 = .ok (.iadd, 1) := by decide +kernel
theorem dX3_placeBid_17 : decode cX3_placeBid 17 = .ok (.iastore, 1) := by decide +kernel
theorem dX3_placeBid_18 : decode cX3_placeBid 18 = .ok (.iload_n 3, 1) := by decide +kernel
theorem dX3_placeBid_19 : decode cX3_placeBid 19 = .ok (.iconst 1, 1) := by decide +kernel
theorem dX3_placeBid_20 : decode cX3_placeBid 20 = .ok (.if_icmp .ne 12, 3) := by decide +kernel
theorem dX3_placeBid_23 : decode cX3_placeBid 23 = .ok (.iload 4, 2) := by decide +kernel
theorem dX3_placeBid_25 : decode cX3_placeBid 25 = .ok (.ifCond .le 7, 3) := by decide +kernel
theorem dX3_placeBid_28 : decode cX3_placeBid 28 = .ok (.iconst 1, 1) := by decide +kernel
theorem dX3_placeBid_29 : decode cX3_placeBid 29 = .ok (.goto 4, 3) := by decide +kernel
theorem dX3_placeBid_32 : decode cX3_placeBid 32 = .ok (.iconst 0, 1) := by decide +kernel
theorem dX3_placeBid_33 : decode cX3_placeBid 33 = .ok (.istore 5, 2) := by decide +kernel
theorem dX3_placeBid_35 : decode cX3_placeBid 35 = .ok (.aload_n 0, 1) := by decide +kernel
theorem dX3_placeBid_36 : decode cX3_placeBid 36 = .ok (.getfield 40, 3) := by decide +kernel
theorem dX3_placeBid_39 : decode cX3_placeBid 39 = .ok (.iload_n 1, 1) := by decide +kernel
theorem dX3_placeBid_40 : decode cX3_placeBid 40 = .ok (.bipush 96, 2) := by decide +kernel
theorem dX3_placeBid_42 : decode cX3_placeBid 42 = .ok (.imul, 1) := by decide +kernel
theorem dX3_placeBid_43 : decode cX3_placeBid 43 = .ok (.iload_n 2, 1) := by decide +kernel
theorem dX3_placeBid_44 : decode cX3_placeBid 44 = .ok (.iadd, 1) := by decide +kernel
theorem dX3_placeBid_45 : decode cX3_placeBid 45 = .ok (.iload 5, 2) := by decide +kernel
theorem dX3_placeBid_47 : decode cX3_placeBid 47 = .ok (.ifCond .eq 12, 3) := by decide +kernel
theorem dX3_placeBid_50 : decode cX3_placeBid 50 = .ok (.sipush 1000, 3) := by decide +kernel
theorem dX3_placeBid_53 : decode cX3_placeBid 53 = .ok (.iload 4, 2) := by decide +kernel
theorem dX3_placeBid_55 : decode cX3_placeBid 55 = .ok (.iadd, 1) := by decide +kernel
theorem dX3_placeBid_56 : decode cX3_placeBid 56 = .ok (.goto 5, 3) := by decide +kernel
theorem dX3_placeBid_59 : decode cX3_placeBid 59 = .ok (.iload 4, 2) := by decide +kernel
theorem dX3_placeBid_61 : decode cX3_placeBid 61 = .ok (.iastore, 1) := by decide +kernel
theorem dX3_placeBid_62 : decode cX3_placeBid 62 = .ok (.aload_n 0, 1) := by decide +kernel
theorem dX3_placeBid_63 : decode cX3_placeBid 63 = .ok (.iload_n 1, 1) := by decide +kernel
theorem dX3_placeBid_64 : decode cX3_placeBid 64 = .ok (.invokevirtual 84, 3) := by decide +kernel
theorem dX3_placeBid_67 : decode cX3_placeBid 67 = .ok (.ireturn, 1) := by decide +kernel
theorem dX3_bidsBy_0 : decode cX3_bidsBy 0 = .ok (.iconst 0, 1) := by decide +kernel
theorem dX3_bidsBy_1 : decode cX3_bidsBy 1 = .ok (.istore_n 2, 1) := by decide +kernel
theorem dX3_bidsBy_2 : decode cX3_bidsBy 2 = .ok (.iconst 0, 1) := by decide +kernel
theorem dX3_bidsBy_3 : decode cX3_bidsBy 3 = .ok (.istore_n 3, 1) := by decide +kernel
theorem dX3_bidsBy_4 : decode cX3_bidsBy 4 = .ok (.iload_n 3, 1) := by decide +kernel
theorem dX3_bidsBy_5 : decode cX3_bidsBy 5 = .ok (.bipush 96, 2) := by decide +kernel
theorem dX3_bidsBy_7 : decode cX3_bidsBy 7 = .ok (.if_icmp .ge 26, 3) := by decide +kernel
theorem dX3_bidsBy_10 : decode cX3_bidsBy 10 = .ok (.iload_n 2, 1) := by decide +kernel
theorem dX3_bidsBy_11 : decode cX3_bidsBy 11 = .ok (.aload_n 0, 1) := by decide +kernel
theorem dX3_bidsBy_12 : decode cX3_bidsBy 12 = .ok (.iload_n 1, 1) := by decide +kernel
theorem dX3_bidsBy_13 : decode cX3_bidsBy 13 = .ok (.iload_n 3, 1) := by decide +kernel
theorem dX3_bidsBy_14 : decode cX3_bidsBy 14 = .ok (.invokevirtual 92, 3) := by decide +kernel
theorem dX3_bidsBy_17 : decode cX3_bidsBy 17 = .ok (.ifCond .ne 7, 3) := by decide +kernel
theorem dX3_bidsBy_20 : decode cX3_bidsBy 20 = .ok (.iconst 0, 1) := by decide +kernel
theorem dX3_bidsBy_21 : decode cX3_bidsBy 21 = .ok (.goto 4, 3) := by decide +kernel
theorem dX3_bidsBy_24 : decode cX3_bidsBy 24 = .ok (.iconst 1, 1) := by decide +kernel
theorem dX3_bidsBy_25 : decode cX3_bidsBy 25 = .ok (.iadd, 1) := by decide +kernel
theorem dX3_bidsBy_26 : decode cX3_bidsBy 26 = .ok (.istore_n 2, 1) := by decide +kernel
theorem dX3_bidsBy_27 : decode cX3_bidsBy 27 = .ok (.iinc 3 1, 3) := by decide +kernel
theorem dX3_bidsBy_30 : decode cX3_bidsBy 30 = .ok (.goto (-26), 3) := by decide +kernel
theorem dX3_bidsBy_33 : decode cX3_bidsBy 33 = .ok (.iload_n 2, 1) := by decide +kernel
theorem dX3_bidsBy_34 : decode cX3_bidsBy 34 = .ok (.ireturn, 1) := by decide +kernel
theorem dX3_bidsFor_0 : decode cX3_bidsFor 0 = .ok (.iconst 0, 1) := by decide +kernel
theorem dX3_bidsFor_1 : decode cX3_bidsFor 1 = .ok (.istore_n 2, 1) := by decide +kernel
theorem dX3_bidsFor_2 : decode cX3_bidsFor 2 = .ok (.iconst 0, 1) := by decide +kernel
theorem dX3_bidsFor_3 : decode cX3_bidsFor 3 = .ok (.istore_n 3, 1) := by decide +kernel
theorem dX3_bidsFor_4 : decode cX3_bidsFor 4 = .ok (.iload_n 3, 1) := by decide +kernel
theorem dX3_bidsFor_5 : decode cX3_bidsFor 5 = .ok (.aload_n 0, 1) := by decide +kernel
theorem dX3_bidsFor_6 : decode cX3_bidsFor 6 = .ok (.getfield 67, 3) := by decide +kernel
theorem dX3_bidsFor_9 : decode cX3_bidsFor 9 = .ok (.if_icmp .ge 26, 3) := by decide +kernel
theorem dX3_bidsFor_12 : decode cX3_bidsFor 12 = .ok (.iload_n 2, 1) := by decide +kernel
theorem dX3_bidsFor_13 : decode cX3_bidsFor 13 = .ok (.aload_n 0, 1) := by decide +kernel
theorem dX3_bidsFor_14 : decode cX3_bidsFor 14 = .ok (.iload_n 3, 1) := by decide +kernel
theorem dX3_bidsFor_15 : decode cX3_bidsFor 15 = .ok (.iload_n 1, 1) := by decide +kernel
theorem dX3_bidsFor_16 : decode cX3_bidsFor 16 = .ok (.invokevirtual 92, 3) := by decide +kernel
theorem dX3_bidsFor_19 : decode cX3_bidsFor 19 = .ok (.ifCond .ne 7, 3) := by decide +kernel
theorem dX3_bidsFor_22 : decode cX3_bidsFor 22 = .ok (.iconst 0, 1) := by decide +kernel
theorem dX3_bidsFor_23 : decode cX3_bidsFor 23 = .ok (.goto 4, 3) := by decide +kernel
theorem dX3_bidsFor_26 : decode cX3_bidsFor 26 = .ok (.iconst 1, 1) := by decide +kernel
theorem dX3_bidsFor_27 : decode cX3_bidsFor 27 = .ok (.iadd, 1) := by decide +kernel
theorem dX3_bidsFor_28 : decode cX3_bidsFor 28 = .ok (.istore_n 2, 1) := by decide +kernel
theorem dX3_bidsFor_29 : decode cX3_bidsFor 29 = .ok (.iinc 3 1, 3) := by decide +kernel
theorem dX3_bidsFor_32 : decode cX3_bidsFor 32 = .ok (.goto (-28), 3) := by decide +kernel
theorem dX3_bidsFor_35 : decode cX3_bidsFor 35 = .ok (.iload_n 2, 1) := by decide +kernel
theorem dX3_bidsFor_36 : decode cX3_bidsFor 36 = .ok (.ireturn, 1) := by decide +kernel
theorem dX3_sumOfBids_0 : decode cX3_sumOfBids 0 = .ok (.iconst 0, 1) := by decide +kernel
theorem dX3_sumOfBids_1 : decode cX3_sumOfBids 1 = .ok (.istore_n 3, 1) := by decide +kernel
theorem dX3_sumOfBids_2 : decode cX3_sumOfBids 2 = .ok (.iconst 0, 1) := by decide +kernel
theorem dX3_sumOfBids_3 : decode cX3_sumOfBids 3 = .ok (.istore 4, 2) := by decide +kernel
theorem dX3_sumOfBids_5 : decode cX3_sumOfBids 5 = .ok (.iload 4, 2) := by decide +kernel
theorem dX3_sumOfBids_7 : decode cX3_sumOfBids 7 = .ok (.aload_n 0, 1) := by decide +kernel
theorem dX3_sumOfBids_8 : decode cX3_sumOfBids 8 = .ok (.getfield 67, 3) := by decide +kernel
theorem dX3_sumOfBids_11 : decode cX3_sumOfBids 11 = .ok (.if_icmp .ge 20, 3) := by decide +kernel
theorem dX3_sumOfBids_14 : decode cX3_sumOfBids 14 = .ok (.iload_n 3, 1) := by decide +kernel
theorem dX3_sumOfBids_15 : decode cX3_sumOfBids 15 = .ok (.aload_n 0, 1) := by decide +kernel
theorem dX3_sumOfBids_16 : decode cX3_sumOfBids 16 = .ok (.iload 4, 2) := by decide +kernel
theorem dX3_sumOfBids_18 : decode cX3_sumOfBids 18 = .ok (.iload_n 1, 1) := by decide +kernel
theorem dX3_sumOfBids_19 : decode cX3_sumOfBids 19 = .ok (.iload_n 2, 1) := by decide +kernel
theorem dX3_sumOfBids_20 : decode cX3_sumOfBids 20 = .ok (.invokevirtual 76, 3) := by decide +kernel
theorem dX3_sumOfBids_23 : decode cX3_sumOfBids 23 = .ok (.iadd, 1) := by decide +kernel
theorem dX3_sumOfBids_24 : decode cX3_sumOfBids 24 = .ok (.istore_n 3, 1) := by decide +kernel
theorem dX3_sumOfBids_25 : decode cX3_sumOfBids 25 = .ok (.iinc 4 1, 3) := by decide +kernel
theorem dX3_sumOfBids_28 : decode cX3_sumOfBids 28 = .ok (.goto (-23), 3) := by decide +kernel
theorem dX3_sumOfBids_31 : decode cX3_sumOfBids 31 = .ok (.iload_n 3, 1) := by decide +kernel
theorem dX3_sumOfBids_32 : decode cX3_sumOfBids 32 = .ok (.ireturn, 1) := by decide +kernel
theorem dX3_receive_0 : decode cX3_receive 0 = .ok (.aload_n 0, 1) := by decide +kernel
theorem dX3_receive_1 : decode cX3_receive 1 = .ok (.getfield 22, 3) := by decide +kernel
theorem dX3_receive_4 : decode cX3_receive 4 = .ok (.iload_n 1, 1) := by decide +kernel
theorem dX3_receive_5 : decode cX3_receive 5 = .ok (.iaload, 1) := by decide +kernel
theorem dX3_receive_6 : decode cX3_receive 6 = .ok (.iload_n 2, 1) := by decide +kernel
theorem dX3_receive_7 : decode cX3_receive 7 = .ok (.invokestatic 95, 3) := by decide +kernel
theorem dX3_receive_10 : decode cX3_receive 10 = .ok (.istore_n 3, 1) := by decide +kernel
theorem dX3_receive_11 : decode cX3_receive 11 = .ok (.aload_n 0, 1) := by decide +kernel
theorem dX3_receive_12 : decode cX3_receive 12 = .ok (.getfield 22, 3) := by decide +kernel
theorem dX3_receive_15 : decode cX3_receive 15 = .ok (.iload_n 1, 1) := by decide +kernel
theorem dX3_receive_16 : decode cX3_receive 16 = .ok (.dup2, 1) := by decide +kernel
theorem dX3_receive_17 : decode cX3_receive 17 = .ok (.iaload, 1) := by decide +kernel
theorem dX3_receive_18 : decode cX3_receive 18 = .ok (.iload_n 3, 1) := by decide +kernel
theorem dX3_receive_19 : decode cX3_receive 19 = .ok (.isub, 1) := by decide +kernel
theorem dX3_receive_20 : decode cX3_receive 20 = .ok (.iastore, 1) := by decide +kernel
theorem dX3_receive_21 : decode cX3_receive 21 = .ok (.aload_n 0, 1) := by decide +kernel
theorem dX3_receive_22 : decode cX3_receive 22 = .ok (.getfield 58, 3) := by decide +kernel
theorem dX3_receive_25 : decode cX3_receive 25 = .ok (.aload_n 0, 1) := by decide +kernel
theorem dX3_receive_26 : decode cX3_receive 26 = .ok (.getfield 25, 3) := by decide +kernel
theorem dX3_receive_29 : decode cX3_receive 29 = .ok (.iload_n 1, 1) := by decide +kernel
theorem dX3_receive_30 : decode cX3_receive 30 = .ok (.iaload, 1) := by decide +kernel
theorem dX3_receive_31 : decode cX3_receive 31 = .ok (.dup2, 1) := by decide +kernel
theorem dX3_receive_32 : decode cX3_receive 32 = .ok (.iaload, 1) := by decide +kernel
theorem dX3_receive_33 : decode cX3_receive 33 = .ok (.iload_n 3, 1) := by decide +kernel
theorem dX3_receive_34 : decode cX3_receive 34 = .ok (.iadd, 1) := by decide +kernel
theorem dX3_receive_35 : decode cX3_receive 35 = .ok (.iastore, 1) := by decide +kernel
theorem dX3_receive_36 : decode cX3_receive 36 = .ok (.aload_n 0, 1) := by decide +kernel
theorem dX3_receive_37 : decode cX3_receive 37 = .ok (.getfield 15, 3) := by decide +kernel
theorem dX3_receive_40 : decode cX3_receive 40 = .ok (.iload_n 1, 1) := by decide +kernel
theorem dX3_receive_41 : decode cX3_receive 41 = .ok (.dup2, 1) := by decide +kernel
theorem dX3_receive_42 : decode cX3_receive 42 = .ok (.iaload, 1) := by decide +kernel
theorem dX3_receive_43 : decode cX3_receive 43 = .ok (.iload_n 2, 1) := by decide +kernel
theorem dX3_receive_44 : decode cX3_receive 44 = .ok (.iload_n 3, 1) := by decide +kernel
theorem dX3_receive_45 : decode cX3_receive 45 = .ok (.isub, 1) := by decide +kernel
theorem dX3_receive_46 : decode cX3_receive 46 = .ok (.iadd, 1) := by decide +kernel
theorem dX3_receive_47 : decode cX3_receive 47 = .ok (.iastore, 1) := by decide +kernel
theorem dX3_receive_48 : decode cX3_receive 48 = .ok (.return_, 1) := by decide +kernel
theorem dX3_canBePaid_0 : decode cX3_canBePaid 0 = .ok (.iload_n 2, 1) := by decide +kernel
theorem dX3_canBePaid_1 : decode cX3_canBePaid 1 = .ok (.ifCond .ge 24, 3) := by decide +kernel
theorem dX3_canBePaid_4 : decode cX3_canBePaid 4 = .ok (.aload_n 0, 1) := by decide +kernel
theorem dX3_canBePaid_5 : decode cX3_canBePaid 5 = .ok (.getfield 22, 3) := by decide +kernel
theorem dX3_canBePaid_8 : decode cX3_canBePaid 8 = .ok (.iload_n 1, 1) := by decide +kernel
theorem dX3_canBePaid_9 : decode cX3_canBePaid 9 = .ok (.iaload, 1) := by decide +kernel
theorem dX3_canBePaid_10 : decode cX3_canBePaid 10 = .ok (.ifCond .gt 13, 3) := by decide +kernel
theorem dX3_canBePaid_13 : decode cX3_canBePaid 13 = .ok (.iload_n 2, 1) := by decide +kernel
theorem dX3_canBePaid_14 : decode cX3_canBePaid 14 = .ok (.ineg, 1) := by decide +kernel
theorem dX3_canBePaid_15 : decode cX3_canBePaid 15 = .ok (.aload_n 0, 1) := by decide +kernel
theorem dX3_canBePaid_16 : decode cX3_canBePaid 16 = .ok (.iload_n 1, 1) := by decide +kernel
theorem dX3_canBePaid_17 : decode cX3_canBePaid 17 = .ok (.invokevirtual 84, 3) := by decide +kernel
theorem dX3_canBePaid_20 : decode cX3_canBePaid 20 = .ok (.if_icmp .le 5, 3) := by decide +kernel
theorem dX3_canBePaid_23 : decode cX3_canBePaid 23 = .ok (.iconst 0, 1) := by decide +kernel
theorem dX3_canBePaid_24 : decode cX3_canBePaid 24 = .ok (.ireturn, 1) := by decide +kernel
theorem dX3_canBePaid_25 : decode cX3_canBePaid 25 = .ok (.iload_n 2, 1) := by decide +kernel
theorem dX3_canBePaid_26 : decode cX3_canBePaid 26 = .ok (.ifCond .le 16, 3) := by decide +kernel
theorem dX3_canBePaid_29 : decode cX3_canBePaid 29 = .ok (.aload_n 0, 1) := by decide +kernel
theorem dX3_canBePaid_30 : decode cX3_canBePaid 30 = .ok (.getfield 22, 3) := by decide +kernel
theorem dX3_canBePaid_33 : decode cX3_canBePaid 33 = .ok (.iload_n 1, 1) := by decide +kernel
theorem dX3_canBePaid_34 : decode cX3_canBePaid 34 = .ok (.iaload, 1) := by decide +kernel
theorem dX3_canBePaid_35 : decode cX3_canBePaid 35 = .ok (.iload_n 2, 1) := by decide +kernel
theorem dX3_canBePaid_36 : decode cX3_canBePaid 36 = .ok (.invokestatic 95, 3) := by decide +kernel
theorem dX3_canBePaid_39 : decode cX3_canBePaid 39 = .ok (.goto 4, 3) := by decide +kernel
theorem dX3_canBePaid_42 : decode cX3_canBePaid 42 = .ok (.iconst 0, 1) := by decide +kernel
theorem dX3_canBePaid_43 : decode cX3_canBePaid 43 = .ok (.istore_n 3, 1) := by decide +kernel
theorem dX3_canBePaid_44 : decode cX3_canBePaid 44 = .ok (.aload_n 0, 1) := by decide +kernel
theorem dX3_canBePaid_45 : decode cX3_canBePaid 45 = .ok (.getfield 15, 3) := by decide +kernel
theorem dX3_canBePaid_48 : decode cX3_canBePaid 48 = .ok (.iload_n 1, 1) := by decide +kernel
theorem dX3_canBePaid_49 : decode cX3_canBePaid 49 = .ok (.iaload, 1) := by decide +kernel
theorem dX3_canBePaid_50 : decode cX3_canBePaid 50 = .ok (.iload_n 2, 1) := by decide +kernel
theorem dX3_canBePaid_51 : decode cX3_canBePaid 51 = .ok (.iadd, 1) := by decide +kernel
theorem dX3_canBePaid_52 : decode cX3_canBePaid 52 = .ok (.iload_n 3, 1) := by decide +kernel
theorem dX3_canBePaid_53 : decode cX3_canBePaid 53 = .ok (.isub, 1) := by decide +kernel
theorem dX3_canBePaid_54 : decode cX3_canBePaid 54 = .ok (.ldc 100, 2) := by decide +kernel
theorem dX3_canBePaid_56 : decode cX3_canBePaid 56 = .ok (.if_icmp .gt 7, 3) := by decide +kernel
theorem dX3_canBePaid_59 : decode cX3_canBePaid 59 = .ok (.iconst 1, 1) := by decide +kernel
theorem dX3_canBePaid_60 : decode cX3_canBePaid 60 = .ok (.goto 4, 3) := by decide +kernel
theorem dX3_canBePaid_63 : decode cX3_canBePaid 63 = .ok (.iconst 0, 1) := by decide +kernel
theorem dX3_canBePaid_64 : decode cX3_canBePaid 64 = .ok (.ireturn, 1) := by decide +kernel
theorem dX3_allMoney_0 : decode cX3_allMoney 0 = .ok (.iconst 0, 1) := by decide +kernel
theorem dX3_allMoney_1 : decode cX3_allMoney 1 = .ok (.istore_n 1, 1) := by decide +kernel
theorem dX3_allMoney_2 : decode cX3_allMoney 2 = .ok (.iconst 0, 1) := by decide +kernel
theorem dX3_allMoney_3 : decode cX3_allMoney 3 = .ok (.istore_n 2, 1) := by decide +kernel
theorem dX3_allMoney_4 : decode cX3_allMoney 4 = .ok (.iload_n 2, 1) := by decide +kernel
theorem dX3_allMoney_5 : decode cX3_allMoney 5 = .ok (.aload_n 0, 1) := by decide +kernel
theorem dX3_allMoney_6 : decode cX3_allMoney 6 = .ok (.getfield 67, 3) := by decide +kernel
theorem dX3_allMoney_9 : decode cX3_allMoney 9 = .ok (.if_icmp .ge 18, 3) := by decide +kernel
theorem dX3_allMoney_12 : decode cX3_allMoney 12 = .ok (.iload_n 1, 1) := by decide +kernel
theorem dX3_allMoney_13 : decode cX3_allMoney 13 = .ok (.aload_n 0, 1) := by decide +kernel
theorem dX3_allMoney_14 : decode cX3_allMoney 14 = .ok (.getfield 15, 3) := by decide +kernel
theorem dX3_allMoney_17 : decode cX3_allMoney 17 = .ok (.iload_n 2, 1) := by decide +kernel
theorem dX3_allMoney_18 : decode cX3_allMoney 18 = .ok (.iaload, 1) := by decide +kernel
theorem dX3_allMoney_19 : decode cX3_allMoney 19 = .ok (.iadd, 1) := by decide +kernel
theorem dX3_allMoney_20 : decode cX3_allMoney 20 = .ok (.istore_n 1, 1) := by decide +kernel
theorem dX3_allMoney_21 : decode cX3_allMoney 21 = .ok (.iinc 2 1, 3) := by decide +kernel
theorem dX3_allMoney_24 : decode cX3_allMoney 24 = .ok (.goto (-20), 3) := by decide +kernel
theorem dX3_allMoney_27 : decode cX3_allMoney 27 = .ok (.iconst 0, 1) := by decide +kernel
theorem dX3_allMoney_28 : decode cX3_allMoney 28 = .ok (.istore_n 2, 1) := by decide +kernel
theorem dX3_allMoney_29 : decode cX3_allMoney 29 = .ok (.iload_n 2, 1) := by decide +kernel
theorem dX3_allMoney_30 : decode cX3_allMoney 30 = .ok (.iconst 4, 1) := by decide +kernel
theorem dX3_allMoney_31 : decode cX3_allMoney 31 = .ok (.if_icmp .ge 18, 3) := by decide +kernel
theorem dX3_allMoney_34 : decode cX3_allMoney 34 = .ok (.iload_n 1, 1) := by decide +kernel
theorem dX3_allMoney_35 : decode cX3_allMoney 35 = .ok (.aload_n 0, 1) := by decide +kernel
theorem dX3_allMoney_36 : decode cX3_allMoney 36 = .ok (.getfield 58, 3) := by decide +kernel
theorem dX3_allMoney_39 : decode cX3_allMoney 39 = .ok (.iload_n 2, 1) := by decide +kernel
theorem dX3_allMoney_40 : decode cX3_allMoney 40 = .ok (.iaload, 1) := by decide +kernel
theorem dX3_allMoney_41 : decode cX3_allMoney 41 = .ok (.iadd, 1) := by decide +kernel
theorem dX3_allMoney_42 : decode cX3_allMoney 42 = .ok (.istore_n 1, 1) := by decide +kernel
theorem dX3_allMoney_43 : decode cX3_allMoney 43 = .ok (.iinc 2 1, 3) := by decide +kernel
theorem dX3_allMoney_46 : decode cX3_allMoney 46 = .ok (.goto (-17), 3) := by decide +kernel
theorem dX3_allMoney_49 : decode cX3_allMoney 49 = .ok (.iload_n 1, 1) := by decide +kernel
theorem dX3_allMoney_50 : decode cX3_allMoney 50 = .ok (.ireturn, 1) := by decide +kernel
theorem dX3_allDebts_0 : decode cX3_allDebts 0 = .ok (.iconst 0, 1) := by decide +kernel
theorem dX3_allDebts_1 : decode cX3_allDebts 1 = .ok (.istore_n 1, 1) := by decide +kernel
theorem dX3_allDebts_2 : decode cX3_allDebts 2 = .ok (.iconst 0, 1) := by decide +kernel
theorem dX3_allDebts_3 : decode cX3_allDebts 3 = .ok (.istore_n 2, 1) := by decide +kernel
theorem dX3_allDebts_4 : decode cX3_allDebts 4 = .ok (.iload_n 2, 1) := by decide +kernel
theorem dX3_allDebts_5 : decode cX3_allDebts 5 = .ok (.aload_n 0, 1) := by decide +kernel
theorem dX3_allDebts_6 : decode cX3_allDebts 6 = .ok (.getfield 67, 3) := by decide +kernel
theorem dX3_allDebts_9 : decode cX3_allDebts 9 = .ok (.if_icmp .ge 18, 3) := by decide +kernel
theorem dX3_allDebts_12 : decode cX3_allDebts 12 = .ok (.iload_n 1, 1) := by decide +kernel
theorem dX3_allDebts_13 : decode cX3_allDebts 13 = .ok (.aload_n 0, 1) := by decide +kernel
theorem dX3_allDebts_14 : decode cX3_allDebts 14 = .ok (.getfield 22, 3) := by decide +kernel
theorem dX3_allDebts_17 : decode cX3_allDebts 17 = .ok (.iload_n 2, 1) := by decide +kernel
theorem dX3_allDebts_18 : decode cX3_allDebts 18 = .ok (.iaload, 1) := by decide +kernel
theorem dX3_allDebts_19 : decode cX3_allDebts 19 = .ok (.iadd, 1) := by decide +kernel
theorem dX3_allDebts_20 : decode cX3_allDebts 20 = .ok (.istore_n 1, 1) := by decide +kernel
theorem dX3_allDebts_21 : decode cX3_allDebts 21 = .ok (.iinc 2 1, 3) := by decide +kernel
theorem dX3_allDebts_24 : decode cX3_allDebts 24 = .ok (.goto (-20), 3) := by decide +kernel
theorem dX3_allDebts_27 : decode cX3_allDebts 27 = .ok (.iload_n 1, 1) := by decide +kernel
theorem dX3_allDebts_28 : decode cX3_allDebts 28 = .ok (.ireturn, 1) := by decide +kernel
theorem dX3_allBids_0 : decode cX3_allBids 0 = .ok (.iconst 0, 1) := by decide +kernel
theorem dX3_allBids_1 : decode cX3_allBids 1 = .ok (.istore_n 1, 1) := by decide +kernel
theorem dX3_allBids_2 : decode cX3_allBids 2 = .ok (.iconst 0, 1) := by decide +kernel
theorem dX3_allBids_3 : decode cX3_allBids 3 = .ok (.istore_n 2, 1) := by decide +kernel
theorem dX3_allBids_4 : decode cX3_allBids 4 = .ok (.iload_n 2, 1) := by decide +kernel
theorem dX3_allBids_5 : decode cX3_allBids 5 = .ok (.aload_n 0, 1) := by decide +kernel
theorem dX3_allBids_6 : decode cX3_allBids 6 = .ok (.getfield 67, 3) := by decide +kernel
theorem dX3_allBids_9 : decode cX3_allBids 9 = .ok (.if_icmp .ge 17, 3) := by decide +kernel
theorem dX3_allBids_12 : decode cX3_allBids 12 = .ok (.iload_n 1, 1) := by decide +kernel
theorem dX3_allBids_13 : decode cX3_allBids 13 = .ok (.aload_n 0, 1) := by decide +kernel
theorem dX3_allBids_14 : decode cX3_allBids 14 = .ok (.iload_n 2, 1) := by decide +kernel
theorem dX3_allBids_15 : decode cX3_allBids 15 = .ok (.invokevirtual 101, 3) := by decide +kernel
theorem dX3_allBids_18 : decode cX3_allBids 18 = .ok (.iadd, 1) := by decide +kernel
theorem dX3_allBids_19 : decode cX3_allBids 19 = .ok (.istore_n 1, 1) := by decide +kernel
theorem dX3_allBids_20 : decode cX3_allBids 20 = .ok (.iinc 2 1, 3) := by decide +kernel
theorem dX3_allBids_23 : decode cX3_allBids 23 = .ok (.goto (-19), 3) := by decide +kernel
theorem dX3_allBids_26 : decode cX3_allBids 26 = .ok (.iload_n 1, 1) := by decide +kernel
theorem dX3_allBids_27 : decode cX3_allBids 27 = .ok (.ireturn, 1) := by decide +kernel
theorem dX3_strength_0 : decode cX3_strength 0 = .ok (.aload_n 0, 1) := by decide +kernel
theorem dX3_strength_1 : decode cX3_strength 1 = .ok (.iload_n 1, 1) := by decide +kernel
theorem dX3_strength_2 : decode cX3_strength 2 = .ok (.iload_n 2, 1) := by decide +kernel
theorem dX3_strength_3 : decode cX3_strength 3 = .ok (.invokevirtual 104, 3) := by decide +kernel
theorem dX3_strength_6 : decode cX3_strength 6 = .ok (.iload_n 2, 1) := by decide +kernel
theorem dX3_strength_7 : decode cX3_strength 7 = .ok (.ifCond .ne 12, 3) := by decide +kernel
theorem dX3_strength_10 : decode cX3_strength 10 = .ok (.aload_n 0, 1) := by decide +kernel
theorem dX3_strength_11 : decode cX3_strength 11 = .ok (.getfield 46, 3) := by decide +kernel
theorem dX3_strength_14 : decode cX3_strength 14 = .ok (.iload_n 1, 1) := by decide +kernel
theorem dX3_strength_15 : decode cX3_strength 15 = .ok (.iaload, 1) := by decide +kernel
theorem dX3_strength_16 : decode cX3_strength 16 = .ok (.goto 4, 3) := by decide +kernel
theorem dX3_strength_19 : decode cX3_strength 19 = .ok (.iconst 0, 1) := by decide +kernel
theorem dX3_strength_20 : decode cX3_strength 20 = .ok (.iadd, 1) := by decide +kernel
theorem dX3_strength_21 : decode cX3_strength 21 = .ok (.ireturn, 1) := by decide +kernel
theorem dX3_ownerThen_0 : decode cX3_ownerThen 0 = .ok (.aload_n 0, 1) := by decide +kernel
theorem dX3_ownerThen_1 : decode cX3_ownerThen 1 = .ok (.iload_n 1, 1) := by decide +kernel
theorem dX3_ownerThen_2 : decode cX3_ownerThen 2 = .ok (.invokevirtual 107, 3) := by decide +kernel
theorem dX3_ownerThen_5 : decode cX3_ownerThen 5 = .ok (.ifCond .ne 10, 3) := by decide +kernel
theorem dX3_ownerThen_8 : decode cX3_ownerThen 8 = .ok (.aload_n 0, 1) := by decide +kernel
theorem dX3_ownerThen_9 : decode cX3_ownerThen 9 = .ok (.getfield 43, 3) := by decide +kernel
theorem dX3_ownerThen_12 : decode cX3_ownerThen 12 = .ok (.iload_n 1, 1) := by decide +kernel
theorem dX3_ownerThen_13 : decode cX3_ownerThen 13 = .ok (.iaload, 1) := by decide +kernel
theorem dX3_ownerThen_14 : decode cX3_ownerThen 14 = .ok (.ireturn, 1) := by decide +kernel
theorem dX3_ownerThen_15 : decode cX3_ownerThen 15 = .ok (.aload_n 0, 1) := by decide +kernel
theorem dX3_ownerThen_16 : decode cX3_ownerThen 16 = .ok (.iload_n 1, 1) := by decide +kernel
theorem dX3_ownerThen_17 : decode cX3_ownerThen 17 = .ok (.iconst 0, 1) := by decide +kernel
theorem dX3_ownerThen_18 : decode cX3_ownerThen 18 = .ok (.invokevirtual 110, 3) := by decide +kernel
theorem dX3_ownerThen_21 : decode cX3_ownerThen 21 = .ok (.istore_n 2, 1) := by decide +kernel
theorem dX3_ownerThen_22 : decode cX3_ownerThen 22 = .ok (.aload_n 0, 1) := by decide +kernel
theorem dX3_ownerThen_23 : decode cX3_ownerThen 23 = .ok (.iload_n 1, 1) := by decide +kernel
theorem dX3_ownerThen_24 : decode cX3_ownerThen 24 = .ok (.iconst 1, 1) := by decide +kernel
theorem dX3_ownerThen_25 : decode cX3_ownerThen 25 = .ok (.invokevirtual 110, 3) := by decide +kernel
theorem dX3_ownerThen_28 : decode cX3_ownerThen 28 = .ok (.istore_n 3, 1) := by decide +kernel
theorem dX3_ownerThen_29 : decode cX3_ownerThen 29 = .ok (.iload_n 2, 1) := by decide +kernel
theorem dX3_ownerThen_30 : decode cX3_ownerThen 30 = .ok (.iload_n 3, 1) := by decide +kernel
theorem dX3_ownerThen_31 : decode cX3_ownerThen 31 = .ok (.if_icmp .ne 10, 3) := by decide +kernel
theorem dX3_ownerThen_34 : decode cX3_ownerThen 34 = .ok (.aload_n 0, 1) := by decide +kernel
theorem dX3_ownerThen_35 : decode cX3_ownerThen 35 = .ok (.getfield 49, 3) := by decide +kernel
theorem dX3_ownerThen_38 : decode cX3_ownerThen 38 = .ok (.iload_n 1, 1) := by decide +kernel
theorem dX3_ownerThen_39 : decode cX3_ownerThen 39 = .ok (.iaload, 1) := by decide +kernel
theorem dX3_ownerThen_40 : decode cX3_ownerThen 40 = .ok (.ireturn, 1) := by decide +kernel
theorem dX3_ownerThen_41 : decode cX3_ownerThen 41 = .ok (.iload_n 2, 1) := by decide +kernel
theorem dX3_ownerThen_42 : decode cX3_ownerThen 42 = .ok (.iload_n 3, 1) := by decide +kernel
theorem dX3_ownerThen_43 : decode cX3_ownerThen 43 = .ok (.if_icmp .le 7, 3) := by decide +kernel
theorem dX3_ownerThen_46 : decode cX3_ownerThen 46 = .ok (.iconst 0, 1) := by decide +kernel
theorem dX3_ownerThen_47 : decode cX3_ownerThen 47 = .ok (.goto 4, 3) := by decide +kernel
theorem dX3_ownerThen_50 : decode cX3_ownerThen 50 = .ok (.iconst 1, 1) := by decide +kernel
theorem dX3_ownerThen_51 : decode cX3_ownerThen 51 = .ok (.ireturn, 1) := by decide +kernel
theorem dX3_missingFor_0 : decode cX3_missingFor 0 = .ok (.aload_n 0, 1) := by decide +kernel
theorem dX3_missingFor_1 : decode cX3_missingFor 1 = .ok (.iload_n 1, 1) := by decide +kernel
theorem dX3_missingFor_2 : decode cX3_missingFor 2 = .ok (.invokevirtual 113, 3) := by decide +kernel
theorem dX3_missingFor_5 : decode cX3_missingFor 5 = .ok (.iload_n 2, 1) := by decide +kernel
theorem dX3_missingFor_6 : decode cX3_missingFor 6 = .ok (.if_icmp .ne 5, 3) := by decide +kernel
theorem dX3_missingFor_9 : decode cX3_missingFor 9 = .ok (.iconst 0, 1) := by decide +kernel
theorem dX3_missingFor_10 : decode cX3_missingFor 10 = .ok (.ireturn, 1) := by decide +kernel
theorem dX3_missingFor_11 : decode cX3_missingFor 11 = .ok (.aload_n 0, 1) := by decide +kernel
theorem dX3_missingFor_12 : decode cX3_missingFor 12 = .ok (.iload_n 1, 1) := by decide +kernel
theorem dX3_missingFor_13 : decode cX3_missingFor 13 = .ok (.iload_n 2, 1) := by decide +kernel
theorem dX3_missingFor_14 : decode cX3_missingFor 14 = .ok (.invokestatic 116, 3) := by decide +kernel
theorem dX3_missingFor_17 : decode cX3_missingFor 17 = .ok (.invokevirtual 110, 3) := by decide +kernel
theorem dX3_missingFor_20 : decode cX3_missingFor 20 = .ok (.aload_n 0, 1) := by decide +kernel
theorem dX3_missingFor_21 : decode cX3_missingFor 21 = .ok (.iload_n 1, 1) := by decide +kernel
theorem dX3_missingFor_22 : decode cX3_missingFor 22 = .ok (.iload_n 2, 1) := by decide +kernel
theorem dX3_missingFor_23 : decode cX3_missingFor 23 = .ok (.invokevirtual 110, 3) := by decide +kernel
theorem dX3_missingFor_26 : decode cX3_missingFor 26 = .ok (.isub, 1) := by decide +kernel
theorem dX3_missingFor_27 : decode cX3_missingFor 27 = .ok (.istore_n 3, 1) := by decide +kernel
theorem dX3_missingFor_28 : decode cX3_missingFor 28 = .ok (.aload_n 0, 1) := by decide +kernel
theorem dX3_missingFor_29 : decode cX3_missingFor 29 = .ok (.getfield 49, 3) := by decide +kernel
theorem dX3_missingFor_32 : decode cX3_missingFor 32 = .ok (.iload_n 1, 1) := by decide +kernel
theorem dX3_missingFor_33 : decode cX3_missingFor 33 = .ok (.iaload, 1) := by decide +kernel
theorem dX3_missingFor_34 : decode cX3_missingFor 34 = .ok (.iload_n 2, 1) := by decide +kernel
theorem dX3_missingFor_35 : decode cX3_missingFor 35 = .ok (.if_icmp .ne 7, 3) := by decide +kernel
theorem dX3_missingFor_38 : decode cX3_missingFor 38 = .ok (.iload_n 3, 1) := by decide +kernel
theorem dX3_missingFor_39 : decode cX3_missingFor 39 = .ok (.goto 6, 3) := by decide +kernel
theorem dX3_missingFor_42 : decode cX3_missingFor 42 = .ok (.iload_n 3, 1) := by decide +kernel
theorem dX3_missingFor_43 : decode cX3_missingFor 43 = .ok (.iconst 1, 1) := by decide +kernel
theorem dX3_missingFor_44 : decode cX3_missingFor 44 = .ok (.iadd, 1) := by decide +kernel
theorem dX3_missingFor_45 : decode cX3_missingFor 45 = .ok (.istore 4, 2) := by decide +kernel
theorem dX3_missingFor_47 : decode cX3_missingFor 47 = .ok (.iconst 1, 1) := by decide +kernel
theorem dX3_missingFor_48 : decode cX3_missingFor 48 = .ok (.iload 4, 2) := by decide +kernel
theorem dX3_missingFor_50 : decode cX3_missingFor 50 = .ok (.invokestatic 119, 3) := by decide +kernel
theorem dX3_missingFor_53 : decode cX3_missingFor 53 = .ok (.ireturn, 1) := by decide +kernel
theorem dX3_settleDay_0 : decode cX3_settleDay 0 = .ok (.iconst 0, 1) := by decide +kernel
theorem dX3_settleDay_1 : decode cX3_settleDay 1 = .ok (.istore_n 1, 1) := by decide +kernel
theorem dX3_settleDay_2 : decode cX3_settleDay 2 = .ok (.iload_n 1, 1) := by decide +kernel
theorem dX3_settleDay_3 : decode cX3_settleDay 3 = .ok (.bipush 96, 2) := by decide +kernel
theorem dX3_settleDay_5 : decode cX3_settleDay 5 = .ok (.if_icmp .ge 42, 3) := by decide +kernel
theorem dX3_settleDay_8 : decode cX3_settleDay 8 = .ok (.aload_n 0, 1) := by decide +kernel
theorem dX3_settleDay_9 : decode cX3_settleDay 9 = .ok (.iload_n 1, 1) := by decide +kernel
theorem dX3_settleDay_10 : decode cX3_settleDay 10 = .ok (.invokevirtual 107, 3) := by decide +kernel
theorem dX3_settleDay_13 : decode cX3_settleDay 13 = .ok (.ifCond .ne 23, 3) := by decide +kernel
theorem dX3_settleDay_16 : decode cX3_settleDay 16 = .ok (.aload_n 0, 1) := by decide +kernel
theorem dX3_settleDay_17 : decode cX3_settleDay 17 = .ok (.getfield 46, 3) := by decide +kernel
theorem dX3_settleDay_20 : decode cX3_settleDay 20 = .ok (.iload_n 1, 1) := by decide +kernel
theorem dX3_settleDay_21 : decode cX3_settleDay 21 = .ok (.dup2, 1) := by decide +kernel
theorem dX3_settleDay_22 : decode cX3_settleDay 22 = .ok (.iaload, 1) := by decide +kernel
theorem dX3_settleDay_23 : decode cX3_settleDay 23 = .ok (.iconst 2, 1) := by decide +kernel
theorem dX3_settleDay_24 : decode cX3_settleDay 24 = .ok (.idiv, 1) := by decide +kernel
theorem dX3_settleDay_25 : decode cX3_settleDay 25 = .ok (.iastore, 1) := by decide +kernel
theorem dX3_settleDay_26 : decode cX3_settleDay 26 = .ok (.aload_n 0, 1) := by decide +kernel
theorem dX3_settleDay_27 : decode cX3_settleDay 27 = .ok (.getfield 55, 3) := by decide +kernel
theorem dX3_settleDay_30 : decode cX3_settleDay 30 = .ok (.iload_n 1, 1) := by decide +kernel
theorem dX3_settleDay_31 : decode cX3_settleDay 31 = .ok (.iconst 0, 1) := by decide +kernel
theorem dX3_settleDay_32 : decode cX3_settleDay 32 = .ok (.iastore, 1) := by decide +kernel
theorem dX3_settleDay_33 : decode cX3_settleDay 33 = .ok (.goto 8, 3) := by decide +kernel
theorem dX3_settleDay_36 : decode cX3_settleDay 36 = .ok (.aload_n 0, 1) := by decide +kernel
theorem dX3_settleDay_37 : decode cX3_settleDay 37 = .ok (.iload_n 1, 1) := by decide +kernel
theorem dX3_settleDay_38 : decode cX3_settleDay 38 = .ok (.invokevirtual 122, 3) := by decide +kernel
theorem dX3_settleDay_41 : decode cX3_settleDay 41 = .ok (.iinc 1 1, 3) := by decide +kernel
theorem dX3_settleDay_44 : decode cX3_settleDay 44 = .ok (.goto (-42), 3) := by decide +kernel
theorem dX3_settleDay_47 : decode cX3_settleDay 47 = .ok (.aload_n 0, 1) := by decide +kernel
theorem dX3_settleDay_48 : decode cX3_settleDay 48 = .ok (.getfield 40, 3) := by decide +kernel
theorem dX3_settleDay_51 : decode cX3_settleDay 51 = .ok (.iconst 0, 1) := by decide +kernel
theorem dX3_settleDay_52 : decode cX3_settleDay 52 = .ok (.invokestatic 126, 3) := by decide +kernel
theorem dX3_settleDay_55 : decode cX3_settleDay 55 = .ok (.aload_n 0, 1) := by decide +kernel
theorem dX3_settleDay_56 : decode cX3_settleDay 56 = .ok (.getfield 19, 3) := by decide +kernel
theorem dX3_settleDay_59 : decode cX3_settleDay 59 = .ok (.iconst 0, 1) := by decide +kernel
theorem dX3_settleDay_60 : decode cX3_settleDay 60 = .ok (.invokestatic 126, 3) := by decide +kernel
theorem dX3_settleDay_63 : decode cX3_settleDay 63 = .ok (.aload_n 0, 1) := by decide +kernel
theorem dX3_settleDay_64 : decode cX3_settleDay 64 = .ok (.dup, 1) := by decide +kernel
theorem dX3_settleDay_65 : decode cX3_settleDay 65 = .ok (.getfield 61, 3) := by decide +kernel
theorem dX3_settleDay_68 : decode cX3_settleDay 68 = .ok (.iconst 1, 1) := by decide +kernel
theorem dX3_settleDay_69 : decode cX3_settleDay 69 = .ok (.iadd, 1) := by decide +kernel
theorem dX3_settleDay_70 : decode cX3_settleDay 70 = .ok (.putfield 61, 3) := by decide +kernel
theorem dX3_settleDay_73 : decode cX3_settleDay 73 = .ok (.return_, 1) := by decide +kernel
theorem dX3_settleBids_0 : decode cX3_settleBids 0 = .ok (.aload_n 0, 1) := by decide +kernel
theorem dX3_settleBids_1 : decode cX3_settleBids 1 = .ok (.iload_n 1, 1) := by decide +kernel
theorem dX3_settleBids_2 : decode cX3_settleBids 2 = .ok (.invokevirtual 113, 3) := by decide +kernel
theorem dX3_settleBids_5 : decode cX3_settleBids 5 = .ok (.istore_n 2, 1) := by decide +kernel
theorem dX3_settleBids_6 : decode cX3_settleBids 6 = .ok (.iload_n 2, 1) := by decide +kernel
theorem dX3_settleBids_7 : decode cX3_settleBids 7 = .ok (.iconst 1, 1) := by decide +kernel
theorem dX3_settleBids_8 : decode cX3_settleBids 8 = .ok (.if_icmp .ne 14, 3) := by decide +kernel
theorem dX3_settleBids_11 : decode cX3_settleBids 11 = .ok (.aload_n 0, 1) := by decide +kernel
theorem dX3_settleBids_12 : decode cX3_settleBids 12 = .ok (.iload_n 1, 1) := by decide +kernel
theorem dX3_settleBids_13 : decode cX3_settleBids 13 = .ok (.iconst 0, 1) := by decide +kernel
theorem dX3_settleBids_14 : decode cX3_settleBids 14 = .ok (.invokevirtual 110, 3) := by decide +kernel
theorem dX3_settleBids_17 : decode cX3_settleBids 17 = .ok (.iconst 2, 1) := by decide +kernel
theorem dX3_settleBids_18 : decode cX3_settleBids 18 = .ok (.idiv, 1) := by decide +kernel
theorem dX3_settleBids_19 : decode cX3_settleBids 19 = .ok (.goto 4, 3) := by decide +kernel
theorem dX3_settleBids_22 : decode cX3_settleBids 22 = .ok (.iconst 0, 1) := by decide +kernel
theorem dX3_settleBids_23 : decode cX3_settleBids 23 = .ok (.istore_n 3, 1) := by decide +kernel
theorem dX3_settleBids_24 : decode cX3_settleBids 24 = .ok (.aload_n 0, 1) := by decide +kernel
theorem dX3_settleBids_25 : decode cX3_settleBids 25 = .ok (.iload_n 1, 1) := by decide +kernel
theorem dX3_settleBids_26 : decode cX3_settleBids 26 = .ok (.iload_n 2, 1) := by decide +kernel
theorem dX3_settleBids_27 : decode cX3_settleBids 27 = .ok (.invokevirtual 132, 3) := by decide +kernel
theorem dX3_settleBids_30 : decode cX3_settleBids 30 = .ok (.istore 4, 2) := by decide +kernel
theorem dX3_settleBids_32 : decode cX3_settleBids 32 = .ok (.aload_n 0, 1) := by decide +kernel
theorem dX3_settleBids_33 : decode cX3_settleBids 33 = .ok (.iload_n 1, 1) := by decide +kernel
theorem dX3_settleBids_34 : decode cX3_settleBids 34 = .ok (.iload_n 2, 1) := by decide +kernel
theorem dX3_settleBids_35 : decode cX3_settleBids 35 = .ok (.invokestatic 116, 3) := by decide +kernel
theorem dX3_settleBids_38 : decode cX3_settleBids 38 = .ok (.iload 4, 2) := by decide +kernel
theorem dX3_settleBids_40 : decode cX3_settleBids 40 = .ok (.invokevirtual 135, 3) := by decide +kernel
theorem dX3_settleBids_43 : decode cX3_settleBids 43 = .ok (.istore 5, 2) := by decide +kernel
theorem dX3_settleBids_45 : decode cX3_settleBids 45 = .ok (.aload_n 0, 1) := by decide +kernel
theorem dX3_settleBids_46 : decode cX3_settleBids 46 = .ok (.getfield 58, 3) := by decide +kernel
theorem dX3_settleBids_49 : decode cX3_settleBids 49 = .ok (.iload_n 1, 1) := by decide +kernel
theorem dX3_settleBids_50 : decode cX3_settleBids 50 = .ok (.bipush 24, 2) := by decide +kernel
theorem dX3_settleBids_52 : decode cX3_settleBids 52 = .ok (.idiv, 1) := by decide +kernel
theorem dX3_settleBids_53 : decode cX3_settleBids 53 = .ok (.dup2, 1) := by decide +kernel
theorem dX3_settleBids_54 : decode cX3_settleBids 54 = .ok (.iaload, 1) := by decide +kernel
theorem dX3_settleBids_55 : decode cX3_settleBids 55 = .ok (.iload 4, 2) := by decide +kernel
theorem dX3_settleBids_57 : decode cX3_settleBids 57 = .ok (.iload 5, 2) := by decide +kernel
theorem dX3_settleBids_59 : decode cX3_settleBids 59 = .ok (.isub, 1) := by decide +kernel
theorem dX3_settleBids_60 : decode cX3_settleBids 60 = .ok (.iadd, 1) := by decide +kernel
theorem dX3_settleBids_61 : decode cX3_settleBids 61 = .ok (.iastore, 1) := by decide +kernel
theorem dX3_settleBids_62 : decode cX3_settleBids 62 = .ok (.aload_n 0, 1) := by decide +kernel
theorem dX3_settleBids_63 : decode cX3_settleBids 63 = .ok (.getfield 43, 3) := by decide +kernel
theorem dX3_settleBids_66 : decode cX3_settleBids 66 = .ok (.iload_n 1, 1) := by decide +kernel
theorem dX3_settleBids_67 : decode cX3_settleBids 67 = .ok (.iload_n 2, 1) := by decide +kernel
theorem dX3_settleBids_68 : decode cX3_settleBids 68 = .ok (.iastore, 1) := by decide +kernel
theorem dX3_settleBids_69 : decode cX3_settleBids 69 = .ok (.aload_n 0, 1) := by decide +kernel
theorem dX3_settleBids_70 : decode cX3_settleBids 70 = .ok (.getfield 46, 3) := by decide +kernel
theorem dX3_settleBids_73 : decode cX3_settleBids 73 = .ok (.iload_n 1, 1) := by decide +kernel
theorem dX3_settleBids_74 : decode cX3_settleBids 74 = .ok (.iload_n 3, 1) := by decide +kernel
theorem dX3_settleBids_75 : decode cX3_settleBids 75 = .ok (.iastore, 1) := by decide +kernel
theorem dX3_settleBids_76 : decode cX3_settleBids 76 = .ok (.aload_n 0, 1) := by decide +kernel
theorem dX3_settleBids_77 : decode cX3_settleBids 77 = .ok (.getfield 49, 3) := by decide +kernel
theorem dX3_settleBids_80 : decode cX3_settleBids 80 = .ok (.iload_n 1, 1) := by decide +kernel
theorem dX3_settleBids_81 : decode cX3_settleBids 81 = .ok (.iload_n 2, 1) := by decide +kernel
theorem dX3_settleBids_82 : decode cX3_settleBids 82 = .ok (.invokestatic 116, 3) := by decide +kernel
theorem dX3_settleBids_85 : decode cX3_settleBids 85 = .ok (.iastore, 1) := by decide +kernel
theorem dX3_settleBids_86 : decode cX3_settleBids 86 = .ok (.aload_n 0, 1) := by decide +kernel
theorem dX3_settleBids_87 : decode cX3_settleBids 87 = .ok (.getfield 52, 3) := by decide +kernel
theorem dX3_settleBids_90 : decode cX3_settleBids 90 = .ok (.iload_n 1, 1) := by decide +kernel
theorem dX3_settleBids_91 : decode cX3_settleBids 91 = .ok (.iload_n 2, 1) := by decide +kernel
theorem dX3_settleBids_92 : decode cX3_settleBids 92 = .ok (.ifCond .ne 11, 3) := by decide +kernel
theorem dX3_settleBids_95 : decode cX3_settleBids 95 = .ok (.aload_n 0, 1) := by decide +kernel
theorem dX3_settleBids_96 : decode cX3_settleBids 96 = .ok (.iload_n 1, 1) := by decide +kernel
theorem dX3_settleBids_97 : decode cX3_settleBids 97 = .ok (.invokevirtual 138, 3) := by decide +kernel
theorem dX3_settleBids_100 : decode cX3_settleBids 100 = .ok (.goto 4, 3) := by decide +kernel
theorem dX3_settleBids_103 : decode cX3_settleBids 103 = .ok (.iconst 0, 1) := by decide +kernel
theorem dX3_settleBids_104 : decode cX3_settleBids 104 = .ok (.iastore, 1) := by decide +kernel
theorem dX3_settleBids_105 : decode cX3_settleBids 105 = .ok (.aload_n 0, 1) := by decide +kernel
theorem dX3_settleBids_106 : decode cX3_settleBids 106 = .ok (.getfield 55, 3) := by decide +kernel
theorem dX3_settleBids_109 : decode cX3_settleBids 109 = .ok (.iload_n 1, 1) := by decide +kernel
theorem dX3_settleBids_110 : decode cX3_settleBids 110 = .ok (.iload 4, 2) := by decide +kernel
theorem dX3_settleBids_112 : decode cX3_settleBids 112 = .ok (.iastore, 1) := by decide +kernel
theorem dX3_settleBids_113 : decode cX3_settleBids 113 = .ok (.return_, 1) := by decide +kernel
theorem dX3_collectFrom_0 : decode cX3_collectFrom 0 = .ok (.iconst 0, 1) := by decide +kernel
theorem dX3_collectFrom_1 : decode cX3_collectFrom 1 = .ok (.istore_n 3, 1) := by decide +kernel
theorem dX3_collectFrom_2 : decode cX3_collectFrom 2 = .ok (.iconst 0, 1) := by decide +kernel
theorem dX3_collectFrom_3 : decode cX3_collectFrom 3 = .ok (.istore 4, 2) := by decide +kernel
theorem dX3_collectFrom_5 : decode cX3_collectFrom 5 = .ok (.iload 4, 2) := by decide +kernel
theorem dX3_collectFrom_7 : decode cX3_collectFrom 7 = .ok (.aload_n 0, 1) := by decide +kernel
theorem dX3_collectFrom_8 : decode cX3_collectFrom 8 = .ok (.getfield 67, 3) := by decide +kernel
theorem dX3_collectFrom_11 : decode cX3_collectFrom 11 = .ok (.if_icmp .ge 64, 3) := by decide +kernel
theorem dX3_collectFrom_14 : decode cX3_collectFrom 14 = .ok (.aload_n 0, 1) := by decide +kernel
theorem dX3_collectFrom_15 : decode cX3_collectFrom 15 = .ok (.iload 4, 2) := by decide +kernel
theorem dX3_collectFrom_17 : decode cX3_collectFrom 17 = .ok (.iload_n 1, 1) := by decide +kernel
theorem dX3_collectFrom_18 : decode cX3_collectFrom 18 = .ok (.iload_n 2, 1) := by decide +kernel
theorem dX3_collectFrom_19 : decode cX3_collectFrom 19 = .ok (.invokevirtual 76, 3) := by decide +kernel
theorem dX3_collectFrom_22 : decode cX3_collectFrom 22 = .ok (.istore 5, 2) := by decide +kernel
theorem dX3_collectFrom_24 : decode cX3_collectFrom 24 = .ok (.iload 5, 2) := by decide +kernel
theorem dX3_collectFrom_26 : decode cX3_collectFrom 26 = .ok (.ifCond .le 43, 3) := by decide +kernel
theorem dX3_collectFrom_29 : decode cX3_collectFrom 29 = .ok (.aload_n 0, 1) := by decide +kernel
theorem dX3_collectFrom_30 : decode cX3_collectFrom 30 = .ok (.getfield 15, 3) := by decide +kernel
theorem dX3_collectFrom_33 : decode cX3_collectFrom 33 = .ok (.iload 4, 2) := by decide +kernel
theorem dX3_collectFrom_35 : decode cX3_collectFrom 35 = .ok (.dup2, 1) := by decide +kernel
theorem dX3_collectFrom_36 : decode cX3_collectFrom 36 = .ok (.iaload, 1) := by decide +kernel
theorem dX3_collectFrom_37 : decode cX3_collectFrom 37 = .ok (.iload 5, 2) := by decide +kernel
theorem dX3_collectFrom_39 : decode cX3_collectFrom 39 = .ok (.isub, 1) := by decide +kernel
theorem dX3_collectFrom_40 : decode cX3_collectFrom 40 = .ok (.iastore, 1) := by decide +kernel
theorem dX3_collectFrom_41 : decode cX3_collectFrom 41 = .ok (.aload_n 0, 1) := by decide +kernel
theorem dX3_collectFrom_42 : decode cX3_collectFrom 42 = .ok (.getfield 28, 3) := by decide +kernel
theorem dX3_collectFrom_45 : decode cX3_collectFrom 45 = .ok (.iload 4, 2) := by decide +kernel
theorem dX3_collectFrom_47 : decode cX3_collectFrom 47 = .ok (.dup2, 1) := by decide +kernel
theorem dX3_collectFrom_48 : decode cX3_collectFrom 48 = .ok (.iaload, 1) := by decide +kernel
theorem dX3_collectFrom_49 : decode cX3_collectFrom 49 = .ok (.iconst 1, 1) := by decide +kernel
theorem dX3_collectFrom_50 : decode cX3_collectFrom 50 = .ok (.iadd, 1) := by decide +kernel
theorem dX3_collectFrom_51 : decode cX3_collectFrom 51 = .ok (.iastore, 1) := by decide +kernel
theorem dX3_collectFrom_52 : decode cX3_collectFrom 52 = .ok (.aload_n 0, 1) := by decide +kernel
theorem dX3_collectFrom_53 : decode cX3_collectFrom 53 = .ok (.getfield 31, 3) := by decide +kernel
theorem dX3_collectFrom_56 : decode cX3_collectFrom 56 = .ok (.iload 4, 2) := by decide +kernel
theorem dX3_collectFrom_58 : decode cX3_collectFrom 58 = .ok (.dup2, 1) := by decide +kernel
theorem dX3_collectFrom_59 : decode cX3_collectFrom 59 = .ok (.iaload, 1) := by decide +kernel
theorem dX3_collectFrom_60 : decode cX3_collectFrom 60 = .ok (.iload 5, 2) := by decide +kernel
theorem dX3_collectFrom_62 : decode cX3_collectFrom 62 = .ok (.iadd, 1) := by decide +kernel
theorem dX3_collectFrom_63 : decode cX3_collectFrom 63 = .ok (.iastore, 1) := by decide +kernel
theorem dX3_collectFrom_64 : decode cX3_collectFrom 64 = .ok (.iload_n 3, 1) := by decide +kernel
theorem dX3_collectFrom_65 : decode cX3_collectFrom 65 = .ok (.iload 5, 2) := by decide +kernel
theorem dX3_collectFrom_67 : decode cX3_collectFrom 67 = .ok (.iadd, 1) := by decide +kernel
theorem dX3_collectFrom_68 : decode cX3_collectFrom 68 = .ok (.istore_n 3, 1) := by decide +kernel
theorem dX3_collectFrom_69 : decode cX3_collectFrom 69 = .ok (.iinc 4 1, 3) := by decide +kernel
theorem dX3_collectFrom_72 : decode cX3_collectFrom 72 = .ok (.goto (-67), 3) := by decide +kernel
theorem dX3_collectFrom_75 : decode cX3_collectFrom 75 = .ok (.iload_n 3, 1) := by decide +kernel
theorem dX3_collectFrom_76 : decode cX3_collectFrom 76 = .ok (.ireturn, 1) := by decide +kernel
theorem dX3_shareOut_0 : decode cX3_shareOut 0 = .ok (.aload_n 0, 1) := by decide +kernel
theorem dX3_shareOut_1 : decode cX3_shareOut 1 = .ok (.iload_n 1, 1) := by decide +kernel
theorem dX3_shareOut_2 : decode cX3_shareOut 2 = .ok (.iload_n 2, 1) := by decide +kernel
theorem dX3_shareOut_3 : decode cX3_shareOut 3 = .ok (.invokevirtual 104, 3) := by decide +kernel
theorem dX3_shareOut_6 : decode cX3_shareOut 6 = .ok (.istore 4, 2) := by decide +kernel
theorem dX3_shareOut_8 : decode cX3_shareOut 8 = .ok (.iload 4, 2) := by decide +kernel
theorem dX3_shareOut_10 : decode cX3_shareOut 10 = .ok (.ifCond .gt 5, 3) := by decide +kernel
theorem dX3_shareOut_13 : decode cX3_shareOut 13 = .ok (.iconst 0, 1) := by decide +kernel
theorem dX3_shareOut_14 : decode cX3_shareOut 14 = .ok (.ireturn, 1) := by decide +kernel
theorem dX3_shareOut_15 : decode cX3_shareOut 15 = .ok (.iconst 0, 1) := by decide +kernel
theorem dX3_shareOut_16 : decode cX3_shareOut 16 = .ok (.istore 5, 2) := by decide +kernel
theorem dX3_shareOut_18 : decode cX3_shareOut 18 = .ok (.iconst 0, 1) := by decide +kernel
theorem dX3_shareOut_19 : decode cX3_shareOut 19 = .ok (.istore 6, 2) := by decide +kernel
theorem dX3_shareOut_21 : decode cX3_shareOut 21 = .ok (.iload 6, 2) := by decide +kernel
theorem dX3_shareOut_23 : decode cX3_shareOut 23 = .ok (.aload_n 0, 1) := by decide +kernel
theorem dX3_shareOut_24 : decode cX3_shareOut 24 = .ok (.getfield 67, 3) := by decide +kernel
theorem dX3_shareOut_27 : decode cX3_shareOut 27 = .ok (.if_icmp .ge 51, 3) := by decide +kernel
theorem dX3_shareOut_30 : decode cX3_shareOut 30 = .ok (.iload_n 3, 1) := by decide +kernel
theorem dX3_shareOut_31 : decode cX3_shareOut 31 = .ok (.aload_n 0, 1) := by decide +kernel
theorem dX3_shareOut_32 : decode cX3_shareOut 32 = .ok (.iload 6, 2) := by decide +kernel
theorem dX3_shareOut_34 : decode cX3_shareOut 34 = .ok (.iload_n 1, 1) := by decide +kernel
theorem dX3_shareOut_35 : decode cX3_shareOut 35 = .ok (.iload_n 2, 1) := by decide +kernel
theorem dX3_shareOut_36 : decode cX3_shareOut 36 = .ok (.invokevirtual 76, 3) := by decide +kernel
theorem dX3_shareOut_39 : decode cX3_shareOut 39 = .ok (.imul, 1) := by decide +kernel
theorem dX3_shareOut_40 : decode cX3_shareOut 40 = .ok (.iload 4, 2) := by decide +kernel
theorem dX3_shareOut_42 : decode cX3_shareOut 42 = .ok (.idiv, 1) := by decide +kernel
theorem dX3_shareOut_43 : decode cX3_shareOut 43 = .ok (.istore 7, 2) := by decide +kernel
theorem dX3_shareOut_45 : decode cX3_shareOut 45 = .ok (.aload_n 0, 1) := by decide +kernel
theorem dX3_shareOut_46 : decode cX3_shareOut 46 = .ok (.iload 6, 2) := by decide +kernel
theorem dX3_shareOut_48 : decode cX3_shareOut 48 = .ok (.iload 7, 2) := by decide +kernel
theorem dX3_shareOut_50 : decode cX3_shareOut 50 = .ok (.invokevirtual 141, 3) := by decide +kernel
theorem dX3_shareOut_53 : decode cX3_shareOut 53 = .ok (.aload_n 0, 1) := by decide +kernel
theorem dX3_shareOut_54 : decode cX3_shareOut 54 = .ok (.getfield 34, 3) := by decide +kernel
theorem dX3_shareOut_57 : decode cX3_shareOut 57 = .ok (.iload 6, 2) := by decide +kernel
theorem dX3_shareOut_59 : decode cX3_shareOut 59 = .ok (.dup2, 1) := by decide +kernel
theorem dX3_shareOut_60 : decode cX3_shareOut 60 = .ok (.iaload, 1) := by decide +kernel
theorem dX3_shareOut_61 : decode cX3_shareOut 61 = .ok (.iload 7, 2) := by decide +kernel
theorem dX3_shareOut_63 : decode cX3_shareOut 63 = .ok (.iadd, 1) := by decide +kernel
theorem dX3_shareOut_64 : decode cX3_shareOut 64 = .ok (.iastore, 1) := by decide +kernel
theorem dX3_shareOut_65 : decode cX3_shareOut 65 = .ok (.iload 5, 2) := by decide +kernel
theorem dX3_shareOut_67 : decode cX3_shareOut 67 = .ok (.iload 7, 2) := by decide +kernel
theorem dX3_shareOut_69 : decode cX3_shareOut 69 = .ok (.iadd, 1) := by decide +kernel
theorem dX3_shareOut_70 : decode cX3_shareOut 70 = .ok (.istore 5, 2) := by decide +kernel
theorem dX3_shareOut_72 : decode cX3_shareOut 72 = .ok (.iinc 6 1, 3) := by decide +kernel
theorem dX3_shareOut_75 : decode cX3_shareOut 75 = .ok (.goto (-54), 3) := by decide +kernel
theorem dX3_shareOut_78 : decode cX3_shareOut 78 = .ok (.iload 5, 2) := by decide +kernel
theorem dX3_shareOut_80 : decode cX3_shareOut 80 = .ok (.ireturn, 1) := by decide +kernel
theorem dX3_biddersForQuiet_0 : decode cX3_biddersForQuiet 0 = .ok (.iconst 0, 1) := by decide +kernel
theorem dX3_biddersForQuiet_1 : decode cX3_biddersForQuiet 1 = .ok (.istore_n 2, 1) := by decide +kernel
theorem dX3_biddersForQuiet_2 : decode cX3_biddersForQuiet 2 = .ok (.iconst 0, 1) := by decide +kernel
theorem dX3_biddersForQuiet_3 : decode cX3_biddersForQuiet 3 = .ok (.istore_n 3, 1) := by decide +kernel
theorem dX3_biddersForQuiet_4 : decode cX3_biddersForQuiet 4 = .ok (.iload_n 3, 1) := by decide +kernel
theorem dX3_biddersForQuiet_5 : decode cX3_biddersForQuiet 5 = .ok (.aload_n 0, 1) := by decide +kernel
theorem dX3_biddersForQuiet_6 : decode cX3_biddersForQuiet 6 = .ok (.getfield 67, 3) := by decide +kernel
theorem dX3_biddersForQuiet_9 : decode cX3_biddersForQuiet 9 = .ok (.if_icmp .ge 25, 3) := by decide +kernel
theorem dX3_biddersForQuiet_12 : decode cX3_biddersForQuiet 12 = .ok (.aload_n 0, 1) := by decide +kernel
theorem dX3_biddersForQuiet_13 : decode cX3_biddersForQuiet 13 = .ok (.iload_n 3, 1) := by decide +kernel
theorem dX3_biddersForQuiet_14 : decode cX3_biddersForQuiet 14 = .ok (.iload_n 1, 1) := by decide +kernel
theorem dX3_biddersForQuiet_15 : decode cX3_biddersForQuiet 15 = .ok (.iconst 0, 1) := by decide +kernel
theorem dX3_biddersForQuiet_16 : decode cX3_biddersForQuiet 16 = .ok (.invokevirtual 76, 3) := by decide +kernel
theorem dX3_biddersForQuiet_19 : decode cX3_biddersForQuiet 19 = .ok (.ifCond .le 9, 3) := by decide +kernel
theorem dX3_biddersForQuiet_22 : decode cX3_biddersForQuiet 22 = .ok (.iload_n 2, 1) := by decide +kernel
theorem dX3_biddersForQuiet_23 : decode cX3_biddersForQuiet 23 = .ok (.iconst 1, 1) := by decide +kernel
theorem dX3_biddersForQuiet_24 : decode cX3_biddersForQuiet 24 = .ok (.iload_n 3, 1) := by decide +kernel
theorem dX3_biddersForQuiet_25 : decode cX3_biddersForQuiet 25 = .ok (.ishl, 1) := by decide +kernel
theorem dX3_biddersForQuiet_26 : decode cX3_biddersForQuiet 26 = .ok (.ior, 1) := by decide +kernel
theorem dX3_biddersForQuiet_27 : decode cX3_biddersForQuiet 27 = .ok (.istore_n 2, 1) := by decide +kernel
theorem dX3_biddersForQuiet_28 : decode cX3_biddersForQuiet 28 = .ok (.iinc 3 1, 3) := by decide +kernel
theorem dX3_biddersForQuiet_31 : decode cX3_biddersForQuiet 31 = .ok (.goto (-27), 3) := by decide +kernel
theorem dX3_biddersForQuiet_34 : decode cX3_biddersForQuiet 34 = .ok (.iload_n 2, 1) := by decide +kernel
theorem dX3_biddersForQuiet_35 : decode cX3_biddersForQuiet 35 = .ok (.ireturn, 1) := by decide +kernel
theorem dX3_noteBreach_0 : decode cX3_noteBreach 0 = .ok (.iload_n 2, 1) := by decide +kernel
theorem dX3_noteBreach_1 : decode cX3_noteBreach 1 = .ok (.bipush 24, 2) := by decide +kernel
theorem dX3_noteBreach_3 : decode cX3_noteBreach 3 = .ok (.idiv, 1) := by decide +kernel
theorem dX3_noteBreach_4 : decode cX3_noteBreach 4 = .ok (.istore_n 3, 1) := by decide +kernel
theorem dX3_noteBreach_5 : decode cX3_noteBreach 5 = .ok (.aload_n 0, 1) := by decide +kernel
theorem dX3_noteBreach_6 : decode cX3_noteBreach 6 = .ok (.dup, 1) := by decide +kernel
theorem dX3_noteBreach_7 : decode cX3_noteBreach 7 = .ok (.getfield 64, 3) := by decide +kernel
theorem dX3_noteBreach_10 : decode cX3_noteBreach 10 = .ok (.iconst 1, 1) := by decide +kernel
theorem dX3_noteBreach_11 : decode cX3_noteBreach 11 = .ok (.iadd, 1) := by decide +kernel
theorem dX3_noteBreach_12 : decode cX3_noteBreach 12 = .ok (.putfield 64, 3) := by decide +kernel
theorem dX3_noteBreach_15 : decode cX3_noteBreach 15 = .ok (.aload_n 0, 1) := by decide +kernel
theorem dX3_noteBreach_16 : decode cX3_noteBreach 16 = .ok (.getfield 37, 3) := by decide +kernel
theorem dX3_noteBreach_19 : decode cX3_noteBreach 19 = .ok (.iload_n 1, 1) := by decide +kernel
theorem dX3_noteBreach_20 : decode cX3_noteBreach 20 = .ok (.dup2, 1) := by decide +kernel
theorem dX3_noteBreach_21 : decode cX3_noteBreach 21 = .ok (.iaload, 1) := by decide +kernel
theorem dX3_noteBreach_22 : decode cX3_noteBreach 22 = .ok (.iconst 1, 1) := by decide +kernel
theorem dX3_noteBreach_23 : decode cX3_noteBreach 23 = .ok (.iadd, 1) := by decide +kernel
theorem dX3_noteBreach_24 : decode cX3_noteBreach 24 = .ok (.iastore, 1) := by decide +kernel
theorem dX3_noteBreach_25 : decode cX3_noteBreach 25 = .ok (.aload_n 0, 1) := by decide +kernel
theorem dX3_noteBreach_26 : decode cX3_noteBreach 26 = .ok (.getfield 25, 3) := by decide +kernel
theorem dX3_noteBreach_29 : decode cX3_noteBreach 29 = .ok (.iload_n 1, 1) := by decide +kernel
theorem dX3_noteBreach_30 : decode cX3_noteBreach 30 = .ok (.iload_n 3, 1) := by decide +kernel
theorem dX3_noteBreach_31 : decode cX3_noteBreach 31 = .ok (.iastore, 1) := by decide +kernel
theorem dX3_noteBreach_32 : decode cX3_noteBreach 32 = .ok (.aload_n 0, 1) := by decide +kernel
theorem dX3_noteBreach_33 : decode cX3_noteBreach 33 = .ok (.getfield 9, 3) := by decide +kernel
theorem dX3_noteBreach_36 : decode cX3_noteBreach 36 = .ok (.aload_n 0, 1) := by decide +kernel
theorem dX3_noteBreach_37 : decode cX3_noteBreach 37 = .ok (.iload_n 1, 1) := by decide +kernel
theorem dX3_noteBreach_38 : decode cX3_noteBreach 38 = .ok (.invokevirtual 84, 3) := by decide +kernel
theorem dX3_noteBreach_41 : decode cX3_noteBreach 41 = .ok (.invokestatic 95, 3) := by decide +kernel
theorem dX3_noteBreach_44 : decode cX3_noteBreach 44 = .ok (.istore 4, 2) := by decide +kernel
theorem dX3_noteBreach_46 : decode cX3_noteBreach 46 = .ok (.aload_n 0, 1) := by decide +kernel
theorem dX3_noteBreach_47 : decode cX3_noteBreach 47 = .ok (.getfield 15, 3) := by decide +kernel
theorem dX3_noteBreach_50 : decode cX3_noteBreach 50 = .ok (.iload_n 1, 1) := by decide +kernel
theorem dX3_noteBreach_51 : decode cX3_noteBreach 51 = .ok (.dup2, 1) := by decide +kernel
theorem dX3_noteBreach_52 : decode cX3_noteBreach 52 = .ok (.iaload, 1) := by decide +kernel
theorem dX3_noteBreach_53 : decode cX3_noteBreach 53 = .ok (.iload 4, 2) := by decide +kernel
theorem dX3_noteBreach_55 : decode cX3_noteBreach 55 = .ok (.isub, 1) := by decide +kernel
theorem dX3_noteBreach_56 : decode cX3_noteBreach 56 = .ok (.iastore, 1) := by decide +kernel
theorem dX3_noteBreach_57 : decode cX3_noteBreach 57 = .ok (.aload_n 0, 1) := by decide +kernel
theorem dX3_noteBreach_58 : decode cX3_noteBreach 58 = .ok (.getfield 22, 3) := by decide +kernel
theorem dX3_noteBreach_61 : decode cX3_noteBreach 61 = .ok (.iload_n 1, 1) := by decide +kernel
theorem dX3_noteBreach_62 : decode cX3_noteBreach 62 = .ok (.dup2, 1) := by decide +kernel
theorem dX3_noteBreach_63 : decode cX3_noteBreach 63 = .ok (.iaload, 1) := by decide +kernel
theorem dX3_noteBreach_64 : decode cX3_noteBreach 64 = .ok (.aload_n 0, 1) := by decide +kernel
theorem dX3_noteBreach_65 : decode cX3_noteBreach 65 = .ok (.getfield 9, 3) := by decide +kernel
theorem dX3_noteBreach_68 : decode cX3_noteBreach 68 = .ok (.iload 4, 2) := by decide +kernel
theorem dX3_noteBreach_70 : decode cX3_noteBreach 70 = .ok (.isub, 1) := by decide +kernel
theorem dX3_noteBreach_71 : decode cX3_noteBreach 71 = .ok (.iadd, 1) := by decide +kernel
theorem dX3_noteBreach_72 : decode cX3_noteBreach 72 = .ok (.iastore, 1) := by decide +kernel
theorem dX3_noteBreach_73 : decode cX3_noteBreach 73 = .ok (.aload_n 0, 1) := by decide +kernel
theorem dX3_noteBreach_74 : decode cX3_noteBreach 74 = .ok (.iload_n 2, 1) := by decide +kernel
theorem dX3_noteBreach_75 : decode cX3_noteBreach 75 = .ok (.iload 4, 2) := by decide +kernel
theorem dX3_noteBreach_77 : decode cX3_noteBreach 77 = .ok (.invokevirtual 145, 3) := by decide +kernel
theorem dX3_noteBreach_80 : decode cX3_noteBreach 80 = .ok (.istore 5, 2) := by decide +kernel
theorem dX3_noteBreach_82 : decode cX3_noteBreach 82 = .ok (.aload_n 0, 1) := by decide +kernel
theorem dX3_noteBreach_83 : decode cX3_noteBreach 83 = .ok (.getfield 58, 3) := by decide +kernel
theorem dX3_noteBreach_86 : decode cX3_noteBreach 86 = .ok (.iload_n 3, 1) := by decide +kernel
theorem dX3_noteBreach_87 : decode cX3_noteBreach 87 = .ok (.dup2, 1) := by decide +kernel
theorem dX3_noteBreach_88 : decode cX3_noteBreach 88 = .ok (.iaload, 1) := by decide +kernel
theorem dX3_noteBreach_89 : decode cX3_noteBreach 89 = .ok (.iload 4, 2) := by decide +kernel
theorem dX3_noteBreach_91 : decode cX3_noteBreach 91 = .ok (.iload 5, 2) := by decide +kernel
theorem dX3_noteBreach_93 : decode cX3_noteBreach 93 = .ok (.isub, 1) := by decide +kernel
theorem dX3_noteBreach_94 : decode cX3_noteBreach 94 = .ok (.iadd, 1) := by decide +kernel
theorem dX3_noteBreach_95 : decode cX3_noteBreach 95 = .ok (.iastore, 1) := by decide +kernel
theorem dX3_noteBreach_96 : decode cX3_noteBreach 96 = .ok (.iload 4, 2) := by decide +kernel
theorem dX3_noteBreach_98 : decode cX3_noteBreach 98 = .ok (.ireturn, 1) := by decide +kernel
theorem dX3_shareFine_0 : decode cX3_shareFine 0 = .ok (.aload_n 0, 1) := by decide +kernel
theorem dX3_shareFine_1 : decode cX3_shareFine 1 = .ok (.getfield 52, 3) := by decide +kernel
theorem dX3_shareFine_4 : decode cX3_shareFine 4 = .ok (.iload_n 1, 1) := by decide +kernel
theorem dX3_shareFine_5 : decode cX3_shareFine 5 = .ok (.iaload, 1) := by decide +kernel
theorem dX3_shareFine_6 : decode cX3_shareFine 6 = .ok (.invokestatic 148, 3) := by decide +kernel
theorem dX3_shareFine_9 : decode cX3_shareFine 9 = .ok (.istore_n 3, 1) := by decide +kernel
theorem dX3_shareFine_10 : decode cX3_shareFine 10 = .ok (.iload_n 3, 1) := by decide +kernel
theorem dX3_shareFine_11 : decode cX3_shareFine 11 = .ok (.ifCond .gt 5, 3) := by decide +kernel
theorem dX3_shareFine_14 : decode cX3_shareFine 14 = .ok (.iconst 0, 1) := by decide +kernel
theorem dX3_shareFine_15 : decode cX3_shareFine 15 = .ok (.ireturn, 1) := by decide +kernel
theorem dX3_shareFine_16 : decode cX3_shareFine 16 = .ok (.iload_n 2, 1) := by decide +kernel
theorem dX3_shareFine_17 : decode cX3_shareFine 17 = .ok (.iload_n 3, 1) := by decide +kernel
theorem dX3_shareFine_18 : decode cX3_shareFine 18 = .ok (.idiv, 1) := by decide +kernel
theorem dX3_shareFine_19 : decode cX3_shareFine 19 = .ok (.istore 4, 2) := by decide +kernel
theorem dX3_shareFine_21 : decode cX3_shareFine 21 = .ok (.iconst 0, 1) := by decide +kernel
theorem dX3_shareFine_22 : decode cX3_shareFine 22 = .ok (.istore 5, 2) := by decide +kernel
theorem dX3_shareFine_24 : decode cX3_shareFine 24 = .ok (.iload 5, 2) := by decide +kernel
theorem dX3_shareFine_26 : decode cX3_shareFine 26 = .ok (.aload_n 0, 1) := by decide +kernel
theorem dX3_shareFine_27 : decode cX3_shareFine 27 = .ok (.getfield 67, 3) := by decide +kernel
theorem dX3_shareFine_30 : decode cX3_shareFine 30 = .ok (.if_icmp .ge 32, 3) := by decide +kernel
theorem dX3_shareFine_33 : decode cX3_shareFine 33 = .ok (.aload_n 0, 1) := by decide +kernel
theorem dX3_shareFine_34 : decode cX3_shareFine 34 = .ok (.getfield 52, 3) := by decide +kernel
theorem dX3_shareFine_37 : decode cX3_shareFine 37 = .ok (.iload_n 1, 1) := by decide +kernel
theorem dX3_shareFine_38 : decode cX3_shareFine 38 = .ok (.iaload, 1) := by decide +kernel
theorem dX3_shareFine_39 : decode cX3_shareFine 39 = .ok (.iload 5, 2) := by decide +kernel
theorem dX3_shareFine_41 : decode cX3_shareFine 41 = .ok (.ishr, 1) := by decide +kernel
theorem dX3_shareFine_42 : decode cX3_shareFine 42 = .ok (.iconst 1, 1) := by decide +kernel
theorem dX3_shareFine_43 : decode cX3_shareFine 43 = .ok (.iand, 1) := by decide +kernel
theorem dX3_shareFine_44 : decode cX3_shareFine 44 = .ok (.iconst 1, 1) := by decide +kernel
theorem dX3_shareFine_45 : decode cX3_shareFine 45 = .ok (.if_icmp .ne 11, 3) := by decide +kernel
theorem dX3_shareFine_48 : decode cX3_shareFine 48 = .ok (.aload_n 0, 1) := by decide +kernel
theorem dX3_shareFine_49 : decode cX3_shareFine 49 = .ok (.iload 5, 2) := by decide +kernel
theorem dX3_shareFine_51 : decode cX3_shareFine 51 = .ok (.iload 4, 2) := by decide +kernel
theorem dX3_shareFine_53 : decode cX3_shareFine 53 = .ok (.invokevirtual 141, 3) := by decide +kernel
theorem dX3_shareFine_56 : decode cX3_shareFine 56 = .ok (.iinc 5 1, 3) := by decide +kernel
theorem dX3_shareFine_59 : decode cX3_shareFine 59 = .ok (.goto (-35), 3) := by decide +kernel
theorem dX3_shareFine_62 : decode cX3_shareFine 62 = .ok (.iload 4, 2) := by decide +kernel
theorem dX3_shareFine_64 : decode cX3_shareFine 64 = .ok (.iload_n 3, 1) := by decide +kernel
theorem dX3_shareFine_65 : decode cX3_shareFine 65 = .ok (.imul, 1) := by decide +kernel
theorem dX3_shareFine_66 : decode cX3_shareFine 66 = .ok (.ireturn, 1) := by decide +kernel
theorem dX3_noisySlots_0 : decode cX3_noisySlots 0 = .ok (.iconst 0, 1) := by decide +kernel
theorem dX3_noisySlots_1 : decode cX3_noisySlots 1 = .ok (.istore_n 1, 1) := by decide +kernel
theorem dX3_noisySlots_2 : decode cX3_noisySlots 2 = .ok (.iconst 0, 1) := by decide +kernel
theorem dX3_noisySlots_3 : decode cX3_noisySlots 3 = .ok (.istore_n 2, 1) := by decide +kernel
theorem dX3_noisySlots_4 : decode cX3_noisySlots 4 = .ok (.iload_n 2, 1) := by decide +kernel
theorem dX3_noisySlots_5 : decode cX3_noisySlots 5 = .ok (.iconst 4, 1) := by decide +kernel
theorem dX3_noisySlots_6 : decode cX3_noisySlots 6 = .ok (.if_icmp .ge 20, 3) := by decide +kernel
theorem dX3_noisySlots_9 : decode cX3_noisySlots 9 = .ok (.iload_n 1, 1) := by decide +kernel
theorem dX3_noisySlots_10 : decode cX3_noisySlots 10 = .ok (.bipush 24, 2) := by decide +kernel
theorem dX3_noisySlots_12 : decode cX3_noisySlots 12 = .ok (.aload_n 0, 1) := by decide +kernel
theorem dX3_noisySlots_13 : decode cX3_noisySlots 13 = .ok (.iload_n 2, 1) := by decide +kernel
theorem dX3_noisySlots_14 : decode cX3_noisySlots 14 = .ok (.invokevirtual 153, 3) := by decide +kernel
theorem dX3_noisySlots_17 : decode cX3_noisySlots 17 = .ok (.isub, 1) := by decide +kernel
theorem dX3_noisySlots_18 : decode cX3_noisySlots 18 = .ok (.iadd, 1) := by decide +kernel
theorem dX3_noisySlots_19 : decode cX3_noisySlots 19 = .ok (.istore_n 1, 1) := by decide +kernel
theorem dX3_noisySlots_20 : decode cX3_noisySlots 20 = .ok (.iinc 2 1, 3) := by decide +kernel
theorem dX3_noisySlots_23 : decode cX3_noisySlots 23 = .ok (.goto (-19), 3) := by decide +kernel
theorem dX3_noisySlots_26 : decode cX3_noisySlots 26 = .ok (.iload_n 1, 1) := by decide +kernel
theorem dX3_noisySlots_27 : decode cX3_noisySlots 27 = .ok (.ireturn, 1) := by decide +kernel
theorem dX3_quietHours_0 : decode cX3_quietHours 0 = .ok (.iconst 0, 1) := by decide +kernel
theorem dX3_quietHours_1 : decode cX3_quietHours 1 = .ok (.istore_n 2, 1) := by decide +kernel
theorem dX3_quietHours_2 : decode cX3_quietHours 2 = .ok (.iconst 0, 1) := by decide +kernel
theorem dX3_quietHours_3 : decode cX3_quietHours 3 = .ok (.istore_n 3, 1) := by decide +kernel
theorem dX3_quietHours_4 : decode cX3_quietHours 4 = .ok (.iload_n 3, 1) := by decide +kernel
theorem dX3_quietHours_5 : decode cX3_quietHours 5 = .ok (.bipush 24, 2) := by decide +kernel
theorem dX3_quietHours_7 : decode cX3_quietHours 7 = .ok (.if_icmp .ge 30, 3) := by decide +kernel
theorem dX3_quietHours_10 : decode cX3_quietHours 10 = .ok (.iload_n 2, 1) := by decide +kernel
theorem dX3_quietHours_11 : decode cX3_quietHours 11 = .ok (.aload_n 0, 1) := by decide +kernel
theorem dX3_quietHours_12 : decode cX3_quietHours 12 = .ok (.getfield 43, 3) := by decide +kernel
theorem dX3_quietHours_15 : decode cX3_quietHours 15 = .ok (.iload_n 1, 1) := by decide +kernel
theorem dX3_quietHours_16 : decode cX3_quietHours 16 = .ok (.iload_n 3, 1) := by decide +kernel
theorem dX3_quietHours_17 : decode cX3_quietHours 17 = .ok (.invokestatic 156, 3) := by decide +kernel
theorem dX3_quietHours_20 : decode cX3_quietHours 20 = .ok (.iaload, 1) := by decide +kernel
theorem dX3_quietHours_21 : decode cX3_quietHours 21 = .ok (.ifCond .ne 7, 3) := by decide +kernel
theorem dX3_quietHours_24 : decode cX3_quietHours 24 = .ok (.iconst 1, 1) := by decide +kernel
theorem dX3_quietHours_25 : decode cX3_quietHours 25 = .ok (.goto 4, 3) := by decide +kernel
theorem dX3_quietHours_28 : decode cX3_quietHours 28 = .ok (.iconst 0, 1) := by decide +kernel
theorem dX3_quietHours_29 : decode cX3_quietHours 29 = .ok (.iadd, 1) := by decide +kernel
theorem dX3_quietHours_30 : decode cX3_quietHours 30 = .ok (.istore_n 2, 1) := by decide +kernel
theorem dX3_quietHours_31 : decode cX3_quietHours 31 = .ok (.iinc 3 1, 3) := by decide +kernel
theorem dX3_quietHours_34 : decode cX3_quietHours 34 = .ok (.goto (-30), 3) := by decide +kernel
theorem dX3_quietHours_37 : decode cX3_quietHours 37 = .ok (.iload_n 2, 1) := by decide +kernel
theorem dX3_quietHours_38 : decode cX3_quietHours 38 = .ok (.ireturn, 1) := by decide +kernel
theorem dX3_longestQuiet_0 : decode cX3_longestQuiet 0 = .ok (.iconst 0, 1) := by decide +kernel
theorem dX3_longestQuiet_1 : decode cX3_longestQuiet 1 = .ok (.istore_n 2, 1) := by decide +kernel
theorem dX3_longestQuiet_2 : decode cX3_longestQuiet 2 = .ok (.iconst 0, 1) := by decide +kernel
theorem dX3_longestQuiet_3 : decode cX3_longestQuiet 3 = .ok (.istore_n 3, 1) := by decide +kernel
theorem dX3_longestQuiet_4 : decode cX3_longestQuiet 4 = .ok (.iload_n 3, 1) := by decide +kernel
theorem dX3_longestQuiet_5 : decode cX3_longestQuiet 5 = .ok (.bipush 24, 2) := by decide +kernel
theorem dX3_longestQuiet_7 : decode cX3_longestQuiet 7 = .ok (.if_icmp .ge 20, 3) := by decide +kernel
theorem dX3_longestQuiet_10 : decode cX3_longestQuiet 10 = .ok (.iload_n 2, 1) := by decide +kernel
theorem dX3_longestQuiet_11 : decode cX3_longestQuiet 11 = .ok (.aload_n 0, 1) := by decide +kernel
theorem dX3_longestQuiet_12 : decode cX3_longestQuiet 12 = .ok (.iload_n 1, 1) := by decide +kernel
theorem dX3_longestQuiet_13 : decode cX3_longestQuiet 13 = .ok (.iload_n 3, 1) := by decide +kernel
theorem dX3_longestQuiet_14 : decode cX3_longestQuiet 14 = .ok (.invokevirtual 159, 3) := by decide +kernel
theorem dX3_longestQuiet_17 : decode cX3_longestQuiet 17 = .ok (.invokestatic 119, 3) := by decide +kernel
theorem dX3_longestQuiet_20 : decode cX3_longestQuiet 20 = .ok (.istore_n 2, 1) := by decide +kernel
theorem dX3_longestQuiet_21 : decode cX3_longestQuiet 21 = .ok (.iinc 3 1, 3) := by decide +kernel
theorem dX3_longestQuiet_24 : decode cX3_longestQuiet 24 = .ok (.goto (-20), 3) := by decide +kernel
theorem dX3_longestQuiet_27 : decode cX3_longestQuiet 27 = .ok (.iload_n 2, 1) := by decide +kernel
theorem dX3_longestQuiet_28 : decode cX3_longestQuiet 28 = .ok (.ireturn, 1) := by decide +kernel
theorem dX3_longestQuietStart_0 : decode cX3_longestQuietStart 0 = .ok (.bipush (-9), 2) := by decide +kernel
theorem dX3_longestQuietStart_2 : decode cX3_longestQuietStart 2 = .ok (.istore_n 2, 1) := by decide +kernel
theorem dX3_longestQuietStart_3 : decode cX3_longestQuietStart 3 = .ok (.iconst 0, 1) := by decide +kernel
theorem dX3_longestQuietStart_4 : decode cX3_longestQuietStart 4 = .ok (.istore_n 3, 1) := by decide +kernel
theorem dX3_longestQuietStart_5 : decode cX3_longestQuietStart 5 = .ok (.iconst 0, 1) := by decide +kernel
theorem dX3_longestQuietStart_6 : decode cX3_longestQuietStart 6 = .ok (.istore 4, 2) := by decide +kernel
theorem dX3_longestQuietStart_8 : decode cX3_longestQuietStart 8 = .ok (.iload 4, 2) := by decide +kernel
theorem dX3_longestQuietStart_10 : decode cX3_longestQuietStart 10 = .ok (.bipush 24, 2) := by decide +kernel
theorem dX3_longestQuietStart_12 : decode cX3_longestQuietStart 12 = .ok (.if_icmp .ge 30, 3) := by decide +kernel
theorem dX3_longestQuietStart_15 : decode cX3_longestQuietStart 15 = .ok (.aload_n 0, 1) := by decide +kernel
theorem dX3_longestQuietStart_16 : decode cX3_longestQuietStart 16 = .ok (.iload_n 1, 1) := by decide +kernel
theorem dX3_longestQuietStart_17 : decode cX3_longestQuietStart 17 = .ok (.iload 4, 2) := by decide +kernel
theorem dX3_longestQuietStart_19 : decode cX3_longestQuietStart 19 = .ok (.invokevirtual 159, 3) := by decide +kernel
theorem dX3_longestQuietStart_22 : decode cX3_longestQuietStart 22 = .ok (.istore 5, 2) := by decide +kernel
theorem dX3_longestQuietStart_24 : decode cX3_longestQuietStart 24 = .ok (.iload 5, 2) := by decide +kernel
theorem dX3_longestQuietStart_26 : decode cX3_longestQuietStart 26 = .ok (.iload_n 3, 1) := by decide +kernel
theorem dX3_longestQuietStart_27 : decode cX3_longestQuietStart 27 = .ok (.if_icmp .le 9, 3) := by decide +kernel
theorem dX3_longestQuietStart_30 : decode cX3_longestQuietStart 30 = .ok (.iload 5, 2) := by decide +kernel
theorem dX3_longestQuietStart_32 : decode cX3_longestQuietStart 32 = .ok (.istore_n 3, 1) := by decide +kernel
theorem dX3_longestQuietStart_33 : decode cX3_longestQuietStart 33 = .ok (.iload 4, 2) := by decide +kernel
theorem dX3_longestQuietStart_35 : decode cX3_longestQuietStart 35 = .ok (.istore_n 2, 1) := by decide +kernel
theorem dX3_longestQuietStart_36 : decode cX3_longestQuietStart 36 = .ok (.iinc 4 1, 3) := by decide +kernel
theorem dX3_longestQuietStart_39 : decode cX3_longestQuietStart 39 = .ok (.goto (-31), 3) := by decide +kernel
theorem dX3_longestQuietStart_42 : decode cX3_longestQuietStart 42 = .ok (.iload_n 2, 1) := by decide +kernel
theorem dX3_longestQuietStart_43 : decode cX3_longestQuietStart 43 = .ok (.ireturn, 1) := by decide +kernel
theorem dX3_quietFrom_0 : decode cX3_quietFrom 0 = .ok (.iload_n 2, 1) := by decide +kernel
theorem dX3_quietFrom_1 : decode cX3_quietFrom 1 = .ok (.istore_n 3, 1) := by decide +kernel
theorem dX3_quietFrom_2 : decode cX3_quietFrom 2 = .ok (.iload_n 3, 1) := by decide +kernel
theorem dX3_quietFrom_3 : decode cX3_quietFrom 3 = .ok (.bipush 24, 2) := by decide +kernel
theorem dX3_quietFrom_5 : decode cX3_quietFrom 5 = .ok (.if_icmp .ge 22, 3) := by decide +kernel
theorem dX3_quietFrom_8 : decode cX3_quietFrom 8 = .ok (.aload_n 0, 1) := by decide +kernel
theorem dX3_quietFrom_9 : decode cX3_quietFrom 9 = .ok (.getfield 43, 3) := by decide +kernel
theorem dX3_quietFrom_12 : decode cX3_quietFrom 12 = .ok (.iload_n 1, 1) := by decide +kernel
theorem dX3_quietFrom_13 : decode cX3_quietFrom 13 = .ok (.iload_n 3, 1) := by decide +kernel
theorem dX3_quietFrom_14 : decode cX3_quietFrom 14 = .ok (.invokestatic 156, 3) := by decide +kernel
theorem dX3_quietFrom_17 : decode cX3_quietFrom 17 = .ok (.iaload, 1) := by decide +kernel
theorem dX3_quietFrom_18 : decode cX3_quietFrom 18 = .ok (.ifCond .ne 9, 3) := by decide +kernel
theorem dX3_quietFrom_21 : decode cX3_quietFrom 21 = .ok (.iinc 3 1, 3) := by decide +kernel
theorem dX3_quietFrom_24 : decode cX3_quietFrom 24 = .ok (.goto (-22), 3) := by decide +kernel
theorem dX3_quietFrom_27 : decode cX3_quietFrom 27 = .ok (.iload_n 3, 1) := by decide +kernel
theorem dX3_quietFrom_28 : decode cX3_quietFrom 28 = .ok (.iload_n 2, 1) := by decide +kernel
theorem dX3_quietFrom_29 : decode cX3_quietFrom 29 = .ok (.isub, 1) := by decide +kernel
theorem dX3_quietFrom_30 : decode cX3_quietFrom 30 = .ok (.ireturn, 1) := by decide +kernel
theorem dX4_init_0 : decode cX4_init 0 = .ok (.aload_n 0, 1) := by decide +kernel
theorem dX4_init_1 : decode cX4_init 1 = .ok (.invokespecial 3, 3) := by decide +kernel
theorem dX4_init_4 : decode cX4_init 4 = .ok (.aload_n 0, 1) := by decide +kernel
theorem dX4_init_5 : decode cX4_init 5 = .ok (.new 9, 3) := by decide +kernel
theorem dX4_init_8 : decode cX4_init 8 = .ok (.dup, 1) := by decide +kernel
theorem dX4_init_9 : decode cX4_init 9 = .ok (.invokespecial 11, 3) := by decide +kernel
theorem dX4_init_12 : decode cX4_init 12 = .ok (.putfield 12, 3) := by decide +kernel
theorem dX4_init_15 : decode cX4_init 15 = .ok (.aload_n 0, 1) := by decide +kernel
theorem dX4_init_16 : decode cX4_init 16 = .ok (.new 9, 3) := by decide +kernel
theorem dX4_init_19 : decode cX4_init 19 = .ok (.dup, 1) := by decide +kernel
theorem dX4_init_20 : decode cX4_init 20 = .ok (.invokespecial 11, 3) := by decide +kernel
theorem dX4_init_23 : decode cX4_init 23 = .ok (.putfield 16, 3) := by decide +kernel
theorem dX4_init_26 : decode cX4_init 26 = .ok (.aload_n 0, 1) := by decide +kernel
theorem dX4_init_27 : decode cX4_init 27 = .ok (.new 19, 3) := by decide +kernel
theorem dX4_init_30 : decode cX4_init 30 = .ok (.dup, 1) := by decide +kernel
theorem dX4_init_31 : decode cX4_init 31 = .ok (.invokespecial 21, 3) := by decide +kernel
theorem dX4_init_34 : decode cX4_init 34 = .ok (.putfield 22, 3) := by decide +kernel
theorem dX4_init_37 : decode cX4_init 37 = .ok (.aload_n 0, 1) := by decide +kernel
theorem dX4_init_38 : decode cX4_init 38 = .ok (.new 26, 3) := by decide +kernel
theorem dX4_init_41 : decode cX4_init 41 = .ok (.dup, 1) := by decide +kernel
theorem dX4_init_42 : decode cX4_init 42 = .ok (.invokespecial 28, 3) := by decide +kernel
theorem dX4_init_45 : decode cX4_init 45 = .ok (.putfield 29, 3) := by decide +kernel
theorem dX4_init_48 : decode cX4_init 48 = .ok (.aload_n 0, 1) := by decide +kernel
theorem dX4_init_49 : decode cX4_init 49 = .ok (.iconst 5, 1) := by decide +kernel
theorem dX4_init_50 : decode cX4_init 50 = .ok (.newarray .int, 2) := by decide +kernel
theorem dX4_init_52 : decode cX4_init 52 = .ok (.putfield 33, 3) := by decide +kernel
theorem dX4_init_55 : decode cX4_init 55 = .ok (.return_, 1) := by decide +kernel
theorem dX4_join_0 : decode cX4_join 0 = .ok (.iload_n 1, 1) := by decide +kernel
theorem dX4_join_1 : decode cX4_join 1 = .ok (.iconst 0, 1) := by decide +kernel
theorem dX4_join_2 : decode cX4_join 2 = .ok (.ldc 37, 2) := by decide +kernel
theorem dX4_join_4 : decode cX4_join 4 = .ok (.invokestatic 38, 3) := by decide +kernel
theorem dX4_join_7 : decode cX4_join 7 = .ok (.ifCond .ne 5, 3) := by decide +kernel
theorem dX4_join_10 : decode cX4_join 10 = .ok (.iconst (-1), 1) := by decide +kernel
theorem dX4_join_11 : decode cX4_join 11 = .ok (.ireturn, 1) := by decide +kernel
theorem dX4_join_12 : decode cX4_join 12 = .ok (.aload_n 0, 1) := by decide +kernel
theorem dX4_join_13 : decode cX4_join 13 = .ok (.getfield 12, 3) := by decide +kernel
theorem dX4_join_16 : decode cX4_join 16 = .ok (.getfield 42, 3) := by decide +kernel
theorem dX4_join_19 : decode cX4_join 19 = .ok (.bipush 12, 2) := by decide +kernel
theorem dX4_join_21 : decode cX4_join 21 = .ok (.if_icmp .lt 6, 3) := by decide +kernel
theorem dX4_join_24 : decode cX4_join 24 = .ok (.bipush (-3), 2) := by decide +kernel
theorem dX4_join_26 : decode cX4_join 26 = .ok (.ireturn, 1) := by decide +kernel
theorem dX4_join_27 : decode cX4_join 27 = .ok (.aload_n 0, 1) := by decide +kernel
theorem dX4_join_28 : decode cX4_join 28 = .ok (.getfield 22, 3) := by decide +kernel
theorem dX4_join_31 : decode cX4_join 31 = .ok (.aload_n 0, 1) := by decide +kernel
theorem dX4_join_32 : decode cX4_join 32 = .ok (.getfield 12, 3) := by decide +kernel
theorem dX4_join_35 : decode cX4_join 35 = .ok (.invokevirtual 46, 3) := by decide +kernel
theorem dX4_join_38 : decode cX4_join 38 = .ok (.aload_n 0, 1) := by decide +kernel
theorem dX4_join_39 : decode cX4_join 39 = .ok (.getfield 12, 3) := by decide +kernel
theorem dX4_join_42 : decode cX4_join 42 = .ok (.getfield 50, 3) := by decide +kernel
theorem dX4_join_45 : decode cX4_join 45 = .ok (.aload_n 0, 1) := by decide +kernel
theorem dX4_join_46 : decode cX4_join 46 = .ok (.getfield 12, 3) := by decide +kernel
theorem dX4_join_49 : decode cX4_join 49 = .ok (.getfield 42, 3) := by decide +kernel
theorem dX4_join_52 : decode cX4_join 52 = .ok (.iload_n 1, 1) := by decide +kernel
theorem dX4_join_53 : decode cX4_join 53 = .ok (.iastore, 1) := by decide +kernel
theorem dX4_join_54 : decode cX4_join 54 = .ok (.aload_n 0, 1) := by decide +kernel
theorem dX4_join_55 : decode cX4_join 55 = .ok (.getfield 12, 3) := by decide +kernel
theorem dX4_join_58 : decode cX4_join 58 = .ok (.dup, 1) := by decide +kernel
theorem dX4_join_59 : decode cX4_join 59 = .ok (.getfield 42, 3) := by decide +kernel
theorem dX4_join_62 : decode cX4_join 62 = .ok (.iconst 1, 1) := by decide +kernel
theorem dX4_join_63 : decode cX4_join 63 = .ok (.iadd, 1) := by decide +kernel
theorem dX4_join_64 : decode cX4_join 64 = .ok (.putfield 42, 3) := by decide +kernel
theorem dX4_join_67 : decode cX4_join 67 = .ok (.aload_n 0, 1) := by decide +kernel
theorem dX4_join_68 : decode cX4_join 68 = .ok (.getfield 12, 3) := by decide +kernel
theorem dX4_join_71 : decode cX4_join 71 = .ok (.getfield 42, 3) := by decide +kernel
theorem dX4_join_74 : decode cX4_join 74 = .ok (.iconst 1, 1) := by decide +kernel
theorem dX4_join_75 : decode cX4_join 75 = .ok (.isub, 1) := by decide +kernel
theorem dX4_join_76 : decode cX4_join 76 = .ok (.ireturn, 1) := by decide +kernel
theorem dX4_pay_0 : decode cX4_pay 0 = .ok (.aload_n 0, 1) := by decide +kernel
theorem dX4_pay_1 : decode cX4_pay 1 = .ok (.iload_n 1, 1) := by decide +kernel
theorem dX4_pay_2 : decode cX4_pay 2 = .ok (.invokevirtual 53, 3) := by decide +kernel
theorem dX4_pay_5 : decode cX4_pay 5 = .ok (.ifCond .eq 14, 3) := by decide +kernel
theorem dX4_pay_8 : decode cX4_pay 8 = .ok (.iload_n 2, 1) := by decide +kernel
theorem dX4_pay_9 : decode cX4_pay 9 = .ok (.ldc 57, 2) := by decide +kernel
theorem dX4_pay_11 : decode cX4_pay 11 = .ok (.ldc 37, 2) := by decide +kernel
theorem dX4_pay_13 : decode cX4_pay 13 = .ok (.invokestatic 38, 3) := by decide +kernel
theorem dX4_pay_16 : decode cX4_pay 16 = .ok (.ifCond .ne 5, 3) := by decide +kernel
theorem dX4_pay_19 : decode cX4_pay 19 = .ok (.iconst (-1), 1) := by decide +kernel
theorem dX4_pay_20 : decode cX4_pay 20 = .ok (.ireturn, 1) := by decide +kernel
theorem dX4_pay_21 : decode cX4_pay 21 = .ok (.aload_n 0, 1) := by decide +kernel
theorem dX4_pay_22 : decode cX4_pay 22 = .ok (.getfield 12, 3) := by decide +kernel
theorem dX4_pay_25 : decode cX4_pay 25 = .ok (.iload_n 1, 1) := by decide +kernel
theorem dX4_pay_26 : decode cX4_pay 26 = .ok (.iload_n 2, 1) := by decide +kernel
theorem dX4_pay_27 : decode cX4_pay 27 = .ok (.invokevirtual 58, 3) := by decide +kernel
theorem dX4_pay_30 : decode cX4_pay 30 = .ok (.ifCond .ne 6, 3) := by decide +kernel
theorem dX4_pay_33 : decode cX4_pay 33 = .ok (.bipush (-2), 2) := by decide +kernel
theorem dX4_pay_35 : decode cX4_pay 35 = .ok (.ireturn, 1) := by decide +kernel
theorem dX4_pay_36 : decode cX4_pay 36 = .ok (.aload_n 0, 1) := by decide +kernel
theorem dX4_pay_37 : decode cX4_pay 37 = .ok (.getfield 22, 3) := by decide +kernel
theorem dX4_pay_40 : decode cX4_pay 40 = .ok (.aload_n 0, 1) := by decide +kernel
theorem dX4_pay_41 : decode cX4_pay 41 = .ok (.getfield 12, 3) := by decide +kernel
theorem dX4_pay_44 : decode cX4_pay 44 = .ok (.invokevirtual 46, 3) := by decide +kernel
theorem dX4_pay_47 : decode cX4_pay 47 = .ok (.iload_n 2, 1) := by decide +kernel
theorem dX4_pay_48 : decode cX4_pay 48 = .ok (.ifCond .ge 19, 3) := by decide +kernel
theorem dX4_pay_51 : decode cX4_pay 51 = .ok (.aload_n 0, 1) := by decide +kernel
theorem dX4_pay_52 : decode cX4_pay 52 = .ok (.getfield 12, 3) := by decide +kernel
theorem dX4_pay_55 : decode cX4_pay 55 = .ok (.getfield 50, 3) := by decide +kernel
theorem dX4_pay_58 : decode cX4_pay 58 = .ok (.iload_n 1, 1) := by decide +kernel
theorem dX4_pay_59 : decode cX4_pay 59 = .ok (.dup2, 1) := by decide +kernel
theorem dX4_pay_60 : decode cX4_pay 60 = .ok (.iaload, 1) := by decide +kernel
theorem dX4_pay_61 : decode cX4_pay 61 = .ok (.iload_n 2, 1) := by decide +kernel
theorem dX4_pay_62 : decode cX4_pay 62 = .ok (.iadd, 1) := by decide +kernel
theorem dX4_pay_63 : decode cX4_pay 63 = .ok (.iastore, 1) := by decide +kernel
theorem dX4_pay_64 : decode cX4_pay 64 = .ok (.goto 12, 3) := by decide +kernel
theorem dX4_pay_67 : decode cX4_pay 67 = .ok (.aload_n 0, 1) := by decide +kernel
theorem dX4_pay_68 : decode cX4_pay 68 = .ok (.getfield 12, 3) := by decide +kernel
theorem dX4_pay_71 : decode cX4_pay 71 = .ok (.iload_n 1, 1) := by decide +kernel
theorem dX4_pay_72 : decode cX4_pay 72 = .ok (.iload_n 2, 1) := by decide +kernel
theorem dX4_pay_73 : decode cX4_pay 73 = .ok (.invokevirtual 62, 3) := by decide +kernel
theorem dX4_pay_76 : decode cX4_pay 76 = .ok (.aload_n 0, 1) := by decide +kernel
theorem dX4_pay_77 : decode cX4_pay 77 = .ok (.getfield 12, 3) := by decide +kernel
theorem dX4_pay_80 : decode cX4_pay 80 = .ok (.getfield 50, 3) := by decide +kernel
theorem dX4_pay_83 : decode cX4_pay 83 = .ok (.iload_n 1, 1) := by decide +kernel
theorem dX4_pay_84 : decode cX4_pay 84 = .ok (.iaload, 1) := by decide +kernel
theorem dX4_pay_85 : decode cX4_pay 85 = .ok (.ireturn, 1) := by decide +kernel
theorem dX4_bid_0 : decode cX4_bid 0 = .ok (.aload_n 0, 1) := by decide +kernel
theorem dX4_bid_1 : decode cX4_bid 1 = .ok (.iload_n 1, 1) := by decide +kernel
theorem dX4_bid_2 : decode cX4_bid 2 = .ok (.invokevirtual 53, 3) := by decide +kernel
theorem dX4_bid_5 : decode cX4_bid 5 = .ok (.ifCond .eq 19, 3) := by decide +kernel
theorem dX4_bid_8 : decode cX4_bid 8 = .ok (.iload_n 2, 1) := by decide +kernel
theorem dX4_bid_9 : decode cX4_bid 9 = .ok (.iload_n 3, 1) := by decide +kernel
theorem dX4_bid_10 : decode cX4_bid 10 = .ok (.invokestatic 66, 3) := by decide +kernel
theorem dX4_bid_13 : decode cX4_bid 13 = .ok (.ifCond .eq 11, 3) := by decide +kernel
theorem dX4_bid_16 : decode cX4_bid 16 = .ok (.iload 4, 2) := by decide +kernel
theorem dX4_bid_18 : decode cX4_bid 18 = .ok (.invokestatic 69, 3) := by decide +kernel
theorem dX4_bid_21 : decode cX4_bid 21 = .ok (.ifCond .ne 5, 3) := by decide +kernel
theorem dX4_bid_24 : decode cX4_bid 24 = .ok (.iconst (-1), 1) := by decide +kernel
theorem dX4_bid_25 : decode cX4_bid 25 = .ok (.ireturn, 1) := by decide +kernel
theorem dX4_bid_26 : decode cX4_bid 26 = .ok (.iload_n 2, 1) := by decide +kernel
theorem dX4_bid_27 : decode cX4_bid 27 = .ok (.iload_n 3, 1) := by decide +kernel
theorem dX4_bid_28 : decode cX4_bid 28 = .ok (.invokestatic 72, 3) := by decide +kernel
theorem dX4_bid_31 : decode cX4_bid 31 = .ok (.istore 6, 2) := by decide +kernel
theorem dX4_bid_33 : decode cX4_bid 33 = .ok (.aload_n 0, 1) := by decide +kernel
theorem dX4_bid_34 : decode cX4_bid 34 = .ok (.getfield 12, 3) := by decide +kernel
theorem dX4_bid_37 : decode cX4_bid 37 = .ok (.iload_n 1, 1) := by decide +kernel
theorem dX4_bid_38 : decode cX4_bid 38 = .ok (.iload 6, 2) := by decide +kernel
theorem dX4_bid_40 : decode cX4_bid 40 = .ok (.iload 5, 2) := by decide +kernel
theorem dX4_bid_42 : decode cX4_bid 42 = .ok (.invokevirtual 76, 3) := by decide +kernel
theorem dX4_bid_45 : decode cX4_bid 45 = .ok (.istore 7, 2) := by decide +kernel
theorem dX4_bid_47 : decode cX4_bid 47 = .ok (.iload 7, 2) := by decide +kernel
theorem dX4_bid_49 : decode cX4_bid 49 = .ok (.ifCond .eq 6, 3) := by decide +kernel
theorem dX4_bid_52 : decode cX4_bid 52 = .ok (.iload 7, 2) := by decide +kernel
theorem dX4_bid_54 : decode cX4_bid 54 = .ok (.ireturn, 1) := by decide +kernel
theorem dX4_bid_55 : decode cX4_bid 55 = .ok (.aload_n 0, 1) := by decide +kernel
theorem dX4_bid_56 : decode cX4_bid 56 = .ok (.getfield 22, 3) := by decide +kernel
theorem dX4_bid_59 : decode cX4_bid 59 = .ok (.aload_n 0, 1) := by decide +kernel
theorem dX4_bid_60 : decode cX4_bid 60 = .ok (.getfield 12, 3) := by decide +kernel
theorem dX4_bid_63 : decode cX4_bid 63 = .ok (.invokevirtual 46, 3) := by decide +kernel
theorem dX4_bid_66 : decode cX4_bid 66 = .ok (.aload_n 0, 1) := by decide +kernel
theorem dX4_bid_67 : decode cX4_bid 67 = .ok (.getfield 12, 3) := by decide +kernel
theorem dX4_bid_70 : decode cX4_bid 70 = .ok (.iload_n 1, 1) := by decide +kernel
theorem dX4_bid_71 : decode cX4_bid 71 = .ok (.iload 6, 2) := by decide +kernel
theorem dX4_bid_73 : decode cX4_bid 73 = .ok (.iload 4, 2) := by decide +kernel
theorem dX4_bid_75 : decode cX4_bid 75 = .ok (.iload 5, 2) := by decide +kernel
theorem dX4_bid_77 : decode cX4_bid 77 = .ok (.invokevirtual 80, 3) := by decide +kernel
theorem dX4_bid_80 : decode cX4_bid 80 = .ok (.ireturn, 1) := by decide +kernel
theorem dX4_setFine_0 : decode cX4_setFine 0 = .ok (.iload_n 1, 1) := by decide +kernel
theorem dX4_setFine_1 : decode cX4_setFine 1 = .ok (.iconst 0, 1) := by decide +kernel
theorem dX4_setFine_2 : decode cX4_setFine 2 = .ok (.sipush 1000, 3) := by decide +kernel
theorem dX4_setFine_5 : decode cX4_setFine 5 = .ok (.invokestatic 38, 3) := by decide +kernel
theorem dX4_setFine_8 : decode cX4_setFine 8 = .ok (.ifCond .ne 5, 3) := by decide +kernel
theorem dX4_setFine_11 : decode cX4_setFine 11 = .ok (.iconst (-1), 1) := by decide +kernel
theorem dX4_setFine_12 : decode cX4_setFine 12 = .ok (.ireturn, 1) := by decide +kernel
theorem dX4_setFine_13 : decode cX4_setFine 13 = .ok (.aload_n 0, 1) := by decide +kernel
theorem dX4_setFine_14 : decode cX4_setFine 14 = .ok (.getfield 22, 3) := by decide +kernel
theorem dX4_setFine_17 : decode cX4_setFine 17 = .ok (.aload_n 0, 1) := by decide +kernel
theorem dX4_setFine_18 : decode cX4_setFine 18 = .ok (.getfield 12, 3) := by decide +kernel
theorem dX4_setFine_21 : decode cX4_setFine 21 = .ok (.invokevirtual 46, 3) := by decide +kernel
theorem dX4_setFine_24 : decode cX4_setFine 24 = .ok (.aload_n 0, 1) := by decide +kernel
theorem dX4_setFine_25 : decode cX4_setFine 25 = .ok (.getfield 12, 3) := by decide +kernel
theorem dX4_setFine_28 : decode cX4_setFine 28 = .ok (.getfield 84, 3) := by decide +kernel
theorem dX4_setFine_31 : decode cX4_setFine 31 = .ok (.istore_n 2, 1) := by decide +kernel
theorem dX4_setFine_32 : decode cX4_setFine 32 = .ok (.aload_n 0, 1) := by decide +kernel
theorem dX4_setFine_33 : decode cX4_setFine 33 = .ok (.getfield 12, 3) := by decide +kernel
theorem dX4_setFine_36 : decode cX4_setFine 36 = .ok (.iload_n 1, 1) := by decide +kernel
theorem dX4_setFine_37 : decode cX4_setFine 37 = .ok (.putfield 84, 3) := by decide +kernel
theorem dX4_setFine_40 : decode cX4_setFine 40 = .ok (.iload_n 2, 1) := by decide +kernel
theorem dX4_setFine_41 : decode cX4_setFine 41 = .ok (.ireturn, 1) := by decide +kernel
theorem dX4_settle_0 : decode cX4_settle 0 = .ok (.aload_n 0, 1) := by decide +kernel
theorem dX4_settle_1 : decode cX4_settle 1 = .ok (.getfield 12, 3) := by decide +kernel
theorem dX4_settle_4 : decode cX4_settle 4 = .ok (.getfield 87, 3) := by decide +kernel
theorem dX4_settle_7 : decode cX4_settle 7 = .ok (.sipush 999, 3) := by decide +kernel
theorem dX4_settle_10 : decode cX4_settle 10 = .ok (.if_icmp .lt 6, 3) := by decide +kernel
theorem dX4_settle_13 : decode cX4_settle 13 = .ok (.bipush (-2), 2) := by decide +kernel
theorem dX4_settle_15 : decode cX4_settle 15 = .ok (.ireturn, 1) := by decide +kernel
theorem dX4_settle_16 : decode cX4_settle 16 = .ok (.aload_n 0, 1) := by decide +kernel
theorem dX4_settle_17 : decode cX4_settle 17 = .ok (.getfield 22, 3) := by decide +kernel
theorem dX4_settle_20 : decode cX4_settle 20 = .ok (.aload_n 0, 1) := by decide +kernel
theorem dX4_settle_21 : decode cX4_settle 21 = .ok (.getfield 12, 3) := by decide +kernel
theorem dX4_settle_24 : decode cX4_settle 24 = .ok (.invokevirtual 46, 3) := by decide +kernel
theorem dX4_settle_27 : decode cX4_settle 27 = .ok (.aload_n 0, 1) := by decide +kernel
theorem dX4_settle_28 : decode cX4_settle 28 = .ok (.getfield 12, 3) := by decide +kernel
theorem dX4_settle_31 : decode cX4_settle 31 = .ok (.invokevirtual 90, 3) := by decide +kernel
theorem dX4_settle_34 : decode cX4_settle 34 = .ok (.aload_n 0, 1) := by decide +kernel
theorem dX4_settle_35 : decode cX4_settle 35 = .ok (.getfield 12, 3) := by decide +kernel
theorem dX4_settle_38 : decode cX4_settle 38 = .ok (.invokevirtual 93, 3) := by decide +kernel
theorem dX4_settle_41 : decode cX4_settle 41 = .ok (.ireturn, 1) := by decide +kernel
theorem dX4_breach_0 : decode cX4_breach 0 = .ok (.aload_n 0, 1) := by decide +kernel
theorem dX4_breach_1 : decode cX4_breach 1 = .ok (.iload_n 1, 1) := by decide +kernel
theorem dX4_breach_2 : decode cX4_breach 2 = .ok (.invokevirtual 53, 3) := by decide +kernel
theorem dX4_breach_5 : decode cX4_breach 5 = .ok (.ifCond .eq 11, 3) := by decide +kernel
theorem dX4_breach_8 : decode cX4_breach 8 = .ok (.iload_n 2, 1) := by decide +kernel
theorem dX4_breach_9 : decode cX4_breach 9 = .ok (.iload_n 3, 1) := by decide +kernel
theorem dX4_breach_10 : decode cX4_breach 10 = .ok (.invokestatic 66, 3) := by decide +kernel
theorem dX4_breach_13 : decode cX4_breach 13 = .ok (.ifCond .ne 5, 3) := by decide +kernel
theorem dX4_breach_16 : decode cX4_breach 16 = .ok (.iconst (-1), 1) := by decide +kernel
theorem dX4_breach_17 : decode cX4_breach 17 = .ok (.ireturn, 1) := by decide +kernel
theorem dX4_breach_18 : decode cX4_breach 18 = .ok (.iload_n 2, 1) := by decide +kernel
theorem dX4_breach_19 : decode cX4_breach 19 = .ok (.iload_n 3, 1) := by decide +kernel
theorem dX4_breach_20 : decode cX4_breach 20 = .ok (.invokestatic 72, 3) := by decide +kernel
theorem dX4_breach_23 : decode cX4_breach 23 = .ok (.istore 4, 2) := by decide +kernel
theorem dX4_breach_25 : decode cX4_breach 25 = .ok (.aload_n 0, 1) := by decide +kernel
theorem dX4_breach_26 : decode cX4_breach 26 = .ok (.getfield 12, 3) := by decide +kernel
theorem dX4_breach_29 : decode cX4_breach 29 = .ok (.getfield 97, 3) := by decide +kernel
theorem dX4_breach_32 : decode cX4_breach 32 = .ok (.iload 4, 2) := by decide +kernel
theorem dX4_breach_34 : decode cX4_breach 34 = .ok (.iaload, 1) := by decide +kernel
theorem dX4_breach_35 : decode cX4_breach 35 = .ok (.iconst 1, 1) := by decide +kernel
theorem dX4_breach_36 : decode cX4_breach 36 = .ok (.if_icmp .ne 6, 3) := by decide +kernel
theorem dX4_breach_39 : decode cX4_breach 39 = .ok (.bipush (-2), 2) := by decide +kernel
theorem dX4_breach_41 : decode cX4_breach 41 = .ok (.ireturn, 1) := by decide +kernel
theorem dX4_breach_42 : decode cX4_breach 42 = .ok (.aload_n 0, 1) := by decide +kernel
theorem dX4_breach_43 : decode cX4_breach 43 = .ok (.getfield 22, 3) := by decide +kernel
theorem dX4_breach_46 : decode cX4_breach 46 = .ok (.aload_n 0, 1) := by decide +kernel
theorem dX4_breach_47 : decode cX4_breach 47 = .ok (.getfield 12, 3) := by decide +kernel
theorem dX4_breach_50 : decode cX4_breach 50 = .ok (.invokevirtual 46, 3) := by decide +kernel
theorem dX4_breach_53 : decode cX4_breach 53 = .ok (.aload_n 0, 1) := by decide +kernel
theorem dX4_breach_54 : decode cX4_breach 54 = .ok (.getfield 12, 3) := by decide +kernel
theorem dX4_breach_57 : decode cX4_breach 57 = .ok (.iload_n 1, 1) := by decide +kernel
theorem dX4_breach_58 : decode cX4_breach 58 = .ok (.iload 4, 2) := by decide +kernel
theorem dX4_breach_60 : decode cX4_breach 60 = .ok (.invokevirtual 100, 3) := by decide +kernel
theorem dX4_breach_63 : decode cX4_breach 63 = .ok (.ireturn, 1) := by decide +kernel
theorem dX4_undo_0 : decode cX4_undo 0 = .ok (.aload_n 0, 1) := by decide +kernel
theorem dX4_undo_1 : decode cX4_undo 1 = .ok (.getfield 22, 3) := by decide +kernel
theorem dX4_undo_4 : decode cX4_undo 4 = .ok (.getfield 103, 3) := by decide +kernel
theorem dX4_undo_7 : decode cX4_undo 7 = .ok (.ifCond .ne 6, 3) := by decide +kernel
theorem dX4_undo_10 : decode cX4_undo 10 = .ok (.bipush (-2), 2) := by decide +kernel
theorem dX4_undo_12 : decode cX4_undo 12 = .ok (.ireturn, 1) := by decide +kernel
theorem dX4_undo_13 : decode cX4_undo 13 = .ok (.aload_n 0, 1) := by decide +kernel
theorem dX4_undo_14 : decode cX4_undo 14 = .ok (.getfield 22, 3) := by decide +kernel
theorem dX4_undo_17 : decode cX4_undo 17 = .ok (.aload_n 0, 1) := by decide +kernel
theorem dX4_undo_18 : decode cX4_undo 18 = .ok (.getfield 12, 3) := by decide +kernel
theorem dX4_undo_21 : decode cX4_undo 21 = .ok (.invokevirtual 106, 3) := by decide +kernel
theorem dX4_undo_24 : decode cX4_undo 24 = .ok (.aload_n 0, 1) := by decide +kernel
theorem dX4_undo_25 : decode cX4_undo 25 = .ok (.getfield 22, 3) := by decide +kernel
theorem dX4_undo_28 : decode cX4_undo 28 = .ok (.getfield 103, 3) := by decide +kernel
theorem dX4_undo_31 : decode cX4_undo 31 = .ok (.ireturn, 1) := by decide +kernel
theorem dX4_append_0 : decode cX4_append 0 = .ok (.iload_n 1, 1) := by decide +kernel
theorem dX4_append_1 : decode cX4_append 1 = .ok (.iconst 1, 1) := by decide +kernel
theorem dX4_append_2 : decode cX4_append 2 = .ok (.sipush 255, 3) := by decide +kernel
theorem dX4_append_5 : decode cX4_append 5 = .ok (.invokestatic 38, 3) := by decide +kernel
theorem dX4_append_8 : decode cX4_append 8 = .ok (.ifCond .ne 5, 3) := by decide +kernel
theorem dX4_append_11 : decode cX4_append 11 = .ok (.iconst (-1), 1) := by decide +kernel
theorem dX4_append_12 : decode cX4_append 12 = .ok (.ireturn, 1) := by decide +kernel
theorem dX4_append_13 : decode cX4_append 13 = .ok (.aload_n 0, 1) := by decide +kernel
theorem dX4_append_14 : decode cX4_append 14 = .ok (.getfield 29, 3) := by decide +kernel
theorem dX4_append_17 : decode cX4_append 17 = .ok (.getfield 109, 3) := by decide +kernel
theorem dX4_append_20 : decode cX4_append 20 = .ok (.bipush 100, 2) := by decide +kernel
theorem dX4_append_22 : decode cX4_append 22 = .ok (.if_icmp .lt 6, 3) := by decide +kernel
theorem dX4_append_25 : decode cX4_append 25 = .ok (.bipush (-3), 2) := by decide +kernel
theorem dX4_append_27 : decode cX4_append 27 = .ok (.ireturn, 1) := by decide +kernel
theorem dX4_append_28 : decode cX4_append 28 = .ok (.aload_n 0, 1) := by decide +kernel
theorem dX4_append_29 : decode cX4_append 29 = .ok (.getfield 29, 3) := by decide +kernel
theorem dX4_append_32 : decode cX4_append 32 = .ok (.getfield 112, 3) := by decide +kernel
theorem dX4_append_35 : decode cX4_append 35 = .ok (.aload_n 0, 1) := by decide +kernel
theorem dX4_append_36 : decode cX4_append 36 = .ok (.getfield 29, 3) := by decide +kernel
theorem dX4_append_39 : decode cX4_append 39 = .ok (.getfield 109, 3) := by decide +kernel
theorem dX4_append_42 : decode cX4_append 42 = .ok (.iload_n 1, 1) := by decide +kernel
theorem dX4_append_43 : decode cX4_append 43 = .ok (.iastore, 1) := by decide +kernel
theorem dX4_append_44 : decode cX4_append 44 = .ok (.aload_n 0, 1) := by decide +kernel
theorem dX4_append_45 : decode cX4_append 45 = .ok (.getfield 29, 3) := by decide +kernel
theorem dX4_append_48 : decode cX4_append 48 = .ok (.dup, 1) := by decide +kernel
theorem dX4_append_49 : decode cX4_append 49 = .ok (.getfield 109, 3) := by decide +kernel
theorem dX4_append_52 : decode cX4_append 52 = .ok (.iconst 1, 1) := by decide +kernel
theorem dX4_append_53 : decode cX4_append 53 = .ok (.iadd, 1) := by decide +kernel
theorem dX4_append_54 : decode cX4_append 54 = .ok (.putfield 109, 3) := by decide +kernel
theorem dX4_append_57 : decode cX4_append 57 = .ok (.aload_n 0, 1) := by decide +kernel
theorem dX4_append_58 : decode cX4_append 58 = .ok (.getfield 29, 3) := by decide +kernel
theorem dX4_append_61 : decode cX4_append 61 = .ok (.getfield 109, 3) := by decide +kernel
theorem dX4_append_64 : decode cX4_append 64 = .ok (.ireturn, 1) := by decide +kernel
theorem dX4_clearText_0 : decode cX4_clearText 0 = .ok (.aload_n 0, 1) := by decide +kernel
theorem dX4_clearText_1 : decode cX4_clearText 1 = .ok (.getfield 29, 3) := by decide +kernel
theorem dX4_clearText_4 : decode cX4_clearText 4 = .ok (.getfield 109, 3) := by decide +kernel
theorem dX4_clearText_7 : decode cX4_clearText 7 = .ok (.istore_n 1, 1) := by decide +kernel
theorem dX4_clearText_8 : decode cX4_clearText 8 = .ok (.aload_n 0, 1) := by decide +kernel
theorem dX4_clearText_9 : decode cX4_clearText 9 = .ok (.getfield 29, 3) := by decide +kernel
theorem dX4_clearText_12 : decode cX4_clearText 12 = .ok (.iconst 0, 1) := by decide +kernel
theorem dX4_clearText_13 : decode cX4_clearText 13 = .ok (.putfield 109, 3) := by decide +kernel
theorem dX4_clearText_16 : decode cX4_clearText 16 = .ok (.iload_n 1, 1) := by decide +kernel
theorem dX4_clearText_17 : decode cX4_clearText 17 = .ok (.ireturn, 1) := by decide +kernel
theorem dX4_run_0 : decode cX4_run 0 = .ok (.aload_n 0, 1) := by decide +kernel
theorem dX4_run_1 : decode cX4_run 1 = .ok (.iload_n 1, 1) := by decide +kernel
theorem dX4_run_2 : decode cX4_run 2 = .ok (.invokevirtual 53, 3) := by decide +kernel
theorem dX4_run_5 : decode cX4_run 5 = .ok (.ifCond .ne 5, 3) := by decide +kernel
theorem dX4_run_8 : decode cX4_run 8 = .ok (.iconst (-1), 1) := by decide +kernel
theorem dX4_run_9 : decode cX4_run 9 = .ok (.ireturn, 1) := by decide +kernel
theorem dX4_run_10 : decode cX4_run 10 = .ok (.aload_n 0, 1) := by decide +kernel
theorem dX4_run_11 : decode cX4_run 11 = .ok (.getfield 29, 3) := by decide +kernel
theorem dX4_run_14 : decode cX4_run 14 = .ok (.invokevirtual 115, 3) := by decide +kernel
theorem dX4_run_17 : decode cX4_run 17 = .ok (.ifCond .ne 26, 3) := by decide +kernel
theorem dX4_run_20 : decode cX4_run 20 = .ok (.aload_n 0, 1) := by decide +kernel
theorem dX4_run_21 : decode cX4_run 21 = .ok (.iconst 1, 1) := by decide +kernel
theorem dX4_run_22 : decode cX4_run 22 = .ok (.aload_n 0, 1) := by decide +kernel
theorem dX4_run_23 : decode cX4_run 23 = .ok (.getfield 29, 3) := by decide +kernel
theorem dX4_run_26 : decode cX4_run 26 = .ok (.getfield 119, 3) := by decide +kernel
theorem dX4_run_29 : decode cX4_run 29 = .ok (.aload_n 0, 1) := by decide +kernel
theorem dX4_run_30 : decode cX4_run 30 = .ok (.getfield 29, 3) := by decide +kernel
theorem dX4_run_33 : decode cX4_run 33 = .ok (.getfield 122, 3) := by decide +kernel
theorem dX4_run_36 : decode cX4_run 36 = .ok (.iconst 0, 1) := by decide +kernel
theorem dX4_run_37 : decode cX4_run 37 = .ok (.bipush (-9), 2) := by decide +kernel
theorem dX4_run_39 : decode cX4_run 39 = .ok (.invokevirtual 125, 3) := by decide +kernel
theorem dX4_run_42 : decode cX4_run 42 = .ok (.ireturn, 1) := by decide +kernel
theorem dX4_run_43 : decode cX4_run 43 = .ok (.aload_n 0, 1) := by decide +kernel
theorem dX4_run_44 : decode cX4_run 44 = .ok (.getfield 16, 3) := by decide +kernel
theorem dX4_run_47 : decode cX4_run 47 = .ok (.aload_n 0, 1) := by decide +kernel
theorem dX4_run_48 : decode cX4_run 48 = .ok (.getfield 12, 3) := by decide +kernel
theorem dX4_run_51 : decode cX4_run 51 = .ok (.invokevirtual 129, 3) := by decide +kernel
theorem dX4_run_54 : decode cX4_run 54 = .ok (.iconst 0, 1) := by decide +kernel
theorem dX4_run_55 : decode cX4_run 55 = .ok (.istore_n 2, 1) := by decide +kernel
theorem dX4_run_56 : decode cX4_run 56 = .ok (.iconst 0, 1) := by decide +kernel
theorem dX4_run_57 : decode cX4_run 57 = .ok (.istore_n 3, 1) := by decide +kernel
theorem dX4_run_58 : decode cX4_run 58 = .ok (.iload_n 3, 1) := by decide +kernel
theorem dX4_run_59 : decode cX4_run 59 = .ok (.aload_n 0, 1) := by decide +kernel
theorem dX4_run_60 : decode cX4_run 60 = .ok (.getfield 29, 3) := by decide +kernel
theorem dX4_run_63 : decode cX4_run 63 = .ok (.getfield 132, 3) := by decide +kernel
theorem dX4_run_66 : decode cX4_run 66 = .ok (.if_icmp .ge 131, 3) := by decide +kernel
theorem dX4_run_69 : decode cX4_run 69 = .ok (.aload_n 0, 1) := by decide +kernel
theorem dX4_run_70 : decode cX4_run 70 = .ok (.getfield 29, 3) := by decide +kernel
theorem dX4_run_73 : decode cX4_run 73 = .ok (.getfield 135, 3) := by decide +kernel
theorem dX4_run_76 : decode cX4_run 76 = .ok (.iload_n 3, 1) := by decide +kernel
theorem dX4_run_77 : decode cX4_run 77 = .ok (.aaload, 1) := by decide +kernel
theorem dX4_run_78 : decode cX4_run 78 = .ok (.astore 4, 2) := by decide +kernel
theorem dX4_run_80 : decode cX4_run 80 = .ok (.aload 4, 2) := by decide +kernel
theorem dX4_run_82 : decode cX4_run 82 = .ok (.getfield 139, 3) := by decide +kernel
theorem dX4_run_85 : decode cX4_run 85 = .ok (.istore 5, 2) := by decide +kernel
theorem dX4_run_87 : decode cX4_run 87 = .ok (.iload 5, 2) := by decide +kernel
theorem dX4_run_89 : decode cX4_run 89 = .ok (.aload 4, 2) := by decide +kernel
theorem dX4_run_91 : decode cX4_run 91 = .ok (.getfield 144, 3) := by decide +kernel
theorem dX4_run_94 : decode cX4_run 94 = .ok (.if_icmp .gt 97, 3) := by decide +kernel
theorem dX4_run_97 : decode cX4_run 97 = .ok (.aload 4, 2) := by decide +kernel
theorem dX4_run_99 : decode cX4_run 99 = .ok (.getfield 147, 3) := by decide +kernel
theorem dX4_run_102 : decode cX4_run 102 = .ok (.iload 5, 2) := by decide +kernel
theorem dX4_run_104 : decode cX4_run 104 = .ok (.invokestatic 72, 3) := by decide +kernel
theorem dX4_run_107 : decode cX4_run 107 = .ok (.istore 6, 2) := by decide +kernel
theorem dX4_run_109 : decode cX4_run 109 = .ok (.aload_n 0, 1) := by decide +kernel
theorem dX4_run_110 : decode cX4_run 110 = .ok (.getfield 12, 3) := by decide +kernel
theorem dX4_run_113 : decode cX4_run 113 = .ok (.iload_n 1, 1) := by decide +kernel
theorem dX4_run_114 : decode cX4_run 114 = .ok (.iload 6, 2) := by decide +kernel
theorem dX4_run_116 : decode cX4_run 116 = .ok (.aload 4, 2) := by decide +kernel
theorem dX4_run_118 : decode cX4_run 118 = .ok (.getfield 150, 3) := by decide +kernel
theorem dX4_run_121 : decode cX4_run 121 = .ok (.invokevirtual 76, 3) := by decide +kernel
theorem dX4_run_124 : decode cX4_run 124 = .ok (.istore 7, 2) := by decide +kernel
theorem dX4_run_126 : decode cX4_run 126 = .ok (.iload 7, 2) := by decide +kernel
theorem dX4_run_128 : decode cX4_run 128 = .ok (.ifCond .eq 33, 3) := by decide +kernel
theorem dX4_run_131 : decode cX4_run 131 = .ok (.aload_n 0, 1) := by decide +kernel
theorem dX4_run_132 : decode cX4_run 132 = .ok (.getfield 12, 3) := by decide +kernel
theorem dX4_run_135 : decode cX4_run 135 = .ok (.aload_n 0, 1) := by decide +kernel
theorem dX4_run_136 : decode cX4_run 136 = .ok (.getfield 16, 3) := by decide +kernel
theorem dX4_run_139 : decode cX4_run 139 = .ok (.invokevirtual 129, 3) := by decide +kernel
theorem dX4_run_142 : decode cX4_run 142 = .ok (.aload_n 0, 1) := by decide +kernel
theorem dX4_run_143 : decode cX4_run 143 = .ok (.iconst 2, 1) := by decide +kernel
theorem dX4_run_144 : decode cX4_run 144 = .ok (.aload 4, 2) := by decide +kernel
theorem dX4_run_146 : decode cX4_run 146 = .ok (.getfield 153, 3) := by decide +kernel
theorem dX4_run_149 : decode cX4_run 149 = .ok (.aload 4, 2) := by decide +kernel
theorem dX4_run_151 : decode cX4_run 151 = .ok (.getfield 156, 3) := by decide +kernel
theorem dX4_run_154 : decode cX4_run 154 = .ok (.iload_n 2, 1) := by decide +kernel
theorem dX4_run_155 : decode cX4_run 155 = .ok (.iload 7, 2) := by decide +kernel
theorem dX4_run_157 : decode cX4_run 157 = .ok (.invokevirtual 125, 3) := by decide +kernel
theorem dX4_run_160 : decode cX4_run 160 = .ok (.ireturn, 1) := by decide +kernel
theorem dX4_run_161 : decode cX4_run 161 = .ok (.aload_n 0, 1) := by decide +kernel
theorem dX4_run_162 : decode cX4_run 162 = .ok (.getfield 12, 3) := by decide +kernel
theorem dX4_run_165 : decode cX4_run 165 = .ok (.iload_n 1, 1) := by decide +kernel
theorem dX4_run_166 : decode cX4_run 166 = .ok (.iload 6, 2) := by decide +kernel
theorem dX4_run_168 : decode cX4_run 168 = .ok (.aload 4, 2) := by decide +kernel
theorem dX4_run_170 : decode cX4_run 170 = .ok (.getfield 157, 3) := by decide +kernel
theorem dX4_run_173 : decode cX4_run 173 = .ok (.aload 4, 2) := by decide +kernel
theorem dX4_run_175 : decode cX4_run 175 = .ok (.getfield 150, 3) := by decide +kernel
theorem dX4_run_178 : decode cX4_run 178 = .ok (.invokevirtual 80, 3) := by decide +kernel
theorem dX4_run_181 : decode cX4_run 181 = .ok (.pop, 1) := by decide +kernel
theorem dX4_run_182 : decode cX4_run 182 = .ok (.iinc 2 1, 3) := by decide +kernel
theorem dX4_run_185 : decode cX4_run 185 = .ok (.iinc 5 1, 3) := by decide +kernel
theorem dX4_run_188 : decode cX4_run 188 = .ok (.goto (-101), 3) := by decide +kernel
theorem dX4_run_191 : decode cX4_run 191 = .ok (.iinc 3 1, 3) := by decide +kernel
theorem dX4_run_194 : decode cX4_run 194 = .ok (.goto (-136), 3) := by decide +kernel
theorem dX4_run_197 : decode cX4_run 197 = .ok (.aload_n 0, 1) := by decide +kernel
theorem dX4_run_198 : decode cX4_run 198 = .ok (.getfield 22, 3) := by decide +kernel
theorem dX4_run_201 : decode cX4_run 201 = .ok (.aload_n 0, 1) := by decide +kernel
theorem dX4_run_202 : decode cX4_run 202 = .ok (.getfield 16, 3) := by decide +kernel
theorem dX4_run_205 : decode cX4_run 205 = .ok (.invokevirtual 46, 3) := by decide +kernel
theorem dX4_run_208 : decode cX4_run 208 = .ok (.iload_n 2, 1) := by decide +kernel
theorem dX4_run_209 : decode cX4_run 209 = .ok (.ireturn, 1) := by decide +kernel
theorem dX4_failure_0 : decode cX4_failure 0 = .ok (.iload_n 1, 1) := by decide +kernel
theorem dX4_failure_1 : decode cX4_failure 1 = .ok (.iconst 0, 1) := by decide +kernel
theorem dX4_failure_2 : decode cX4_failure 2 = .ok (.iconst 4, 1) := by decide +kernel
theorem dX4_failure_3 : decode cX4_failure 3 = .ok (.invokestatic 38, 3) := by decide +kernel
theorem dX4_failure_6 : decode cX4_failure 6 = .ok (.ifCond .ne 5, 3) := by decide +kernel
theorem dX4_failure_9 : decode cX4_failure 9 = .ok (.iconst (-1), 1) := by decide +kernel
theorem dX4_failure_10 : decode cX4_failure 10 = .ok (.ireturn, 1) := by decide +kernel
theorem dX4_failure_11 : decode cX4_failure 11 = .ok (.aload_n 0, 1) := by decide +kernel
theorem dX4_failure_12 : decode cX4_failure 12 = .ok (.getfield 33, 3) := by decide +kernel
theorem dX4_failure_15 : decode cX4_failure 15 = .ok (.iconst 0, 1) := by decide +kernel
theorem dX4_failure_16 : decode cX4_failure 16 = .ok (.iaload, 1) := by decide +kernel
theorem dX4_failure_17 : decode cX4_failure 17 = .ok (.ifCond .ne 7, 3) := by decide +kernel
theorem dX4_failure_20 : decode cX4_failure 20 = .ok (.iconst 1, 1) := by decide +kernel
theorem dX4_failure_21 : decode cX4_failure 21 = .ok (.goto 4, 3) := by decide +kernel
theorem dX4_failure_24 : decode cX4_failure 24 = .ok (.iconst 0, 1) := by decide +kernel
theorem dX4_failure_25 : decode cX4_failure 25 = .ok (.istore_n 2, 1) := by decide +kernel
theorem dX4_failure_26 : decode cX4_failure 26 = .ok (.iload_n 2, 1) := by decide +kernel
theorem dX4_failure_27 : decode cX4_failure 27 = .ok (.ifCond .eq 8, 3) := by decide +kernel
theorem dX4_failure_30 : decode cX4_failure 30 = .ok (.bipush (-9), 2) := by decide +kernel
theorem dX4_failure_32 : decode cX4_failure 32 = .ok (.goto 9, 3) := by decide +kernel
theorem dX4_failure_35 : decode cX4_failure 35 = .ok (.aload_n 0, 1) := by decide +kernel
theorem dX4_failure_36 : decode cX4_failure 36 = .ok (.getfield 33, 3) := by decide +kernel
theorem dX4_failure_39 : decode cX4_failure 39 = .ok (.iload_n 1, 1) := by decide +kernel
theorem dX4_failure_40 : decode cX4_failure 40 = .ok (.iaload, 1) := by decide +kernel
theorem dX4_failure_41 : decode cX4_failure 41 = .ok (.ireturn, 1) := by decide +kernel
theorem dX4_count_0 : decode cX4_count 0 = .ok (.iload_n 1, 1) := by decide +kernel
theorem dX4_count_1 : decode cX4_count 1 = .ok (.tableswitch 135 0 9 #[55, 63, 71, 79, 87, 95, 103, 111, 119, 127], 55) := by decide +kernel
theorem dX4_count_56 : decode cX4_count 56 = .ok (.aload_n 0, 1) := by decide +kernel
theorem dX4_count_57 : decode cX4_count 57 = .ok (.getfield 12, 3) := by decide +kernel
theorem dX4_count_60 : decode cX4_count 60 = .ok (.getfield 87, 3) := by decide +kernel
theorem dX4_count_63 : decode cX4_count 63 = .ok (.ireturn, 1) := by decide +kernel
theorem dX4_count_64 : decode cX4_count 64 = .ok (.aload_n 0, 1) := by decide +kernel
theorem dX4_count_65 : decode cX4_count 65 = .ok (.getfield 12, 3) := by decide +kernel
theorem dX4_count_68 : decode cX4_count 68 = .ok (.getfield 42, 3) := by decide +kernel
theorem dX4_count_71 : decode cX4_count 71 = .ok (.ireturn, 1) := by decide +kernel
theorem dX4_count_72 : decode cX4_count 72 = .ok (.aload_n 0, 1) := by decide +kernel
theorem dX4_count_73 : decode cX4_count 73 = .ok (.getfield 12, 3) := by decide +kernel
theorem dX4_count_76 : decode cX4_count 76 = .ok (.invokevirtual 160, 3) := by decide +kernel
theorem dX4_count_79 : decode cX4_count 79 = .ok (.ireturn, 1) := by decide +kernel
theorem dX4_count_80 : decode cX4_count 80 = .ok (.aload_n 0, 1) := by decide +kernel
theorem dX4_count_81 : decode cX4_count 81 = .ok (.getfield 12, 3) := by decide +kernel
theorem dX4_count_84 : decode cX4_count 84 = .ok (.invokevirtual 93, 3) := by decide +kernel
theorem dX4_count_87 : decode cX4_count 87 = .ok (.ireturn, 1) := by decide +kernel
theorem dX4_count_88 : decode cX4_count 88 = .ok (.aload_n 0, 1) := by decide +kernel
theorem dX4_count_89 : decode cX4_count 89 = .ok (.getfield 12, 3) := by decide +kernel
theorem dX4_count_92 : decode cX4_count 92 = .ok (.getfield 84, 3) := by decide +kernel
theorem dX4_count_95 : decode cX4_count 95 = .ok (.ireturn, 1) := by decide +kernel
theorem dX4_count_96 : decode cX4_count 96 = .ok (.aload_n 0, 1) := by decide +kernel
theorem dX4_count_97 : decode cX4_count 97 = .ok (.getfield 12, 3) := by decide +kernel
theorem dX4_count_100 : decode cX4_count 100 = .ok (.invokevirtual 163, 3) := by decide +kernel
theorem dX4_count_103 : decode cX4_count 103 = .ok (.ireturn, 1) := by decide +kernel
theorem dX4_count_104 : decode cX4_count 104 = .ok (.aload_n 0, 1) := by decide +kernel
theorem dX4_count_105 : decode cX4_count 105 = .ok (.getfield 12, 3) := by decide +kernel
theorem dX4_count_108 : decode cX4_count 108 = .ok (.invokevirtual 166, 3) := by decide +kernel
theorem dX4_count_111 : decode cX4_count 111 = .ok (.ireturn, 1) := by decide +kernel
theorem dX4_count_112 : decode cX4_count 112 = .ok (.aload_n 0, 1) := by decide +kernel
theorem dX4_count_113 : decode cX4_count 113 = .ok (.getfield 12, 3) := by decide +kernel
theorem dX4_count_116 : decode cX4_count 116 = .ok (.getfield 169, 3) := by decide +kernel
theorem dX4_count_119 : decode cX4_count 119 = .ok (.ireturn, 1) := by decide +kernel
theorem dX4_count_120 : decode cX4_count 120 = .ok (.aload_n 0, 1) := by decide +kernel
theorem dX4_count_121 : decode cX4_count 121 = .ok (.getfield 22, 3) := by decide +kernel
theorem dX4_count_124 : decode cX4_count 124 = .ok (.getfield 103, 3) := by decide +kernel
theorem dX4_count_127 : decode cX4_count 127 = .ok (.ireturn, 1) := by decide +kernel
theorem dX4_count_128 : decode cX4_count 128 = .ok (.aload_n 0, 1) := by decide +kernel
theorem dX4_count_129 : decode cX4_count 129 = .ok (.getfield 29, 3) := by decide +kernel
theorem dX4_count_132 : decode cX4_count 132 = .ok (.getfield 109, 3) := by decide +kernel
theorem dX4_count_135 : decode cX4_count 135 = .ok (.ireturn, 1) := by decide +kernel
theorem dX4_count_136 : decode cX4_count 136 = .ok (.iconst (-1), 1) := by decide +kernel
theorem dX4_count_137 : decode cX4_count 137 = .ok (.ireturn, 1) := by decide +kernel
theorem dX4_person_0 : decode cX4_person 0 = .ok (.aload_n 0, 1) := by decide +kernel
theorem dX4_person_1 : decode cX4_person 1 = .ok (.iload_n 1, 1) := by decide +kernel
theorem dX4_person_2 : decode cX4_person 2 = .ok (.invokevirtual 53, 3) := by decide +kernel
theorem dX4_person_5 : decode cX4_person 5 = .ok (.ifCond .ne 5, 3) := by decide +kernel
theorem dX4_person_8 : decode cX4_person 8 = .ok (.iconst (-1), 1) := by decide +kernel
theorem dX4_person_9 : decode cX4_person 9 = .ok (.ireturn, 1) := by decide +kernel
theorem dX4_person_10 : decode cX4_person 10 = .ok (.iload_n 2, 1) := by decide +kernel
theorem dX4_person_11 : decode cX4_person 11 = .ok (.tableswitch 123 0 7 #[45, 55, 64, 74, 83, 93, 103, 113], 45) := by decide +kernel
theorem dX4_person_56 : decode cX4_person 56 = .ok (.aload_n 0, 1) := by decide +kernel
theorem dX4_person_57 : decode cX4_person 57 = .ok (.getfield 12, 3) := by decide +kernel
theorem dX4_person_60 : decode cX4_person 60 = .ok (.getfield 50, 3) := by decide +kernel
theorem dX4_person_63 : decode cX4_person 63 = .ok (.iload_n 1, 1) := by decide +kernel
theorem dX4_person_64 : decode cX4_person 64 = .ok (.iaload, 1) := by decide +kernel
theorem dX4_person_65 : decode cX4_person 65 = .ok (.ireturn, 1) := by decide +kernel
theorem dX4_person_66 : decode cX4_person 66 = .ok (.aload_n 0, 1) := by decide +kernel
theorem dX4_person_67 : decode cX4_person 67 = .ok (.getfield 12, 3) := by decide +kernel
theorem dX4_person_70 : decode cX4_person 70 = .ok (.iload_n 1, 1) := by decide +kernel
theorem dX4_person_71 : decode cX4_person 71 = .ok (.invokevirtual 172, 3) := by decide +kernel
theorem dX4_person_74 : decode cX4_person 74 = .ok (.ireturn, 1) := by decide +kernel
theorem dX4_person_75 : decode cX4_person 75 = .ok (.aload_n 0, 1) := by decide +kernel
theorem dX4_person_76 : decode cX4_person 76 = .ok (.getfield 12, 3) := by decide +kernel
theorem dX4_person_79 : decode cX4_person 79 = .ok (.getfield 176, 3) := by decide +kernel
theorem dX4_person_82 : decode cX4_person 82 = .ok (.iload_n 1, 1) := by decide +kernel
theorem dX4_person_83 : decode cX4_person 83 = .ok (.iaload, 1) := by decide +kernel
theorem dX4_person_84 : decode cX4_person 84 = .ok (.ireturn, 1) := by decide +kernel
theorem dX4_person_85 : decode cX4_person 85 = .ok (.aload_n 0, 1) := by decide +kernel
theorem dX4_person_86 : decode cX4_person 86 = .ok (.getfield 12, 3) := by decide +kernel
theorem dX4_person_89 : decode cX4_person 89 = .ok (.iload_n 1, 1) := by decide +kernel
theorem dX4_person_90 : decode cX4_person 90 = .ok (.invokevirtual 179, 3) := by decide +kernel
theorem dX4_person_93 : decode cX4_person 93 = .ok (.ireturn, 1) := by decide +kernel
theorem dX4_person_94 : decode cX4_person 94 = .ok (.aload_n 0, 1) := by decide +kernel
theorem dX4_person_95 : decode cX4_person 95 = .ok (.getfield 12, 3) := by decide +kernel
theorem dX4_person_98 : decode cX4_person 98 = .ok (.getfield 182, 3) := by decide +kernel
theorem dX4_person_101 : decode cX4_person 101 = .ok (.iload_n 1, 1) := by decide +kernel
theorem dX4_person_102 : decode cX4_person 102 = .ok (.iaload, 1) := by decide +kernel
theorem dX4_person_103 : decode cX4_person 103 = .ok (.ireturn, 1) := by decide +kernel
theorem dX4_person_104 : decode cX4_person 104 = .ok (.aload_n 0, 1) := by decide +kernel
theorem dX4_person_105 : decode cX4_person 105 = .ok (.getfield 12, 3) := by decide +kernel
theorem dX4_person_108 : decode cX4_person 108 = .ok (.getfield 185, 3) := by decide +kernel
theorem dX4_person_111 : decode cX4_person 111 = .ok (.iload_n 1, 1) := by decide +kernel
theorem dX4_person_112 : decode cX4_person 112 = .ok (.iaload, 1) := by decide +kernel
theorem dX4_person_113 : decode cX4_person 113 = .ok (.ireturn, 1) := by decide +kernel
theorem dX4_person_114 : decode cX4_person 114 = .ok (.aload_n 0, 1) := by decide +kernel
theorem dX4_person_115 : decode cX4_person 115 = .ok (.getfield 12, 3) := by decide +kernel
theorem dX4_person_118 : decode cX4_person 118 = .ok (.getfield 188, 3) := by decide +kernel
theorem dX4_person_121 : decode cX4_person 121 = .ok (.iload_n 1, 1) := by decide +kernel
theorem dX4_person_122 : decode cX4_person 122 = .ok (.iaload, 1) := by decide +kernel
theorem dX4_person_123 : decode cX4_person 123 = .ok (.ireturn, 1) := by decide +kernel
theorem dX4_person_124 : decode cX4_person 124 = .ok (.aload_n 0, 1) := by decide +kernel
theorem dX4_person_125 : decode cX4_person 125 = .ok (.getfield 12, 3) := by decide +kernel
theorem dX4_person_128 : decode cX4_person 128 = .ok (.getfield 191, 3) := by decide +kernel
theorem dX4_person_131 : decode cX4_person 131 = .ok (.iload_n 1, 1) := by decide +kernel
theorem dX4_person_132 : decode cX4_person 132 = .ok (.iaload, 1) := by decide +kernel
theorem dX4_person_133 : decode cX4_person 133 = .ok (.ireturn, 1) := by decide +kernel
theorem dX4_person_134 : decode cX4_person 134 = .ok (.iconst (-1), 1) := by decide +kernel
theorem dX4_person_135 : decode cX4_person 135 = .ok (.ireturn, 1) := by decide +kernel
theorem dX4_slot_0 : decode cX4_slot 0 = .ok (.iload_n 1, 1) := by decide +kernel
theorem dX4_slot_1 : decode cX4_slot 1 = .ok (.iload_n 2, 1) := by decide +kernel
theorem dX4_slot_2 : decode cX4_slot 2 = .ok (.invokestatic 66, 3) := by decide +kernel
theorem dX4_slot_5 : decode cX4_slot 5 = .ok (.ifCond .ne 5, 3) := by decide +kernel
theorem dX4_slot_8 : decode cX4_slot 8 = .ok (.iconst (-1), 1) := by decide +kernel
theorem dX4_slot_9 : decode cX4_slot 9 = .ok (.ireturn, 1) := by decide +kernel
theorem dX4_slot_10 : decode cX4_slot 10 = .ok (.iload_n 1, 1) := by decide +kernel
theorem dX4_slot_11 : decode cX4_slot 11 = .ok (.iload_n 2, 1) := by decide +kernel
theorem dX4_slot_12 : decode cX4_slot 12 = .ok (.invokestatic 72, 3) := by decide +kernel
theorem dX4_slot_15 : decode cX4_slot 15 = .ok (.istore 4, 2) := by decide +kernel
theorem dX4_slot_17 : decode cX4_slot 17 = .ok (.iload_n 3, 1) := by decide +kernel
theorem dX4_slot_18 : decode cX4_slot 18 = .ok (.tableswitch 103 0 5 #[38, 49, 60, 71, 82, 92], 38) := by decide +kernel
theorem dX4_slot_56 : decode cX4_slot 56 = .ok (.aload_n 0, 1) := by decide +kernel
theorem dX4_slot_57 : decode cX4_slot 57 = .ok (.getfield 12, 3) := by decide +kernel
theorem dX4_slot_60 : decode cX4_slot 60 = .ok (.getfield 97, 3) := by decide +kernel
theorem dX4_slot_63 : decode cX4_slot 63 = .ok (.iload 4, 2) := by decide +kernel
theorem dX4_slot_65 : decode cX4_slot 65 = .ok (.iaload, 1) := by decide +kernel
theorem dX4_slot_66 : decode cX4_slot 66 = .ok (.ireturn, 1) := by decide +kernel
theorem dX4_slot_67 : decode cX4_slot 67 = .ok (.aload_n 0, 1) := by decide +kernel
theorem dX4_slot_68 : decode cX4_slot 68 = .ok (.getfield 12, 3) := by decide +kernel
theorem dX4_slot_71 : decode cX4_slot 71 = .ok (.iload 4, 2) := by decide +kernel
theorem dX4_slot_73 : decode cX4_slot 73 = .ok (.iconst 0, 1) := by decide +kernel
theorem dX4_slot_74 : decode cX4_slot 74 = .ok (.invokevirtual 194, 3) := by decide +kernel
theorem dX4_slot_77 : decode cX4_slot 77 = .ok (.ireturn, 1) := by decide +kernel
theorem dX4_slot_78 : decode cX4_slot 78 = .ok (.aload_n 0, 1) := by decide +kernel
theorem dX4_slot_79 : decode cX4_slot 79 = .ok (.getfield 12, 3) := by decide +kernel
theorem dX4_slot_82 : decode cX4_slot 82 = .ok (.iload 4, 2) := by decide +kernel
theorem dX4_slot_84 : decode cX4_slot 84 = .ok (.iconst 1, 1) := by decide +kernel
theorem dX4_slot_85 : decode cX4_slot 85 = .ok (.invokevirtual 194, 3) := by decide +kernel
theorem dX4_slot_88 : decode cX4_slot 88 = .ok (.ireturn, 1) := by decide +kernel
theorem dX4_slot_89 : decode cX4_slot 89 = .ok (.aload_n 0, 1) := by decide +kernel
theorem dX4_slot_90 : decode cX4_slot 90 = .ok (.getfield 12, 3) := by decide +kernel
theorem dX4_slot_93 : decode cX4_slot 93 = .ok (.getfield 197, 3) := by decide +kernel
theorem dX4_slot_96 : decode cX4_slot 96 = .ok (.iload 4, 2) := by decide +kernel
theorem dX4_slot_98 : decode cX4_slot 98 = .ok (.iaload, 1) := by decide +kernel
theorem dX4_slot_99 : decode cX4_slot 99 = .ok (.ireturn, 1) := by decide +kernel
theorem dX4_slot_100 : decode cX4_slot 100 = .ok (.aload_n 0, 1) := by decide +kernel
theorem dX4_slot_101 : decode cX4_slot 101 = .ok (.getfield 12, 3) := by decide +kernel
theorem dX4_slot_104 : decode cX4_slot 104 = .ok (.iload 4, 2) := by decide +kernel
theorem dX4_slot_106 : decode cX4_slot 106 = .ok (.invokevirtual 200, 3) := by decide +kernel
theorem dX4_slot_109 : decode cX4_slot 109 = .ok (.ireturn, 1) := by decide +kernel
theorem dX4_slot_110 : decode cX4_slot 110 = .ok (.aload_n 0, 1) := by decide +kernel
theorem dX4_slot_111 : decode cX4_slot 111 = .ok (.getfield 12, 3) := by decide +kernel
theorem dX4_slot_114 : decode cX4_slot 114 = .ok (.getfield 203, 3) := by decide +kernel
theorem dX4_slot_117 : decode cX4_slot 117 = .ok (.iload 4, 2) := by decide +kernel
theorem dX4_slot_119 : decode cX4_slot 119 = .ok (.iaload, 1) := by decide +kernel
theorem dX4_slot_120 : decode cX4_slot 120 = .ok (.ireturn, 1) := by decide +kernel
theorem dX4_slot_121 : decode cX4_slot 121 = .ok (.iconst (-1), 1) := by decide +kernel
theorem dX4_slot_122 : decode cX4_slot 122 = .ok (.ireturn, 1) := by decide +kernel
theorem dX4_bidOf_0 : decode cX4_bidOf 0 = .ok (.aload_n 0, 1) := by decide +kernel
theorem dX4_bidOf_1 : decode cX4_bidOf 1 = .ok (.iload_n 1, 1) := by decide +kernel
theorem dX4_bidOf_2 : decode cX4_bidOf 2 = .ok (.invokevirtual 53, 3) := by decide +kernel
theorem dX4_bidOf_5 : decode cX4_bidOf 5 = .ok (.ifCond .eq 11, 3) := by decide +kernel
theorem dX4_bidOf_8 : decode cX4_bidOf 8 = .ok (.iload_n 2, 1) := by decide +kernel
theorem dX4_bidOf_9 : decode cX4_bidOf 9 = .ok (.iload_n 3, 1) := by decide +kernel
theorem dX4_bidOf_10 : decode cX4_bidOf 10 = .ok (.invokestatic 66, 3) := by decide +kernel
theorem dX4_bidOf_13 : decode cX4_bidOf 13 = .ok (.ifCond .ne 5, 3) := by decide +kernel
theorem dX4_bidOf_16 : decode cX4_bidOf 16 = .ok (.iconst (-1), 1) := by decide +kernel
theorem dX4_bidOf_17 : decode cX4_bidOf 17 = .ok (.ireturn, 1) := by decide +kernel
theorem dX4_bidOf_18 : decode cX4_bidOf 18 = .ok (.aload_n 0, 1) := by decide +kernel
theorem dX4_bidOf_19 : decode cX4_bidOf 19 = .ok (.getfield 12, 3) := by decide +kernel
theorem dX4_bidOf_22 : decode cX4_bidOf 22 = .ok (.iload_n 1, 1) := by decide +kernel
theorem dX4_bidOf_23 : decode cX4_bidOf 23 = .ok (.iload_n 2, 1) := by decide +kernel
theorem dX4_bidOf_24 : decode cX4_bidOf 24 = .ok (.iload_n 3, 1) := by decide +kernel
theorem dX4_bidOf_25 : decode cX4_bidOf 25 = .ok (.invokestatic 72, 3) := by decide +kernel
theorem dX4_bidOf_28 : decode cX4_bidOf 28 = .ok (.invokevirtual 206, 3) := by decide +kernel
theorem dX4_bidOf_31 : decode cX4_bidOf 31 = .ok (.istore 4, 2) := by decide +kernel
theorem dX4_bidOf_33 : decode cX4_bidOf 33 = .ok (.iload 4, 2) := by decide +kernel
theorem dX4_bidOf_35 : decode cX4_bidOf 35 = .ok (.ifCond .ne 8, 3) := by decide +kernel
theorem dX4_bidOf_38 : decode cX4_bidOf 38 = .ok (.bipush (-9), 2) := by decide +kernel
theorem dX4_bidOf_40 : decode cX4_bidOf 40 = .ok (.goto 5, 3) := by decide +kernel
theorem dX4_bidOf_43 : decode cX4_bidOf 43 = .ok (.iload 4, 2) := by decide +kernel
theorem dX4_bidOf_45 : decode cX4_bidOf 45 = .ok (.ireturn, 1) := by decide +kernel
theorem dX4_fund_0 : decode cX4_fund 0 = .ok (.iload_n 1, 1) := by decide +kernel
theorem dX4_fund_1 : decode cX4_fund 1 = .ok (.invokestatic 209, 3) := by decide +kernel
theorem dX4_fund_4 : decode cX4_fund 4 = .ok (.ifCond .eq 15, 3) := by decide +kernel
theorem dX4_fund_7 : decode cX4_fund 7 = .ok (.aload_n 0, 1) := by decide +kernel
theorem dX4_fund_8 : decode cX4_fund 8 = .ok (.getfield 12, 3) := by decide +kernel
theorem dX4_fund_11 : decode cX4_fund 11 = .ok (.getfield 212, 3) := by decide +kernel
theorem dX4_fund_14 : decode cX4_fund 14 = .ok (.iload_n 1, 1) := by decide +kernel
theorem dX4_fund_15 : decode cX4_fund 15 = .ok (.iaload, 1) := by decide +kernel
theorem dX4_fund_16 : decode cX4_fund 16 = .ok (.goto 4, 3) := by decide +kernel
theorem dX4_fund_19 : decode cX4_fund 19 = .ok (.iconst (-1), 1) := by decide +kernel
theorem dX4_fund_20 : decode cX4_fund 20 = .ok (.ireturn, 1) := by decide +kernel
theorem dX4_winner_0 : decode cX4_winner 0 = .ok (.iload_n 1, 1) := by decide +kernel
theorem dX4_winner_1 : decode cX4_winner 1 = .ok (.iload_n 2, 1) := by decide +kernel
theorem dX4_winner_2 : decode cX4_winner 2 = .ok (.invokestatic 66, 3) := by decide +kernel
theorem dX4_winner_5 : decode cX4_winner 5 = .ok (.ifCond .eq 18, 3) := by decide +kernel
theorem dX4_winner_8 : decode cX4_winner 8 = .ok (.aload_n 0, 1) := by decide +kernel
theorem dX4_winner_9 : decode cX4_winner 9 = .ok (.getfield 12, 3) := by decide +kernel
theorem dX4_winner_12 : decode cX4_winner 12 = .ok (.iload_n 1, 1) := by decide +kernel
theorem dX4_winner_13 : decode cX4_winner 13 = .ok (.iload_n 2, 1) := by decide +kernel
theorem dX4_winner_14 : decode cX4_winner 14 = .ok (.invokestatic 72, 3) := by decide +kernel
theorem dX4_winner_17 : decode cX4_winner 17 = .ok (.invokevirtual 215, 3) := by decide +kernel
theorem dX4_winner_20 : decode cX4_winner 20 = .ok (.goto 4, 3) := by decide +kernel
theorem dX4_winner_23 : decode cX4_winner 23 = .ok (.iconst (-1), 1) := by decide +kernel
theorem dX4_winner_24 : decode cX4_winner 24 = .ok (.ireturn, 1) := by decide +kernel
theorem dX4_needed_0 : decode cX4_needed 0 = .ok (.iload_n 1, 1) := by decide +kernel
theorem dX4_needed_1 : decode cX4_needed 1 = .ok (.iload_n 2, 1) := by decide +kernel
theorem dX4_needed_2 : decode cX4_needed 2 = .ok (.invokestatic 66, 3) := by decide +kernel
theorem dX4_needed_5 : decode cX4_needed 5 = .ok (.ifCond .eq 10, 3) := by decide +kernel
theorem dX4_needed_8 : decode cX4_needed 8 = .ok (.iload_n 3, 1) := by decide +kernel
theorem dX4_needed_9 : decode cX4_needed 9 = .ok (.invokestatic 69, 3) := by decide +kernel
theorem dX4_needed_12 : decode cX4_needed 12 = .ok (.ifCond .ne 5, 3) := by decide +kernel
theorem dX4_needed_15 : decode cX4_needed 15 = .ok (.iconst (-1), 1) := by decide +kernel
theorem dX4_needed_16 : decode cX4_needed 16 = .ok (.ireturn, 1) := by decide +kernel
theorem dX4_needed_17 : decode cX4_needed 17 = .ok (.aload_n 0, 1) := by decide +kernel
theorem dX4_needed_18 : decode cX4_needed 18 = .ok (.getfield 12, 3) := by decide +kernel
theorem dX4_needed_21 : decode cX4_needed 21 = .ok (.iload_n 1, 1) := by decide +kernel
theorem dX4_needed_22 : decode cX4_needed 22 = .ok (.iload_n 2, 1) := by decide +kernel
theorem dX4_needed_23 : decode cX4_needed 23 = .ok (.invokestatic 72, 3) := by decide +kernel
theorem dX4_needed_26 : decode cX4_needed 26 = .ok (.iload_n 3, 1) := by decide +kernel
theorem dX4_needed_27 : decode cX4_needed 27 = .ok (.invokevirtual 218, 3) := by decide +kernel
theorem dX4_needed_30 : decode cX4_needed 30 = .ok (.ireturn, 1) := by decide +kernel
theorem dX4_quiet_0 : decode cX4_quiet 0 = .ok (.iload_n 1, 1) := by decide +kernel
theorem dX4_quiet_1 : decode cX4_quiet 1 = .ok (.invokestatic 209, 3) := by decide +kernel
theorem dX4_quiet_4 : decode cX4_quiet 4 = .ok (.ifCond .ne 5, 3) := by decide +kernel
theorem dX4_quiet_7 : decode cX4_quiet 7 = .ok (.iconst (-1), 1) := by decide +kernel
theorem dX4_quiet_8 : decode cX4_quiet 8 = .ok (.ireturn, 1) := by decide +kernel
theorem dX4_quiet_9 : decode cX4_quiet 9 = .ok (.iload_n 2, 1) := by decide +kernel
theorem dX4_quiet_10 : decode cX4_quiet 10 = .ok (.tableswitch 53 0 2 #[26, 35, 44], 26) := by decide +kernel
theorem dX4_quiet_36 : decode cX4_quiet 36 = .ok (.aload_n 0, 1) := by decide +kernel
theorem dX4_quiet_37 : decode cX4_quiet 37 = .ok (.getfield 12, 3) := by decide +kernel
theorem dX4_quiet_40 : decode cX4_quiet 40 = .ok (.iload_n 1, 1) := by decide +kernel
theorem dX4_quiet_41 : decode cX4_quiet 41 = .ok (.invokevirtual 221, 3) := by decide +kernel
theorem dX4_quiet_44 : decode cX4_quiet 44 = .ok (.ireturn, 1) := by decide +kernel
theorem dX4_quiet_45 : decode cX4_quiet 45 = .ok (.aload_n 0, 1) := by decide +kernel
theorem dX4_quiet_46 : decode cX4_quiet 46 = .ok (.getfield 12, 3) := by decide +kernel
theorem dX4_quiet_49 : decode cX4_quiet 49 = .ok (.iload_n 1, 1) := by decide +kernel
theorem dX4_quiet_50 : decode cX4_quiet 50 = .ok (.invokevirtual 224, 3) := by decide +kernel
theorem dX4_quiet_53 : decode cX4_quiet 53 = .ok (.ireturn, 1) := by decide +kernel
theorem dX4_quiet_54 : decode cX4_quiet 54 = .ok (.aload_n 0, 1) := by decide +kernel
theorem dX4_quiet_55 : decode cX4_quiet 55 = .ok (.getfield 12, 3) := by decide +kernel
theorem dX4_quiet_58 : decode cX4_quiet 58 = .ok (.iload_n 1, 1) := by decide +kernel
theorem dX4_quiet_59 : decode cX4_quiet 59 = .ok (.invokevirtual 227, 3) := by decide +kernel
theorem dX4_quiet_62 : decode cX4_quiet 62 = .ok (.ireturn, 1) := by decide +kernel
theorem dX4_quiet_63 : decode cX4_quiet 63 = .ok (.iconst (-1), 1) := by decide +kernel
theorem dX4_quiet_64 : decode cX4_quiet 64 = .ok (.ireturn, 1) := by decide +kernel
theorem dX4_purseThen_0 : decode cX4_purseThen 0 = .ok (.aload_n 0, 1) := by decide +kernel
theorem dX4_purseThen_1 : decode cX4_purseThen 1 = .ok (.iload_n 1, 1) := by decide +kernel
theorem dX4_purseThen_2 : decode cX4_purseThen 2 = .ok (.invokevirtual 53, 3) := by decide +kernel
theorem dX4_purseThen_5 : decode cX4_purseThen 5 = .ok (.ifCond .ne 5, 3) := by decide +kernel
theorem dX4_purseThen_8 : decode cX4_purseThen 8 = .ok (.iconst (-1), 1) := by decide +kernel
theorem dX4_purseThen_9 : decode cX4_purseThen 9 = .ok (.ireturn, 1) := by decide +kernel
theorem dX4_purseThen_10 : decode cX4_purseThen 10 = .ok (.aload_n 0, 1) := by decide +kernel
theorem dX4_purseThen_11 : decode cX4_purseThen 11 = .ok (.getfield 16, 3) := by decide +kernel
theorem dX4_purseThen_14 : decode cX4_purseThen 14 = .ok (.aload_n 0, 1) := by decide +kernel
theorem dX4_purseThen_15 : decode cX4_purseThen 15 = .ok (.getfield 12, 3) := by decide +kernel
theorem dX4_purseThen_18 : decode cX4_purseThen 18 = .ok (.invokevirtual 129, 3) := by decide +kernel
theorem dX4_purseThen_21 : decode cX4_purseThen 21 = .ok (.aload_n 0, 1) := by decide +kernel
theorem dX4_purseThen_22 : decode cX4_purseThen 22 = .ok (.getfield 16, 3) := by decide +kernel
theorem dX4_purseThen_25 : decode cX4_purseThen 25 = .ok (.invokevirtual 90, 3) := by decide +kernel
theorem dX4_purseThen_28 : decode cX4_purseThen 28 = .ok (.aload_n 0, 1) := by decide +kernel
theorem dX4_purseThen_29 : decode cX4_purseThen 29 = .ok (.getfield 16, 3) := by decide +kernel
theorem dX4_purseThen_32 : decode cX4_purseThen 32 = .ok (.getfield 50, 3) := by decide +kernel
theorem dX4_purseThen_35 : decode cX4_purseThen 35 = .ok (.iload_n 1, 1) := by decide +kernel
theorem dX4_purseThen_36 : decode cX4_purseThen 36 = .ok (.iaload, 1) := by decide +kernel
theorem dX4_purseThen_37 : decode cX4_purseThen 37 = .ok (.ireturn, 1) := by decide +kernel
theorem dX4_failPlan_0 : decode cX4_failPlan 0 = .ok (.aload_n 0, 1) := by decide +kernel
theorem dX4_failPlan_1 : decode cX4_failPlan 1 = .ok (.getfield 33, 3) := by decide +kernel
theorem dX4_failPlan_4 : decode cX4_failPlan 4 = .ok (.iconst 0, 1) := by decide +kernel
theorem dX4_failPlan_5 : decode cX4_failPlan 5 = .ok (.iload_n 1, 1) := by decide +kernel
theorem dX4_failPlan_6 : decode cX4_failPlan 6 = .ok (.iastore, 1) := by decide +kernel
theorem dX4_failPlan_7 : decode cX4_failPlan 7 = .ok (.aload_n 0, 1) := by decide +kernel
theorem dX4_failPlan_8 : decode cX4_failPlan 8 = .ok (.getfield 33, 3) := by decide +kernel
theorem dX4_failPlan_11 : decode cX4_failPlan 11 = .ok (.iconst 1, 1) := by decide +kernel
theorem dX4_failPlan_12 : decode cX4_failPlan 12 = .ok (.iload_n 2, 1) := by decide +kernel
theorem dX4_failPlan_13 : decode cX4_failPlan 13 = .ok (.iastore, 1) := by decide +kernel
theorem dX4_failPlan_14 : decode cX4_failPlan 14 = .ok (.aload_n 0, 1) := by decide +kernel
theorem dX4_failPlan_15 : decode cX4_failPlan 15 = .ok (.getfield 33, 3) := by decide +kernel
theorem dX4_failPlan_18 : decode cX4_failPlan 18 = .ok (.iconst 2, 1) := by decide +kernel
theorem dX4_failPlan_19 : decode cX4_failPlan 19 = .ok (.iload_n 3, 1) := by decide +kernel
theorem dX4_failPlan_20 : decode cX4_failPlan 20 = .ok (.iastore, 1) := by decide +kernel
theorem dX4_failPlan_21 : decode cX4_failPlan 21 = .ok (.aload_n 0, 1) := by decide +kernel
theorem dX4_failPlan_22 : decode cX4_failPlan 22 = .ok (.getfield 33, 3) := by decide +kernel
theorem dX4_failPlan_25 : decode cX4_failPlan 25 = .ok (.iconst 3, 1) := by decide +kernel
theorem dX4_failPlan_26 : decode cX4_failPlan 26 = .ok (.iload 4, 2) := by decide +kernel
theorem dX4_failPlan_28 : decode cX4_failPlan 28 = .ok (.iastore, 1) := by decide +kernel
theorem dX4_failPlan_29 : decode cX4_failPlan 29 = .ok (.aload_n 0, 1) := by decide +kernel
theorem dX4_failPlan_30 : decode cX4_failPlan 30 = .ok (.getfield 33, 3) := by decide +kernel
theorem dX4_failPlan_33 : decode cX4_failPlan 33 = .ok (.iconst 4, 1) := by decide +kernel
theorem dX4_failPlan_34 : decode cX4_failPlan 34 = .ok (.iload 5, 2) := by decide +kernel
theorem dX4_failPlan_36 : decode cX4_failPlan 36 = .ok (.iastore, 1) := by decide +kernel
theorem dX4_failPlan_37 : decode cX4_failPlan 37 = .ok (.sipush (-1000), 3) := by decide +kernel
theorem dX4_failPlan_40 : decode cX4_failPlan 40 = .ok (.iload_n 2, 1) := by decide +kernel
theorem dX4_failPlan_41 : decode cX4_failPlan 41 = .ok (.isub, 1) := by decide +kernel
theorem dX4_failPlan_42 : decode cX4_failPlan 42 = .ok (.ireturn, 1) := by decide +kernel
theorem dX4_isPerson_0 : decode cX4_isPerson 0 = .ok (.iload_n 1, 1) := by decide +kernel
theorem dX4_isPerson_1 : decode cX4_isPerson 1 = .ok (.iconst 0, 1) := by decide +kernel
theorem dX4_isPerson_2 : decode cX4_isPerson 2 = .ok (.aload_n 0, 1) := by decide +kernel
theorem dX4_isPerson_3 : decode cX4_isPerson 3 = .ok (.getfield 12, 3) := by decide +kernel
theorem dX4_isPerson_6 : decode cX4_isPerson 6 = .ok (.getfield 42, 3) := by decide +kernel
theorem dX4_isPerson_9 : decode cX4_isPerson 9 = .ok (.iconst 1, 1) := by decide +kernel
theorem dX4_isPerson_10 : decode cX4_isPerson 10 = .ok (.isub, 1) := by decide +kernel
theorem dX4_isPerson_11 : decode cX4_isPerson 11 = .ok (.invokestatic 38, 3) := by decide +kernel
theorem dX4_isPerson_14 : decode cX4_isPerson 14 = .ok (.ireturn, 1) := by decide +kernel
theorem dX4_isStreet_0 : decode cX4_isStreet 0 = .ok (.iload_n 0, 1) := by decide +kernel
theorem dX4_isStreet_1 : decode cX4_isStreet 1 = .ok (.iconst 0, 1) := by decide +kernel
theorem dX4_isStreet_2 : decode cX4_isStreet 2 = .ok (.iconst 3, 1) := by decide +kernel
theorem dX4_isStreet_3 : decode cX4_isStreet 3 = .ok (.invokestatic 38, 3) := by decide +kernel
theorem dX4_isStreet_6 : decode cX4_isStreet 6 = .ok (.ireturn, 1) := by decide +kernel
theorem dX4_isSlot_0 : decode cX4_isSlot 0 = .ok (.iload_n 0, 1) := by decide +kernel
theorem dX4_isSlot_1 : decode cX4_isSlot 1 = .ok (.invokestatic 209, 3) := by decide +kernel
theorem dX4_isSlot_4 : decode cX4_isSlot 4 = .ok (.ifCond .eq 17, 3) := by decide +kernel
theorem dX4_isSlot_7 : decode cX4_isSlot 7 = .ok (.iload_n 1, 1) := by decide +kernel
theorem dX4_isSlot_8 : decode cX4_isSlot 8 = .ok (.iconst 0, 1) := by decide +kernel
theorem dX4_isSlot_9 : decode cX4_isSlot 9 = .ok (.bipush 23, 2) := by decide +kernel
theorem dX4_isSlot_11 : decode cX4_isSlot 11 = .ok (.invokestatic 38, 3) := by decide +kernel
theorem dX4_isSlot_14 : decode cX4_isSlot 14 = .ok (.ifCond .eq 7, 3) := by decide +kernel
theorem dX4_isSlot_17 : decode cX4_isSlot 17 = .ok (.iconst 1, 1) := by decide +kernel
theorem dX4_isSlot_18 : decode cX4_isSlot 18 = .ok (.goto 4, 3) := by decide +kernel
theorem dX4_isSlot_21 : decode cX4_isSlot 21 = .ok (.iconst 0, 1) := by decide +kernel
theorem dX4_isSlot_22 : decode cX4_isSlot 22 = .ok (.ireturn, 1) := by decide +kernel
theorem dX4_isSide_0 : decode cX4_isSide 0 = .ok (.iload_n 0, 1) := by decide +kernel
theorem dX4_isSide_1 : decode cX4_isSide 1 = .ok (.ifCond .eq 8, 3) := by decide +kernel
theorem dX4_isSide_4 : decode cX4_isSide 4 = .ok (.iload_n 0, 1) := by decide +kernel
theorem dX4_isSide_5 : decode cX4_isSide 5 = .ok (.iconst 1, 1) := by decide +kernel
theorem dX4_isSide_6 : decode cX4_isSide 6 = .ok (.if_icmp .ne 7, 3) := by decide +kernel
theorem dX4_isSide_9 : decode cX4_isSide 9 = .ok (.iconst 1, 1) := by decide +kernel
theorem dX4_isSide_10 : decode cX4_isSide 10 = .ok (.goto 4, 3) := by decide +kernel
theorem dX4_isSide_13 : decode cX4_isSide 13 = .ok (.iconst 0, 1) := by decide +kernel
theorem dX4_isSide_14 : decode cX4_isSide 14 = .ok (.ireturn, 1) := by decide +kernel
theorem dX4_isWithin_0 : decode cX4_isWithin 0 = .ok (.iload_n 0, 1) := by decide +kernel
theorem dX4_isWithin_1 : decode cX4_isWithin 1 = .ok (.iload_n 1, 1) := by decide +kernel
theorem dX4_isWithin_2 : decode cX4_isWithin 2 = .ok (.if_icmp .lt 12, 3) := by decide +kernel
theorem dX4_isWithin_5 : decode cX4_isWithin 5 = .ok (.iload_n 0, 1) := by decide +kernel
theorem dX4_isWithin_6 : decode cX4_isWithin 6 = .ok (.iload_n 2, 1) := by decide +kernel
theorem dX4_isWithin_7 : decode cX4_isWithin 7 = .ok (.if_icmp .gt 7, 3) := by decide +kernel
theorem dX4_isWithin_10 : decode cX4_isWithin 10 = .ok (.iconst 1, 1) := by decide +kernel
theorem dX4_isWithin_11 : decode cX4_isWithin 11 = .ok (.goto 4, 3) := by decide +kernel
theorem dX4_isWithin_14 : decode cX4_isWithin 14 = .ok (.iconst 0, 1) := by decide +kernel
theorem dX4_isWithin_15 : decode cX4_isWithin 15 = .ok (.ireturn, 1) := by decide +kernel
theorem dX4_slotAt_0 : decode cX4_slotAt 0 = .ok (.iload_n 0, 1) := by decide +kernel
theorem dX4_slotAt_1 : decode cX4_slotAt 1 = .ok (.bipush 24, 2) := by decide +kernel
theorem dX4_slotAt_3 : decode cX4_slotAt 3 = .ok (.imul, 1) := by decide +kernel
theorem dX4_slotAt_4 : decode cX4_slotAt 4 = .ok (.iload_n 1, 1) := by decide +kernel
theorem dX4_slotAt_5 : decode cX4_slotAt 5 = .ok (.iadd, 1) := by decide +kernel
theorem dX4_slotAt_6 : decode cX4_slotAt 6 = .ok (.ireturn, 1) := by decide +kernel
theorem dX4_otherSide_0 : decode cX4_otherSide 0 = .ok (.iload_n 0, 1) := by decide +kernel
theorem dX4_otherSide_1 : decode cX4_otherSide 1 = .ok (.ifCond .ne 7, 3) := by decide +kernel
theorem dX4_otherSide_4 : decode cX4_otherSide 4 = .ok (.iconst 1, 1) := by decide +kernel
theorem dX4_otherSide_5 : decode cX4_otherSide 5 = .ok (.goto 4, 3) := by decide +kernel
theorem dX4_otherSide_8 : decode cX4_otherSide 8 = .ok (.iconst 0, 1) := by decide +kernel
theorem dX4_otherSide_9 : decode cX4_otherSide 9 = .ok (.ireturn, 1) := by decide +kernel
theorem dX5_init_0 : decode cX5_init 0 = .ok (.aload_n 0, 1) := by decide +kernel
theorem dX5_init_1 : decode cX5_init 1 = .ok (.invokespecial 1, 3) := by decide +kernel
theorem dX5_init_4 : decode cX5_init 4 = .ok (.aload_n 0, 1) := by decide +kernel
theorem dX5_init_5 : decode cX5_init 5 = .ok (.sipush 1724, 3) := by decide +kernel
theorem dX5_init_8 : decode cX5_init 8 = .ok (.newarray .int, 2) := by decide +kernel
theorem dX5_init_10 : decode cX5_init 10 = .ok (.putfield 7, 3) := by decide +kernel
theorem dX5_init_13 : decode cX5_init 13 = .ok (.aload_n 0, 1) := by decide +kernel
theorem dX5_init_14 : decode cX5_init 14 = .ok (.sipush 8620, 3) := by decide +kernel
theorem dX5_init_17 : decode cX5_init 17 = .ok (.newarray .int, 2) := by decide +kernel
theorem dX5_init_19 : decode cX5_init 19 = .ok (.putfield 13, 3) := by decide +kernel
theorem dX5_init_22 : decode cX5_init 22 = .ok (.aload_n 0, 1) := by decide +kernel
theorem dX5_init_23 : decode cX5_init 23 = .ok (.sipush 1724, 3) := by decide +kernel
theorem dX5_init_26 : decode cX5_init 26 = .ok (.newarray .int, 2) := by decide +kernel
theorem dX5_init_28 : decode cX5_init 28 = .ok (.putfield 16, 3) := by decide +kernel
theorem dX5_init_31 : decode cX5_init 31 = .ok (.aload_n 0, 1) := by decide +kernel
theorem dX5_init_32 : decode cX5_init 32 = .ok (.bipush 100, 2) := by decide +kernel
theorem dX5_init_34 : decode cX5_init 34 = .ok (.newarray .int, 2) := by decide +kernel
theorem dX5_init_36 : decode cX5_init 36 = .ok (.putfield 19, 3) := by decide +kernel
theorem dX5_init_39 : decode cX5_init 39 = .ok (.aload_n 0, 1) := by decide +kernel
theorem dX5_init_40 : decode cX5_init 40 = .ok (.iconst 5, 1) := by decide +kernel
theorem dX5_init_41 : decode cX5_init 41 = .ok (.newarray .int, 2) := by decide +kernel
theorem dX5_init_43 : decode cX5_init 43 = .ok (.putfield 22, 3) := by decide +kernel
theorem dX5_init_46 : decode cX5_init 46 = .ok (.aload_n 0, 1) := by decide +kernel
theorem dX5_init_47 : decode cX5_init 47 = .ok (.iconst 5, 1) := by decide +kernel
theorem dX5_init_48 : decode cX5_init 48 = .ok (.newarray .int, 2) := by decide +kernel
theorem dX5_init_50 : decode cX5_init 50 = .ok (.putfield 25, 3) := by decide +kernel
theorem dX5_init_53 : decode cX5_init 53 = .ok (.aload_n 0, 1) := by decide +kernel
theorem dX5_init_54 : decode cX5_init 54 = .ok (.sipush 140, 3) := by decide +kernel
theorem dX5_init_57 : decode cX5_init 57 = .ok (.newarray .int, 2) := by decide +kernel
theorem dX5_init_59 : decode cX5_init 59 = .ok (.putfield 28, 3) := by decide +kernel
theorem dX5_init_62 : decode cX5_init 62 = .ok (.aload_n 0, 1) := by decide +kernel
theorem dX5_init_63 : decode cX5_init 63 = .ok (.getfield 7, 3) := by decide +kernel
theorem dX5_init_66 : decode cX5_init 66 = .ok (.iconst 2, 1) := by decide +kernel
theorem dX5_init_67 : decode cX5_init 67 = .ok (.bipush 20, 2) := by decide +kernel
theorem dX5_init_69 : decode cX5_init 69 = .ok (.iastore, 1) := by decide +kernel
theorem dX5_init_70 : decode cX5_init 70 = .ok (.return_, 1) := by decide +kernel
theorem dX5_in_0 : decode cX5_in 0 = .ok (.iload_n 0, 1) := by decide +kernel
theorem dX5_in_1 : decode cX5_in 1 = .ok (.iload_n 1, 1) := by decide +kernel
theorem dX5_in_2 : decode cX5_in 2 = .ok (.if_icmp .lt 12, 3) := by decide +kernel
theorem dX5_in_5 : decode cX5_in 5 = .ok (.iload_n 0, 1) := by decide +kernel
theorem dX5_in_6 : decode cX5_in 6 = .ok (.iload_n 2, 1) := by decide +kernel
theorem dX5_in_7 : decode cX5_in 7 = .ok (.if_icmp .gt 7, 3) := by decide +kernel
theorem dX5_in_10 : decode cX5_in 10 = .ok (.iconst 1, 1) := by decide +kernel
theorem dX5_in_11 : decode cX5_in 11 = .ok (.goto 4, 3) := by decide +kernel
theorem dX5_in_14 : decode cX5_in 14 = .ok (.iconst 0, 1) := by decide +kernel
theorem dX5_in_15 : decode cX5_in 15 = .ok (.ireturn, 1) := by decide +kernel
theorem dX5_isPerson_0 : decode cX5_isPerson 0 = .ok (.iload_n 1, 1) := by decide +kernel
theorem dX5_isPerson_1 : decode cX5_isPerson 1 = .ok (.iconst 0, 1) := by decide +kernel
theorem dX5_isPerson_2 : decode cX5_isPerson 2 = .ok (.aload_n 0, 1) := by decide +kernel
theorem dX5_isPerson_3 : decode cX5_isPerson 3 = .ok (.getfield 7, 3) := by decide +kernel
theorem dX5_isPerson_6 : decode cX5_isPerson 6 = .ok (.iconst 1, 1) := by decide +kernel
theorem dX5_isPerson_7 : decode cX5_isPerson 7 = .ok (.iaload, 1) := by decide +kernel
theorem dX5_isPerson_8 : decode cX5_isPerson 8 = .ok (.iconst 1, 1) := by decide +kernel
theorem dX5_isPerson_9 : decode cX5_isPerson 9 = .ok (.isub, 1) := by decide +kernel
theorem dX5_isPerson_10 : decode cX5_isPerson 10 = .ok (.invokestatic 31, 3) := by decide +kernel
theorem dX5_isPerson_13 : decode cX5_isPerson 13 = .ok (.ireturn, 1) := by decide +kernel
theorem dX5_isSlot_0 : decode cX5_isSlot 0 = .ok (.iload_n 0, 1) := by decide +kernel
theorem dX5_isSlot_1 : decode cX5_isSlot 1 = .ok (.iconst 0, 1) := by decide +kernel
theorem dX5_isSlot_2 : decode cX5_isSlot 2 = .ok (.iconst 3, 1) := by decide +kernel
theorem dX5_isSlot_3 : decode cX5_isSlot 3 = .ok (.invokestatic 31, 3) := by decide +kernel
theorem dX5_isSlot_6 : decode cX5_isSlot 6 = .ok (.ifCond .eq 17, 3) := by decide +kernel
theorem dX5_isSlot_9 : decode cX5_isSlot 9 = .ok (.iload_n 1, 1) := by decide +kernel
theorem dX5_isSlot_10 : decode cX5_isSlot 10 = .ok (.iconst 0, 1) := by decide +kernel
theorem dX5_isSlot_11 : decode cX5_isSlot 11 = .ok (.bipush 23, 2) := by decide +kernel
theorem dX5_isSlot_13 : decode cX5_isSlot 13 = .ok (.invokestatic 31, 3) := by decide +kernel
theorem dX5_isSlot_16 : decode cX5_isSlot 16 = .ok (.ifCond .eq 7, 3) := by decide +kernel
theorem dX5_isSlot_19 : decode cX5_isSlot 19 = .ok (.iconst 1, 1) := by decide +kernel
theorem dX5_isSlot_20 : decode cX5_isSlot 20 = .ok (.goto 4, 3) := by decide +kernel
theorem dX5_isSlot_23 : decode cX5_isSlot 23 = .ok (.iconst 0, 1) := by decide +kernel
theorem dX5_isSlot_24 : decode cX5_isSlot 24 = .ok (.ireturn, 1) := by decide +kernel
theorem dX5_of_0 : decode cX5_of 0 = .ok (.aload_n 0, 1) := by decide +kernel
theorem dX5_of_1 : decode cX5_of 1 = .ok (.getfield 7, 3) := by decide +kernel
theorem dX5_of_4 : decode cX5_of 4 = .ok (.bipush 8, 2) := by decide +kernel
theorem dX5_of_6 : decode cX5_of 6 = .ok (.bipush 7, 2) := by decide +kernel
theorem dX5_of_8 : decode cX5_of 8 = .ok (.iload_n 1, 1) := by decide +kernel
theorem dX5_of_9 : decode cX5_of 9 = .ok (.imul, 1) := by decide +kernel
theorem dX5_of_10 : decode cX5_of 10 = .ok (.iadd, 1) := by decide +kernel
theorem dX5_of_11 : decode cX5_of 11 = .ok (.iload_n 2, 1) := by decide +kernel
theorem dX5_of_12 : decode cX5_of 12 = .ok (.iadd, 1) := by decide +kernel
theorem dX5_of_13 : decode cX5_of 13 = .ok (.iaload, 1) := by decide +kernel
theorem dX5_of_14 : decode cX5_of 14 = .ok (.ireturn, 1) := by decide +kernel
theorem dX5_adds_0 : decode cX5_adds 0 = .ok (.aload_n 0, 1) := by decide +kernel
theorem dX5_adds_1 : decode cX5_adds 1 = .ok (.getfield 7, 3) := by decide +kernel
theorem dX5_adds_4 : decode cX5_adds 4 = .ok (.bipush 8, 2) := by decide +kernel
theorem dX5_adds_6 : decode cX5_adds 6 = .ok (.bipush 7, 2) := by decide +kernel
theorem dX5_adds_8 : decode cX5_adds 8 = .ok (.iload_n 1, 1) := by decide +kernel
theorem dX5_adds_9 : decode cX5_adds 9 = .ok (.imul, 1) := by decide +kernel
theorem dX5_adds_10 : decode cX5_adds 10 = .ok (.iadd, 1) := by decide +kernel
theorem dX5_adds_11 : decode cX5_adds 11 = .ok (.iload_n 2, 1) := by decide +kernel
theorem dX5_adds_12 : decode cX5_adds 12 = .ok (.iadd, 1) := by decide +kernel
theorem dX5_adds_13 : decode cX5_adds 13 = .ok (.dup2, 1) := by decide +kernel
theorem dX5_adds_14 : decode cX5_adds 14 = .ok (.iaload, 1) := by decide +kernel
theorem dX5_adds_15 : decode cX5_adds 15 = .ok (.iload_n 3, 1) := by decide +kernel
theorem dX5_adds_16 : decode cX5_adds 16 = .ok (.iadd, 1) := by decide +kernel
theorem dX5_adds_17 : decode cX5_adds 17 = .ok (.iastore, 1) := by decide +kernel
theorem dX5_adds_18 : decode cX5_adds 18 = .ok (.return_, 1) := by decide +kernel
theorem dX5_slotOf_0 : decode cX5_slotOf 0 = .ok (.aload_n 0, 1) := by decide +kernel
theorem dX5_slotOf_1 : decode cX5_slotOf 1 = .ok (.getfield 7, 3) := by decide +kernel
theorem dX5_slotOf_4 : decode cX5_slotOf 4 = .ok (.bipush 92, 2) := by decide +kernel
theorem dX5_slotOf_6 : decode cX5_slotOf 6 = .ok (.iconst 5, 1) := by decide +kernel
theorem dX5_slotOf_7 : decode cX5_slotOf 7 = .ok (.iload_n 1, 1) := by decide +kernel
theorem dX5_slotOf_8 : decode cX5_slotOf 8 = .ok (.imul, 1) := by decide +kernel
theorem dX5_slotOf_9 : decode cX5_slotOf 9 = .ok (.iadd, 1) := by decide +kernel
theorem dX5_slotOf_10 : decode cX5_slotOf 10 = .ok (.iload_n 2, 1) := by decide +kernel
theorem dX5_slotOf_11 : decode cX5_slotOf 11 = .ok (.iadd, 1) := by decide +kernel
theorem dX5_slotOf_12 : decode cX5_slotOf 12 = .ok (.iaload, 1) := by decide +kernel
theorem dX5_slotOf_13 : decode cX5_slotOf 13 = .ok (.ireturn, 1) := by decide +kernel
theorem dX5_puts_0 : decode cX5_puts 0 = .ok (.aload_n 0, 1) := by decide +kernel
theorem dX5_puts_1 : decode cX5_puts 1 = .ok (.getfield 7, 3) := by decide +kernel
theorem dX5_puts_4 : decode cX5_puts 4 = .ok (.bipush 92, 2) := by decide +kernel
theorem dX5_puts_6 : decode cX5_puts 6 = .ok (.iconst 5, 1) := by decide +kernel
theorem dX5_puts_7 : decode cX5_puts 7 = .ok (.iload_n 1, 1) := by decide +kernel
theorem dX5_puts_8 : decode cX5_puts 8 = .ok (.imul, 1) := by decide +kernel
theorem dX5_puts_9 : decode cX5_puts 9 = .ok (.iadd, 1) := by decide +kernel
theorem dX5_puts_10 : decode cX5_puts 10 = .ok (.iload_n 2, 1) := by decide +kernel
theorem dX5_puts_11 : decode cX5_puts 11 = .ok (.iadd, 1) := by decide +kernel
theorem dX5_puts_12 : decode cX5_puts 12 = .ok (.iload_n 3, 1) := by decide +kernel
theorem dX5_puts_13 : decode cX5_puts 13 = .ok (.iastore, 1) := by decide +kernel
theorem dX5_puts_14 : decode cX5_puts 14 = .ok (.return_, 1) := by decide +kernel
theorem dX5_bidAt_0 : decode cX5_bidAt 0 = .ok (.aload_n 0, 1) := by decide +kernel
theorem dX5_bidAt_1 : decode cX5_bidAt 1 = .ok (.getfield 7, 3) := by decide +kernel
theorem dX5_bidAt_4 : decode cX5_bidAt 4 = .ok (.sipush 572, 3) := by decide +kernel
theorem dX5_bidAt_7 : decode cX5_bidAt 7 = .ok (.bipush 96, 2) := by decide +kernel
theorem dX5_bidAt_9 : decode cX5_bidAt 9 = .ok (.iload_n 1, 1) := by decide +kernel
theorem dX5_bidAt_10 : decode cX5_bidAt 10 = .ok (.imul, 1) := by decide +kernel
theorem dX5_bidAt_11 : decode cX5_bidAt 11 = .ok (.iadd, 1) := by decide +kernel
theorem dX5_bidAt_12 : decode cX5_bidAt 12 = .ok (.iload_n 2, 1) := by decide +kernel
theorem dX5_bidAt_13 : decode cX5_bidAt 13 = .ok (.iadd, 1) := by decide +kernel
theorem dX5_bidAt_14 : decode cX5_bidAt 14 = .ok (.iaload, 1) := by decide +kernel
theorem dX5_bidAt_15 : decode cX5_bidAt 15 = .ok (.ireturn, 1) := by decide +kernel
theorem dX5_amount_0 : decode cX5_amount 0 = .ok (.aload_n 0, 1) := by decide +kernel
theorem dX5_amount_1 : decode cX5_amount 1 = .ok (.iload_n 1, 1) := by decide +kernel
theorem dX5_amount_2 : decode cX5_amount 2 = .ok (.iload_n 2, 1) := by decide +kernel
theorem dX5_amount_3 : decode cX5_amount 3 = .ok (.invokevirtual 35, 3) := by decide +kernel
theorem dX5_amount_6 : decode cX5_amount 6 = .ok (.istore 4, 2) := by decide +kernel
theorem dX5_amount_8 : decode cX5_amount 8 = .ok (.iload 4, 2) := by decide +kernel
theorem dX5_amount_10 : decode cX5_amount 10 = .ok (.ifCond .eq 20, 3) := by decide +kernel
theorem dX5_amount_13 : decode cX5_amount 13 = .ok (.iload 4, 2) := by decide +kernel
theorem dX5_amount_15 : decode cX5_amount 15 = .ok (.sipush 1000, 3) := by decide +kernel
theorem dX5_amount_18 : decode cX5_amount 18 = .ok (.if_icmp .le 7, 3) := by decide +kernel
theorem dX5_amount_21 : decode cX5_amount 21 = .ok (.iconst 1, 1) := by decide +kernel
theorem dX5_amount_22 : decode cX5_amount 22 = .ok (.goto 4, 3) := by decide +kernel
theorem dX5_amount_25 : decode cX5_amount 25 = .ok (.iconst 0, 1) := by decide +kernel
theorem dX5_amount_26 : decode cX5_amount 26 = .ok (.iload_n 3, 1) := by decide +kernel
theorem dX5_amount_27 : decode cX5_amount 27 = .ok (.if_icmp .eq 5, 3) := by decide +kernel
theorem dX5_amount_30 : decode cX5_amount 30 = .ok (.iconst 0, 1) := by decide +kernel
theorem dX5_amount_31 : decode cX5_amount 31 = .ok (.ireturn, 1) := by decide +kernel
theorem dX5_amount_32 : decode cX5_amount 32 = .ok (.iload 4, 2) := by decide +kernel
theorem dX5_amount_34 : decode cX5_amount 34 = .ok (.sipush 1000, 3) := by decide +kernel
theorem dX5_amount_37 : decode cX5_amount 37 = .ok (.iload_n 3, 1) := by decide +kernel
theorem dX5_amount_38 : decode cX5_amount 38 = .ok (.imul, 1) := by decide +kernel
theorem dX5_amount_39 : decode cX5_amount 39 = .ok (.isub, 1) := by decide +kernel
theorem dX5_amount_40 : decode cX5_amount 40 = .ok (.ireturn, 1) := by decide +kernel
theorem dX5_sumOf_0 : decode cX5_sumOf 0 = .ok (.iconst 0, 1) := by decide +kernel
theorem dX5_sumOf_1 : decode cX5_sumOf 1 = .ok (.istore_n 3, 1) := by decide +kernel
theorem dX5_sumOf_2 : decode cX5_sumOf 2 = .ok (.iconst 0, 1) := by decide +kernel
theorem dX5_sumOf_3 : decode cX5_sumOf 3 = .ok (.istore 4, 2) := by decide +kernel
theorem dX5_sumOf_5 : decode cX5_sumOf 5 = .ok (.iload 4, 2) := by decide +kernel
theorem dX5_sumOf_7 : decode cX5_sumOf 7 = .ok (.aload_n 0, 1) := by decide +kernel
theorem dX5_sumOf_8 : decode cX5_sumOf 8 = .ok (.getfield 7, 3) := by decide +kernel
theorem dX5_sumOf_11 : decode cX5_sumOf 11 = .ok (.iconst 1, 1) := by decide +kernel
theorem dX5_sumOf_12 : decode cX5_sumOf 12 = .ok (.iaload, 1) := by decide +kernel
theorem dX5_sumOf_13 : decode cX5_sumOf 13 = .ok (.if_icmp .ge 20, 3) := by decide +kernel
theorem dX5_sumOf_16 : decode cX5_sumOf 16 = .ok (.iload_n 3, 1) := by decide +kernel
theorem dX5_sumOf_17 : decode cX5_sumOf 17 = .ok (.aload_n 0, 1) := by decide +kernel
theorem dX5_sumOf_18 : decode cX5_sumOf 18 = .ok (.iload 4, 2) := by decide +kernel
theorem dX5_sumOf_20 : decode cX5_sumOf 20 = .ok (.iload_n 1, 1) := by decide +kernel
theorem dX5_sumOf_21 : decode cX5_sumOf 21 = .ok (.iload_n 2, 1) := by decide +kernel
theorem dX5_sumOf_22 : decode cX5_sumOf 22 = .ok (.invokevirtual 39, 3) := by decide +kernel
theorem dX5_sumOf_25 : decode cX5_sumOf 25 = .ok (.iadd, 1) := by decide +kernel
theorem dX5_sumOf_26 : decode cX5_sumOf 26 = .ok (.istore_n 3, 1) := by decide +kernel
theorem dX5_sumOf_27 : decode cX5_sumOf 27 = .ok (.iinc 4 1, 3) := by decide +kernel
theorem dX5_sumOf_30 : decode cX5_sumOf 30 = .ok (.goto (-25), 3) := by decide +kernel
theorem dX5_sumOf_33 : decode cX5_sumOf 33 = .ok (.iload_n 3, 1) := by decide +kernel
theorem dX5_sumOf_34 : decode cX5_sumOf 34 = .ok (.ireturn, 1) := by decide +kernel
theorem dX5_bidsFor_0 : decode cX5_bidsFor 0 = .ok (.iconst 0, 1) := by decide +kernel
theorem dX5_bidsFor_1 : decode cX5_bidsFor 1 = .ok (.istore_n 2, 1) := by decide +kernel
theorem dX5_bidsFor_2 : decode cX5_bidsFor 2 = .ok (.iconst 0, 1) := by decide +kernel
theorem dX5_bidsFor_3 : decode cX5_bidsFor 3 = .ok (.istore_n 3, 1) := by decide +kernel
theorem dX5_bidsFor_4 : decode cX5_bidsFor 4 = .ok (.iload_n 3, 1) := by decide +kernel
theorem dX5_bidsFor_5 : decode cX5_bidsFor 5 = .ok (.aload_n 0, 1) := by decide +kernel
theorem dX5_bidsFor_6 : decode cX5_bidsFor 6 = .ok (.getfield 7, 3) := by decide +kernel
theorem dX5_bidsFor_9 : decode cX5_bidsFor 9 = .ok (.iconst 1, 1) := by decide +kernel
theorem dX5_bidsFor_10 : decode cX5_bidsFor 10 = .ok (.iaload, 1) := by decide +kernel
theorem dX5_bidsFor_11 : decode cX5_bidsFor 11 = .ok (.if_icmp .ge 26, 3) := by decide +kernel
theorem dX5_bidsFor_14 : decode cX5_bidsFor 14 = .ok (.iload_n 2, 1) := by decide +kernel
theorem dX5_bidsFor_15 : decode cX5_bidsFor 15 = .ok (.aload_n 0, 1) := by decide +kernel
theorem dX5_bidsFor_16 : decode cX5_bidsFor 16 = .ok (.iload_n 3, 1) := by decide +kernel
theorem dX5_bidsFor_17 : decode cX5_bidsFor 17 = .ok (.iload_n 1, 1) := by decide +kernel
theorem dX5_bidsFor_18 : decode cX5_bidsFor 18 = .ok (.invokevirtual 35, 3) := by decide +kernel
theorem dX5_bidsFor_21 : decode cX5_bidsFor 21 = .ok (.ifCond .le 7, 3) := by decide +kernel
theorem dX5_bidsFor_24 : decode cX5_bidsFor 24 = .ok (.iconst 1, 1) := by decide +kernel
theorem dX5_bidsFor_25 : decode cX5_bidsFor 25 = .ok (.goto 4, 3) := by decide +kernel
theorem dX5_bidsFor_28 : decode cX5_bidsFor 28 = .ok (.iconst 0, 1) := by decide +kernel
theorem dX5_bidsFor_29 : decode cX5_bidsFor 29 = .ok (.iadd, 1) := by decide +kernel
theorem dX5_bidsFor_30 : decode cX5_bidsFor 30 = .ok (.istore_n 2, 1) := by decide +kernel
theorem dX5_bidsFor_31 : decode cX5_bidsFor 31 = .ok (.iinc 3 1, 3) := by decide +kernel
theorem dX5_bidsFor_34 : decode cX5_bidsFor 34 = .ok (.goto (-30), 3) := by decide +kernel
theorem dX5_bidsFor_37 : decode cX5_bidsFor 37 = .ok (.iload_n 2, 1) := by decide +kernel
theorem dX5_bidsFor_38 : decode cX5_bidsFor 38 = .ok (.ireturn, 1) := by decide +kernel
theorem dX5_bidsBy_0 : decode cX5_bidsBy 0 = .ok (.iconst 0, 1) := by decide +kernel
theorem dX5_bidsBy_1 : decode cX5_bidsBy 1 = .ok (.istore_n 2, 1) := by decide +kernel
theorem dX5_bidsBy_2 : decode cX5_bidsBy 2 = .ok (.iconst 0, 1) := by decide +kernel
theorem dX5_bidsBy_3 : decode cX5_bidsBy 3 = .ok (.istore_n 3, 1) := by decide +kernel
theorem dX5_bidsBy_4 : decode cX5_bidsBy 4 = .ok (.iload_n 3, 1) := by decide +kernel
theorem dX5_bidsBy_5 : decode cX5_bidsBy 5 = .ok (.bipush 96, 2) := by decide +kernel
theorem dX5_bidsBy_7 : decode cX5_bidsBy 7 = .ok (.if_icmp .ge 26, 3) := by decide +kernel
theorem dX5_bidsBy_10 : decode cX5_bidsBy 10 = .ok (.iload_n 2, 1) := by decide +kernel
theorem dX5_bidsBy_11 : decode cX5_bidsBy 11 = .ok (.aload_n 0, 1) := by decide +kernel
theorem dX5_bidsBy_12 : decode cX5_bidsBy 12 = .ok (.iload_n 1, 1) := by decide +kernel
theorem dX5_bidsBy_13 : decode cX5_bidsBy 13 = .ok (.iload_n 3, 1) := by decide +kernel
theorem dX5_bidsBy_14 : decode cX5_bidsBy 14 = .ok (.invokevirtual 35, 3) := by decide +kernel
theorem dX5_bidsBy_17 : decode cX5_bidsBy 17 = .ok (.ifCond .le 7, 3) := by decide +kernel
theorem dX5_bidsBy_20 : decode cX5_bidsBy 20 = .ok (.iconst 1, 1) := by decide +kernel
theorem dX5_bidsBy_21 : decode cX5_bidsBy 21 = .ok (.goto 4, 3) := by decide +kernel
theorem dX5_bidsBy_24 : decode cX5_bidsBy 24 = .ok (.iconst 0, 1) := by decide +kernel
theorem dX5_bidsBy_25 : decode cX5_bidsBy 25 = .ok (.iadd, 1) := by decide +kernel
theorem dX5_bidsBy_26 : decode cX5_bidsBy 26 = .ok (.istore_n 2, 1) := by decide +kernel
theorem dX5_bidsBy_27 : decode cX5_bidsBy 27 = .ok (.iinc 3 1, 3) := by decide +kernel
theorem dX5_bidsBy_30 : decode cX5_bidsBy 30 = .ok (.goto (-26), 3) := by decide +kernel
theorem dX5_bidsBy_33 : decode cX5_bidsBy 33 = .ok (.iload_n 2, 1) := by decide +kernel
theorem dX5_bidsBy_34 : decode cX5_bidsBy 34 = .ok (.ireturn, 1) := by decide +kernel
theorem dX5_free_0 : decode cX5_free 0 = .ok (.aload_n 0, 1) := by decide +kernel
theorem dX5_free_1 : decode cX5_free 1 = .ok (.iload_n 1, 1) := by decide +kernel
theorem dX5_free_2 : decode cX5_free 2 = .ok (.iconst 0, 1) := by decide +kernel
theorem dX5_free_3 : decode cX5_free 3 = .ok (.invokevirtual 43, 3) := by decide +kernel
theorem dX5_free_6 : decode cX5_free 6 = .ok (.istore_n 2, 1) := by decide +kernel
theorem dX5_free_7 : decode cX5_free 7 = .ok (.iconst 0, 1) := by decide +kernel
theorem dX5_free_8 : decode cX5_free 8 = .ok (.istore_n 3, 1) := by decide +kernel
theorem dX5_free_9 : decode cX5_free 9 = .ok (.iload_n 3, 1) := by decide +kernel
theorem dX5_free_10 : decode cX5_free 10 = .ok (.bipush 96, 2) := by decide +kernel
theorem dX5_free_12 : decode cX5_free 12 = .ok (.if_icmp .ge 27, 3) := by decide +kernel
theorem dX5_free_15 : decode cX5_free 15 = .ok (.iload_n 2, 1) := by decide +kernel
theorem dX5_free_16 : decode cX5_free 16 = .ok (.aload_n 0, 1) := by decide +kernel
theorem dX5_free_17 : decode cX5_free 17 = .ok (.iload_n 1, 1) := by decide +kernel
theorem dX5_free_18 : decode cX5_free 18 = .ok (.iload_n 3, 1) := by decide +kernel
theorem dX5_free_19 : decode cX5_free 19 = .ok (.iconst 0, 1) := by decide +kernel
theorem dX5_free_20 : decode cX5_free 20 = .ok (.invokevirtual 39, 3) := by decide +kernel
theorem dX5_free_23 : decode cX5_free 23 = .ok (.aload_n 0, 1) := by decide +kernel
theorem dX5_free_24 : decode cX5_free 24 = .ok (.iload_n 1, 1) := by decide +kernel
theorem dX5_free_25 : decode cX5_free 25 = .ok (.iload_n 3, 1) := by decide +kernel
theorem dX5_free_26 : decode cX5_free 26 = .ok (.iconst 1, 1) := by decide +kernel
theorem dX5_free_27 : decode cX5_free 27 = .ok (.invokevirtual 39, 3) := by decide +kernel
theorem dX5_free_30 : decode cX5_free 30 = .ok (.iadd, 1) := by decide +kernel
theorem dX5_free_31 : decode cX5_free 31 = .ok (.isub, 1) := by decide +kernel
theorem dX5_free_32 : decode cX5_free 32 = .ok (.istore_n 2, 1) := by decide +kernel
theorem dX5_free_33 : decode cX5_free 33 = .ok (.iinc 3 1, 3) := by decide +kernel
theorem dX5_free_36 : decode cX5_free 36 = .ok (.goto (-27), 3) := by decide +kernel
theorem dX5_free_39 : decode cX5_free 39 = .ok (.iload_n 2, 1) := by decide +kernel
theorem dX5_free_40 : decode cX5_free 40 = .ok (.ireturn, 1) := by decide +kernel
theorem dX5_noisy_0 : decode cX5_noisy 0 = .ok (.iconst 0, 1) := by decide +kernel
theorem dX5_noisy_1 : decode cX5_noisy 1 = .ok (.istore_n 1, 1) := by decide +kernel
theorem dX5_noisy_2 : decode cX5_noisy 2 = .ok (.iconst 0, 1) := by decide +kernel
theorem dX5_noisy_3 : decode cX5_noisy 3 = .ok (.istore_n 2, 1) := by decide +kernel
theorem dX5_noisy_4 : decode cX5_noisy 4 = .ok (.iload_n 2, 1) := by decide +kernel
theorem dX5_noisy_5 : decode cX5_noisy 5 = .ok (.bipush 96, 2) := by decide +kernel
theorem dX5_noisy_7 : decode cX5_noisy 7 = .ok (.if_icmp .ge 18, 3) := by decide +kernel
theorem dX5_noisy_10 : decode cX5_noisy 10 = .ok (.iload_n 1, 1) := by decide +kernel
theorem dX5_noisy_11 : decode cX5_noisy 11 = .ok (.aload_n 0, 1) := by decide +kernel
theorem dX5_noisy_12 : decode cX5_noisy 12 = .ok (.iload_n 2, 1) := by decide +kernel
theorem dX5_noisy_13 : decode cX5_noisy 13 = .ok (.iconst 0, 1) := by decide +kernel
theorem dX5_noisy_14 : decode cX5_noisy 14 = .ok (.invokevirtual 46, 3) := by decide +kernel
theorem dX5_noisy_17 : decode cX5_noisy 17 = .ok (.iadd, 1) := by decide +kernel
theorem dX5_noisy_18 : decode cX5_noisy 18 = .ok (.istore_n 1, 1) := by decide +kernel
theorem dX5_noisy_19 : decode cX5_noisy 19 = .ok (.iinc 2 1, 3) := by decide +kernel
theorem dX5_noisy_22 : decode cX5_noisy 22 = .ok (.goto (-18), 3) := by decide +kernel
theorem dX5_noisy_25 : decode cX5_noisy 25 = .ok (.iload_n 1, 1) := by decide +kernel
theorem dX5_noisy_26 : decode cX5_noisy 26 = .ok (.ireturn, 1) := by decide +kernel
theorem dX5_notes_0 : decode cX5_notes 0 = .ok (.aload_n 0, 1) := by decide +kernel
theorem dX5_notes_1 : decode cX5_notes 1 = .ok (.getfield 49, 3) := by decide +kernel
theorem dX5_notes_4 : decode cX5_notes 4 = .ok (.iconst 5, 1) := by decide +kernel
theorem dX5_notes_5 : decode cX5_notes 5 = .ok (.if_icmp .ne 41, 3) := by decide +kernel
theorem dX5_notes_8 : decode cX5_notes 8 = .ok (.sipush 1724, 3) := by decide +kernel
theorem dX5_notes_11 : decode cX5_notes 11 = .ok (.istore_n 1, 1) := by decide +kernel
theorem dX5_notes_12 : decode cX5_notes 12 = .ok (.iload_n 1, 1) := by decide +kernel
theorem dX5_notes_13 : decode cX5_notes 13 = .ok (.sipush 8620, 3) := by decide +kernel
theorem dX5_notes_16 : decode cX5_notes 16 = .ok (.if_icmp .ge 25, 3) := by decide +kernel
theorem dX5_notes_19 : decode cX5_notes 19 = .ok (.aload_n 0, 1) := by decide +kernel
theorem dX5_notes_20 : decode cX5_notes 20 = .ok (.getfield 13, 3) := by decide +kernel
theorem dX5_notes_23 : decode cX5_notes 23 = .ok (.iload_n 1, 1) := by decide +kernel
theorem dX5_notes_24 : decode cX5_notes 24 = .ok (.sipush 1724, 3) := by decide +kernel
theorem dX5_notes_27 : decode cX5_notes 27 = .ok (.isub, 1) := by decide +kernel
theorem dX5_notes_28 : decode cX5_notes 28 = .ok (.aload_n 0, 1) := by decide +kernel
theorem dX5_notes_29 : decode cX5_notes 29 = .ok (.getfield 13, 3) := by decide +kernel
theorem dX5_notes_32 : decode cX5_notes 32 = .ok (.iload_n 1, 1) := by decide +kernel
theorem dX5_notes_33 : decode cX5_notes 33 = .ok (.iaload, 1) := by decide +kernel
theorem dX5_notes_34 : decode cX5_notes 34 = .ok (.iastore, 1) := by decide +kernel
theorem dX5_notes_35 : decode cX5_notes 35 = .ok (.iinc 1 1, 3) := by decide +kernel
theorem dX5_notes_38 : decode cX5_notes 38 = .ok (.goto (-26), 3) := by decide +kernel
theorem dX5_notes_41 : decode cX5_notes 41 = .ok (.aload_n 0, 1) := by decide +kernel
theorem dX5_notes_42 : decode cX5_notes 42 = .ok (.iconst 4, 1) := by decide +kernel
theorem dX5_notes_43 : decode cX5_notes 43 = .ok (.putfield 49, 3) := by decide +kernel
theorem dX5_notes_46 : decode cX5_notes 46 = .ok (.iconst 0, 1) := by decide +kernel
theorem dX5_notes_47 : decode cX5_notes 47 = .ok (.istore_n 1, 1) := by decide +kernel
theorem dX5_notes_48 : decode cX5_notes 48 = .ok (.iload_n 1, 1) := by decide +kernel
theorem dX5_notes_49 : decode cX5_notes 49 = .ok (.sipush 1724, 3) := by decide +kernel
theorem dX5_notes_52 : decode cX5_notes 52 = .ok (.if_icmp .ge 30, 3) := by decide +kernel
theorem dX5_notes_55 : decode cX5_notes 55 = .ok (.aload_n 0, 1) := by decide +kernel
theorem dX5_notes_56 : decode cX5_notes 56 = .ok (.getfield 13, 3) := by decide +kernel
theorem dX5_notes_59 : decode cX5_notes 59 = .ok (.sipush 1724, 3) := by decide +kernel
theorem dX5_notes_62 : decode cX5_notes 62 = .ok (.aload_n 0, 1) := by decide +kernel
theorem dX5_notes_63 : decode cX5_notes 63 = .ok (.getfield 49, 3) := by decide +kernel
theorem dX5_notes_66 : decode cX5_notes 66 = .ok (.imul, 1) := by decide +kernel
theorem dX5_notes_67 : decode cX5_notes 67 = .ok (.iload_n 1, 1) := by decide +kernel
theorem dX5_notes_68 : decode cX5_notes 68 = .ok (.iadd, 1) := by decide +kernel
theorem dX5_notes_69 : decode cX5_notes 69 = .ok (.aload_n 0, 1) := by decide +kernel
theorem dX5_notes_70 : decode cX5_notes 70 = .ok (.getfield 7, 3) := by decide +kernel
theorem dX5_notes_73 : decode cX5_notes 73 = .ok (.iload_n 1, 1) := by decide +kernel
theorem dX5_notes_74 : decode cX5_notes 74 = .ok (.iaload, 1) := by decide +kernel
theorem dX5_notes_75 : decode cX5_notes 75 = .ok (.iastore, 1) := by decide +kernel
theorem dX5_notes_76 : decode cX5_notes 76 = .ok (.iinc 1 1, 3) := by decide +kernel
theorem dX5_notes_79 : decode cX5_notes 79 = .ok (.goto (-31), 3) := by decide +kernel
theorem dX5_notes_82 : decode cX5_notes 82 = .ok (.aload_n 0, 1) := by decide +kernel
theorem dX5_notes_83 : decode cX5_notes 83 = .ok (.dup, 1) := by decide +kernel
theorem dX5_notes_84 : decode cX5_notes 84 = .ok (.getfield 49, 3) := by decide +kernel
theorem dX5_notes_87 : decode cX5_notes 87 = .ok (.iconst 1, 1) := by decide +kernel
theorem dX5_notes_88 : decode cX5_notes 88 = .ok (.iadd, 1) := by decide +kernel
theorem dX5_notes_89 : decode cX5_notes 89 = .ok (.putfield 49, 3) := by decide +kernel
theorem dX5_notes_92 : decode cX5_notes 92 = .ok (.return_, 1) := by decide +kernel
theorem dX5_asides_0 : decode cX5_asides 0 = .ok (.iconst 0, 1) := by decide +kernel
theorem dX5_asides_1 : decode cX5_asides 1 = .ok (.istore_n 1, 1) := by decide +kernel
theorem dX5_asides_2 : decode cX5_asides 2 = .ok (.iload_n 1, 1) := by decide +kernel
theorem dX5_asides_3 : decode cX5_asides 3 = .ok (.sipush 1724, 3) := by decide +kernel
theorem dX5_asides_6 : decode cX5_asides 6 = .ok (.if_icmp .ge 21, 3) := by decide +kernel
theorem dX5_asides_9 : decode cX5_asides 9 = .ok (.aload_n 0, 1) := by decide +kernel
theorem dX5_asides_10 : decode cX5_asides 10 = .ok (.getfield 16, 3) := by decide +kernel
theorem dX5_asides_13 : decode cX5_asides 13 = .ok (.iload_n 1, 1) := by decide +kernel
theorem dX5_asides_14 : decode cX5_asides 14 = .ok (.aload_n 0, 1) := by decide +kernel
theorem dX5_asides_15 : decode cX5_asides 15 = .ok (.getfield 7, 3) := by decide +kernel
theorem dX5_asides_18 : decode cX5_asides 18 = .ok (.iload_n 1, 1) := by decide +kernel
theorem dX5_asides_19 : decode cX5_asides 19 = .ok (.iaload, 1) := by decide +kernel
theorem dX5_asides_20 : decode cX5_asides 20 = .ok (.iastore, 1) := by decide +kernel
theorem dX5_asides_21 : decode cX5_asides 21 = .ok (.iinc 1 1, 3) := by decide +kernel
theorem dX5_asides_24 : decode cX5_asides 24 = .ok (.goto (-22), 3) := by decide +kernel
theorem dX5_asides_27 : decode cX5_asides 27 = .ok (.return_, 1) := by decide +kernel
theorem dX5_backs_0 : decode cX5_backs 0 = .ok (.iconst 0, 1) := by decide +kernel
theorem dX5_backs_1 : decode cX5_backs 1 = .ok (.istore_n 1, 1) := by decide +kernel
theorem dX5_backs_2 : decode cX5_backs 2 = .ok (.iload_n 1, 1) := by decide +kernel
theorem dX5_backs_3 : decode cX5_backs 3 = .ok (.sipush 1724, 3) := by decide +kernel
theorem dX5_backs_6 : decode cX5_backs 6 = .ok (.if_icmp .ge 21, 3) := by decide +kernel
theorem dX5_backs_9 : decode cX5_backs 9 = .ok (.aload_n 0, 1) := by decide +kernel
theorem dX5_backs_10 : decode cX5_backs 10 = .ok (.getfield 7, 3) := by decide +kernel
theorem dX5_backs_13 : decode cX5_backs 13 = .ok (.iload_n 1, 1) := by decide +kernel
theorem dX5_backs_14 : decode cX5_backs 14 = .ok (.aload_n 0, 1) := by decide +kernel
theorem dX5_backs_15 : decode cX5_backs 15 = .ok (.getfield 16, 3) := by decide +kernel
theorem dX5_backs_18 : decode cX5_backs 18 = .ok (.iload_n 1, 1) := by decide +kernel
theorem dX5_backs_19 : decode cX5_backs 19 = .ok (.iaload, 1) := by decide +kernel
theorem dX5_backs_20 : decode cX5_backs 20 = .ok (.iastore, 1) := by decide +kernel
theorem dX5_backs_21 : decode cX5_backs 21 = .ok (.iinc 1 1, 3) := by decide +kernel
theorem dX5_backs_24 : decode cX5_backs 24 = .ok (.goto (-22), 3) := by decide +kernel
theorem dX5_backs_27 : decode cX5_backs 27 = .ok (.return_, 1) := by decide +kernel
theorem dX5_swaps_0 : decode cX5_swaps 0 = .ok (.iconst 0, 1) := by decide +kernel
theorem dX5_swaps_1 : decode cX5_swaps 1 = .ok (.istore_n 1, 1) := by decide +kernel
theorem dX5_swaps_2 : decode cX5_swaps 2 = .ok (.iload_n 1, 1) := by decide +kernel
theorem dX5_swaps_3 : decode cX5_swaps 3 = .ok (.sipush 1724, 3) := by decide +kernel
theorem dX5_swaps_6 : decode cX5_swaps 6 = .ok (.if_icmp .ge 35, 3) := by decide +kernel
theorem dX5_swaps_9 : decode cX5_swaps 9 = .ok (.aload_n 0, 1) := by decide +kernel
theorem dX5_swaps_10 : decode cX5_swaps 10 = .ok (.getfield 7, 3) := by decide +kernel
theorem dX5_swaps_13 : decode cX5_swaps 13 = .ok (.iload_n 1, 1) := by decide +kernel
theorem dX5_swaps_14 : decode cX5_swaps 14 = .ok (.iaload, 1) := by decide +kernel
theorem dX5_swaps_15 : decode cX5_swaps 15 = .ok (.istore_n 2, 1) := by decide +kernel
theorem dX5_swaps_16 : decode cX5_swaps 16 = .ok (.aload_n 0, 1) := by decide +kernel
theorem dX5_swaps_17 : decode cX5_swaps 17 = .ok (.getfield 7, 3) := by decide +kernel
theorem dX5_swaps_20 : decode cX5_swaps 20 = .ok (.iload_n 1, 1) := by decide +kernel
theorem dX5_swaps_21 : decode cX5_swaps 21 = .ok (.aload_n 0, 1) := by decide +kernel
theorem dX5_swaps_22 : decode cX5_swaps 22 = .ok (.getfield 16, 3) := by decide +kernel
theorem dX5_swaps_25 : decode cX5_swaps 25 = .ok (.iload_n 1, 1) := by decide +kernel
theorem dX5_swaps_26 : decode cX5_swaps 26 = .ok (.iaload, 1) := by decide +kernel
theorem dX5_swaps_27 : decode cX5_swaps 27 = .ok (.iastore, 1) := by decide +kernel
theorem dX5_swaps_28 : decode cX5_swaps 28 = .ok (.aload_n 0, 1) := by decide +kernel
theorem dX5_swaps_29 : decode cX5_swaps 29 = .ok (.getfield 16, 3) := by decide +kernel
theorem dX5_swaps_32 : decode cX5_swaps 32 = .ok (.iload_n 1, 1) := by decide +kernel
theorem dX5_swaps_33 : decode cX5_swaps 33 = .ok (.iload_n 2, 1) := by decide +kernel
theorem dX5_swaps_34 : decode cX5_swaps 34 = .ok (.iastore, 1) := by decide +kernel
theorem dX5_swaps_35 : decode cX5_swaps 35 = .ok (.iinc 1 1, 3) := by decide +kernel
theorem dX5_swaps_38 : decode cX5_swaps 38 = .ok (.goto (-36), 3) := by decide +kernel
theorem dX5_swaps_41 : decode cX5_swaps 41 = .ok (.return_, 1) := by decide +kernel
theorem dX5_undo_0 : decode cX5_undo 0 = .ok (.aload_n 0, 1) := by decide +kernel
theorem dX5_undo_1 : decode cX5_undo 1 = .ok (.getfield 49, 3) := by decide +kernel
theorem dX5_undo_4 : decode cX5_undo 4 = .ok (.ifCond .ne 6, 3) := by decide +kernel
theorem dX5_undo_7 : decode cX5_undo 7 = .ok (.bipush (-2), 2) := by decide +kernel
theorem dX5_undo_9 : decode cX5_undo 9 = .ok (.ireturn, 1) := by decide +kernel
theorem dX5_undo_10 : decode cX5_undo 10 = .ok (.aload_n 0, 1) := by decide +kernel
theorem dX5_undo_11 : decode cX5_undo 11 = .ok (.dup, 1) := by decide +kernel
theorem dX5_undo_12 : decode cX5_undo 12 = .ok (.getfield 49, 3) := by decide +kernel
theorem dX5_undo_15 : decode cX5_undo 15 = .ok (.iconst 1, 1) := by decide +kernel
theorem dX5_undo_16 : decode cX5_undo 16 = .ok (.isub, 1) := by decide +kernel
theorem dX5_undo_17 : decode cX5_undo 17 = .ok (.putfield 49, 3) := by decide +kernel
theorem dX5_undo_20 : decode cX5_undo 20 = .ok (.iconst 0, 1) := by decide +kernel
theorem dX5_undo_21 : decode cX5_undo 21 = .ok (.istore_n 1, 1) := by decide +kernel
theorem dX5_undo_22 : decode cX5_undo 22 = .ok (.iload_n 1, 1) := by decide +kernel
theorem dX5_undo_23 : decode cX5_undo 23 = .ok (.sipush 1724, 3) := by decide +kernel
theorem dX5_undo_26 : decode cX5_undo 26 = .ok (.if_icmp .ge 30, 3) := by decide +kernel
theorem dX5_undo_29 : decode cX5_undo 29 = .ok (.aload_n 0, 1) := by decide +kernel
theorem dX5_undo_30 : decode cX5_undo 30 = .ok (.getfield 7, 3) := by decide +kernel
theorem dX5_undo_33 : decode cX5_undo 33 = .ok (.iload_n 1, 1) := by decide +kernel
theorem dX5_undo_34 : decode cX5_undo 34 = .ok (.aload_n 0, 1) := by decide +kernel
theorem dX5_undo_35 : decode cX5_undo 35 = .ok (.getfield 13, 3) := by decide +kernel
theorem dX5_undo_38 : decode cX5_undo 38 = .ok (.sipush 1724, 3) := by decide +kernel
theorem dX5_undo_41 : decode cX5_undo 41 = .ok (.aload_n 0, 1) := by decide +kernel
theorem dX5_undo_42 : decode cX5_undo 42 = .ok (.getfield 49, 3) := by decide +kernel
theorem dX5_undo_45 : decode cX5_undo 45 = .ok (.imul, 1) := by decide +kernel
theorem dX5_undo_46 : decode cX5_undo 46 = .ok (.iload_n 1, 1) := by decide +kernel
theorem dX5_undo_47 : decode cX5_undo 47 = .ok (.iadd, 1) := by decide +kernel
theorem dX5_undo_48 : decode cX5_undo 48 = .ok (.iaload, 1) := by decide +kernel
theorem dX5_undo_49 : decode cX5_undo 49 = .ok (.iastore, 1) := by decide +kernel
theorem dX5_undo_50 : decode cX5_undo 50 = .ok (.iinc 1 1, 3) := by decide +kernel
theorem dX5_undo_53 : decode cX5_undo 53 = .ok (.goto (-31), 3) := by decide +kernel
theorem dX5_undo_56 : decode cX5_undo 56 = .ok (.aload_n 0, 1) := by decide +kernel
theorem dX5_undo_57 : decode cX5_undo 57 = .ok (.getfield 49, 3) := by decide +kernel
theorem dX5_undo_60 : decode cX5_undo 60 = .ok (.ireturn, 1) := by decide +kernel
theorem dX5_receives_0 : decode cX5_receives 0 = .ok (.iload_n 2, 1) := by decide +kernel
theorem dX5_receives_1 : decode cX5_receives 1 = .ok (.aload_n 0, 1) := by decide +kernel
theorem dX5_receives_2 : decode cX5_receives 2 = .ok (.iload_n 1, 1) := by decide +kernel
theorem dX5_receives_3 : decode cX5_receives 3 = .ok (.iconst 1, 1) := by decide +kernel
theorem dX5_receives_4 : decode cX5_receives 4 = .ok (.invokevirtual 43, 3) := by decide +kernel
theorem dX5_receives_7 : decode cX5_receives 7 = .ok (.if_icmp .ge 7, 3) := by decide +kernel
theorem dX5_receives_10 : decode cX5_receives 10 = .ok (.iload_n 2, 1) := by decide +kernel
theorem dX5_receives_11 : decode cX5_receives 11 = .ok (.goto 9, 3) := by decide +kernel
theorem dX5_receives_14 : decode cX5_receives 14 = .ok (.aload_n 0, 1) := by decide +kernel
theorem dX5_receives_15 : decode cX5_receives 15 = .ok (.iload_n 1, 1) := by decide +kernel
theorem dX5_receives_16 : decode cX5_receives 16 = .ok (.iconst 1, 1) := by decide +kernel
theorem dX5_receives_17 : decode cX5_receives 17 = .ok (.invokevirtual 43, 3) := by decide +kernel
theorem dX5_receives_20 : decode cX5_receives 20 = .ok (.istore_n 3, 1) := by decide +kernel
theorem dX5_receives_21 : decode cX5_receives 21 = .ok (.aload_n 0, 1) := by decide +kernel
theorem dX5_receives_22 : decode cX5_receives 22 = .ok (.iload_n 1, 1) := by decide +kernel
theorem dX5_receives_23 : decode cX5_receives 23 = .ok (.iconst 1, 1) := by decide +kernel
theorem dX5_receives_24 : decode cX5_receives 24 = .ok (.iload_n 3, 1) := by decide +kernel
theorem dX5_receives_25 : decode cX5_receives 25 = .ok (.ineg, 1) := by decide +kernel
theorem dX5_receives_26 : decode cX5_receives 26 = .ok (.invokevirtual 53, 3) := by decide +kernel
theorem dX5_receives_29 : decode cX5_receives 29 = .ok (.aload_n 0, 1) := by decide +kernel
theorem dX5_receives_30 : decode cX5_receives 30 = .ok (.iload_n 1, 1) := by decide +kernel
theorem dX5_receives_31 : decode cX5_receives 31 = .ok (.iconst 0, 1) := by decide +kernel
theorem dX5_receives_32 : decode cX5_receives 32 = .ok (.iload_n 2, 1) := by decide +kernel
theorem dX5_receives_33 : decode cX5_receives 33 = .ok (.iload_n 3, 1) := by decide +kernel
theorem dX5_receives_34 : decode cX5_receives 34 = .ok (.isub, 1) := by decide +kernel
theorem dX5_receives_35 : decode cX5_receives 35 = .ok (.invokevirtual 53, 3) := by decide +kernel
theorem dX5_receives_38 : decode cX5_receives 38 = .ok (.aload_n 0, 1) := by decide +kernel
theorem dX5_receives_39 : decode cX5_receives 39 = .ok (.getfield 7, 3) := by decide +kernel
theorem dX5_receives_42 : decode cX5_receives 42 = .ok (.iconst 4, 1) := by decide +kernel
theorem dX5_receives_43 : decode cX5_receives 43 = .ok (.aload_n 0, 1) := by decide +kernel
theorem dX5_receives_44 : decode cX5_receives 44 = .ok (.iload_n 1, 1) := by decide +kernel
theorem dX5_receives_45 : decode cX5_receives 45 = .ok (.bipush 6, 2) := by decide +kernel
theorem dX5_receives_47 : decode cX5_receives 47 = .ok (.invokevirtual 43, 3) := by decide +kernel
theorem dX5_receives_50 : decode cX5_receives 50 = .ok (.iadd, 1) := by decide +kernel
theorem dX5_receives_51 : decode cX5_receives 51 = .ok (.dup2, 1) := by decide +kernel
theorem dX5_receives_52 : decode cX5_receives 52 = .ok (.iaload, 1) := by decide +kernel
theorem dX5_receives_53 : decode cX5_receives 53 = .ok (.iload_n 3, 1) := by decide +kernel
theorem dX5_receives_54 : decode cX5_receives 54 = .ok (.iadd, 1) := by decide +kernel
theorem dX5_receives_55 : decode cX5_receives 55 = .ok (.iastore, 1) := by decide +kernel
theorem dX5_receives_56 : decode cX5_receives 56 = .ok (.return_, 1) := by decide +kernel
theorem dX5_join_0 : decode cX5_join 0 = .ok (.iload_n 1, 1) := by decide +kernel
theorem dX5_join_1 : decode cX5_join 1 = .ok (.iconst 0, 1) := by decide +kernel
theorem dX5_join_2 : decode cX5_join 2 = .ok (.ldc 57, 2) := by decide +kernel
theorem dX5_join_4 : decode cX5_join 4 = .ok (.invokestatic 31, 3) := by decide +kernel
theorem dX5_join_7 : decode cX5_join 7 = .ok (.ifCond .ne 5, 3) := by decide +kernel
theorem dX5_join_10 : decode cX5_join 10 = .ok (.iconst (-1), 1) := by decide +kernel
theorem dX5_join_11 : decode cX5_join 11 = .ok (.ireturn, 1) := by decide +kernel
theorem dX5_join_12 : decode cX5_join 12 = .ok (.aload_n 0, 1) := by decide +kernel
theorem dX5_join_13 : decode cX5_join 13 = .ok (.getfield 7, 3) := by decide +kernel
theorem dX5_join_16 : decode cX5_join 16 = .ok (.iconst 1, 1) := by decide +kernel
theorem dX5_join_17 : decode cX5_join 17 = .ok (.iaload, 1) := by decide +kernel
theorem dX5_join_18 : decode cX5_join 18 = .ok (.bipush 12, 2) := by decide +kernel
theorem dX5_join_20 : decode cX5_join 20 = .ok (.if_icmp .ne 6, 3) := by decide +kernel
theorem dX5_join_23 : decode cX5_join 23 = .ok (.bipush (-3), 2) := by decide +kernel
theorem dX5_join_25 : decode cX5_join 25 = .ok (.ireturn, 1) := by decide +kernel
theorem dX5_join_26 : decode cX5_join 26 = .ok (.aload_n 0, 1) := by decide +kernel
theorem dX5_join_27 : decode cX5_join 27 = .ok (.invokevirtual 58, 3) := by decide +kernel
theorem dX5_join_30 : decode cX5_join 30 = .ok (.aload_n 0, 1) := by decide +kernel
theorem dX5_join_31 : decode cX5_join 31 = .ok (.getfield 7, 3) := by decide +kernel
theorem dX5_join_34 : decode cX5_join 34 = .ok (.iconst 1, 1) := by decide +kernel
theorem dX5_join_35 : decode cX5_join 35 = .ok (.iaload, 1) := by decide +kernel
theorem dX5_join_36 : decode cX5_join 36 = .ok (.istore_n 2, 1) := by decide +kernel
theorem dX5_join_37 : decode cX5_join 37 = .ok (.iconst 0, 1) := by decide +kernel
theorem dX5_join_38 : decode cX5_join 38 = .ok (.istore_n 3, 1) := by decide +kernel
theorem dX5_join_39 : decode cX5_join 39 = .ok (.iload_n 3, 1) := by decide +kernel
theorem dX5_join_40 : decode cX5_join 40 = .ok (.bipush 7, 2) := by decide +kernel
theorem dX5_join_42 : decode cX5_join 42 = .ok (.if_icmp .ge 24, 3) := by decide +kernel
theorem dX5_join_45 : decode cX5_join 45 = .ok (.aload_n 0, 1) := by decide +kernel
theorem dX5_join_46 : decode cX5_join 46 = .ok (.getfield 7, 3) := by decide +kernel
theorem dX5_join_49 : decode cX5_join 49 = .ok (.bipush 8, 2) := by decide +kernel
theorem dX5_join_51 : decode cX5_join 51 = .ok (.bipush 7, 2) := by decide +kernel
theorem dX5_join_53 : decode cX5_join 53 = .ok (.iload_n 2, 1) := by decide +kernel
theorem dX5_join_54 : decode cX5_join 54 = .ok (.imul, 1) := by decide +kernel
theorem dX5_join_55 : decode cX5_join 55 = .ok (.iadd, 1) := by decide +kernel
theorem dX5_join_56 : decode cX5_join 56 = .ok (.iload_n 3, 1) := by decide +kernel
theorem dX5_join_57 : decode cX5_join 57 = .ok (.iadd, 1) := by decide +kernel
theorem dX5_join_58 : decode cX5_join 58 = .ok (.iconst 0, 1) := by decide +kernel
theorem dX5_join_59 : decode cX5_join 59 = .ok (.iastore, 1) := by decide +kernel
theorem dX5_join_60 : decode cX5_join 60 = .ok (.iinc 3 1, 3) := by decide +kernel
theorem dX5_join_63 : decode cX5_join 63 = .ok (.goto (-24), 3) := by decide +kernel
theorem dX5_join_66 : decode cX5_join 66 = .ok (.aload_n 0, 1) := by decide +kernel
theorem dX5_join_67 : decode cX5_join 67 = .ok (.getfield 7, 3) := by decide +kernel
theorem dX5_join_70 : decode cX5_join 70 = .ok (.bipush 8, 2) := by decide +kernel
theorem dX5_join_72 : decode cX5_join 72 = .ok (.bipush 7, 2) := by decide +kernel
theorem dX5_join_74 : decode cX5_join 74 = .ok (.iload_n 2, 1) := by decide +kernel
theorem dX5_join_75 : decode cX5_join 75 = .ok (.imul, 1) := by decide +kernel
theorem dX5_join_76 : decode cX5_join 76 = .ok (.iadd, 1) := by decide +kernel
theorem dX5_join_77 : decode cX5_join 77 = .ok (.iload_n 1, 1) := by decide +kernel
theorem dX5_join_78 : decode cX5_join 78 = .ok (.iastore, 1) := by decide +kernel
theorem dX5_join_79 : decode cX5_join 79 = .ok (.iconst 0, 1) := by decide +kernel
theorem dX5_join_80 : decode cX5_join 80 = .ok (.istore_n 3, 1) := by decide +kernel
theorem dX5_join_81 : decode cX5_join 81 = .ok (.iload_n 3, 1) := by decide +kernel
theorem dX5_join_82 : decode cX5_join 82 = .ok (.bipush 96, 2) := by decide +kernel
theorem dX5_join_84 : decode cX5_join 84 = .ok (.if_icmp .ge 25, 3) := by decide +kernel
theorem dX5_join_87 : decode cX5_join 87 = .ok (.aload_n 0, 1) := by decide +kernel
theorem dX5_join_88 : decode cX5_join 88 = .ok (.getfield 7, 3) := by decide +kernel
theorem dX5_join_91 : decode cX5_join 91 = .ok (.sipush 572, 3) := by decide +kernel
theorem dX5_join_94 : decode cX5_join 94 = .ok (.bipush 96, 2) := by decide +kernel
theorem dX5_join_96 : decode cX5_join 96 = .ok (.iload_n 2, 1) := by decide +kernel
theorem dX5_join_97 : decode cX5_join 97 = .ok (.imul, 1) := by decide +kernel
theorem dX5_join_98 : decode cX5_join 98 = .ok (.iadd, 1) := by decide +kernel
theorem dX5_join_99 : decode cX5_join 99 = .ok (.iload_n 3, 1) := by decide +kernel
theorem dX5_join_100 : decode cX5_join 100 = .ok (.iadd, 1) := by decide +kernel
theorem dX5_join_101 : decode cX5_join 101 = .ok (.iconst 0, 1) := by decide +kernel
theorem dX5_join_102 : decode cX5_join 102 = .ok (.iastore, 1) := by decide +kernel
theorem dX5_join_103 : decode cX5_join 103 = .ok (.iinc 3 1, 3) := by decide +kernel
theorem dX5_join_106 : decode cX5_join 106 = .ok (.goto (-25), 3) := by decide +kernel
theorem dX5_join_109 : decode cX5_join 109 = .ok (.aload_n 0, 1) := by decide +kernel
theorem dX5_join_110 : decode cX5_join 110 = .ok (.getfield 7, 3) := by decide +kernel
theorem dX5_join_113 : decode cX5_join 113 = .ok (.iconst 1, 1) := by decide +kernel
theorem dX5_join_114 : decode cX5_join 114 = .ok (.dup2, 1) := by decide +kernel
theorem dX5_join_115 : decode cX5_join 115 = .ok (.iaload, 1) := by decide +kernel
theorem dX5_join_116 : decode cX5_join 116 = .ok (.iconst 1, 1) := by decide +kernel
theorem dX5_join_117 : decode cX5_join 117 = .ok (.iadd, 1) := by decide +kernel
theorem dX5_join_118 : decode cX5_join 118 = .ok (.iastore, 1) := by decide +kernel
theorem dX5_join_119 : decode cX5_join 119 = .ok (.iload_n 2, 1) := by decide +kernel
theorem dX5_join_120 : decode cX5_join 120 = .ok (.ireturn, 1) := by decide +kernel
theorem dX5_pay_0 : decode cX5_pay 0 = .ok (.aload_n 0, 1) := by decide +kernel
theorem dX5_pay_1 : decode cX5_pay 1 = .ok (.iload_n 1, 1) := by decide +kernel
theorem dX5_pay_2 : decode cX5_pay 2 = .ok (.invokevirtual 61, 3) := by decide +kernel
theorem dX5_pay_5 : decode cX5_pay 5 = .ok (.ifCond .eq 14, 3) := by decide +kernel
theorem dX5_pay_8 : decode cX5_pay 8 = .ok (.iload_n 2, 1) := by decide +kernel
theorem dX5_pay_9 : decode cX5_pay 9 = .ok (.ldc 65, 2) := by decide +kernel
theorem dX5_pay_11 : decode cX5_pay 11 = .ok (.ldc 57, 2) := by decide +kernel
theorem dX5_pay_13 : decode cX5_pay 13 = .ok (.invokestatic 31, 3) := by decide +kernel
theorem dX5_pay_16 : decode cX5_pay 16 = .ok (.ifCond .ne 5, 3) := by decide +kernel
theorem dX5_pay_19 : decode cX5_pay 19 = .ok (.iconst (-1), 1) := by decide +kernel
theorem dX5_pay_20 : decode cX5_pay 20 = .ok (.ireturn, 1) := by decide +kernel
theorem dX5_pay_21 : decode cX5_pay 21 = .ok (.aload_n 0, 1) := by decide +kernel
theorem dX5_pay_22 : decode cX5_pay 22 = .ok (.iload_n 1, 1) := by decide +kernel
theorem dX5_pay_23 : decode cX5_pay 23 = .ok (.iconst 1, 1) := by decide +kernel
theorem dX5_pay_24 : decode cX5_pay 24 = .ok (.invokevirtual 43, 3) := by decide +kernel
theorem dX5_pay_27 : decode cX5_pay 27 = .ok (.istore_n 3, 1) := by decide +kernel
theorem dX5_pay_28 : decode cX5_pay 28 = .ok (.iload_n 2, 1) := by decide +kernel
theorem dX5_pay_29 : decode cX5_pay 29 = .ok (.ifCond .ge 20, 3) := by decide +kernel
theorem dX5_pay_32 : decode cX5_pay 32 = .ok (.iload_n 2, 1) := by decide +kernel
theorem dX5_pay_33 : decode cX5_pay 33 = .ok (.ineg, 1) := by decide +kernel
theorem dX5_pay_34 : decode cX5_pay 34 = .ok (.aload_n 0, 1) := by decide +kernel
theorem dX5_pay_35 : decode cX5_pay 35 = .ok (.iload_n 1, 1) := by decide +kernel
theorem dX5_pay_36 : decode cX5_pay 36 = .ok (.invokevirtual 66, 3) := by decide +kernel
theorem dX5_pay_39 : decode cX5_pay 39 = .ok (.if_icmp .gt 7, 3) := by decide +kernel
theorem dX5_pay_42 : decode cX5_pay 42 = .ok (.iload_n 3, 1) := by decide +kernel
theorem dX5_pay_43 : decode cX5_pay 43 = .ok (.ifCond .le 6, 3) := by decide +kernel
theorem dX5_pay_46 : decode cX5_pay 46 = .ok (.bipush (-2), 2) := by decide +kernel
theorem dX5_pay_48 : decode cX5_pay 48 = .ok (.ireturn, 1) := by decide +kernel
theorem dX5_pay_49 : decode cX5_pay 49 = .ok (.iload_n 2, 1) := by decide +kernel
theorem dX5_pay_50 : decode cX5_pay 50 = .ok (.ifCond .ge 7, 3) := by decide +kernel
theorem dX5_pay_53 : decode cX5_pay 53 = .ok (.iconst 0, 1) := by decide +kernel
theorem dX5_pay_54 : decode cX5_pay 54 = .ok (.goto 13, 3) := by decide +kernel
theorem dX5_pay_57 : decode cX5_pay 57 = .ok (.iload_n 2, 1) := by decide +kernel
theorem dX5_pay_58 : decode cX5_pay 58 = .ok (.iload_n 3, 1) := by decide +kernel
theorem dX5_pay_59 : decode cX5_pay 59 = .ok (.if_icmp .ge 7, 3) := by decide +kernel
theorem dX5_pay_62 : decode cX5_pay 62 = .ok (.iload_n 2, 1) := by decide +kernel
theorem dX5_pay_63 : decode cX5_pay 63 = .ok (.goto 4, 3) := by decide +kernel
theorem dX5_pay_66 : decode cX5_pay 66 = .ok (.iload_n 3, 1) := by decide +kernel
theorem dX5_pay_67 : decode cX5_pay 67 = .ok (.istore 4, 2) := by decide +kernel
theorem dX5_pay_69 : decode cX5_pay 69 = .ok (.aload_n 0, 1) := by decide +kernel
theorem dX5_pay_70 : decode cX5_pay 70 = .ok (.iload_n 1, 1) := by decide +kernel
theorem dX5_pay_71 : decode cX5_pay 71 = .ok (.iconst 0, 1) := by decide +kernel
theorem dX5_pay_72 : decode cX5_pay 72 = .ok (.invokevirtual 43, 3) := by decide +kernel
theorem dX5_pay_75 : decode cX5_pay 75 = .ok (.iload_n 2, 1) := by decide +kernel
theorem dX5_pay_76 : decode cX5_pay 76 = .ok (.iadd, 1) := by decide +kernel
theorem dX5_pay_77 : decode cX5_pay 77 = .ok (.iload 4, 2) := by decide +kernel
theorem dX5_pay_79 : decode cX5_pay 79 = .ok (.isub, 1) := by decide +kernel
theorem dX5_pay_80 : decode cX5_pay 80 = .ok (.ldc 70, 2) := by decide +kernel
theorem dX5_pay_82 : decode cX5_pay 82 = .ok (.if_icmp .le 6, 3) := by decide +kernel
theorem dX5_pay_85 : decode cX5_pay 85 = .ok (.bipush (-2), 2) := by decide +kernel
theorem dX5_pay_87 : decode cX5_pay 87 = .ok (.ireturn, 1) := by decide +kernel
theorem dX5_pay_88 : decode cX5_pay 88 = .ok (.aload_n 0, 1) := by decide +kernel
theorem dX5_pay_89 : decode cX5_pay 89 = .ok (.invokevirtual 58, 3) := by decide +kernel
theorem dX5_pay_92 : decode cX5_pay 92 = .ok (.iload_n 2, 1) := by decide +kernel
theorem dX5_pay_93 : decode cX5_pay 93 = .ok (.ifCond .ge 13, 3) := by decide +kernel
theorem dX5_pay_96 : decode cX5_pay 96 = .ok (.aload_n 0, 1) := by decide +kernel
theorem dX5_pay_97 : decode cX5_pay 97 = .ok (.iload_n 1, 1) := by decide +kernel
theorem dX5_pay_98 : decode cX5_pay 98 = .ok (.iconst 0, 1) := by decide +kernel
theorem dX5_pay_99 : decode cX5_pay 99 = .ok (.iload_n 2, 1) := by decide +kernel
theorem dX5_pay_100 : decode cX5_pay 100 = .ok (.invokevirtual 53, 3) := by decide +kernel
theorem dX5_pay_103 : decode cX5_pay 103 = .ok (.goto 9, 3) := by decide +kernel
theorem dX5_pay_106 : decode cX5_pay 106 = .ok (.aload_n 0, 1) := by decide +kernel
theorem dX5_pay_107 : decode cX5_pay 107 = .ok (.iload_n 1, 1) := by decide +kernel
theorem dX5_pay_108 : decode cX5_pay 108 = .ok (.iload_n 2, 1) := by decide +kernel
theorem dX5_pay_109 : decode cX5_pay 109 = .ok (.invokevirtual 71, 3) := by decide +kernel
theorem dX5_pay_112 : decode cX5_pay 112 = .ok (.aload_n 0, 1) := by decide +kernel
theorem dX5_pay_113 : decode cX5_pay 113 = .ok (.iload_n 1, 1) := by decide +kernel
theorem dX5_pay_114 : decode cX5_pay 114 = .ok (.iconst 0, 1) := by decide +kernel
theorem dX5_pay_115 : decode cX5_pay 115 = .ok (.invokevirtual 43, 3) := by decide +kernel
theorem dX5_pay_118 : decode cX5_pay 118 = .ok (.ireturn, 1) := by decide +kernel
theorem dX5_bids_0 : decode cX5_bids 0 = .ok (.aload_n 0, 1) := by decide +kernel
theorem dX5_bids_1 : decode cX5_bids 1 = .ok (.iload_n 1, 1) := by decide +kernel
theorem dX5_bids_2 : decode cX5_bids 2 = .ok (.invokevirtual 61, 3) := by decide +kernel
theorem dX5_bids_5 : decode cX5_bids 5 = .ok (.ifCond .eq 33, 3) := by decide +kernel
theorem dX5_bids_8 : decode cX5_bids 8 = .ok (.iload_n 2, 1) := by decide +kernel
theorem dX5_bids_9 : decode cX5_bids 9 = .ok (.iload_n 3, 1) := by decide +kernel
theorem dX5_bids_10 : decode cX5_bids 10 = .ok (.invokestatic 75, 3) := by decide +kernel
theorem dX5_bids_13 : decode cX5_bids 13 = .ok (.ifCond .eq 25, 3) := by decide +kernel
theorem dX5_bids_16 : decode cX5_bids 16 = .ok (.iload 4, 2) := by decide +kernel
theorem dX5_bids_18 : decode cX5_bids 18 = .ok (.iconst 0, 1) := by decide +kernel
theorem dX5_bids_19 : decode cX5_bids 19 = .ok (.iconst 1, 1) := by decide +kernel
theorem dX5_bids_20 : decode cX5_bids 20 = .ok (.invokestatic 31, 3) := by decide +kernel
theorem dX5_bids_23 : decode cX5_bids 23 = .ok (.ifCond .eq 15, 3) := by decide +kernel
theorem dX5_bids_26 : decode cX5_bids 26 = .ok (.iload 5, 2) := by decide +kernel
theorem dX5_bids_28 : decode cX5_bids 28 = .ok (.iconst 0, 1) := by decide +kernel
theorem dX5_bids_29 : decode cX5_bids 29 = .ok (.sipush 999, 3) := by decide +kernel
theorem dX5_bids_32 : decode cX5_bids 32 = .ok (.invokestatic 31, 3) := by decide +kernel
theorem dX5_bids_35 : decode cX5_bids 35 = .ok (.ifCond .ne 5, 3) := by decide +kernel
theorem dX5_bids_38 : decode cX5_bids 38 = .ok (.iconst (-1), 1) := by decide +kernel
theorem dX5_bids_39 : decode cX5_bids 39 = .ok (.ireturn, 1) := by decide +kernel
theorem dX5_bids_40 : decode cX5_bids 40 = .ok (.bipush 24, 2) := by decide +kernel
theorem dX5_bids_42 : decode cX5_bids 42 = .ok (.iload_n 2, 1) := by decide +kernel
theorem dX5_bids_43 : decode cX5_bids 43 = .ok (.imul, 1) := by decide +kernel
theorem dX5_bids_44 : decode cX5_bids 44 = .ok (.iload_n 3, 1) := by decide +kernel
theorem dX5_bids_45 : decode cX5_bids 45 = .ok (.iadd, 1) := by decide +kernel
theorem dX5_bids_46 : decode cX5_bids 46 = .ok (.istore 6, 2) := by decide +kernel
theorem dX5_bids_48 : decode cX5_bids 48 = .ok (.aload_n 0, 1) := by decide +kernel
theorem dX5_bids_49 : decode cX5_bids 49 = .ok (.iload_n 1, 1) := by decide +kernel
theorem dX5_bids_50 : decode cX5_bids 50 = .ok (.invokevirtual 66, 3) := by decide +kernel
theorem dX5_bids_53 : decode cX5_bids 53 = .ok (.aload_n 0, 1) := by decide +kernel
theorem dX5_bids_54 : decode cX5_bids 54 = .ok (.iload_n 1, 1) := by decide +kernel
theorem dX5_bids_55 : decode cX5_bids 55 = .ok (.iload 6, 2) := by decide +kernel
theorem dX5_bids_57 : decode cX5_bids 57 = .ok (.iconst 0, 1) := by decide +kernel
theorem dX5_bids_58 : decode cX5_bids 58 = .ok (.invokevirtual 39, 3) := by decide +kernel
theorem dX5_bids_61 : decode cX5_bids 61 = .ok (.iadd, 1) := by decide +kernel
theorem dX5_bids_62 : decode cX5_bids 62 = .ok (.aload_n 0, 1) := by decide +kernel
theorem dX5_bids_63 : decode cX5_bids 63 = .ok (.iload_n 1, 1) := by decide +kernel
theorem dX5_bids_64 : decode cX5_bids 64 = .ok (.iload 6, 2) := by decide +kernel
theorem dX5_bids_66 : decode cX5_bids 66 = .ok (.iconst 1, 1) := by decide +kernel
theorem dX5_bids_67 : decode cX5_bids 67 = .ok (.invokevirtual 39, 3) := by decide +kernel
theorem dX5_bids_70 : decode cX5_bids 70 = .ok (.iadd, 1) := by decide +kernel
theorem dX5_bids_71 : decode cX5_bids 71 = .ok (.iload 5, 2) := by decide +kernel
theorem dX5_bids_73 : decode cX5_bids 73 = .ok (.isub, 1) := by decide +kernel
theorem dX5_bids_74 : decode cX5_bids 74 = .ok (.istore 7, 2) := by decide +kernel
theorem dX5_bids_76 : decode cX5_bids 76 = .ok (.aload_n 0, 1) := by decide +kernel
theorem dX5_bids_77 : decode cX5_bids 77 = .ok (.iload_n 1, 1) := by decide +kernel
theorem dX5_bids_78 : decode cX5_bids 78 = .ok (.iconst 1, 1) := by decide +kernel
theorem dX5_bids_79 : decode cX5_bids 79 = .ok (.invokevirtual 43, 3) := by decide +kernel
theorem dX5_bids_82 : decode cX5_bids 82 = .ok (.ifCond .gt 8, 3) := by decide +kernel
theorem dX5_bids_85 : decode cX5_bids 85 = .ok (.iload 7, 2) := by decide +kernel
theorem dX5_bids_87 : decode cX5_bids 87 = .ok (.ifCond .ge 6, 3) := by decide +kernel
theorem dX5_bids_90 : decode cX5_bids 90 = .ok (.bipush (-2), 2) := by decide +kernel
theorem dX5_bids_92 : decode cX5_bids 92 = .ok (.ireturn, 1) := by decide +kernel
theorem dX5_bids_93 : decode cX5_bids 93 = .ok (.aload_n 0, 1) := by decide +kernel
theorem dX5_bids_94 : decode cX5_bids 94 = .ok (.getfield 7, 3) := by decide +kernel
theorem dX5_bids_97 : decode cX5_bids 97 = .ok (.sipush 572, 3) := by decide +kernel
theorem dX5_bids_100 : decode cX5_bids 100 = .ok (.bipush 96, 2) := by decide +kernel
theorem dX5_bids_102 : decode cX5_bids 102 = .ok (.iload_n 1, 1) := by decide +kernel
theorem dX5_bids_103 : decode cX5_bids 103 = .ok (.imul, 1) := by decide +kernel
theorem dX5_bids_104 : decode cX5_bids 104 = .ok (.iadd, 1) := by decide +kernel
theorem dX5_bids_105 : decode cX5_bids 105 = .ok (.iload 6, 2) := by decide +kernel
theorem dX5_bids_107 : decode cX5_bids 107 = .ok (.iadd, 1) := by decide +kernel
theorem dX5_bids_108 : decode cX5_bids 108 = .ok (.iload 5, 2) := by decide +kernel
theorem dX5_bids_110 : decode cX5_bids 110 = .ok (.ifCond .ne 7, 3) := by decide +kernel
theorem dX5_bids_113 : decode cX5_bids 113 = .ok (.iconst 0, 1) := by decide +kernel
theorem dX5_bids_114 : decode cX5_bids 114 = .ok (.goto 12, 3) := by decide +kernel
theorem dX5_bids_117 : decode cX5_bids 117 = .ok (.iload 5, 2) := by decide +kernel
theorem dX5_bids_119 : decode cX5_bids 119 = .ok (.sipush 1000, 3) := by decide +kernel
theorem dX5_bids_122 : decode cX5_bids 122 = .ok (.iload 4, 2) := by decide +kernel
theorem dX5_bids_124 : decode cX5_bids 124 = .ok (.imul, 1) := by decide +kernel
theorem dX5_bids_125 : decode cX5_bids 125 = .ok (.iadd, 1) := by decide +kernel
theorem dX5_bids_126 : decode cX5_bids 126 = .ok (.iastore, 1) := by decide +kernel
theorem dX5_bids_127 : decode cX5_bids 127 = .ok (.iload 7, 2) := by decide +kernel
theorem dX5_bids_129 : decode cX5_bids 129 = .ok (.ireturn, 1) := by decide +kernel
theorem dX5_bid_0 : decode cX5_bid 0 = .ok (.aload_n 0, 1) := by decide +kernel
theorem dX5_bid_1 : decode cX5_bid 1 = .ok (.invokevirtual 79, 3) := by decide +kernel
theorem dX5_bid_4 : decode cX5_bid 4 = .ok (.aload_n 0, 1) := by decide +kernel
theorem dX5_bid_5 : decode cX5_bid 5 = .ok (.iload_n 1, 1) := by decide +kernel
theorem dX5_bid_6 : decode cX5_bid 6 = .ok (.iload_n 2, 1) := by decide +kernel
theorem dX5_bid_7 : decode cX5_bid 7 = .ok (.iload_n 3, 1) := by decide +kernel
theorem dX5_bid_8 : decode cX5_bid 8 = .ok (.iload 4, 2) := by decide +kernel
theorem dX5_bid_10 : decode cX5_bid 10 = .ok (.iload 5, 2) := by decide +kernel
theorem dX5_bid_12 : decode cX5_bid 12 = .ok (.invokevirtual 82, 3) := by decide +kernel
theorem dX5_bid_15 : decode cX5_bid 15 = .ok (.istore 6, 2) := by decide +kernel
theorem dX5_bid_17 : decode cX5_bid 17 = .ok (.iload 6, 2) := by decide +kernel
theorem dX5_bid_19 : decode cX5_bid 19 = .ok (.ifCond .lt 15, 3) := by decide +kernel
theorem dX5_bid_22 : decode cX5_bid 22 = .ok (.aload_n 0, 1) := by decide +kernel
theorem dX5_bid_23 : decode cX5_bid 23 = .ok (.invokevirtual 86, 3) := by decide +kernel
theorem dX5_bid_26 : decode cX5_bid 26 = .ok (.aload_n 0, 1) := by decide +kernel
theorem dX5_bid_27 : decode cX5_bid 27 = .ok (.invokevirtual 58, 3) := by decide +kernel
theorem dX5_bid_30 : decode cX5_bid 30 = .ok (.aload_n 0, 1) := by decide +kernel
theorem dX5_bid_31 : decode cX5_bid 31 = .ok (.invokevirtual 89, 3) := by decide +kernel
theorem dX5_bid_34 : decode cX5_bid 34 = .ok (.iload 6, 2) := by decide +kernel
theorem dX5_bid_36 : decode cX5_bid 36 = .ok (.ireturn, 1) := by decide +kernel
theorem dX5_setFine_0 : decode cX5_setFine 0 = .ok (.iload_n 1, 1) := by decide +kernel
theorem dX5_setFine_1 : decode cX5_setFine 1 = .ok (.iconst 0, 1) := by decide +kernel
theorem dX5_setFine_2 : decode cX5_setFine 2 = .ok (.sipush 1000, 3) := by decide +kernel
theorem dX5_setFine_5 : decode cX5_setFine 5 = .ok (.invokestatic 31, 3) := by decide +kernel
theorem dX5_setFine_8 : decode cX5_setFine 8 = .ok (.ifCond .ne 5, 3) := by decide +kernel
theorem dX5_setFine_11 : decode cX5_setFine 11 = .ok (.iconst (-1), 1) := by decide +kernel
theorem dX5_setFine_12 : decode cX5_setFine 12 = .ok (.ireturn, 1) := by decide +kernel
theorem dX5_setFine_13 : decode cX5_setFine 13 = .ok (.aload_n 0, 1) := by decide +kernel
theorem dX5_setFine_14 : decode cX5_setFine 14 = .ok (.invokevirtual 58, 3) := by decide +kernel
theorem dX5_setFine_17 : decode cX5_setFine 17 = .ok (.aload_n 0, 1) := by decide +kernel
theorem dX5_setFine_18 : decode cX5_setFine 18 = .ok (.getfield 7, 3) := by decide +kernel
theorem dX5_setFine_21 : decode cX5_setFine 21 = .ok (.iconst 2, 1) := by decide +kernel
theorem dX5_setFine_22 : decode cX5_setFine 22 = .ok (.iaload, 1) := by decide +kernel
theorem dX5_setFine_23 : decode cX5_setFine 23 = .ok (.istore_n 2, 1) := by decide +kernel
theorem dX5_setFine_24 : decode cX5_setFine 24 = .ok (.aload_n 0, 1) := by decide +kernel
theorem dX5_setFine_25 : decode cX5_setFine 25 = .ok (.getfield 7, 3) := by decide +kernel
theorem dX5_setFine_28 : decode cX5_setFine 28 = .ok (.iconst 2, 1) := by decide +kernel
theorem dX5_setFine_29 : decode cX5_setFine 29 = .ok (.iload_n 1, 1) := by decide +kernel
theorem dX5_setFine_30 : decode cX5_setFine 30 = .ok (.iastore, 1) := by decide +kernel
theorem dX5_setFine_31 : decode cX5_setFine 31 = .ok (.iload_n 2, 1) := by decide +kernel
theorem dX5_setFine_32 : decode cX5_setFine 32 = .ok (.ireturn, 1) := by decide +kernel
theorem dX5_tied_0 : decode cX5_tied 0 = .ok (.aload_n 0, 1) := by decide +kernel
theorem dX5_tied_1 : decode cX5_tied 1 = .ok (.iload_n 1, 1) := by decide +kernel
theorem dX5_tied_2 : decode cX5_tied 2 = .ok (.iconst 2, 1) := by decide +kernel
theorem dX5_tied_3 : decode cX5_tied 3 = .ok (.invokevirtual 46, 3) := by decide +kernel
theorem dX5_tied_6 : decode cX5_tied 6 = .ok (.iconst 1, 1) := by decide +kernel
theorem dX5_tied_7 : decode cX5_tied 7 = .ok (.if_icmp .ne 7, 3) := by decide +kernel
theorem dX5_tied_10 : decode cX5_tied 10 = .ok (.iconst 1, 1) := by decide +kernel
theorem dX5_tied_11 : decode cX5_tied 11 = .ok (.goto 4, 3) := by decide +kernel
theorem dX5_tied_14 : decode cX5_tied 14 = .ok (.iconst 0, 1) := by decide +kernel
theorem dX5_tied_15 : decode cX5_tied 15 = .ok (.ireturn, 1) := by decide +kernel
theorem dX5_winnerOf_0 : decode cX5_winnerOf 0 = .ok (.aload_n 0, 1) := by decide +kernel
theorem dX5_winnerOf_1 : decode cX5_winnerOf 1 = .ok (.iload_n 1, 1) := by decide +kernel
theorem dX5_winnerOf_2 : decode cX5_winnerOf 2 = .ok (.invokevirtual 92, 3) := by decide +kernel
theorem dX5_winnerOf_5 : decode cX5_winnerOf 5 = .ok (.ifCond .ne 10, 3) := by decide +kernel
theorem dX5_winnerOf_8 : decode cX5_winnerOf 8 = .ok (.aload_n 0, 1) := by decide +kernel
theorem dX5_winnerOf_9 : decode cX5_winnerOf 9 = .ok (.iload_n 1, 1) := by decide +kernel
theorem dX5_winnerOf_10 : decode cX5_winnerOf 10 = .ok (.iconst 0, 1) := by decide +kernel
theorem dX5_winnerOf_11 : decode cX5_winnerOf 11 = .ok (.invokevirtual 46, 3) := by decide +kernel
theorem dX5_winnerOf_14 : decode cX5_winnerOf 14 = .ok (.ireturn, 1) := by decide +kernel
theorem dX5_winnerOf_15 : decode cX5_winnerOf 15 = .ok (.aload_n 0, 1) := by decide +kernel
theorem dX5_winnerOf_16 : decode cX5_winnerOf 16 = .ok (.iload_n 1, 1) := by decide +kernel
theorem dX5_winnerOf_17 : decode cX5_winnerOf 17 = .ok (.iconst 0, 1) := by decide +kernel
theorem dX5_winnerOf_18 : decode cX5_winnerOf 18 = .ok (.invokevirtual 95, 3) := by decide +kernel
theorem dX5_winnerOf_21 : decode cX5_winnerOf 21 = .ok (.aload_n 0, 1) := by decide +kernel
theorem dX5_winnerOf_22 : decode cX5_winnerOf 22 = .ok (.iload_n 1, 1) := by decide +kernel
theorem dX5_winnerOf_23 : decode cX5_winnerOf 23 = .ok (.iconst 1, 1) := by decide +kernel
theorem dX5_winnerOf_24 : decode cX5_winnerOf 24 = .ok (.invokevirtual 46, 3) := by decide +kernel
theorem dX5_winnerOf_27 : decode cX5_winnerOf 27 = .ok (.iadd, 1) := by decide +kernel
theorem dX5_winnerOf_28 : decode cX5_winnerOf 28 = .ok (.istore_n 2, 1) := by decide +kernel
theorem dX5_winnerOf_29 : decode cX5_winnerOf 29 = .ok (.aload_n 0, 1) := by decide +kernel
theorem dX5_winnerOf_30 : decode cX5_winnerOf 30 = .ok (.iload_n 1, 1) := by decide +kernel
theorem dX5_winnerOf_31 : decode cX5_winnerOf 31 = .ok (.iconst 1, 1) := by decide +kernel
theorem dX5_winnerOf_32 : decode cX5_winnerOf 32 = .ok (.invokevirtual 95, 3) := by decide +kernel
theorem dX5_winnerOf_35 : decode cX5_winnerOf 35 = .ok (.istore_n 3, 1) := by decide +kernel
theorem dX5_winnerOf_36 : decode cX5_winnerOf 36 = .ok (.iload_n 2, 1) := by decide +kernel
theorem dX5_winnerOf_37 : decode cX5_winnerOf 37 = .ok (.iload_n 3, 1) := by decide +kernel
theorem dX5_winnerOf_38 : decode cX5_winnerOf 38 = .ok (.if_icmp .ne 11, 3) := by decide +kernel
theorem dX5_winnerOf_41 : decode cX5_winnerOf 41 = .ok (.aload_n 0, 1) := by decide +kernel
theorem dX5_winnerOf_42 : decode cX5_winnerOf 42 = .ok (.iload_n 1, 1) := by decide +kernel
theorem dX5_winnerOf_43 : decode cX5_winnerOf 43 = .ok (.invokevirtual 98, 3) := by decide +kernel
theorem dX5_winnerOf_46 : decode cX5_winnerOf 46 = .ok (.goto 13, 3) := by decide +kernel
theorem dX5_winnerOf_49 : decode cX5_winnerOf 49 = .ok (.iload_n 2, 1) := by decide +kernel
theorem dX5_winnerOf_50 : decode cX5_winnerOf 50 = .ok (.iload_n 3, 1) := by decide +kernel
theorem dX5_winnerOf_51 : decode cX5_winnerOf 51 = .ok (.if_icmp .le 7, 3) := by decide +kernel
theorem dX5_winnerOf_54 : decode cX5_winnerOf 54 = .ok (.iconst 0, 1) := by decide +kernel
theorem dX5_winnerOf_55 : decode cX5_winnerOf 55 = .ok (.goto 4, 3) := by decide +kernel
theorem dX5_winnerOf_58 : decode cX5_winnerOf 58 = .ok (.iconst 1, 1) := by decide +kernel
theorem dX5_winnerOf_59 : decode cX5_winnerOf 59 = .ok (.ireturn, 1) := by decide +kernel
theorem dX5_settles_0 : decode cX5_settles 0 = .ok (.aload_n 0, 1) := by decide +kernel
theorem dX5_settles_1 : decode cX5_settles 1 = .ok (.iload_n 1, 1) := by decide +kernel
theorem dX5_settles_2 : decode cX5_settles 2 = .ok (.invokevirtual 92, 3) := by decide +kernel
theorem dX5_settles_5 : decode cX5_settles 5 = .ok (.ifCond .ne 25, 3) := by decide +kernel
theorem dX5_settles_8 : decode cX5_settles 8 = .ok (.aload_n 0, 1) := by decide +kernel
theorem dX5_settles_9 : decode cX5_settles 9 = .ok (.iload_n 1, 1) := by decide +kernel
theorem dX5_settles_10 : decode cX5_settles 10 = .ok (.iconst 1, 1) := by decide +kernel
theorem dX5_settles_11 : decode cX5_settles 11 = .ok (.aload_n 0, 1) := by decide +kernel
theorem dX5_settles_12 : decode cX5_settles 12 = .ok (.iload_n 1, 1) := by decide +kernel
theorem dX5_settles_13 : decode cX5_settles 13 = .ok (.iconst 1, 1) := by decide +kernel
theorem dX5_settles_14 : decode cX5_settles 14 = .ok (.invokevirtual 46, 3) := by decide +kernel
theorem dX5_settles_17 : decode cX5_settles 17 = .ok (.iconst 2, 1) := by decide +kernel
theorem dX5_settles_18 : decode cX5_settles 18 = .ok (.idiv, 1) := by decide +kernel
theorem dX5_settles_19 : decode cX5_settles 19 = .ok (.invokevirtual 101, 3) := by decide +kernel
theorem dX5_settles_22 : decode cX5_settles 22 = .ok (.aload_n 0, 1) := by decide +kernel
theorem dX5_settles_23 : decode cX5_settles 23 = .ok (.iload_n 1, 1) := by decide +kernel
theorem dX5_settles_24 : decode cX5_settles 24 = .ok (.iconst 4, 1) := by decide +kernel
theorem dX5_settles_25 : decode cX5_settles 25 = .ok (.iconst 0, 1) := by decide +kernel
theorem dX5_settles_26 : decode cX5_settles 26 = .ok (.invokevirtual 101, 3) := by decide +kernel
theorem dX5_settles_29 : decode cX5_settles 29 = .ok (.return_, 1) := by decide +kernel
theorem dX5_settles_30 : decode cX5_settles 30 = .ok (.aload_n 0, 1) := by decide +kernel
theorem dX5_settles_31 : decode cX5_settles 31 = .ok (.iload_n 1, 1) := by decide +kernel
theorem dX5_settles_32 : decode cX5_settles 32 = .ok (.invokevirtual 104, 3) := by decide +kernel
theorem dX5_settles_35 : decode cX5_settles 35 = .ok (.istore_n 2, 1) := by decide +kernel
theorem dX5_settles_36 : decode cX5_settles 36 = .ok (.aload_n 0, 1) := by decide +kernel
theorem dX5_settles_37 : decode cX5_settles 37 = .ok (.iload_n 1, 1) := by decide +kernel
theorem dX5_settles_38 : decode cX5_settles 38 = .ok (.iconst 0, 1) := by decide +kernel
theorem dX5_settles_39 : decode cX5_settles 39 = .ok (.invokevirtual 95, 3) := by decide +kernel
theorem dX5_settles_42 : decode cX5_settles 42 = .ok (.aload_n 0, 1) := by decide +kernel
theorem dX5_settles_43 : decode cX5_settles 43 = .ok (.iload_n 1, 1) := by decide +kernel
theorem dX5_settles_44 : decode cX5_settles 44 = .ok (.iconst 1, 1) := by decide +kernel
theorem dX5_settles_45 : decode cX5_settles 45 = .ok (.invokevirtual 46, 3) := by decide +kernel
theorem dX5_settles_48 : decode cX5_settles 48 = .ok (.iadd, 1) := by decide +kernel
theorem dX5_settles_49 : decode cX5_settles 49 = .ok (.istore_n 3, 1) := by decide +kernel
theorem dX5_settles_50 : decode cX5_settles 50 = .ok (.aload_n 0, 1) := by decide +kernel
theorem dX5_settles_51 : decode cX5_settles 51 = .ok (.iload_n 1, 1) := by decide +kernel
theorem dX5_settles_52 : decode cX5_settles 52 = .ok (.iload_n 2, 1) := by decide +kernel
theorem dX5_settles_53 : decode cX5_settles 53 = .ok (.invokevirtual 95, 3) := by decide +kernel
theorem dX5_settles_56 : decode cX5_settles 56 = .ok (.istore 4, 2) := by decide +kernel
theorem dX5_settles_58 : decode cX5_settles 58 = .ok (.aload_n 0, 1) := by decide +kernel
theorem dX5_settles_59 : decode cX5_settles 59 = .ok (.iload_n 1, 1) := by decide +kernel
theorem dX5_settles_60 : decode cX5_settles 60 = .ok (.iconst 1, 1) := by decide +kernel
theorem dX5_settles_61 : decode cX5_settles 61 = .ok (.iload_n 2, 1) := by decide +kernel
theorem dX5_settles_62 : decode cX5_settles 62 = .ok (.isub, 1) := by decide +kernel
theorem dX5_settles_63 : decode cX5_settles 63 = .ok (.invokevirtual 95, 3) := by decide +kernel
theorem dX5_settles_66 : decode cX5_settles 66 = .ok (.istore 5, 2) := by decide +kernel
theorem dX5_settles_68 : decode cX5_settles 68 = .ok (.iload 4, 2) := by decide +kernel
theorem dX5_settles_70 : decode cX5_settles 70 = .ok (.istore 6, 2) := by decide +kernel
theorem dX5_settles_72 : decode cX5_settles 72 = .ok (.iconst 0, 1) := by decide +kernel
theorem dX5_settles_73 : decode cX5_settles 73 = .ok (.istore 7, 2) := by decide +kernel
theorem dX5_settles_75 : decode cX5_settles 75 = .ok (.iconst 0, 1) := by decide +kernel
theorem dX5_settles_76 : decode cX5_settles 76 = .ok (.istore 8, 2) := by decide +kernel
theorem dX5_settles_78 : decode cX5_settles 78 = .ok (.iload 8, 2) := by decide +kernel
theorem dX5_settles_80 : decode cX5_settles 80 = .ok (.aload_n 0, 1) := by decide +kernel
theorem dX5_settles_81 : decode cX5_settles 81 = .ok (.getfield 7, 3) := by decide +kernel
theorem dX5_settles_84 : decode cX5_settles 84 = .ok (.iconst 1, 1) := by decide +kernel
theorem dX5_settles_85 : decode cX5_settles 85 = .ok (.iaload, 1) := by decide +kernel
theorem dX5_settles_86 : decode cX5_settles 86 = .ok (.if_icmp .ge 60, 3) := by decide +kernel
theorem dX5_settles_89 : decode cX5_settles 89 = .ok (.aload_n 0, 1) := by decide +kernel
theorem dX5_settles_90 : decode cX5_settles 90 = .ok (.iload 8, 2) := by decide +kernel
theorem dX5_settles_92 : decode cX5_settles 92 = .ok (.iload_n 1, 1) := by decide +kernel
theorem dX5_settles_93 : decode cX5_settles 93 = .ok (.iload_n 2, 1) := by decide +kernel
theorem dX5_settles_94 : decode cX5_settles 94 = .ok (.invokevirtual 39, 3) := by decide +kernel
theorem dX5_settles_97 : decode cX5_settles 97 = .ok (.istore 9, 2) := by decide +kernel
theorem dX5_settles_99 : decode cX5_settles 99 = .ok (.iload 9, 2) := by decide +kernel
theorem dX5_settles_101 : decode cX5_settles 101 = .ok (.ifCond .le 39, 3) := by decide +kernel
theorem dX5_settles_104 : decode cX5_settles 104 = .ok (.aload_n 0, 1) := by decide +kernel
theorem dX5_settles_105 : decode cX5_settles 105 = .ok (.iload 8, 2) := by decide +kernel
theorem dX5_settles_107 : decode cX5_settles 107 = .ok (.iconst 0, 1) := by decide +kernel
theorem dX5_settles_108 : decode cX5_settles 108 = .ok (.iload 9, 2) := by decide +kernel
theorem dX5_settles_110 : decode cX5_settles 110 = .ok (.ineg, 1) := by decide +kernel
theorem dX5_settles_111 : decode cX5_settles 111 = .ok (.invokevirtual 53, 3) := by decide +kernel
theorem dX5_settles_114 : decode cX5_settles 114 = .ok (.aload_n 0, 1) := by decide +kernel
theorem dX5_settles_115 : decode cX5_settles 115 = .ok (.iload 8, 2) := by decide +kernel
theorem dX5_settles_117 : decode cX5_settles 117 = .ok (.iconst 3, 1) := by decide +kernel
theorem dX5_settles_118 : decode cX5_settles 118 = .ok (.iload 9, 2) := by decide +kernel
theorem dX5_settles_120 : decode cX5_settles 120 = .ok (.invokevirtual 53, 3) := by decide +kernel
theorem dX5_settles_123 : decode cX5_settles 123 = .ok (.aload_n 0, 1) := by decide +kernel
theorem dX5_settles_124 : decode cX5_settles 124 = .ok (.iload 8, 2) := by decide +kernel
theorem dX5_settles_126 : decode cX5_settles 126 = .ok (.iconst 2, 1) := by decide +kernel
theorem dX5_settles_127 : decode cX5_settles 127 = .ok (.iconst 1, 1) := by decide +kernel
theorem dX5_settles_128 : decode cX5_settles 128 = .ok (.invokevirtual 53, 3) := by decide +kernel
theorem dX5_settles_131 : decode cX5_settles 131 = .ok (.iload 7, 2) := by decide +kernel
theorem dX5_settles_133 : decode cX5_settles 133 = .ok (.iconst 1, 1) := by decide +kernel
theorem dX5_settles_134 : decode cX5_settles 134 = .ok (.iload 8, 2) := by decide +kernel
theorem dX5_settles_136 : decode cX5_settles 136 = .ok (.ishl, 1) := by decide +kernel
theorem dX5_settles_137 : decode cX5_settles 137 = .ok (.ior, 1) := by decide +kernel
theorem dX5_settles_138 : decode cX5_settles 138 = .ok (.istore 7, 2) := by decide +kernel
theorem dX5_settles_140 : decode cX5_settles 140 = .ok (.iinc 8 1, 3) := by decide +kernel
theorem dX5_settles_143 : decode cX5_settles 143 = .ok (.goto (-65), 3) := by decide +kernel
theorem dX5_settles_146 : decode cX5_settles 146 = .ok (.iconst 0, 1) := by decide +kernel
theorem dX5_settles_147 : decode cX5_settles 147 = .ok (.istore 8, 2) := by decide +kernel
theorem dX5_settles_149 : decode cX5_settles 149 = .ok (.iload 8, 2) := by decide +kernel
theorem dX5_settles_151 : decode cX5_settles 151 = .ok (.aload_n 0, 1) := by decide +kernel
theorem dX5_settles_152 : decode cX5_settles 152 = .ok (.getfield 7, 3) := by decide +kernel
theorem dX5_settles_155 : decode cX5_settles 155 = .ok (.iconst 1, 1) := by decide +kernel
theorem dX5_settles_156 : decode cX5_settles 156 = .ok (.iaload, 1) := by decide +kernel
theorem dX5_settles_157 : decode cX5_settles 157 = .ok (.if_icmp .ge 60, 3) := by decide +kernel
theorem dX5_settles_160 : decode cX5_settles 160 = .ok (.aload_n 0, 1) := by decide +kernel
theorem dX5_settles_161 : decode cX5_settles 161 = .ok (.iload 8, 2) := by decide +kernel
theorem dX5_settles_163 : decode cX5_settles 163 = .ok (.iload_n 1, 1) := by decide +kernel
theorem dX5_settles_164 : decode cX5_settles 164 = .ok (.iconst 1, 1) := by decide +kernel
theorem dX5_settles_165 : decode cX5_settles 165 = .ok (.iload_n 2, 1) := by decide +kernel
theorem dX5_settles_166 : decode cX5_settles 166 = .ok (.isub, 1) := by decide +kernel
theorem dX5_settles_167 : decode cX5_settles 167 = .ok (.invokevirtual 39, 3) := by decide +kernel
theorem dX5_settles_170 : decode cX5_settles 170 = .ok (.istore 9, 2) := by decide +kernel
theorem dX5_settles_172 : decode cX5_settles 172 = .ok (.iload 9, 2) := by decide +kernel
theorem dX5_settles_174 : decode cX5_settles 174 = .ok (.ifCond .le 37, 3) := by decide +kernel
theorem dX5_settles_177 : decode cX5_settles 177 = .ok (.iload 4, 2) := by decide +kernel
theorem dX5_settles_179 : decode cX5_settles 179 = .ok (.iload 9, 2) := by decide +kernel
theorem dX5_settles_181 : decode cX5_settles 181 = .ok (.imul, 1) := by decide +kernel
theorem dX5_settles_182 : decode cX5_settles 182 = .ok (.iload 5, 2) := by decide +kernel
theorem dX5_settles_184 : decode cX5_settles 184 = .ok (.idiv, 1) := by decide +kernel
theorem dX5_settles_185 : decode cX5_settles 185 = .ok (.istore 10, 2) := by decide +kernel
theorem dX5_settles_187 : decode cX5_settles 187 = .ok (.iload 6, 2) := by decide +kernel
theorem dX5_settles_189 : decode cX5_settles 189 = .ok (.iload 10, 2) := by decide +kernel
theorem dX5_settles_191 : decode cX5_settles 191 = .ok (.isub, 1) := by decide +kernel
theorem dX5_settles_192 : decode cX5_settles 192 = .ok (.istore 6, 2) := by decide +kernel
theorem dX5_settles_194 : decode cX5_settles 194 = .ok (.aload_n 0, 1) := by decide +kernel
theorem dX5_settles_195 : decode cX5_settles 195 = .ok (.iload 8, 2) := by decide +kernel
theorem dX5_settles_197 : decode cX5_settles 197 = .ok (.iconst 4, 1) := by decide +kernel
theorem dX5_settles_198 : decode cX5_settles 198 = .ok (.iload 10, 2) := by decide +kernel
theorem dX5_settles_200 : decode cX5_settles 200 = .ok (.invokevirtual 53, 3) := by decide +kernel
theorem dX5_settles_203 : decode cX5_settles 203 = .ok (.aload_n 0, 1) := by decide +kernel
theorem dX5_settles_204 : decode cX5_settles 204 = .ok (.iload 8, 2) := by decide +kernel
theorem dX5_settles_206 : decode cX5_settles 206 = .ok (.iload 10, 2) := by decide +kernel
theorem dX5_settles_208 : decode cX5_settles 208 = .ok (.invokevirtual 71, 3) := by decide +kernel
theorem dX5_settles_211 : decode cX5_settles 211 = .ok (.iinc 8 1, 3) := by decide +kernel
theorem dX5_settles_214 : decode cX5_settles 214 = .ok (.goto (-65), 3) := by decide +kernel
theorem dX5_settles_217 : decode cX5_settles 217 = .ok (.aload_n 0, 1) := by decide +kernel
theorem dX5_settles_218 : decode cX5_settles 218 = .ok (.getfield 7, 3) := by decide +kernel
theorem dX5_settles_221 : decode cX5_settles 221 = .ok (.iconst 4, 1) := by decide +kernel
theorem dX5_settles_222 : decode cX5_settles 222 = .ok (.iload_n 1, 1) := by decide +kernel
theorem dX5_settles_223 : decode cX5_settles 223 = .ok (.bipush 24, 2) := by decide +kernel
theorem dX5_settles_225 : decode cX5_settles 225 = .ok (.idiv, 1) := by decide +kernel
theorem dX5_settles_226 : decode cX5_settles 226 = .ok (.iadd, 1) := by decide +kernel
theorem dX5_settles_227 : decode cX5_settles 227 = .ok (.dup2, 1) := by decide +kernel
theorem dX5_settles_228 : decode cX5_settles 228 = .ok (.iaload, 1) := by decide +kernel
theorem dX5_settles_229 : decode cX5_settles 229 = .ok (.iload 6, 2) := by decide +kernel
theorem dX5_settles_231 : decode cX5_settles 231 = .ok (.iadd, 1) := by decide +kernel
theorem dX5_settles_232 : decode cX5_settles 232 = .ok (.iastore, 1) := by decide +kernel
theorem dX5_settles_233 : decode cX5_settles 233 = .ok (.aload_n 0, 1) := by decide +kernel
theorem dX5_settles_234 : decode cX5_settles 234 = .ok (.iload_n 1, 1) := by decide +kernel
theorem dX5_settles_235 : decode cX5_settles 235 = .ok (.iconst 0, 1) := by decide +kernel
theorem dX5_settles_236 : decode cX5_settles 236 = .ok (.iload_n 2, 1) := by decide +kernel
theorem dX5_settles_237 : decode cX5_settles 237 = .ok (.invokevirtual 101, 3) := by decide +kernel
theorem dX5_settles_240 : decode cX5_settles 240 = .ok (.aload_n 0, 1) := by decide +kernel
theorem dX5_settles_241 : decode cX5_settles 241 = .ok (.iload_n 1, 1) := by decide +kernel
theorem dX5_settles_242 : decode cX5_settles 242 = .ok (.iconst 1, 1) := by decide +kernel
theorem dX5_settles_243 : decode cX5_settles 243 = .ok (.iload_n 2, 1) := by decide +kernel
theorem dX5_settles_244 : decode cX5_settles 244 = .ok (.iconst 1, 1) := by decide +kernel
theorem dX5_settles_245 : decode cX5_settles 245 = .ok (.if_icmp .ne 9, 3) := by decide +kernel
theorem dX5_settles_248 : decode cX5_settles 248 = .ok (.iload_n 3, 1) := by decide +kernel
theorem dX5_settles_249 : decode cX5_settles 249 = .ok (.iconst 2, 1) := by decide +kernel
theorem dX5_settles_250 : decode cX5_settles 250 = .ok (.idiv, 1) := by decide +kernel
theorem dX5_settles_251 : decode cX5_settles 251 = .ok (.goto 4, 3) := by decide +kernel
theorem dX5_settles_254 : decode cX5_settles 254 = .ok (.iconst 0, 1) := by decide +kernel
theorem dX5_settles_255 : decode cX5_settles 255 = .ok (.invokevirtual 101, 3) := by decide +kernel
theorem dX5_settles_258 : decode cX5_settles 258 = .ok (.aload_n 0, 1) := by decide +kernel
theorem dX5_settles_259 : decode cX5_settles 259 = .ok (.iload_n 1, 1) := by decide +kernel
theorem dX5_settles_260 : decode cX5_settles 260 = .ok (.iconst 2, 1) := by decide +kernel
theorem dX5_settles_261 : decode cX5_settles 261 = .ok (.iload_n 2, 1) := by decide +kernel
theorem dX5_settles_262 : decode cX5_settles 262 = .ok (.iconst 1, 1) := by decide +kernel
theorem dX5_settles_263 : decode cX5_settles 263 = .ok (.iadd, 1) := by decide +kernel
theorem dX5_settles_264 : decode cX5_settles 264 = .ok (.invokevirtual 101, 3) := by decide +kernel
theorem dX5_settles_267 : decode cX5_settles 267 = .ok (.aload_n 0, 1) := by decide +kernel
theorem dX5_settles_268 : decode cX5_settles 268 = .ok (.iload_n 1, 1) := by decide +kernel
theorem dX5_settles_269 : decode cX5_settles 269 = .ok (.iconst 3, 1) := by decide +kernel
theorem dX5_settles_270 : decode cX5_settles 270 = .ok (.iload_n 2, 1) := by decide +kernel
theorem dX5_settles_271 : decode cX5_settles 271 = .ok (.ifCond .ne 8, 3) := by decide +kernel
theorem dX5_settles_274 : decode cX5_settles 274 = .ok (.iload 7, 2) := by decide +kernel
theorem dX5_settles_276 : decode cX5_settles 276 = .ok (.goto 4, 3) := by decide +kernel
theorem dX5_settles_279 : decode cX5_settles 279 = .ok (.iconst 0, 1) := by decide +kernel
theorem dX5_settles_280 : decode cX5_settles 280 = .ok (.invokevirtual 101, 3) := by decide +kernel
theorem dX5_settles_283 : decode cX5_settles 283 = .ok (.aload_n 0, 1) := by decide +kernel
theorem dX5_settles_284 : decode cX5_settles 284 = .ok (.iload_n 1, 1) := by decide +kernel
theorem dX5_settles_285 : decode cX5_settles 285 = .ok (.iconst 4, 1) := by decide +kernel
theorem dX5_settles_286 : decode cX5_settles 286 = .ok (.iload 4, 2) := by decide +kernel
theorem dX5_settles_288 : decode cX5_settles 288 = .ok (.invokevirtual 101, 3) := by decide +kernel
theorem dX5_settles_291 : decode cX5_settles 291 = .ok (.return_, 1) := by decide +kernel
theorem dX5_settlesAll_0 : decode cX5_settlesAll 0 = .ok (.iconst 0, 1) := by decide +kernel
theorem dX5_settlesAll_1 : decode cX5_settlesAll 1 = .ok (.istore_n 1, 1) := by decide +kernel
theorem dX5_settlesAll_2 : decode cX5_settlesAll 2 = .ok (.iload_n 1, 1) := by decide +kernel
theorem dX5_settlesAll_3 : decode cX5_settlesAll 3 = .ok (.bipush 96, 2) := by decide +kernel
theorem dX5_settlesAll_5 : decode cX5_settlesAll 5 = .ok (.if_icmp .ge 14, 3) := by decide +kernel
theorem dX5_settlesAll_8 : decode cX5_settlesAll 8 = .ok (.aload_n 0, 1) := by decide +kernel
theorem dX5_settlesAll_9 : decode cX5_settlesAll 9 = .ok (.iload_n 1, 1) := by decide +kernel
theorem dX5_settlesAll_10 : decode cX5_settlesAll 10 = .ok (.invokevirtual 107, 3) := by decide +kernel
theorem dX5_settlesAll_13 : decode cX5_settlesAll 13 = .ok (.iinc 1 1, 3) := by decide +kernel
theorem dX5_settlesAll_16 : decode cX5_settlesAll 16 = .ok (.goto (-14), 3) := by decide +kernel
theorem dX5_settlesAll_19 : decode cX5_settlesAll 19 = .ok (.sipush 572, 3) := by decide +kernel
theorem dX5_settlesAll_22 : decode cX5_settlesAll 22 = .ok (.istore_n 1, 1) := by decide +kernel
theorem dX5_settlesAll_23 : decode cX5_settlesAll 23 = .ok (.iload_n 1, 1) := by decide +kernel
theorem dX5_settlesAll_24 : decode cX5_settlesAll 24 = .ok (.sipush 1724, 3) := by decide +kernel
theorem dX5_settlesAll_27 : decode cX5_settlesAll 27 = .ok (.if_icmp .ge 16, 3) := by decide +kernel
theorem dX5_settlesAll_30 : decode cX5_settlesAll 30 = .ok (.aload_n 0, 1) := by decide +kernel
theorem dX5_settlesAll_31 : decode cX5_settlesAll 31 = .ok (.getfield 7, 3) := by decide +kernel
theorem dX5_settlesAll_34 : decode cX5_settlesAll 34 = .ok (.iload_n 1, 1) := by decide +kernel
theorem dX5_settlesAll_35 : decode cX5_settlesAll 35 = .ok (.iconst 0, 1) := by decide +kernel
theorem dX5_settlesAll_36 : decode cX5_settlesAll 36 = .ok (.iastore, 1) := by decide +kernel
theorem dX5_settlesAll_37 : decode cX5_settlesAll 37 = .ok (.iinc 1 1, 3) := by decide +kernel
theorem dX5_settlesAll_40 : decode cX5_settlesAll 40 = .ok (.goto (-17), 3) := by decide +kernel
theorem dX5_settlesAll_43 : decode cX5_settlesAll 43 = .ok (.aload_n 0, 1) := by decide +kernel
theorem dX5_settlesAll_44 : decode cX5_settlesAll 44 = .ok (.getfield 7, 3) := by decide +kernel
theorem dX5_settlesAll_47 : decode cX5_settlesAll 47 = .ok (.iconst 0, 1) := by decide +kernel
theorem dX5_settlesAll_48 : decode cX5_settlesAll 48 = .ok (.dup2, 1) := by decide +kernel
theorem dX5_settlesAll_49 : decode cX5_settlesAll 49 = .ok (.iaload, 1) := by decide +kernel
theorem dX5_settlesAll_50 : decode cX5_settlesAll 50 = .ok (.iconst 1, 1) := by decide +kernel
theorem dX5_settlesAll_51 : decode cX5_settlesAll 51 = .ok (.iadd, 1) := by decide +kernel
theorem dX5_settlesAll_52 : decode cX5_settlesAll 52 = .ok (.iastore, 1) := by decide +kernel
theorem dX5_settlesAll_53 : decode cX5_settlesAll 53 = .ok (.return_, 1) := by decide +kernel
theorem dX5_settle_0 : decode cX5_settle 0 = .ok (.aload_n 0, 1) := by decide +kernel
theorem dX5_settle_1 : decode cX5_settle 1 = .ok (.getfield 7, 3) := by decide +kernel
theorem dX5_settle_4 : decode cX5_settle 4 = .ok (.iconst 0, 1) := by decide +kernel
theorem dX5_settle_5 : decode cX5_settle 5 = .ok (.iaload, 1) := by decide +kernel
theorem dX5_settle_6 : decode cX5_settle 6 = .ok (.sipush 999, 3) := by decide +kernel
theorem dX5_settle_9 : decode cX5_settle 9 = .ok (.if_icmp .ne 6, 3) := by decide +kernel
theorem dX5_settle_12 : decode cX5_settle 12 = .ok (.bipush (-2), 2) := by decide +kernel
theorem dX5_settle_14 : decode cX5_settle 14 = .ok (.ireturn, 1) := by decide +kernel
theorem dX5_settle_15 : decode cX5_settle 15 = .ok (.aload_n 0, 1) := by decide +kernel
theorem dX5_settle_16 : decode cX5_settle 16 = .ok (.invokevirtual 58, 3) := by decide +kernel
theorem dX5_settle_19 : decode cX5_settle 19 = .ok (.aload_n 0, 1) := by decide +kernel
theorem dX5_settle_20 : decode cX5_settle 20 = .ok (.invokevirtual 111, 3) := by decide +kernel
theorem dX5_settle_23 : decode cX5_settle 23 = .ok (.aload_n 0, 1) := by decide +kernel
theorem dX5_settle_24 : decode cX5_settle 24 = .ok (.invokevirtual 114, 3) := by decide +kernel
theorem dX5_settle_27 : decode cX5_settle 27 = .ok (.ireturn, 1) := by decide +kernel
theorem dX5_breach_0 : decode cX5_breach 0 = .ok (.aload_n 0, 1) := by decide +kernel
theorem dX5_breach_1 : decode cX5_breach 1 = .ok (.iload_n 1, 1) := by decide +kernel
theorem dX5_breach_2 : decode cX5_breach 2 = .ok (.invokevirtual 61, 3) := by decide +kernel
theorem dX5_breach_5 : decode cX5_breach 5 = .ok (.ifCond .eq 11, 3) := by decide +kernel
theorem dX5_breach_8 : decode cX5_breach 8 = .ok (.iload_n 2, 1) := by decide +kernel
theorem dX5_breach_9 : decode cX5_breach 9 = .ok (.iload_n 3, 1) := by decide +kernel
theorem dX5_breach_10 : decode cX5_breach 10 = .ok (.invokestatic 75, 3) := by decide +kernel
theorem dX5_breach_13 : decode cX5_breach 13 = .ok (.ifCond .ne 5, 3) := by decide +kernel
theorem dX5_breach_16 : decode cX5_breach 16 = .ok (.iconst (-1), 1) := by decide +kernel
theorem dX5_breach_17 : decode cX5_breach 17 = .ok (.ireturn, 1) := by decide +kernel
theorem dX5_breach_18 : decode cX5_breach 18 = .ok (.bipush 24, 2) := by decide +kernel
theorem dX5_breach_20 : decode cX5_breach 20 = .ok (.iload_n 2, 1) := by decide +kernel
theorem dX5_breach_21 : decode cX5_breach 21 = .ok (.imul, 1) := by decide +kernel
theorem dX5_breach_22 : decode cX5_breach 22 = .ok (.iload_n 3, 1) := by decide +kernel
theorem dX5_breach_23 : decode cX5_breach 23 = .ok (.iadd, 1) := by decide +kernel
theorem dX5_breach_24 : decode cX5_breach 24 = .ok (.istore 4, 2) := by decide +kernel
theorem dX5_breach_26 : decode cX5_breach 26 = .ok (.aload_n 0, 1) := by decide +kernel
theorem dX5_breach_27 : decode cX5_breach 27 = .ok (.iload 4, 2) := by decide +kernel
theorem dX5_breach_29 : decode cX5_breach 29 = .ok (.iconst 0, 1) := by decide +kernel
theorem dX5_breach_30 : decode cX5_breach 30 = .ok (.invokevirtual 46, 3) := by decide +kernel
theorem dX5_breach_33 : decode cX5_breach 33 = .ok (.iconst 1, 1) := by decide +kernel
theorem dX5_breach_34 : decode cX5_breach 34 = .ok (.if_icmp .ne 6, 3) := by decide +kernel
theorem dX5_breach_37 : decode cX5_breach 37 = .ok (.bipush (-2), 2) := by decide +kernel
theorem dX5_breach_39 : decode cX5_breach 39 = .ok (.ireturn, 1) := by decide +kernel
theorem dX5_breach_40 : decode cX5_breach 40 = .ok (.aload_n 0, 1) := by decide +kernel
theorem dX5_breach_41 : decode cX5_breach 41 = .ok (.invokevirtual 58, 3) := by decide +kernel
theorem dX5_breach_44 : decode cX5_breach 44 = .ok (.aload_n 0, 1) := by decide +kernel
theorem dX5_breach_45 : decode cX5_breach 45 = .ok (.iload_n 1, 1) := by decide +kernel
theorem dX5_breach_46 : decode cX5_breach 46 = .ok (.invokevirtual 66, 3) := by decide +kernel
theorem dX5_breach_49 : decode cX5_breach 49 = .ok (.istore 5, 2) := by decide +kernel
theorem dX5_breach_51 : decode cX5_breach 51 = .ok (.aload_n 0, 1) := by decide +kernel
theorem dX5_breach_52 : decode cX5_breach 52 = .ok (.getfield 7, 3) := by decide +kernel
theorem dX5_breach_55 : decode cX5_breach 55 = .ok (.iconst 2, 1) := by decide +kernel
theorem dX5_breach_56 : decode cX5_breach 56 = .ok (.iaload, 1) := by decide +kernel
theorem dX5_breach_57 : decode cX5_breach 57 = .ok (.iload 5, 2) := by decide +kernel
theorem dX5_breach_59 : decode cX5_breach 59 = .ok (.if_icmp .ge 12, 3) := by decide +kernel
theorem dX5_breach_62 : decode cX5_breach 62 = .ok (.aload_n 0, 1) := by decide +kernel
theorem dX5_breach_63 : decode cX5_breach 63 = .ok (.getfield 7, 3) := by decide +kernel
theorem dX5_breach_66 : decode cX5_breach 66 = .ok (.iconst 2, 1) := by decide +kernel
theorem dX5_breach_67 : decode cX5_breach 67 = .ok (.iaload, 1) := by decide +kernel
theorem dX5_breach_68 : decode cX5_breach 68 = .ok (.goto 5, 3) := by decide +kernel
theorem dX5_breach_71 : decode cX5_breach 71 = .ok (.iload 5, 2) := by decide +kernel
theorem dX5_breach_73 : decode cX5_breach 73 = .ok (.istore 6, 2) := by decide +kernel
theorem dX5_breach_75 : decode cX5_breach 75 = .ok (.aload_n 0, 1) := by decide +kernel
theorem dX5_breach_76 : decode cX5_breach 76 = .ok (.iload_n 1, 1) := by decide +kernel
theorem dX5_breach_77 : decode cX5_breach 77 = .ok (.iconst 0, 1) := by decide +kernel
theorem dX5_breach_78 : decode cX5_breach 78 = .ok (.iload 6, 2) := by decide +kernel
theorem dX5_breach_80 : decode cX5_breach 80 = .ok (.ineg, 1) := by decide +kernel
theorem dX5_breach_81 : decode cX5_breach 81 = .ok (.invokevirtual 53, 3) := by decide +kernel
theorem dX5_breach_84 : decode cX5_breach 84 = .ok (.aload_n 0, 1) := by decide +kernel
theorem dX5_breach_85 : decode cX5_breach 85 = .ok (.iload_n 1, 1) := by decide +kernel
theorem dX5_breach_86 : decode cX5_breach 86 = .ok (.iconst 1, 1) := by decide +kernel
theorem dX5_breach_87 : decode cX5_breach 87 = .ok (.aload_n 0, 1) := by decide +kernel
theorem dX5_breach_88 : decode cX5_breach 88 = .ok (.getfield 7, 3) := by decide +kernel
theorem dX5_breach_91 : decode cX5_breach 91 = .ok (.iconst 2, 1) := by decide +kernel
theorem dX5_breach_92 : decode cX5_breach 92 = .ok (.iaload, 1) := by decide +kernel
theorem dX5_breach_93 : decode cX5_breach 93 = .ok (.iload 6, 2) := by decide +kernel
theorem dX5_breach_95 : decode cX5_breach 95 = .ok (.isub, 1) := by decide +kernel
theorem dX5_breach_96 : decode cX5_breach 96 = .ok (.invokevirtual 53, 3) := by decide +kernel
theorem dX5_breach_99 : decode cX5_breach 99 = .ok (.aload_n 0, 1) := by decide +kernel
theorem dX5_breach_100 : decode cX5_breach 100 = .ok (.iload_n 1, 1) := by decide +kernel
theorem dX5_breach_101 : decode cX5_breach 101 = .ok (.iconst 5, 1) := by decide +kernel
theorem dX5_breach_102 : decode cX5_breach 102 = .ok (.iconst 1, 1) := by decide +kernel
theorem dX5_breach_103 : decode cX5_breach 103 = .ok (.invokevirtual 53, 3) := by decide +kernel
theorem dX5_breach_106 : decode cX5_breach 106 = .ok (.aload_n 0, 1) := by decide +kernel
theorem dX5_breach_107 : decode cX5_breach 107 = .ok (.getfield 7, 3) := by decide +kernel
theorem dX5_breach_110 : decode cX5_breach 110 = .ok (.bipush 8, 2) := by decide +kernel
theorem dX5_breach_112 : decode cX5_breach 112 = .ok (.bipush 7, 2) := by decide +kernel
theorem dX5_breach_114 : decode cX5_breach 114 = .ok (.iload_n 1, 1) := by decide +kernel
theorem dX5_breach_115 : decode cX5_breach 115 = .ok (.imul, 1) := by decide +kernel
theorem dX5_breach_116 : decode cX5_breach 116 = .ok (.iadd, 1) := by decide +kernel
theorem dX5_breach_117 : decode cX5_breach 117 = .ok (.bipush 6, 2) := by decide +kernel
theorem dX5_breach_119 : decode cX5_breach 119 = .ok (.iadd, 1) := by decide +kernel
theorem dX5_breach_120 : decode cX5_breach 120 = .ok (.iload_n 2, 1) := by decide +kernel
theorem dX5_breach_121 : decode cX5_breach 121 = .ok (.iastore, 1) := by decide +kernel
theorem dX5_breach_122 : decode cX5_breach 122 = .ok (.aload_n 0, 1) := by decide +kernel
theorem dX5_breach_123 : decode cX5_breach 123 = .ok (.getfield 7, 3) := by decide +kernel
theorem dX5_breach_126 : decode cX5_breach 126 = .ok (.iconst 3, 1) := by decide +kernel
theorem dX5_breach_127 : decode cX5_breach 127 = .ok (.dup2, 1) := by decide +kernel
theorem dX5_breach_128 : decode cX5_breach 128 = .ok (.iaload, 1) := by decide +kernel
theorem dX5_breach_129 : decode cX5_breach 129 = .ok (.iconst 1, 1) := by decide +kernel
theorem dX5_breach_130 : decode cX5_breach 130 = .ok (.iadd, 1) := by decide +kernel
theorem dX5_breach_131 : decode cX5_breach 131 = .ok (.iastore, 1) := by decide +kernel
theorem dX5_breach_132 : decode cX5_breach 132 = .ok (.iconst 0, 1) := by decide +kernel
theorem dX5_breach_133 : decode cX5_breach 133 = .ok (.istore 7, 2) := by decide +kernel
theorem dX5_breach_135 : decode cX5_breach 135 = .ok (.iconst 0, 1) := by decide +kernel
theorem dX5_breach_136 : decode cX5_breach 136 = .ok (.istore 8, 2) := by decide +kernel
theorem dX5_breach_138 : decode cX5_breach 138 = .ok (.iload 8, 2) := by decide +kernel
theorem dX5_breach_140 : decode cX5_breach 140 = .ok (.bipush 12, 2) := by decide +kernel
theorem dX5_breach_142 : decode cX5_breach 142 = .ok (.if_icmp .ge 26, 3) := by decide +kernel
theorem dX5_breach_145 : decode cX5_breach 145 = .ok (.iload 7, 2) := by decide +kernel
theorem dX5_breach_147 : decode cX5_breach 147 = .ok (.aload_n 0, 1) := by decide +kernel
theorem dX5_breach_148 : decode cX5_breach 148 = .ok (.iload 4, 2) := by decide +kernel
theorem dX5_breach_150 : decode cX5_breach 150 = .ok (.iconst 3, 1) := by decide +kernel
theorem dX5_breach_151 : decode cX5_breach 151 = .ok (.invokevirtual 46, 3) := by decide +kernel
theorem dX5_breach_154 : decode cX5_breach 154 = .ok (.iload 8, 2) := by decide +kernel
theorem dX5_breach_156 : decode cX5_breach 156 = .ok (.ishr, 1) := by decide +kernel
theorem dX5_breach_157 : decode cX5_breach 157 = .ok (.iconst 1, 1) := by decide +kernel
theorem dX5_breach_158 : decode cX5_breach 158 = .ok (.iand, 1) := by decide +kernel
theorem dX5_breach_159 : decode cX5_breach 159 = .ok (.iadd, 1) := by decide +kernel
theorem dX5_breach_160 : decode cX5_breach 160 = .ok (.istore 7, 2) := by decide +kernel
theorem dX5_breach_162 : decode cX5_breach 162 = .ok (.iinc 8 1, 3) := by decide +kernel
theorem dX5_breach_165 : decode cX5_breach 165 = .ok (.goto (-27), 3) := by decide +kernel
theorem dX5_breach_168 : decode cX5_breach 168 = .ok (.iload 6, 2) := by decide +kernel
theorem dX5_breach_170 : decode cX5_breach 170 = .ok (.istore 8, 2) := by decide +kernel
theorem dX5_breach_172 : decode cX5_breach 172 = .ok (.iconst 0, 1) := by decide +kernel
theorem dX5_breach_173 : decode cX5_breach 173 = .ok (.istore 9, 2) := by decide +kernel
theorem dX5_breach_175 : decode cX5_breach 175 = .ok (.iload 9, 2) := by decide +kernel
theorem dX5_breach_177 : decode cX5_breach 177 = .ok (.bipush 12, 2) := by decide +kernel
theorem dX5_breach_179 : decode cX5_breach 179 = .ok (.if_icmp .ge 46, 3) := by decide +kernel
theorem dX5_breach_182 : decode cX5_breach 182 = .ok (.aload_n 0, 1) := by decide +kernel
theorem dX5_breach_183 : decode cX5_breach 183 = .ok (.iload 4, 2) := by decide +kernel
theorem dX5_breach_185 : decode cX5_breach 185 = .ok (.iconst 3, 1) := by decide +kernel
theorem dX5_breach_186 : decode cX5_breach 186 = .ok (.invokevirtual 46, 3) := by decide +kernel
theorem dX5_breach_189 : decode cX5_breach 189 = .ok (.iload 9, 2) := by decide +kernel
theorem dX5_breach_191 : decode cX5_breach 191 = .ok (.ishr, 1) := by decide +kernel
theorem dX5_breach_192 : decode cX5_breach 192 = .ok (.iconst 1, 1) := by decide +kernel
theorem dX5_breach_193 : decode cX5_breach 193 = .ok (.iand, 1) := by decide +kernel
theorem dX5_breach_194 : decode cX5_breach 194 = .ok (.iconst 1, 1) := by decide +kernel
theorem dX5_breach_195 : decode cX5_breach 195 = .ok (.if_icmp .ne 24, 3) := by decide +kernel
theorem dX5_breach_198 : decode cX5_breach 198 = .ok (.iload 8, 2) := by decide +kernel
theorem dX5_breach_200 : decode cX5_breach 200 = .ok (.iload 6, 2) := by decide +kernel
theorem dX5_breach_202 : decode cX5_breach 202 = .ok (.iload 7, 2) := by decide +kernel
theorem dX5_breach_204 : decode cX5_breach 204 = .ok (.idiv, 1) := by decide +kernel
theorem dX5_breach_205 : decode cX5_breach 205 = .ok (.isub, 1) := by decide +kernel
theorem dX5_breach_206 : decode cX5_breach 206 = .ok (.istore 8, 2) := by decide +kernel
theorem dX5_breach_208 : decode cX5_breach 208 = .ok (.aload_n 0, 1) := by decide +kernel
theorem dX5_breach_209 : decode cX5_breach 209 = .ok (.iload 9, 2) := by decide +kernel
theorem dX5_breach_211 : decode cX5_breach 211 = .ok (.iload 6, 2) := by decide +kernel
theorem dX5_breach_213 : decode cX5_breach 213 = .ok (.iload 7, 2) := by decide +kernel
theorem dX5_breach_215 : decode cX5_breach 215 = .ok (.idiv, 1) := by decide +kernel
theorem dX5_breach_216 : decode cX5_breach 216 = .ok (.invokevirtual 71, 3) := by decide +kernel
theorem dX5_breach_219 : decode cX5_breach 219 = .ok (.iinc 9 1, 3) := by decide +kernel
theorem dX5_breach_222 : decode cX5_breach 222 = .ok (.goto (-47), 3) := by decide +kernel
theorem dX5_breach_225 : decode cX5_breach 225 = .ok (.aload_n 0, 1) := by decide +kernel
theorem dX5_breach_226 : decode cX5_breach 226 = .ok (.getfield 7, 3) := by decide +kernel
theorem dX5_breach_229 : decode cX5_breach 229 = .ok (.iconst 4, 1) := by decide +kernel
theorem dX5_breach_230 : decode cX5_breach 230 = .ok (.iload_n 2, 1) := by decide +kernel
theorem dX5_breach_231 : decode cX5_breach 231 = .ok (.iadd, 1) := by decide +kernel
theorem dX5_breach_232 : decode cX5_breach 232 = .ok (.dup2, 1) := by decide +kernel
theorem dX5_breach_233 : decode cX5_breach 233 = .ok (.iaload, 1) := by decide +kernel
theorem dX5_breach_234 : decode cX5_breach 234 = .ok (.iload 8, 2) := by decide +kernel
theorem dX5_breach_236 : decode cX5_breach 236 = .ok (.iadd, 1) := by decide +kernel
theorem dX5_breach_237 : decode cX5_breach 237 = .ok (.iastore, 1) := by decide +kernel
theorem dX5_breach_238 : decode cX5_breach 238 = .ok (.iload 6, 2) := by decide +kernel
theorem dX5_breach_240 : decode cX5_breach 240 = .ok (.ireturn, 1) := by decide +kernel
theorem dX5_fails_0 : decode cX5_fails 0 = .ok (.aload_n 0, 1) := by decide +kernel
theorem dX5_fails_1 : decode cX5_fails 1 = .ok (.getfield 118, 3) := by decide +kernel
theorem dX5_fails_4 : decode cX5_fails 4 = .ok (.ifCond .ne 21, 3) := by decide +kernel
theorem dX5_fails_7 : decode cX5_fails 7 = .ok (.aload_n 0, 1) := by decide +kernel
theorem dX5_fails_8 : decode cX5_fails 8 = .ok (.iconst 1, 1) := by decide +kernel
theorem dX5_fails_9 : decode cX5_fails 9 = .ok (.putfield 118, 3) := by decide +kernel
theorem dX5_fails_12 : decode cX5_fails 12 = .ok (.aload_n 0, 1) := by decide +kernel
theorem dX5_fails_13 : decode cX5_fails 13 = .ok (.iconst 1, 1) := by decide +kernel
theorem dX5_fails_14 : decode cX5_fails 14 = .ok (.iload_n 1, 1) := by decide +kernel
theorem dX5_fails_15 : decode cX5_fails 15 = .ok (.aload_n 0, 1) := by decide +kernel
theorem dX5_fails_16 : decode cX5_fails 16 = .ok (.getfield 122, 3) := by decide +kernel
theorem dX5_fails_19 : decode cX5_fails 19 = .ok (.iconst 0, 1) := by decide +kernel
theorem dX5_fails_20 : decode cX5_fails 20 = .ok (.bipush (-9), 2) := by decide +kernel
theorem dX5_fails_22 : decode cX5_fails 22 = .ok (.invokevirtual 125, 3) := by decide +kernel
theorem dX5_fails_25 : decode cX5_fails 25 = .ok (.return_, 1) := by decide +kernel
theorem dX5_failedBy_0 : decode cX5_failedBy 0 = .ok (.aload_n 0, 1) := by decide +kernel
theorem dX5_failedBy_1 : decode cX5_failedBy 1 = .ok (.iconst 1, 1) := by decide +kernel
theorem dX5_failedBy_2 : decode cX5_failedBy 2 = .ok (.putfield 129, 3) := by decide +kernel
theorem dX5_failedBy_5 : decode cX5_failedBy 5 = .ok (.aload_n 0, 1) := by decide +kernel
theorem dX5_failedBy_6 : decode cX5_failedBy 6 = .ok (.getfield 25, 3) := by decide +kernel
theorem dX5_failedBy_9 : decode cX5_failedBy 9 = .ok (.iconst 0, 1) := by decide +kernel
theorem dX5_failedBy_10 : decode cX5_failedBy 10 = .ok (.iload_n 1, 1) := by decide +kernel
theorem dX5_failedBy_11 : decode cX5_failedBy 11 = .ok (.iastore, 1) := by decide +kernel
theorem dX5_failedBy_12 : decode cX5_failedBy 12 = .ok (.aload_n 0, 1) := by decide +kernel
theorem dX5_failedBy_13 : decode cX5_failedBy 13 = .ok (.getfield 25, 3) := by decide +kernel
theorem dX5_failedBy_16 : decode cX5_failedBy 16 = .ok (.iconst 1, 1) := by decide +kernel
theorem dX5_failedBy_17 : decode cX5_failedBy 17 = .ok (.iload_n 2, 1) := by decide +kernel
theorem dX5_failedBy_18 : decode cX5_failedBy 18 = .ok (.iastore, 1) := by decide +kernel
theorem dX5_failedBy_19 : decode cX5_failedBy 19 = .ok (.aload_n 0, 1) := by decide +kernel
theorem dX5_failedBy_20 : decode cX5_failedBy 20 = .ok (.getfield 25, 3) := by decide +kernel
theorem dX5_failedBy_23 : decode cX5_failedBy 23 = .ok (.iconst 2, 1) := by decide +kernel
theorem dX5_failedBy_24 : decode cX5_failedBy 24 = .ok (.iload_n 3, 1) := by decide +kernel
theorem dX5_failedBy_25 : decode cX5_failedBy 25 = .ok (.iastore, 1) := by decide +kernel
theorem dX5_failedBy_26 : decode cX5_failedBy 26 = .ok (.aload_n 0, 1) := by decide +kernel
theorem dX5_failedBy_27 : decode cX5_failedBy 27 = .ok (.getfield 25, 3) := by decide +kernel
theorem dX5_failedBy_30 : decode cX5_failedBy 30 = .ok (.iconst 3, 1) := by decide +kernel
theorem dX5_failedBy_31 : decode cX5_failedBy 31 = .ok (.iload 4, 2) := by decide +kernel
theorem dX5_failedBy_33 : decode cX5_failedBy 33 = .ok (.iastore, 1) := by decide +kernel
theorem dX5_failedBy_34 : decode cX5_failedBy 34 = .ok (.aload_n 0, 1) := by decide +kernel
theorem dX5_failedBy_35 : decode cX5_failedBy 35 = .ok (.getfield 25, 3) := by decide +kernel
theorem dX5_failedBy_38 : decode cX5_failedBy 38 = .ok (.iconst 4, 1) := by decide +kernel
theorem dX5_failedBy_39 : decode cX5_failedBy 39 = .ok (.iload 5, 2) := by decide +kernel
theorem dX5_failedBy_41 : decode cX5_failedBy 41 = .ok (.iastore, 1) := by decide +kernel
theorem dX5_failedBy_42 : decode cX5_failedBy 42 = .ok (.return_, 1) := by decide +kernel
theorem dX5_here_0 : decode cX5_here 0 = .ok (.aload_n 0, 1) := by decide +kernel
theorem dX5_here_1 : decode cX5_here 1 = .ok (.getfield 132, 3) := by decide +kernel
theorem dX5_here_4 : decode cX5_here 4 = .ok (.aload_n 0, 1) := by decide +kernel
theorem dX5_here_5 : decode cX5_here 5 = .ok (.getfield 135, 3) := by decide +kernel
theorem dX5_here_8 : decode cX5_here 8 = .ok (.if_icmp .ge 15, 3) := by decide +kernel
theorem dX5_here_11 : decode cX5_here 11 = .ok (.aload_n 0, 1) := by decide +kernel
theorem dX5_here_12 : decode cX5_here 12 = .ok (.getfield 19, 3) := by decide +kernel
theorem dX5_here_15 : decode cX5_here 15 = .ok (.aload_n 0, 1) := by decide +kernel
theorem dX5_here_16 : decode cX5_here 16 = .ok (.getfield 132, 3) := by decide +kernel
theorem dX5_here_19 : decode cX5_here 19 = .ok (.iaload, 1) := by decide +kernel
theorem dX5_here_20 : decode cX5_here 20 = .ok (.goto 4, 3) := by decide +kernel
theorem dX5_here_23 : decode cX5_here 23 = .ok (.iconst 0, 1) := by decide +kernel
theorem dX5_here_24 : decode cX5_here 24 = .ok (.ireturn, 1) := by decide +kernel
theorem dX5_sign_0 : decode cX5_sign 0 = .ok (.aload_n 0, 1) := by decide +kernel
theorem dX5_sign_1 : decode cX5_sign 1 = .ok (.invokevirtual 138, 3) := by decide +kernel
theorem dX5_sign_4 : decode cX5_sign 4 = .ok (.iload_n 1, 1) := by decide +kernel
theorem dX5_sign_5 : decode cX5_sign 5 = .ok (.if_icmp .eq 11, 3) := by decide +kernel
theorem dX5_sign_8 : decode cX5_sign 8 = .ok (.aload_n 0, 1) := by decide +kernel
theorem dX5_sign_9 : decode cX5_sign 9 = .ok (.aload_n 0, 1) := by decide +kernel
theorem dX5_sign_10 : decode cX5_sign 10 = .ok (.getfield 132, 3) := by decide +kernel
theorem dX5_sign_13 : decode cX5_sign 13 = .ok (.invokevirtual 141, 3) := by decide +kernel
theorem dX5_sign_16 : decode cX5_sign 16 = .ok (.aload_n 0, 1) := by decide +kernel
theorem dX5_sign_17 : decode cX5_sign 17 = .ok (.dup, 1) := by decide +kernel
theorem dX5_sign_18 : decode cX5_sign 18 = .ok (.getfield 132, 3) := by decide +kernel
theorem dX5_sign_21 : decode cX5_sign 21 = .ok (.iconst 1, 1) := by decide +kernel
theorem dX5_sign_22 : decode cX5_sign 22 = .ok (.iadd, 1) := by decide +kernel
theorem dX5_sign_23 : decode cX5_sign 23 = .ok (.putfield 132, 3) := by decide +kernel
theorem dX5_sign_26 : decode cX5_sign 26 = .ok (.return_, 1) := by decide +kernel
theorem dX5_number_0 : decode cX5_number 0 = .ok (.aload_n 0, 1) := by decide +kernel
theorem dX5_number_1 : decode cX5_number 1 = .ok (.getfield 118, 3) := by decide +kernel
theorem dX5_number_4 : decode cX5_number 4 = .ok (.ifCond .eq 5, 3) := by decide +kernel
theorem dX5_number_7 : decode cX5_number 7 = .ok (.iload_n 1, 1) := by decide +kernel
theorem dX5_number_8 : decode cX5_number 8 = .ok (.ireturn, 1) := by decide +kernel
theorem dX5_number_9 : decode cX5_number 9 = .ok (.aload_n 0, 1) := by decide +kernel
theorem dX5_number_10 : decode cX5_number 10 = .ok (.invokevirtual 138, 3) := by decide +kernel
theorem dX5_number_13 : decode cX5_number 13 = .ok (.bipush 48, 2) := by decide +kernel
theorem dX5_number_15 : decode cX5_number 15 = .ok (.bipush 57, 2) := by decide +kernel
theorem dX5_number_17 : decode cX5_number 17 = .ok (.invokestatic 31, 3) := by decide +kernel
theorem dX5_number_20 : decode cX5_number 20 = .ok (.ifCond .ne 13, 3) := by decide +kernel
theorem dX5_number_23 : decode cX5_number 23 = .ok (.aload_n 0, 1) := by decide +kernel
theorem dX5_number_24 : decode cX5_number 24 = .ok (.aload_n 0, 1) := by decide +kernel
theorem dX5_number_25 : decode cX5_number 25 = .ok (.getfield 132, 3) := by decide +kernel
theorem dX5_number_28 : decode cX5_number 28 = .ok (.invokevirtual 141, 3) := by decide +kernel
theorem dX5_number_31 : decode cX5_number 31 = .ok (.iload_n 1, 1) := by decide +kernel
theorem dX5_number_32 : decode cX5_number 32 = .ok (.ireturn, 1) := by decide +kernel
theorem dX5_number_33 : decode cX5_number 33 = .ok (.aload_n 0, 1) := by decide +kernel
theorem dX5_number_34 : decode cX5_number 34 = .ok (.getfield 132, 3) := by decide +kernel
theorem dX5_number_37 : decode cX5_number 37 = .ok (.istore_n 3, 1) := by decide +kernel
theorem dX5_number_38 : decode cX5_number 38 = .ok (.aload_n 0, 1) := by decide +kernel
theorem dX5_number_39 : decode cX5_number 39 = .ok (.invokevirtual 138, 3) := by decide +kernel
theorem dX5_number_42 : decode cX5_number 42 = .ok (.bipush 48, 2) := by decide +kernel
theorem dX5_number_44 : decode cX5_number 44 = .ok (.isub, 1) := by decide +kernel
theorem dX5_number_45 : decode cX5_number 45 = .ok (.istore 4, 2) := by decide +kernel
theorem dX5_number_47 : decode cX5_number 47 = .ok (.aload_n 0, 1) := by decide +kernel
theorem dX5_number_48 : decode cX5_number 48 = .ok (.dup, 1) := by decide +kernel
theorem dX5_number_49 : decode cX5_number 49 = .ok (.getfield 132, 3) := by decide +kernel
theorem dX5_number_52 : decode cX5_number 52 = .ok (.iconst 1, 1) := by decide +kernel
theorem dX5_number_53 : decode cX5_number 53 = .ok (.iadd, 1) := by decide +kernel
theorem dX5_number_54 : decode cX5_number 54 = .ok (.putfield 132, 3) := by decide +kernel
theorem dX5_number_57 : decode cX5_number 57 = .ok (.iload 4, 2) := by decide +kernel
theorem dX5_number_59 : decode cX5_number 59 = .ok (.ifCond .le 55, 3) := by decide +kernel
theorem dX5_number_62 : decode cX5_number 62 = .ok (.aload_n 0, 1) := by decide +kernel
theorem dX5_number_63 : decode cX5_number 63 = .ok (.getfield 132, 3) := by decide +kernel
theorem dX5_number_66 : decode cX5_number 66 = .ok (.iload_n 3, 1) := by decide +kernel
theorem dX5_number_67 : decode cX5_number 67 = .ok (.isub, 1) := by decide +kernel
theorem dX5_number_68 : decode cX5_number 68 = .ok (.iconst 3, 1) := by decide +kernel
theorem dX5_number_69 : decode cX5_number 69 = .ok (.if_icmp .ge 45, 3) := by decide +kernel
theorem dX5_number_72 : decode cX5_number 72 = .ok (.aload_n 0, 1) := by decide +kernel
theorem dX5_number_73 : decode cX5_number 73 = .ok (.invokevirtual 138, 3) := by decide +kernel
theorem dX5_number_76 : decode cX5_number 76 = .ok (.bipush 48, 2) := by decide +kernel
theorem dX5_number_78 : decode cX5_number 78 = .ok (.bipush 57, 2) := by decide +kernel
theorem dX5_number_80 : decode cX5_number 80 = .ok (.invokestatic 31, 3) := by decide +kernel
theorem dX5_number_83 : decode cX5_number 83 = .ok (.ifCond .eq 31, 3) := by decide +kernel
theorem dX5_number_86 : decode cX5_number 86 = .ok (.bipush 10, 2) := by decide +kernel
theorem dX5_number_88 : decode cX5_number 88 = .ok (.iload 4, 2) := by decide +kernel
theorem dX5_number_90 : decode cX5_number 90 = .ok (.imul, 1) := by decide +kernel
theorem dX5_number_91 : decode cX5_number 91 = .ok (.aload_n 0, 1) := by decide +kernel
theorem dX5_number_92 : decode cX5_number 92 = .ok (.invokevirtual 138, 3) := by decide +kernel
theorem dX5_number_95 : decode cX5_number 95 = .ok (.iadd, 1) := by decide +kernel
theorem dX5_number_96 : decode cX5_number 96 = .ok (.bipush 48, 2) := by decide +kernel
theorem dX5_number_98 : decode cX5_number 98 = .ok (.isub, 1) := by decide +kernel
theorem dX5_number_99 : decode cX5_number 99 = .ok (.istore 4, 2) := by decide +kernel
theorem dX5_number_101 : decode cX5_number 101 = .ok (.aload_n 0, 1) := by decide +kernel
theorem dX5_number_102 : decode cX5_number 102 = .ok (.dup, 1) := by decide +kernel
theorem dX5_number_103 : decode cX5_number 103 = .ok (.getfield 132, 3) := by decide +kernel
theorem dX5_number_106 : decode cX5_number 106 = .ok (.iconst 1, 1) := by decide +kernel
theorem dX5_number_107 : decode cX5_number 107 = .ok (.iadd, 1) := by decide +kernel
theorem dX5_number_108 : decode cX5_number 108 = .ok (.putfield 132, 3) := by decide +kernel
theorem dX5_number_111 : decode cX5_number 111 = .ok (.goto (-54), 3) := by decide +kernel
theorem dX5_number_114 : decode cX5_number 114 = .ok (.aload_n 0, 1) := by decide +kernel
theorem dX5_number_115 : decode cX5_number 115 = .ok (.invokevirtual 138, 3) := by decide +kernel
theorem dX5_number_118 : decode cX5_number 118 = .ok (.bipush 48, 2) := by decide +kernel
theorem dX5_number_120 : decode cX5_number 120 = .ok (.bipush 57, 2) := by decide +kernel
theorem dX5_number_122 : decode cX5_number 122 = .ok (.invokestatic 31, 3) := by decide +kernel
theorem dX5_number_125 : decode cX5_number 125 = .ok (.ifCond .eq 11, 3) := by decide +kernel
theorem dX5_number_128 : decode cX5_number 128 = .ok (.aload_n 0, 1) := by decide +kernel
theorem dX5_number_129 : decode cX5_number 129 = .ok (.aload_n 0, 1) := by decide +kernel
theorem dX5_number_130 : decode cX5_number 130 = .ok (.getfield 132, 3) := by decide +kernel
theorem dX5_number_133 : decode cX5_number 133 = .ok (.invokevirtual 141, 3) := by decide +kernel
theorem dX5_number_136 : decode cX5_number 136 = .ok (.iload 4, 2) := by decide +kernel
theorem dX5_number_138 : decode cX5_number 138 = .ok (.iload_n 1, 1) := by decide +kernel
theorem dX5_number_139 : decode cX5_number 139 = .ok (.iload_n 2, 1) := by decide +kernel
theorem dX5_number_140 : decode cX5_number 140 = .ok (.invokestatic 31, 3) := by decide +kernel
theorem dX5_number_143 : decode cX5_number 143 = .ok (.ifCond .ne 8, 3) := by decide +kernel
theorem dX5_number_146 : decode cX5_number 146 = .ok (.aload_n 0, 1) := by decide +kernel
theorem dX5_number_147 : decode cX5_number 147 = .ok (.iload_n 3, 1) := by decide +kernel
theorem dX5_number_148 : decode cX5_number 148 = .ok (.invokevirtual 141, 3) := by decide +kernel
theorem dX5_number_151 : decode cX5_number 151 = .ok (.iload 4, 2) := by decide +kernel
theorem dX5_number_153 : decode cX5_number 153 = .ok (.ireturn, 1) := by decide +kernel
theorem dX5_opens_0 : decode cX5_opens 0 = .ok (.aload_n 0, 1) := by decide +kernel
theorem dX5_opens_1 : decode cX5_opens 1 = .ok (.getfield 118, 3) := by decide +kernel
theorem dX5_opens_4 : decode cX5_opens 4 = .ok (.ifCond .ne 65, 3) := by decide +kernel
theorem dX5_opens_7 : decode cX5_opens 7 = .ok (.aload_n 0, 1) := by decide +kernel
theorem dX5_opens_8 : decode cX5_opens 8 = .ok (.invokevirtual 138, 3) := by decide +kernel
theorem dX5_opens_11 : decode cX5_opens 11 = .ok (.bipush 40, 2) := by decide +kernel
theorem dX5_opens_13 : decode cX5_opens 13 = .ok (.if_icmp .ne 56, 3) := by decide +kernel
theorem dX5_opens_16 : decode cX5_opens 16 = .ok (.aload_n 0, 1) := by decide +kernel
theorem dX5_opens_17 : decode cX5_opens 17 = .ok (.getfield 122, 3) := by decide +kernel
theorem dX5_opens_20 : decode cX5_opens 20 = .ok (.iconst 4, 1) := by decide +kernel
theorem dX5_opens_21 : decode cX5_opens 21 = .ok (.if_icmp .ge 48, 3) := by decide +kernel
theorem dX5_opens_24 : decode cX5_opens 24 = .ok (.aload_n 0, 1) := by decide +kernel
theorem dX5_opens_25 : decode cX5_opens 25 = .ok (.dup, 1) := by decide +kernel
theorem dX5_opens_26 : decode cX5_opens 26 = .ok (.getfield 122, 3) := by decide +kernel
theorem dX5_opens_29 : decode cX5_opens 29 = .ok (.iconst 1, 1) := by decide +kernel
theorem dX5_opens_30 : decode cX5_opens 30 = .ok (.iadd, 1) := by decide +kernel
theorem dX5_opens_31 : decode cX5_opens 31 = .ok (.putfield 122, 3) := by decide +kernel
theorem dX5_opens_34 : decode cX5_opens 34 = .ok (.aload_n 0, 1) := by decide +kernel
theorem dX5_opens_35 : decode cX5_opens 35 = .ok (.getfield 22, 3) := by decide +kernel
theorem dX5_opens_38 : decode cX5_opens 38 = .ok (.aload_n 0, 1) := by decide +kernel
theorem dX5_opens_39 : decode cX5_opens 39 = .ok (.getfield 122, 3) := by decide +kernel
theorem dX5_opens_42 : decode cX5_opens 42 = .ok (.aload_n 0, 1) := by decide +kernel
theorem dX5_opens_43 : decode cX5_opens 43 = .ok (.getfield 22, 3) := by decide +kernel
theorem dX5_opens_46 : decode cX5_opens 46 = .ok (.aload_n 0, 1) := by decide +kernel
theorem dX5_opens_47 : decode cX5_opens 47 = .ok (.getfield 122, 3) := by decide +kernel
theorem dX5_opens_50 : decode cX5_opens 50 = .ok (.iconst 1, 1) := by decide +kernel
theorem dX5_opens_51 : decode cX5_opens 51 = .ok (.isub, 1) := by decide +kernel
theorem dX5_opens_52 : decode cX5_opens 52 = .ok (.iaload, 1) := by decide +kernel
theorem dX5_opens_53 : decode cX5_opens 53 = .ok (.iload_n 1, 1) := by decide +kernel
theorem dX5_opens_54 : decode cX5_opens 54 = .ok (.imul, 1) := by decide +kernel
theorem dX5_opens_55 : decode cX5_opens 55 = .ok (.iastore, 1) := by decide +kernel
theorem dX5_opens_56 : decode cX5_opens 56 = .ok (.aload_n 0, 1) := by decide +kernel
theorem dX5_opens_57 : decode cX5_opens 57 = .ok (.dup, 1) := by decide +kernel
theorem dX5_opens_58 : decode cX5_opens 58 = .ok (.getfield 132, 3) := by decide +kernel
theorem dX5_opens_61 : decode cX5_opens 61 = .ok (.iconst 1, 1) := by decide +kernel
theorem dX5_opens_62 : decode cX5_opens 62 = .ok (.iadd, 1) := by decide +kernel
theorem dX5_opens_63 : decode cX5_opens 63 = .ok (.putfield 132, 3) := by decide +kernel
theorem dX5_opens_66 : decode cX5_opens 66 = .ok (.goto 11, 3) := by decide +kernel
theorem dX5_opens_69 : decode cX5_opens 69 = .ok (.aload_n 0, 1) := by decide +kernel
theorem dX5_opens_70 : decode cX5_opens 70 = .ok (.aload_n 0, 1) := by decide +kernel
theorem dX5_opens_71 : decode cX5_opens 71 = .ok (.getfield 132, 3) := by decide +kernel
theorem dX5_opens_74 : decode cX5_opens 74 = .ok (.invokevirtual 141, 3) := by decide +kernel
theorem dX5_opens_77 : decode cX5_opens 77 = .ok (.return_, 1) := by decide +kernel
theorem dX5_readPart_0 : decode cX5_readPart 0 = .ok (.bipush 7, 2) := by decide +kernel
theorem dX5_readPart_2 : decode cX5_readPart 2 = .ok (.aload_n 0, 1) := by decide +kernel
theorem dX5_readPart_3 : decode cX5_readPart 3 = .ok (.getfield 144, 3) := by decide +kernel
theorem dX5_readPart_6 : decode cX5_readPart 6 = .ok (.imul, 1) := by decide +kernel
theorem dX5_readPart_7 : decode cX5_readPart 7 = .ok (.istore_n 1, 1) := by decide +kernel
theorem dX5_readPart_8 : decode cX5_readPart 8 = .ok (.aload_n 0, 1) := by decide +kernel
theorem dX5_readPart_9 : decode cX5_readPart 9 = .ok (.getfield 28, 3) := by decide +kernel
theorem dX5_readPart_12 : decode cX5_readPart 12 = .ok (.iload_n 1, 1) := by decide +kernel
theorem dX5_readPart_13 : decode cX5_readPart 13 = .ok (.aload_n 0, 1) := by decide +kernel
theorem dX5_readPart_14 : decode cX5_readPart 14 = .ok (.invokevirtual 138, 3) := by decide +kernel
theorem dX5_readPart_17 : decode cX5_readPart 17 = .ok (.bipush 113, 2) := by decide +kernel
theorem dX5_readPart_19 : decode cX5_readPart 19 = .ok (.if_icmp .ne 7, 3) := by decide +kernel
theorem dX5_readPart_22 : decode cX5_readPart 22 = .ok (.iconst 0, 1) := by decide +kernel
theorem dX5_readPart_23 : decode cX5_readPart 23 = .ok (.goto 4, 3) := by decide +kernel
theorem dX5_readPart_26 : decode cX5_readPart 26 = .ok (.iconst 1, 1) := by decide +kernel
theorem dX5_readPart_27 : decode cX5_readPart 27 = .ok (.iastore, 1) := by decide +kernel
theorem dX5_readPart_28 : decode cX5_readPart 28 = .ok (.aload_n 0, 1) := by decide +kernel
theorem dX5_readPart_29 : decode cX5_readPart 29 = .ok (.getfield 28, 3) := by decide +kernel
theorem dX5_readPart_32 : decode cX5_readPart 32 = .ok (.iload_n 1, 1) := by decide +kernel
theorem dX5_readPart_33 : decode cX5_readPart 33 = .ok (.iconst 5, 1) := by decide +kernel
theorem dX5_readPart_34 : decode cX5_readPart 34 = .ok (.iadd, 1) := by decide +kernel
theorem dX5_readPart_35 : decode cX5_readPart 35 = .ok (.aload_n 0, 1) := by decide +kernel
theorem dX5_readPart_36 : decode cX5_readPart 36 = .ok (.getfield 132, 3) := by decide +kernel
theorem dX5_readPart_39 : decode cX5_readPart 39 = .ok (.iastore, 1) := by decide +kernel
theorem dX5_readPart_40 : decode cX5_readPart 40 = .ok (.aload_n 0, 1) := by decide +kernel
theorem dX5_readPart_41 : decode cX5_readPart 41 = .ok (.getfield 28, 3) := by decide +kernel
theorem dX5_readPart_44 : decode cX5_readPart 44 = .ok (.iload_n 1, 1) := by decide +kernel
theorem dX5_readPart_45 : decode cX5_readPart 45 = .ok (.bipush 6, 2) := by decide +kernel
theorem dX5_readPart_47 : decode cX5_readPart 47 = .ok (.iadd, 1) := by decide +kernel
theorem dX5_readPart_48 : decode cX5_readPart 48 = .ok (.aload_n 0, 1) := by decide +kernel
theorem dX5_readPart_49 : decode cX5_readPart 49 = .ok (.getfield 122, 3) := by decide +kernel
theorem dX5_readPart_52 : decode cX5_readPart 52 = .ok (.iastore, 1) := by decide +kernel
theorem dX5_readPart_53 : decode cX5_readPart 53 = .ok (.aload_n 0, 1) := by decide +kernel
theorem dX5_readPart_54 : decode cX5_readPart 54 = .ok (.dup, 1) := by decide +kernel
theorem dX5_readPart_55 : decode cX5_readPart 55 = .ok (.getfield 132, 3) := by decide +kernel
theorem dX5_readPart_58 : decode cX5_readPart 58 = .ok (.iconst 1, 1) := by decide +kernel
theorem dX5_readPart_59 : decode cX5_readPart 59 = .ok (.iadd, 1) := by decide +kernel
theorem dX5_readPart_60 : decode cX5_readPart 60 = .ok (.putfield 132, 3) := by decide +kernel
theorem dX5_readPart_63 : decode cX5_readPart 63 = .ok (.aload_n 0, 1) := by decide +kernel
theorem dX5_readPart_64 : decode cX5_readPart 64 = .ok (.invokevirtual 138, 3) := by decide +kernel
theorem dX5_readPart_67 : decode cX5_readPart 67 = .ok (.bipush 48, 2) := by decide +kernel
theorem dX5_readPart_69 : decode cX5_readPart 69 = .ok (.isub, 1) := by decide +kernel
theorem dX5_readPart_70 : decode cX5_readPart 70 = .ok (.istore_n 2, 1) := by decide +kernel
theorem dX5_readPart_71 : decode cX5_readPart 71 = .ok (.iload_n 2, 1) := by decide +kernel
theorem dX5_readPart_72 : decode cX5_readPart 72 = .ok (.iconst 0, 1) := by decide +kernel
theorem dX5_readPart_73 : decode cX5_readPart 73 = .ok (.iconst 3, 1) := by decide +kernel
theorem dX5_readPart_74 : decode cX5_readPart 74 = .ok (.invokestatic 31, 3) := by decide +kernel
theorem dX5_readPart_77 : decode cX5_readPart 77 = .ok (.ifCond .ne 11, 3) := by decide +kernel
theorem dX5_readPart_80 : decode cX5_readPart 80 = .ok (.aload_n 0, 1) := by decide +kernel
theorem dX5_readPart_81 : decode cX5_readPart 81 = .ok (.aload_n 0, 1) := by decide +kernel
theorem dX5_readPart_82 : decode cX5_readPart 82 = .ok (.getfield 132, 3) := by decide +kernel
theorem dX5_readPart_85 : decode cX5_readPart 85 = .ok (.invokevirtual 141, 3) := by decide +kernel
theorem dX5_readPart_88 : decode cX5_readPart 88 = .ok (.aload_n 0, 1) := by decide +kernel
theorem dX5_readPart_89 : decode cX5_readPart 89 = .ok (.dup, 1) := by decide +kernel
theorem dX5_readPart_90 : decode cX5_readPart 90 = .ok (.getfield 132, 3) := by decide +kernel
theorem dX5_readPart_93 : decode cX5_readPart 93 = .ok (.iconst 1, 1) := by decide +kernel
theorem dX5_readPart_94 : decode cX5_readPart 94 = .ok (.iadd, 1) := by decide +kernel
theorem dX5_readPart_95 : decode cX5_readPart 95 = .ok (.putfield 132, 3) := by decide +kernel
theorem dX5_readPart_98 : decode cX5_readPart 98 = .ok (.aload_n 0, 1) := by decide +kernel
theorem dX5_readPart_99 : decode cX5_readPart 99 = .ok (.getfield 28, 3) := by decide +kernel
theorem dX5_readPart_102 : decode cX5_readPart 102 = .ok (.iload_n 1, 1) := by decide +kernel
theorem dX5_readPart_103 : decode cX5_readPart 103 = .ok (.iconst 1, 1) := by decide +kernel
theorem dX5_readPart_104 : decode cX5_readPart 104 = .ok (.iadd, 1) := by decide +kernel
theorem dX5_readPart_105 : decode cX5_readPart 105 = .ok (.iload_n 2, 1) := by decide +kernel
theorem dX5_readPart_106 : decode cX5_readPart 106 = .ok (.iastore, 1) := by decide +kernel
theorem dX5_readPart_107 : decode cX5_readPart 107 = .ok (.aload_n 0, 1) := by decide +kernel
theorem dX5_readPart_108 : decode cX5_readPart 108 = .ok (.getfield 118, 3) := by decide +kernel
theorem dX5_readPart_111 : decode cX5_readPart 111 = .ok (.ifCond .ne 9, 3) := by decide +kernel
theorem dX5_readPart_114 : decode cX5_readPart 114 = .ok (.aload_n 0, 1) := by decide +kernel
theorem dX5_readPart_115 : decode cX5_readPart 115 = .ok (.bipush 58, 2) := by decide +kernel
theorem dX5_readPart_117 : decode cX5_readPart 117 = .ok (.invokevirtual 147, 3) := by decide +kernel
theorem dX5_readPart_120 : decode cX5_readPart 120 = .ok (.aload_n 0, 1) := by decide +kernel
theorem dX5_readPart_121 : decode cX5_readPart 121 = .ok (.iconst 0, 1) := by decide +kernel
theorem dX5_readPart_122 : decode cX5_readPart 122 = .ok (.bipush 23, 2) := by decide +kernel
theorem dX5_readPart_124 : decode cX5_readPart 124 = .ok (.invokevirtual 150, 3) := by decide +kernel
theorem dX5_readPart_127 : decode cX5_readPart 127 = .ok (.istore_n 3, 1) := by decide +kernel
theorem dX5_readPart_128 : decode cX5_readPart 128 = .ok (.aload_n 0, 1) := by decide +kernel
theorem dX5_readPart_129 : decode cX5_readPart 129 = .ok (.getfield 28, 3) := by decide +kernel
theorem dX5_readPart_132 : decode cX5_readPart 132 = .ok (.iload_n 1, 1) := by decide +kernel
theorem dX5_readPart_133 : decode cX5_readPart 133 = .ok (.iconst 2, 1) := by decide +kernel
theorem dX5_readPart_134 : decode cX5_readPart 134 = .ok (.iadd, 1) := by decide +kernel
theorem dX5_readPart_135 : decode cX5_readPart 135 = .ok (.iload_n 3, 1) := by decide +kernel
theorem dX5_readPart_136 : decode cX5_readPart 136 = .ok (.iastore, 1) := by decide +kernel
theorem dX5_readPart_137 : decode cX5_readPart 137 = .ok (.aload_n 0, 1) := by decide +kernel
theorem dX5_readPart_138 : decode cX5_readPart 138 = .ok (.getfield 28, 3) := by decide +kernel
theorem dX5_readPart_141 : decode cX5_readPart 141 = .ok (.iload_n 1, 1) := by decide +kernel
theorem dX5_readPart_142 : decode cX5_readPart 142 = .ok (.iconst 3, 1) := by decide +kernel
theorem dX5_readPart_143 : decode cX5_readPart 143 = .ok (.iadd, 1) := by decide +kernel
theorem dX5_readPart_144 : decode cX5_readPart 144 = .ok (.iload_n 3, 1) := by decide +kernel
theorem dX5_readPart_145 : decode cX5_readPart 145 = .ok (.iastore, 1) := by decide +kernel
theorem dX5_readPart_146 : decode cX5_readPart 146 = .ok (.aload_n 0, 1) := by decide +kernel
theorem dX5_readPart_147 : decode cX5_readPart 147 = .ok (.getfield 118, 3) := by decide +kernel
theorem dX5_readPart_150 : decode cX5_readPart 150 = .ok (.ifCond .ne 37, 3) := by decide +kernel
theorem dX5_readPart_153 : decode cX5_readPart 153 = .ok (.aload_n 0, 1) := by decide +kernel
theorem dX5_readPart_154 : decode cX5_readPart 154 = .ok (.invokevirtual 138, 3) := by decide +kernel
theorem dX5_readPart_157 : decode cX5_readPart 157 = .ok (.bipush 45, 2) := by decide +kernel
theorem dX5_readPart_159 : decode cX5_readPart 159 = .ok (.if_icmp .ne 28, 3) := by decide +kernel
theorem dX5_readPart_162 : decode cX5_readPart 162 = .ok (.aload_n 0, 1) := by decide +kernel
theorem dX5_readPart_163 : decode cX5_readPart 163 = .ok (.dup, 1) := by decide +kernel
theorem dX5_readPart_164 : decode cX5_readPart 164 = .ok (.getfield 132, 3) := by decide +kernel
theorem dX5_readPart_167 : decode cX5_readPart 167 = .ok (.iconst 1, 1) := by decide +kernel
theorem dX5_readPart_168 : decode cX5_readPart 168 = .ok (.iadd, 1) := by decide +kernel
theorem dX5_readPart_169 : decode cX5_readPart 169 = .ok (.putfield 132, 3) := by decide +kernel
theorem dX5_readPart_172 : decode cX5_readPart 172 = .ok (.aload_n 0, 1) := by decide +kernel
theorem dX5_readPart_173 : decode cX5_readPart 173 = .ok (.getfield 28, 3) := by decide +kernel
theorem dX5_readPart_176 : decode cX5_readPart 176 = .ok (.iload_n 1, 1) := by decide +kernel
theorem dX5_readPart_177 : decode cX5_readPart 177 = .ok (.iconst 3, 1) := by decide +kernel
theorem dX5_readPart_178 : decode cX5_readPart 178 = .ok (.iadd, 1) := by decide +kernel
theorem dX5_readPart_179 : decode cX5_readPart 179 = .ok (.aload_n 0, 1) := by decide +kernel
theorem dX5_readPart_180 : decode cX5_readPart 180 = .ok (.iload_n 3, 1) := by decide +kernel
theorem dX5_readPart_181 : decode cX5_readPart 181 = .ok (.bipush 23, 2) := by decide +kernel
theorem dX5_readPart_183 : decode cX5_readPart 183 = .ok (.invokevirtual 150, 3) := by decide +kernel
theorem dX5_readPart_186 : decode cX5_readPart 186 = .ok (.iastore, 1) := by decide +kernel
theorem dX5_readPart_187 : decode cX5_readPart 187 = .ok (.aload_n 0, 1) := by decide +kernel
theorem dX5_readPart_188 : decode cX5_readPart 188 = .ok (.getfield 118, 3) := by decide +kernel
theorem dX5_readPart_191 : decode cX5_readPart 191 = .ok (.ifCond .ne 9, 3) := by decide +kernel
theorem dX5_readPart_194 : decode cX5_readPart 194 = .ok (.aload_n 0, 1) := by decide +kernel
theorem dX5_readPart_195 : decode cX5_readPart 195 = .ok (.bipush 61, 2) := by decide +kernel
theorem dX5_readPart_197 : decode cX5_readPart 197 = .ok (.invokevirtual 147, 3) := by decide +kernel
theorem dX5_readPart_200 : decode cX5_readPart 200 = .ok (.aload_n 0, 1) := by decide +kernel
theorem dX5_readPart_201 : decode cX5_readPart 201 = .ok (.getfield 28, 3) := by decide +kernel
theorem dX5_readPart_204 : decode cX5_readPart 204 = .ok (.iload_n 1, 1) := by decide +kernel
theorem dX5_readPart_205 : decode cX5_readPart 205 = .ok (.iconst 4, 1) := by decide +kernel
theorem dX5_readPart_206 : decode cX5_readPart 206 = .ok (.iadd, 1) := by decide +kernel
theorem dX5_readPart_207 : decode cX5_readPart 207 = .ok (.aload_n 0, 1) := by decide +kernel
theorem dX5_readPart_208 : decode cX5_readPart 208 = .ok (.iconst 1, 1) := by decide +kernel
theorem dX5_readPart_209 : decode cX5_readPart 209 = .ok (.sipush 999, 3) := by decide +kernel
theorem dX5_readPart_212 : decode cX5_readPart 212 = .ok (.invokevirtual 150, 3) := by decide +kernel
theorem dX5_readPart_215 : decode cX5_readPart 215 = .ok (.aload_n 0, 1) := by decide +kernel
theorem dX5_readPart_216 : decode cX5_readPart 216 = .ok (.getfield 22, 3) := by decide +kernel
theorem dX5_readPart_219 : decode cX5_readPart 219 = .ok (.aload_n 0, 1) := by decide +kernel
theorem dX5_readPart_220 : decode cX5_readPart 220 = .ok (.getfield 122, 3) := by decide +kernel
theorem dX5_readPart_223 : decode cX5_readPart 223 = .ok (.iaload, 1) := by decide +kernel
theorem dX5_readPart_224 : decode cX5_readPart 224 = .ok (.imul, 1) := by decide +kernel
theorem dX5_readPart_225 : decode cX5_readPart 225 = .ok (.iastore, 1) := by decide +kernel
theorem dX5_readPart_226 : decode cX5_readPart 226 = .ok (.aload_n 0, 1) := by decide +kernel
theorem dX5_readPart_227 : decode cX5_readPart 227 = .ok (.getfield 118, 3) := by decide +kernel
theorem dX5_readPart_230 : decode cX5_readPart 230 = .ok (.ifCond .ne 9, 3) := by decide +kernel
theorem dX5_readPart_233 : decode cX5_readPart 233 = .ok (.aload_n 0, 1) := by decide +kernel
theorem dX5_readPart_234 : decode cX5_readPart 234 = .ok (.bipush 59, 2) := by decide +kernel
theorem dX5_readPart_236 : decode cX5_readPart 236 = .ok (.invokevirtual 147, 3) := by decide +kernel
theorem dX5_readPart_239 : decode cX5_readPart 239 = .ok (.aload_n 0, 1) := by decide +kernel
theorem dX5_readPart_240 : decode cX5_readPart 240 = .ok (.dup, 1) := by decide +kernel
theorem dX5_readPart_241 : decode cX5_readPart 241 = .ok (.getfield 144, 3) := by decide +kernel
theorem dX5_readPart_244 : decode cX5_readPart 244 = .ok (.iconst 1, 1) := by decide +kernel
theorem dX5_readPart_245 : decode cX5_readPart 245 = .ok (.iadd, 1) := by decide +kernel
theorem dX5_readPart_246 : decode cX5_readPart 246 = .ok (.putfield 144, 3) := by decide +kernel
theorem dX5_readPart_249 : decode cX5_readPart 249 = .ok (.return_, 1) := by decide +kernel
theorem dX5_reads_0 : decode cX5_reads 0 = .ok (.aload_n 0, 1) := by decide +kernel
theorem dX5_reads_1 : decode cX5_reads 1 = .ok (.iconst 0, 1) := by decide +kernel
theorem dX5_reads_2 : decode cX5_reads 2 = .ok (.putfield 132, 3) := by decide +kernel
theorem dX5_reads_5 : decode cX5_reads 5 = .ok (.aload_n 0, 1) := by decide +kernel
theorem dX5_reads_6 : decode cX5_reads 6 = .ok (.iconst 0, 1) := by decide +kernel
theorem dX5_reads_7 : decode cX5_reads 7 = .ok (.putfield 122, 3) := by decide +kernel
theorem dX5_reads_10 : decode cX5_reads 10 = .ok (.aload_n 0, 1) := by decide +kernel
theorem dX5_reads_11 : decode cX5_reads 11 = .ok (.getfield 22, 3) := by decide +kernel
theorem dX5_reads_14 : decode cX5_reads 14 = .ok (.iconst 0, 1) := by decide +kernel
theorem dX5_reads_15 : decode cX5_reads 15 = .ok (.iconst 1, 1) := by decide +kernel
theorem dX5_reads_16 : decode cX5_reads 16 = .ok (.iastore, 1) := by decide +kernel
theorem dX5_reads_17 : decode cX5_reads 17 = .ok (.aload_n 0, 1) := by decide +kernel
theorem dX5_reads_18 : decode cX5_reads 18 = .ok (.iconst 0, 1) := by decide +kernel
theorem dX5_reads_19 : decode cX5_reads 19 = .ok (.putfield 144, 3) := by decide +kernel
theorem dX5_reads_22 : decode cX5_reads 22 = .ok (.aload_n 0, 1) := by decide +kernel
theorem dX5_reads_23 : decode cX5_reads 23 = .ok (.iconst 0, 1) := by decide +kernel
theorem dX5_reads_24 : decode cX5_reads 24 = .ok (.putfield 118, 3) := by decide +kernel
theorem dX5_reads_27 : decode cX5_reads 27 = .ok (.aload_n 0, 1) := by decide +kernel
theorem dX5_reads_28 : decode cX5_reads 28 = .ok (.getfield 118, 3) := by decide +kernel
theorem dX5_reads_31 : decode cX5_reads 31 = .ok (.ifCond .ne 139, 3) := by decide +kernel
theorem dX5_reads_34 : decode cX5_reads 34 = .ok (.aload_n 0, 1) := by decide +kernel
theorem dX5_reads_35 : decode cX5_reads 35 = .ok (.getfield 132, 3) := by decide +kernel
theorem dX5_reads_38 : decode cX5_reads 38 = .ok (.aload_n 0, 1) := by decide +kernel
theorem dX5_reads_39 : decode cX5_reads 39 = .ok (.getfield 135, 3) := by decide +kernel
theorem dX5_reads_42 : decode cX5_reads 42 = .ok (.if_icmp .ge 128, 3) := by decide +kernel
theorem dX5_reads_45 : decode cX5_reads 45 = .ok (.aload_n 0, 1) := by decide +kernel
theorem dX5_reads_46 : decode cX5_reads 46 = .ok (.invokevirtual 138, 3) := by decide +kernel
theorem dX5_reads_49 : decode cX5_reads 49 = .ok (.istore_n 1, 1) := by decide +kernel
theorem dX5_reads_50 : decode cX5_reads 50 = .ok (.iload_n 1, 1) := by decide +kernel
theorem dX5_reads_51 : decode cX5_reads 51 = .ok (.bipush 41, 2) := by decide +kernel
theorem dX5_reads_53 : decode cX5_reads 53 = .ok (.if_icmp .ne 33, 3) := by decide +kernel
theorem dX5_reads_56 : decode cX5_reads 56 = .ok (.aload_n 0, 1) := by decide +kernel
theorem dX5_reads_57 : decode cX5_reads 57 = .ok (.getfield 122, 3) := by decide +kernel
theorem dX5_reads_60 : decode cX5_reads 60 = .ok (.ifCond .le 26, 3) := by decide +kernel
theorem dX5_reads_63 : decode cX5_reads 63 = .ok (.aload_n 0, 1) := by decide +kernel
theorem dX5_reads_64 : decode cX5_reads 64 = .ok (.dup, 1) := by decide +kernel
theorem dX5_reads_65 : decode cX5_reads 65 = .ok (.getfield 122, 3) := by decide +kernel
theorem dX5_reads_68 : decode cX5_reads 68 = .ok (.iconst 1, 1) := by decide +kernel
theorem dX5_reads_69 : decode cX5_reads 69 = .ok (.isub, 1) := by decide +kernel
theorem dX5_reads_70 : decode cX5_reads 70 = .ok (.putfield 122, 3) := by decide +kernel
theorem dX5_reads_73 : decode cX5_reads 73 = .ok (.aload_n 0, 1) := by decide +kernel
theorem dX5_reads_74 : decode cX5_reads 74 = .ok (.dup, 1) := by decide +kernel
theorem dX5_reads_75 : decode cX5_reads 75 = .ok (.getfield 132, 3) := by decide +kernel
theorem dX5_reads_78 : decode cX5_reads 78 = .ok (.iconst 1, 1) := by decide +kernel
theorem dX5_reads_79 : decode cX5_reads 79 = .ok (.iadd, 1) := by decide +kernel
theorem dX5_reads_80 : decode cX5_reads 80 = .ok (.putfield 132, 3) := by decide +kernel
theorem dX5_reads_83 : decode cX5_reads 83 = .ok (.goto 84, 3) := by decide +kernel
theorem dX5_reads_86 : decode cX5_reads 86 = .ok (.iload_n 1, 1) := by decide +kernel
theorem dX5_reads_87 : decode cX5_reads 87 = .ok (.bipush 40, 2) := by decide +kernel
theorem dX5_reads_89 : decode cX5_reads 89 = .ok (.if_icmp .ne 11, 3) := by decide +kernel
theorem dX5_reads_92 : decode cX5_reads 92 = .ok (.aload_n 0, 1) := by decide +kernel
theorem dX5_reads_93 : decode cX5_reads 93 = .ok (.iconst 1, 1) := by decide +kernel
theorem dX5_reads_94 : decode cX5_reads 94 = .ok (.invokevirtual 153, 3) := by decide +kernel
theorem dX5_reads_97 : decode cX5_reads 97 = .ok (.goto 70, 3) := by decide +kernel
theorem dX5_reads_100 : decode cX5_reads 100 = .ok (.iload_n 1, 1) := by decide +kernel
theorem dX5_reads_101 : decode cX5_reads 101 = .ok (.bipush 48, 2) := by decide +kernel
theorem dX5_reads_103 : decode cX5_reads 103 = .ok (.bipush 57, 2) := by decide +kernel
theorem dX5_reads_105 : decode cX5_reads 105 = .ok (.invokestatic 31, 3) := by decide +kernel
theorem dX5_reads_108 : decode cX5_reads 108 = .ok (.ifCond .eq 32, 3) := by decide +kernel
theorem dX5_reads_111 : decode cX5_reads 111 = .ok (.aload_n 0, 1) := by decide +kernel
theorem dX5_reads_112 : decode cX5_reads 112 = .ok (.iconst 2, 1) := by decide +kernel
theorem dX5_reads_113 : decode cX5_reads 113 = .ok (.bipush 9, 2) := by decide +kernel
theorem dX5_reads_115 : decode cX5_reads 115 = .ok (.invokevirtual 150, 3) := by decide +kernel
theorem dX5_reads_118 : decode cX5_reads 118 = .ok (.istore_n 2, 1) := by decide +kernel
theorem dX5_reads_119 : decode cX5_reads 119 = .ok (.aload_n 0, 1) := by decide +kernel
theorem dX5_reads_120 : decode cX5_reads 120 = .ok (.getfield 118, 3) := by decide +kernel
theorem dX5_reads_123 : decode cX5_reads 123 = .ok (.ifCond .ne 9, 3) := by decide +kernel
theorem dX5_reads_126 : decode cX5_reads 126 = .ok (.aload_n 0, 1) := by decide +kernel
theorem dX5_reads_127 : decode cX5_reads 127 = .ok (.bipush 42, 2) := by decide +kernel
theorem dX5_reads_129 : decode cX5_reads 129 = .ok (.invokevirtual 147, 3) := by decide +kernel
theorem dX5_reads_132 : decode cX5_reads 132 = .ok (.aload_n 0, 1) := by decide +kernel
theorem dX5_reads_133 : decode cX5_reads 133 = .ok (.iload_n 2, 1) := by decide +kernel
theorem dX5_reads_134 : decode cX5_reads 134 = .ok (.invokevirtual 153, 3) := by decide +kernel
theorem dX5_reads_137 : decode cX5_reads 137 = .ok (.goto 30, 3) := by decide +kernel
theorem dX5_reads_140 : decode cX5_reads 140 = .ok (.iload_n 1, 1) := by decide +kernel
theorem dX5_reads_141 : decode cX5_reads 141 = .ok (.bipush 113, 2) := by decide +kernel
theorem dX5_reads_143 : decode cX5_reads 143 = .ok (.if_icmp .eq 9, 3) := by decide +kernel
theorem dX5_reads_146 : decode cX5_reads 146 = .ok (.iload_n 1, 1) := by decide +kernel
theorem dX5_reads_147 : decode cX5_reads 147 = .ok (.bipush 110, 2) := by decide +kernel
theorem dX5_reads_149 : decode cX5_reads 149 = .ok (.if_icmp .ne 10, 3) := by decide +kernel
theorem dX5_reads_152 : decode cX5_reads 152 = .ok (.aload_n 0, 1) := by decide +kernel
theorem dX5_reads_153 : decode cX5_reads 153 = .ok (.invokevirtual 156, 3) := by decide +kernel
theorem dX5_reads_156 : decode cX5_reads 156 = .ok (.goto 11, 3) := by decide +kernel
theorem dX5_reads_159 : decode cX5_reads 159 = .ok (.aload_n 0, 1) := by decide +kernel
theorem dX5_reads_160 : decode cX5_reads 160 = .ok (.aload_n 0, 1) := by decide +kernel
theorem dX5_reads_161 : decode cX5_reads 161 = .ok (.getfield 132, 3) := by decide +kernel
theorem dX5_reads_164 : decode cX5_reads 164 = .ok (.invokevirtual 141, 3) := by decide +kernel
theorem dX5_reads_167 : decode cX5_reads 167 = .ok (.goto (-140), 3) := by decide +kernel
theorem dX5_reads_170 : decode cX5_reads 170 = .ok (.aload_n 0, 1) := by decide +kernel
theorem dX5_reads_171 : decode cX5_reads 171 = .ok (.getfield 118, 3) := by decide +kernel
theorem dX5_reads_174 : decode cX5_reads 174 = .ok (.ifCond .ne 18, 3) := by decide +kernel
theorem dX5_reads_177 : decode cX5_reads 177 = .ok (.aload_n 0, 1) := by decide +kernel
theorem dX5_reads_178 : decode cX5_reads 178 = .ok (.getfield 122, 3) := by decide +kernel
theorem dX5_reads_181 : decode cX5_reads 181 = .ok (.ifCond .le 11, 3) := by decide +kernel
theorem dX5_reads_184 : decode cX5_reads 184 = .ok (.aload_n 0, 1) := by decide +kernel
theorem dX5_reads_185 : decode cX5_reads 185 = .ok (.aload_n 0, 1) := by decide +kernel
theorem dX5_reads_186 : decode cX5_reads 186 = .ok (.getfield 135, 3) := by decide +kernel
theorem dX5_reads_189 : decode cX5_reads 189 = .ok (.invokevirtual 141, 3) := by decide +kernel
theorem dX5_reads_192 : decode cX5_reads 192 = .ok (.return_, 1) := by decide +kernel
theorem dX5_append_0 : decode cX5_append 0 = .ok (.iload_n 1, 1) := by decide +kernel
theorem dX5_append_1 : decode cX5_append 1 = .ok (.iconst 1, 1) := by decide +kernel
theorem dX5_append_2 : decode cX5_append 2 = .ok (.sipush 255, 3) := by decide +kernel
theorem dX5_append_5 : decode cX5_append 5 = .ok (.invokestatic 31, 3) := by decide +kernel
theorem dX5_append_8 : decode cX5_append 8 = .ok (.ifCond .ne 5, 3) := by decide +kernel
theorem dX5_append_11 : decode cX5_append 11 = .ok (.iconst (-1), 1) := by decide +kernel
theorem dX5_append_12 : decode cX5_append 12 = .ok (.ireturn, 1) := by decide +kernel
theorem dX5_append_13 : decode cX5_append 13 = .ok (.aload_n 0, 1) := by decide +kernel
theorem dX5_append_14 : decode cX5_append 14 = .ok (.getfield 135, 3) := by decide +kernel
theorem dX5_append_17 : decode cX5_append 17 = .ok (.bipush 100, 2) := by decide +kernel
theorem dX5_append_19 : decode cX5_append 19 = .ok (.if_icmp .ne 6, 3) := by decide +kernel
theorem dX5_append_22 : decode cX5_append 22 = .ok (.bipush (-3), 2) := by decide +kernel
theorem dX5_append_24 : decode cX5_append 24 = .ok (.ireturn, 1) := by decide +kernel
theorem dX5_append_25 : decode cX5_append 25 = .ok (.aload_n 0, 1) := by decide +kernel
theorem dX5_append_26 : decode cX5_append 26 = .ok (.getfield 19, 3) := by decide +kernel
theorem dX5_append_29 : decode cX5_append 29 = .ok (.aload_n 0, 1) := by decide +kernel
theorem dX5_append_30 : decode cX5_append 30 = .ok (.getfield 135, 3) := by decide +kernel
theorem dX5_append_33 : decode cX5_append 33 = .ok (.iload_n 1, 1) := by decide +kernel
theorem dX5_append_34 : decode cX5_append 34 = .ok (.iastore, 1) := by decide +kernel
theorem dX5_append_35 : decode cX5_append 35 = .ok (.aload_n 0, 1) := by decide +kernel
theorem dX5_append_36 : decode cX5_append 36 = .ok (.dup, 1) := by decide +kernel
theorem dX5_append_37 : decode cX5_append 37 = .ok (.getfield 135, 3) := by decide +kernel
theorem dX5_append_40 : decode cX5_append 40 = .ok (.iconst 1, 1) := by decide +kernel
theorem dX5_append_41 : decode cX5_append 41 = .ok (.iadd, 1) := by decide +kernel
theorem dX5_append_42 : decode cX5_append 42 = .ok (.putfield 135, 3) := by decide +kernel
theorem dX5_append_45 : decode cX5_append 45 = .ok (.aload_n 0, 1) := by decide +kernel
theorem dX5_append_46 : decode cX5_append 46 = .ok (.getfield 135, 3) := by decide +kernel
theorem dX5_append_49 : decode cX5_append 49 = .ok (.ireturn, 1) := by decide +kernel
theorem dX5_clearText_0 : decode cX5_clearText 0 = .ok (.aload_n 0, 1) := by decide +kernel
theorem dX5_clearText_1 : decode cX5_clearText 1 = .ok (.getfield 135, 3) := by decide +kernel
theorem dX5_clearText_4 : decode cX5_clearText 4 = .ok (.istore_n 1, 1) := by decide +kernel
theorem dX5_clearText_5 : decode cX5_clearText 5 = .ok (.aload_n 0, 1) := by decide +kernel
theorem dX5_clearText_6 : decode cX5_clearText 6 = .ok (.iconst 0, 1) := by decide +kernel
theorem dX5_clearText_7 : decode cX5_clearText 7 = .ok (.putfield 135, 3) := by decide +kernel
theorem dX5_clearText_10 : decode cX5_clearText 10 = .ok (.iload_n 1, 1) := by decide +kernel
theorem dX5_clearText_11 : decode cX5_clearText 11 = .ok (.ireturn, 1) := by decide +kernel
theorem dX5_run_0 : decode cX5_run 0 = .ok (.aload_n 0, 1) := by decide +kernel
theorem dX5_run_1 : decode cX5_run 1 = .ok (.iload_n 1, 1) := by decide +kernel
theorem dX5_run_2 : decode cX5_run 2 = .ok (.invokevirtual 61, 3) := by decide +kernel
theorem dX5_run_5 : decode cX5_run 5 = .ok (.ifCond .ne 5, 3) := by decide +kernel
theorem dX5_run_8 : decode cX5_run 8 = .ok (.iconst (-1), 1) := by decide +kernel
theorem dX5_run_9 : decode cX5_run 9 = .ok (.ireturn, 1) := by decide +kernel
theorem dX5_run_10 : decode cX5_run 10 = .ok (.aload_n 0, 1) := by decide +kernel
theorem dX5_run_11 : decode cX5_run 11 = .ok (.invokevirtual 159, 3) := by decide +kernel
theorem dX5_run_14 : decode cX5_run 14 = .ok (.aload_n 0, 1) := by decide +kernel
theorem dX5_run_15 : decode cX5_run 15 = .ok (.getfield 118, 3) := by decide +kernel
theorem dX5_run_18 : decode cX5_run 18 = .ok (.ifCond .eq 14, 3) := by decide +kernel
theorem dX5_run_21 : decode cX5_run 21 = .ok (.sipush (-1000), 3) := by decide +kernel
theorem dX5_run_24 : decode cX5_run 24 = .ok (.aload_n 0, 1) := by decide +kernel
theorem dX5_run_25 : decode cX5_run 25 = .ok (.getfield 25, 3) := by decide +kernel
theorem dX5_run_28 : decode cX5_run 28 = .ok (.iconst 1, 1) := by decide +kernel
theorem dX5_run_29 : decode cX5_run 29 = .ok (.iaload, 1) := by decide +kernel
theorem dX5_run_30 : decode cX5_run 30 = .ok (.isub, 1) := by decide +kernel
theorem dX5_run_31 : decode cX5_run 31 = .ok (.ireturn, 1) := by decide +kernel
theorem dX5_run_32 : decode cX5_run 32 = .ok (.aload_n 0, 1) := by decide +kernel
theorem dX5_run_33 : decode cX5_run 33 = .ok (.invokevirtual 79, 3) := by decide +kernel
theorem dX5_run_36 : decode cX5_run 36 = .ok (.iconst 0, 1) := by decide +kernel
theorem dX5_run_37 : decode cX5_run 37 = .ok (.istore_n 2, 1) := by decide +kernel
theorem dX5_run_38 : decode cX5_run 38 = .ok (.iconst 0, 1) := by decide +kernel
theorem dX5_run_39 : decode cX5_run 39 = .ok (.istore_n 3, 1) := by decide +kernel
theorem dX5_run_40 : decode cX5_run 40 = .ok (.iload_n 3, 1) := by decide +kernel
theorem dX5_run_41 : decode cX5_run 41 = .ok (.bipush 7, 2) := by decide +kernel
theorem dX5_run_43 : decode cX5_run 43 = .ok (.aload_n 0, 1) := by decide +kernel
theorem dX5_run_44 : decode cX5_run 44 = .ok (.getfield 144, 3) := by decide +kernel
theorem dX5_run_47 : decode cX5_run 47 = .ok (.imul, 1) := by decide +kernel
theorem dX5_run_48 : decode cX5_run 48 = .ok (.if_icmp .ge 117, 3) := by decide +kernel
theorem dX5_run_51 : decode cX5_run 51 = .ok (.aload_n 0, 1) := by decide +kernel
theorem dX5_run_52 : decode cX5_run 52 = .ok (.getfield 28, 3) := by decide +kernel
theorem dX5_run_55 : decode cX5_run 55 = .ok (.iload_n 3, 1) := by decide +kernel
theorem dX5_run_56 : decode cX5_run 56 = .ok (.iconst 2, 1) := by decide +kernel
theorem dX5_run_57 : decode cX5_run 57 = .ok (.iadd, 1) := by decide +kernel
theorem dX5_run_58 : decode cX5_run 58 = .ok (.iaload, 1) := by decide +kernel
theorem dX5_run_59 : decode cX5_run 59 = .ok (.istore 4, 2) := by decide +kernel
theorem dX5_run_61 : decode cX5_run 61 = .ok (.iload 4, 2) := by decide +kernel
theorem dX5_run_63 : decode cX5_run 63 = .ok (.aload_n 0, 1) := by decide +kernel
theorem dX5_run_64 : decode cX5_run 64 = .ok (.getfield 28, 3) := by decide +kernel
theorem dX5_run_67 : decode cX5_run 67 = .ok (.iload_n 3, 1) := by decide +kernel
theorem dX5_run_68 : decode cX5_run 68 = .ok (.iconst 3, 1) := by decide +kernel
theorem dX5_run_69 : decode cX5_run 69 = .ok (.iadd, 1) := by decide +kernel
theorem dX5_run_70 : decode cX5_run 70 = .ok (.iaload, 1) := by decide +kernel
theorem dX5_run_71 : decode cX5_run 71 = .ok (.if_icmp .gt 88, 3) := by decide +kernel
theorem dX5_run_74 : decode cX5_run 74 = .ok (.aload_n 0, 1) := by decide +kernel
theorem dX5_run_75 : decode cX5_run 75 = .ok (.iload_n 1, 1) := by decide +kernel
theorem dX5_run_76 : decode cX5_run 76 = .ok (.aload_n 0, 1) := by decide +kernel
theorem dX5_run_77 : decode cX5_run 77 = .ok (.getfield 28, 3) := by decide +kernel
theorem dX5_run_80 : decode cX5_run 80 = .ok (.iload_n 3, 1) := by decide +kernel
theorem dX5_run_81 : decode cX5_run 81 = .ok (.iconst 1, 1) := by decide +kernel
theorem dX5_run_82 : decode cX5_run 82 = .ok (.iadd, 1) := by decide +kernel
theorem dX5_run_83 : decode cX5_run 83 = .ok (.iaload, 1) := by decide +kernel
theorem dX5_run_84 : decode cX5_run 84 = .ok (.iload 4, 2) := by decide +kernel
theorem dX5_run_86 : decode cX5_run 86 = .ok (.aload_n 0, 1) := by decide +kernel
theorem dX5_run_87 : decode cX5_run 87 = .ok (.getfield 28, 3) := by decide +kernel
theorem dX5_run_90 : decode cX5_run 90 = .ok (.iload_n 3, 1) := by decide +kernel
theorem dX5_run_91 : decode cX5_run 91 = .ok (.iaload, 1) := by decide +kernel
theorem dX5_run_92 : decode cX5_run 92 = .ok (.aload_n 0, 1) := by decide +kernel
theorem dX5_run_93 : decode cX5_run 93 = .ok (.getfield 28, 3) := by decide +kernel
theorem dX5_run_96 : decode cX5_run 96 = .ok (.iload_n 3, 1) := by decide +kernel
theorem dX5_run_97 : decode cX5_run 97 = .ok (.iconst 4, 1) := by decide +kernel
theorem dX5_run_98 : decode cX5_run 98 = .ok (.iadd, 1) := by decide +kernel
theorem dX5_run_99 : decode cX5_run 99 = .ok (.iaload, 1) := by decide +kernel
theorem dX5_run_100 : decode cX5_run 100 = .ok (.invokevirtual 82, 3) := by decide +kernel
theorem dX5_run_103 : decode cX5_run 103 = .ok (.istore 5, 2) := by decide +kernel
theorem dX5_run_105 : decode cX5_run 105 = .ok (.iload 5, 2) := by decide +kernel
theorem dX5_run_107 : decode cX5_run 107 = .ok (.ifCond .ge 43, 3) := by decide +kernel
theorem dX5_run_110 : decode cX5_run 110 = .ok (.aload_n 0, 1) := by decide +kernel
theorem dX5_run_111 : decode cX5_run 111 = .ok (.iconst 2, 1) := by decide +kernel
theorem dX5_run_112 : decode cX5_run 112 = .ok (.aload_n 0, 1) := by decide +kernel
theorem dX5_run_113 : decode cX5_run 113 = .ok (.getfield 28, 3) := by decide +kernel
theorem dX5_run_116 : decode cX5_run 116 = .ok (.iload_n 3, 1) := by decide +kernel
theorem dX5_run_117 : decode cX5_run 117 = .ok (.iconst 5, 1) := by decide +kernel
theorem dX5_run_118 : decode cX5_run 118 = .ok (.iadd, 1) := by decide +kernel
theorem dX5_run_119 : decode cX5_run 119 = .ok (.iaload, 1) := by decide +kernel
theorem dX5_run_120 : decode cX5_run 120 = .ok (.aload_n 0, 1) := by decide +kernel
theorem dX5_run_121 : decode cX5_run 121 = .ok (.getfield 28, 3) := by decide +kernel
theorem dX5_run_124 : decode cX5_run 124 = .ok (.iload_n 3, 1) := by decide +kernel
theorem dX5_run_125 : decode cX5_run 125 = .ok (.bipush 6, 2) := by decide +kernel
theorem dX5_run_127 : decode cX5_run 127 = .ok (.iadd, 1) := by decide +kernel
theorem dX5_run_128 : decode cX5_run 128 = .ok (.iaload, 1) := by decide +kernel
theorem dX5_run_129 : decode cX5_run 129 = .ok (.iload_n 2, 1) := by decide +kernel
theorem dX5_run_130 : decode cX5_run 130 = .ok (.iload 5, 2) := by decide +kernel
theorem dX5_run_132 : decode cX5_run 132 = .ok (.invokevirtual 125, 3) := by decide +kernel
theorem dX5_run_135 : decode cX5_run 135 = .ok (.aload_n 0, 1) := by decide +kernel
theorem dX5_run_136 : decode cX5_run 136 = .ok (.invokevirtual 89, 3) := by decide +kernel
theorem dX5_run_139 : decode cX5_run 139 = .ok (.sipush (-1000), 3) := by decide +kernel
theorem dX5_run_142 : decode cX5_run 142 = .ok (.aload_n 0, 1) := by decide +kernel
theorem dX5_run_143 : decode cX5_run 143 = .ok (.getfield 25, 3) := by decide +kernel
theorem dX5_run_146 : decode cX5_run 146 = .ok (.iconst 1, 1) := by decide +kernel
theorem dX5_run_147 : decode cX5_run 147 = .ok (.iaload, 1) := by decide +kernel
theorem dX5_run_148 : decode cX5_run 148 = .ok (.isub, 1) := by decide +kernel
theorem dX5_run_149 : decode cX5_run 149 = .ok (.ireturn, 1) := by decide +kernel
theorem dX5_run_150 : decode cX5_run 150 = .ok (.iinc 2 1, 3) := by decide +kernel
theorem dX5_run_153 : decode cX5_run 153 = .ok (.iinc 4 1, 3) := by decide +kernel
theorem dX5_run_156 : decode cX5_run 156 = .ok (.goto (-95), 3) := by decide +kernel
theorem dX5_run_159 : decode cX5_run 159 = .ok (.iinc 3 7, 3) := by decide +kernel
theorem dX5_run_162 : decode cX5_run 162 = .ok (.goto (-122), 3) := by decide +kernel
theorem dX5_run_165 : decode cX5_run 165 = .ok (.aload_n 0, 1) := by decide +kernel
theorem dX5_run_166 : decode cX5_run 166 = .ok (.invokevirtual 86, 3) := by decide +kernel
theorem dX5_run_169 : decode cX5_run 169 = .ok (.aload_n 0, 1) := by decide +kernel
theorem dX5_run_170 : decode cX5_run 170 = .ok (.invokevirtual 58, 3) := by decide +kernel
theorem dX5_run_173 : decode cX5_run 173 = .ok (.aload_n 0, 1) := by decide +kernel
theorem dX5_run_174 : decode cX5_run 174 = .ok (.invokevirtual 89, 3) := by decide +kernel
theorem dX5_run_177 : decode cX5_run 177 = .ok (.iload_n 2, 1) := by decide +kernel
theorem dX5_run_178 : decode cX5_run 178 = .ok (.ireturn, 1) := by decide +kernel
theorem dX5_failure_0 : decode cX5_failure 0 = .ok (.iload_n 1, 1) := by decide +kernel
theorem dX5_failure_1 : decode cX5_failure 1 = .ok (.iconst 0, 1) := by decide +kernel
theorem dX5_failure_2 : decode cX5_failure 2 = .ok (.iconst 4, 1) := by decide +kernel
theorem dX5_failure_3 : decode cX5_failure 3 = .ok (.invokestatic 31, 3) := by decide +kernel
theorem dX5_failure_6 : decode cX5_failure 6 = .ok (.ifCond .ne 5, 3) := by decide +kernel
theorem dX5_failure_9 : decode cX5_failure 9 = .ok (.iconst (-1), 1) := by decide +kernel
theorem dX5_failure_10 : decode cX5_failure 10 = .ok (.ireturn, 1) := by decide +kernel
theorem dX5_failure_11 : decode cX5_failure 11 = .ok (.aload_n 0, 1) := by decide +kernel
theorem dX5_failure_12 : decode cX5_failure 12 = .ok (.getfield 129, 3) := by decide +kernel
theorem dX5_failure_15 : decode cX5_failure 15 = .ok (.ifCond .eq 12, 3) := by decide +kernel
theorem dX5_failure_18 : decode cX5_failure 18 = .ok (.aload_n 0, 1) := by decide +kernel
theorem dX5_failure_19 : decode cX5_failure 19 = .ok (.getfield 25, 3) := by decide +kernel
theorem dX5_failure_22 : decode cX5_failure 22 = .ok (.iload_n 1, 1) := by decide +kernel
theorem dX5_failure_23 : decode cX5_failure 23 = .ok (.iaload, 1) := by decide +kernel
theorem dX5_failure_24 : decode cX5_failure 24 = .ok (.goto 5, 3) := by decide +kernel
theorem dX5_failure_27 : decode cX5_failure 27 = .ok (.bipush (-9), 2) := by decide +kernel
theorem dX5_failure_29 : decode cX5_failure 29 = .ok (.ireturn, 1) := by decide +kernel
theorem dX5_money_0 : decode cX5_money 0 = .ok (.aload_n 0, 1) := by decide +kernel
theorem dX5_money_1 : decode cX5_money 1 = .ok (.getfield 7, 3) := by decide +kernel
theorem dX5_money_4 : decode cX5_money 4 = .ok (.iconst 4, 1) := by decide +kernel
theorem dX5_money_5 : decode cX5_money 5 = .ok (.iaload, 1) := by decide +kernel
theorem dX5_money_6 : decode cX5_money 6 = .ok (.aload_n 0, 1) := by decide +kernel
theorem dX5_money_7 : decode cX5_money 7 = .ok (.getfield 7, 3) := by decide +kernel
theorem dX5_money_10 : decode cX5_money 10 = .ok (.iconst 5, 1) := by decide +kernel
theorem dX5_money_11 : decode cX5_money 11 = .ok (.iaload, 1) := by decide +kernel
theorem dX5_money_12 : decode cX5_money 12 = .ok (.iadd, 1) := by decide +kernel
theorem dX5_money_13 : decode cX5_money 13 = .ok (.aload_n 0, 1) := by decide +kernel
theorem dX5_money_14 : decode cX5_money 14 = .ok (.getfield 7, 3) := by decide +kernel
theorem dX5_money_17 : decode cX5_money 17 = .ok (.bipush 6, 2) := by decide +kernel
theorem dX5_money_19 : decode cX5_money 19 = .ok (.iaload, 1) := by decide +kernel
theorem dX5_money_20 : decode cX5_money 20 = .ok (.iadd, 1) := by decide +kernel
theorem dX5_money_21 : decode cX5_money 21 = .ok (.aload_n 0, 1) := by decide +kernel
theorem dX5_money_22 : decode cX5_money 22 = .ok (.getfield 7, 3) := by decide +kernel
theorem dX5_money_25 : decode cX5_money 25 = .ok (.bipush 7, 2) := by decide +kernel
theorem dX5_money_27 : decode cX5_money 27 = .ok (.iaload, 1) := by decide +kernel
theorem dX5_money_28 : decode cX5_money 28 = .ok (.iadd, 1) := by decide +kernel
theorem dX5_money_29 : decode cX5_money 29 = .ok (.istore_n 1, 1) := by decide +kernel
theorem dX5_money_30 : decode cX5_money 30 = .ok (.iconst 0, 1) := by decide +kernel
theorem dX5_money_31 : decode cX5_money 31 = .ok (.istore_n 2, 1) := by decide +kernel
theorem dX5_money_32 : decode cX5_money 32 = .ok (.iload_n 2, 1) := by decide +kernel
theorem dX5_money_33 : decode cX5_money 33 = .ok (.aload_n 0, 1) := by decide +kernel
theorem dX5_money_34 : decode cX5_money 34 = .ok (.getfield 7, 3) := by decide +kernel
theorem dX5_money_37 : decode cX5_money 37 = .ok (.iconst 1, 1) := by decide +kernel
theorem dX5_money_38 : decode cX5_money 38 = .ok (.iaload, 1) := by decide +kernel
theorem dX5_money_39 : decode cX5_money 39 = .ok (.if_icmp .ge 18, 3) := by decide +kernel
theorem dX5_money_42 : decode cX5_money 42 = .ok (.iload_n 1, 1) := by decide +kernel
theorem dX5_money_43 : decode cX5_money 43 = .ok (.aload_n 0, 1) := by decide +kernel
theorem dX5_money_44 : decode cX5_money 44 = .ok (.iload_n 2, 1) := by decide +kernel
theorem dX5_money_45 : decode cX5_money 45 = .ok (.iconst 0, 1) := by decide +kernel
theorem dX5_money_46 : decode cX5_money 46 = .ok (.invokevirtual 43, 3) := by decide +kernel
theorem dX5_money_49 : decode cX5_money 49 = .ok (.iadd, 1) := by decide +kernel
theorem dX5_money_50 : decode cX5_money 50 = .ok (.istore_n 1, 1) := by decide +kernel
theorem dX5_money_51 : decode cX5_money 51 = .ok (.iinc 2 1, 3) := by decide +kernel
theorem dX5_money_54 : decode cX5_money 54 = .ok (.goto (-22), 3) := by decide +kernel
theorem dX5_money_57 : decode cX5_money 57 = .ok (.iload_n 1, 1) := by decide +kernel
theorem dX5_money_58 : decode cX5_money 58 = .ok (.ireturn, 1) := by decide +kernel
theorem dX5_debts_0 : decode cX5_debts 0 = .ok (.iconst 0, 1) := by decide +kernel
theorem dX5_debts_1 : decode cX5_debts 1 = .ok (.istore_n 1, 1) := by decide +kernel
theorem dX5_debts_2 : decode cX5_debts 2 = .ok (.iconst 0, 1) := by decide +kernel
theorem dX5_debts_3 : decode cX5_debts 3 = .ok (.istore_n 2, 1) := by decide +kernel
theorem dX5_debts_4 : decode cX5_debts 4 = .ok (.iload_n 2, 1) := by decide +kernel
theorem dX5_debts_5 : decode cX5_debts 5 = .ok (.aload_n 0, 1) := by decide +kernel
theorem dX5_debts_6 : decode cX5_debts 6 = .ok (.getfield 7, 3) := by decide +kernel
theorem dX5_debts_9 : decode cX5_debts 9 = .ok (.iconst 1, 1) := by decide +kernel
theorem dX5_debts_10 : decode cX5_debts 10 = .ok (.iaload, 1) := by decide +kernel
theorem dX5_debts_11 : decode cX5_debts 11 = .ok (.if_icmp .ge 18, 3) := by decide +kernel
theorem dX5_debts_14 : decode cX5_debts 14 = .ok (.iload_n 1, 1) := by decide +kernel
theorem dX5_debts_15 : decode cX5_debts 15 = .ok (.aload_n 0, 1) := by decide +kernel
theorem dX5_debts_16 : decode cX5_debts 16 = .ok (.iload_n 2, 1) := by decide +kernel
theorem dX5_debts_17 : decode cX5_debts 17 = .ok (.iconst 1, 1) := by decide +kernel
theorem dX5_debts_18 : decode cX5_debts 18 = .ok (.invokevirtual 43, 3) := by decide +kernel
theorem dX5_debts_21 : decode cX5_debts 21 = .ok (.iadd, 1) := by decide +kernel
theorem dX5_debts_22 : decode cX5_debts 22 = .ok (.istore_n 1, 1) := by decide +kernel
theorem dX5_debts_23 : decode cX5_debts 23 = .ok (.iinc 2 1, 3) := by decide +kernel
theorem dX5_debts_26 : decode cX5_debts 26 = .ok (.goto (-22), 3) := by decide +kernel
theorem dX5_debts_29 : decode cX5_debts 29 = .ok (.iload_n 1, 1) := by decide +kernel
theorem dX5_debts_30 : decode cX5_debts 30 = .ok (.ireturn, 1) := by decide +kernel
theorem dX5_allBids_0 : decode cX5_allBids 0 = .ok (.iconst 0, 1) := by decide +kernel
theorem dX5_allBids_1 : decode cX5_allBids 1 = .ok (.istore_n 1, 1) := by decide +kernel
theorem dX5_allBids_2 : decode cX5_allBids 2 = .ok (.iconst 0, 1) := by decide +kernel
theorem dX5_allBids_3 : decode cX5_allBids 3 = .ok (.istore_n 2, 1) := by decide +kernel
theorem dX5_allBids_4 : decode cX5_allBids 4 = .ok (.iload_n 2, 1) := by decide +kernel
theorem dX5_allBids_5 : decode cX5_allBids 5 = .ok (.aload_n 0, 1) := by decide +kernel
theorem dX5_allBids_6 : decode cX5_allBids 6 = .ok (.getfield 7, 3) := by decide +kernel
theorem dX5_allBids_9 : decode cX5_allBids 9 = .ok (.iconst 1, 1) := by decide +kernel
theorem dX5_allBids_10 : decode cX5_allBids 10 = .ok (.iaload, 1) := by decide +kernel
theorem dX5_allBids_11 : decode cX5_allBids 11 = .ok (.if_icmp .ge 17, 3) := by decide +kernel
theorem dX5_allBids_14 : decode cX5_allBids 14 = .ok (.iload_n 1, 1) := by decide +kernel
theorem dX5_allBids_15 : decode cX5_allBids 15 = .ok (.aload_n 0, 1) := by decide +kernel
theorem dX5_allBids_16 : decode cX5_allBids 16 = .ok (.iload_n 2, 1) := by decide +kernel
theorem dX5_allBids_17 : decode cX5_allBids 17 = .ok (.invokevirtual 162, 3) := by decide +kernel
theorem dX5_allBids_20 : decode cX5_allBids 20 = .ok (.iadd, 1) := by decide +kernel
theorem dX5_allBids_21 : decode cX5_allBids 21 = .ok (.istore_n 1, 1) := by decide +kernel
theorem dX5_allBids_22 : decode cX5_allBids 22 = .ok (.iinc 2 1, 3) := by decide +kernel
theorem dX5_allBids_25 : decode cX5_allBids 25 = .ok (.goto (-21), 3) := by decide +kernel
theorem dX5_allBids_28 : decode cX5_allBids 28 = .ok (.iload_n 1, 1) := by decide +kernel
theorem dX5_allBids_29 : decode cX5_allBids 29 = .ok (.ireturn, 1) := by decide +kernel
theorem dX5_count_0 : decode cX5_count 0 = .ok (.iload_n 1, 1) := by decide +kernel
theorem dX5_count_1 : decode cX5_count 1 = .ok (.tableswitch 113 0 9 #[55, 62, 69, 74, 79, 86, 91, 96, 103, 108], 55) := by decide +kernel
theorem dX5_count_56 : decode cX5_count 56 = .ok (.aload_n 0, 1) := by decide +kernel
theorem dX5_count_57 : decode cX5_count 57 = .ok (.getfield 7, 3) := by decide +kernel
theorem dX5_count_60 : decode cX5_count 60 = .ok (.iconst 0, 1) := by decide +kernel
theorem dX5_count_61 : decode cX5_count 61 = .ok (.iaload, 1) := by decide +kernel
theorem dX5_count_62 : decode cX5_count 62 = .ok (.ireturn, 1) := by decide +kernel
theorem dX5_count_63 : decode cX5_count 63 = .ok (.aload_n 0, 1) := by decide +kernel
theorem dX5_count_64 : decode cX5_count 64 = .ok (.getfield 7, 3) := by decide +kernel
theorem dX5_count_67 : decode cX5_count 67 = .ok (.iconst 1, 1) := by decide +kernel
theorem dX5_count_68 : decode cX5_count 68 = .ok (.iaload, 1) := by decide +kernel
theorem dX5_count_69 : decode cX5_count 69 = .ok (.ireturn, 1) := by decide +kernel
theorem dX5_count_70 : decode cX5_count 70 = .ok (.aload_n 0, 1) := by decide +kernel
theorem dX5_count_71 : decode cX5_count 71 = .ok (.invokevirtual 165, 3) := by decide +kernel
theorem dX5_count_74 : decode cX5_count 74 = .ok (.ireturn, 1) := by decide +kernel
theorem dX5_count_75 : decode cX5_count 75 = .ok (.aload_n 0, 1) := by decide +kernel
theorem dX5_count_76 : decode cX5_count 76 = .ok (.invokevirtual 114, 3) := by decide +kernel
theorem dX5_count_79 : decode cX5_count 79 = .ok (.ireturn, 1) := by decide +kernel
theorem dX5_count_80 : decode cX5_count 80 = .ok (.aload_n 0, 1) := by decide +kernel
theorem dX5_count_81 : decode cX5_count 81 = .ok (.getfield 7, 3) := by decide +kernel
theorem dX5_count_84 : decode cX5_count 84 = .ok (.iconst 2, 1) := by decide +kernel
theorem dX5_count_85 : decode cX5_count 85 = .ok (.iaload, 1) := by decide +kernel
theorem dX5_count_86 : decode cX5_count 86 = .ok (.ireturn, 1) := by decide +kernel
theorem dX5_count_87 : decode cX5_count 87 = .ok (.aload_n 0, 1) := by decide +kernel
theorem dX5_count_88 : decode cX5_count 88 = .ok (.invokevirtual 168, 3) := by decide +kernel
theorem dX5_count_91 : decode cX5_count 91 = .ok (.ireturn, 1) := by decide +kernel
theorem dX5_count_92 : decode cX5_count 92 = .ok (.aload_n 0, 1) := by decide +kernel
theorem dX5_count_93 : decode cX5_count 93 = .ok (.invokevirtual 171, 3) := by decide +kernel
theorem dX5_count_96 : decode cX5_count 96 = .ok (.ireturn, 1) := by decide +kernel
theorem dX5_count_97 : decode cX5_count 97 = .ok (.aload_n 0, 1) := by decide +kernel
theorem dX5_count_98 : decode cX5_count 98 = .ok (.getfield 7, 3) := by decide +kernel
theorem dX5_count_101 : decode cX5_count 101 = .ok (.iconst 3, 1) := by decide +kernel
theorem dX5_count_102 : decode cX5_count 102 = .ok (.iaload, 1) := by decide +kernel
theorem dX5_count_103 : decode cX5_count 103 = .ok (.ireturn, 1) := by decide +kernel
theorem dX5_count_104 : decode cX5_count 104 = .ok (.aload_n 0, 1) := by decide +kernel
theorem dX5_count_105 : decode cX5_count 105 = .ok (.getfield 49, 3) := by decide +kernel
theorem dX5_count_108 : decode cX5_count 108 = .ok (.ireturn, 1) := by decide +kernel
theorem dX5_count_109 : decode cX5_count 109 = .ok (.aload_n 0, 1) := by decide +kernel
theorem dX5_count_110 : decode cX5_count 110 = .ok (.getfield 135, 3) := by decide +kernel
theorem dX5_count_113 : decode cX5_count 113 = .ok (.ireturn, 1) := by decide +kernel
theorem dX5_count_114 : decode cX5_count 114 = .ok (.iconst (-1), 1) := by decide +kernel
theorem dX5_count_115 : decode cX5_count 115 = .ok (.ireturn, 1) := by decide +kernel
theorem dX5_person_0 : decode cX5_person 0 = .ok (.aload_n 0, 1) := by decide +kernel
theorem dX5_person_1 : decode cX5_person 1 = .ok (.iload_n 1, 1) := by decide +kernel
theorem dX5_person_2 : decode cX5_person 2 = .ok (.invokevirtual 61, 3) := by decide +kernel
theorem dX5_person_5 : decode cX5_person 5 = .ok (.ifCond .ne 5, 3) := by decide +kernel
theorem dX5_person_8 : decode cX5_person 8 = .ok (.iconst (-1), 1) := by decide +kernel
theorem dX5_person_9 : decode cX5_person 9 = .ok (.ireturn, 1) := by decide +kernel
theorem dX5_person_10 : decode cX5_person 10 = .ok (.iload_n 2, 1) := by decide +kernel
theorem dX5_person_11 : decode cX5_person 11 = .ok (.tableswitch 99 0 7 #[45, 52, 58, 65, 71, 78, 85, 92], 45) := by decide +kernel
theorem dX5_person_56 : decode cX5_person 56 = .ok (.aload_n 0, 1) := by decide +kernel
theorem dX5_person_57 : decode cX5_person 57 = .ok (.iload_n 1, 1) := by decide +kernel
theorem dX5_person_58 : decode cX5_person 58 = .ok (.iconst 0, 1) := by decide +kernel
theorem dX5_person_59 : decode cX5_person 59 = .ok (.invokevirtual 43, 3) := by decide +kernel
theorem dX5_person_62 : decode cX5_person 62 = .ok (.ireturn, 1) := by decide +kernel
theorem dX5_person_63 : decode cX5_person 63 = .ok (.aload_n 0, 1) := by decide +kernel
theorem dX5_person_64 : decode cX5_person 64 = .ok (.iload_n 1, 1) := by decide +kernel
theorem dX5_person_65 : decode cX5_person 65 = .ok (.invokevirtual 66, 3) := by decide +kernel
theorem dX5_person_68 : decode cX5_person 68 = .ok (.ireturn, 1) := by decide +kernel
theorem dX5_person_69 : decode cX5_person 69 = .ok (.aload_n 0, 1) := by decide +kernel
theorem dX5_person_70 : decode cX5_person 70 = .ok (.iload_n 1, 1) := by decide +kernel
theorem dX5_person_71 : decode cX5_person 71 = .ok (.iconst 1, 1) := by decide +kernel
theorem dX5_person_72 : decode cX5_person 72 = .ok (.invokevirtual 43, 3) := by decide +kernel
theorem dX5_person_75 : decode cX5_person 75 = .ok (.ireturn, 1) := by decide +kernel
theorem dX5_person_76 : decode cX5_person 76 = .ok (.aload_n 0, 1) := by decide +kernel
theorem dX5_person_77 : decode cX5_person 77 = .ok (.iload_n 1, 1) := by decide +kernel
theorem dX5_person_78 : decode cX5_person 78 = .ok (.invokevirtual 162, 3) := by decide +kernel
theorem dX5_person_81 : decode cX5_person 81 = .ok (.ireturn, 1) := by decide +kernel
theorem dX5_person_82 : decode cX5_person 82 = .ok (.aload_n 0, 1) := by decide +kernel
theorem dX5_person_83 : decode cX5_person 83 = .ok (.iload_n 1, 1) := by decide +kernel
theorem dX5_person_84 : decode cX5_person 84 = .ok (.iconst 2, 1) := by decide +kernel
theorem dX5_person_85 : decode cX5_person 85 = .ok (.invokevirtual 43, 3) := by decide +kernel
theorem dX5_person_88 : decode cX5_person 88 = .ok (.ireturn, 1) := by decide +kernel
theorem dX5_person_89 : decode cX5_person 89 = .ok (.aload_n 0, 1) := by decide +kernel
theorem dX5_person_90 : decode cX5_person 90 = .ok (.iload_n 1, 1) := by decide +kernel
theorem dX5_person_91 : decode cX5_person 91 = .ok (.iconst 3, 1) := by decide +kernel
theorem dX5_person_92 : decode cX5_person 92 = .ok (.invokevirtual 43, 3) := by decide +kernel
theorem dX5_person_95 : decode cX5_person 95 = .ok (.ireturn, 1) := by decide +kernel
theorem dX5_person_96 : decode cX5_person 96 = .ok (.aload_n 0, 1) := by decide +kernel
theorem dX5_person_97 : decode cX5_person 97 = .ok (.iload_n 1, 1) := by decide +kernel
theorem dX5_person_98 : decode cX5_person 98 = .ok (.iconst 4, 1) := by decide +kernel
theorem dX5_person_99 : decode cX5_person 99 = .ok (.invokevirtual 43, 3) := by decide +kernel
theorem dX5_person_102 : decode cX5_person 102 = .ok (.ireturn, 1) := by decide +kernel
theorem dX5_person_103 : decode cX5_person 103 = .ok (.aload_n 0, 1) := by decide +kernel
theorem dX5_person_104 : decode cX5_person 104 = .ok (.iload_n 1, 1) := by decide +kernel
theorem dX5_person_105 : decode cX5_person 105 = .ok (.iconst 5, 1) := by decide +kernel
theorem dX5_person_106 : decode cX5_person 106 = .ok (.invokevirtual 43, 3) := by decide +kernel
theorem dX5_person_109 : decode cX5_person 109 = .ok (.ireturn, 1) := by decide +kernel
theorem dX5_person_110 : decode cX5_person 110 = .ok (.iconst (-1), 1) := by decide +kernel
theorem dX5_person_111 : decode cX5_person 111 = .ok (.ireturn, 1) := by decide +kernel
theorem dX5_slot_0 : decode cX5_slot 0 = .ok (.iload_n 1, 1) := by decide +kernel
theorem dX5_slot_1 : decode cX5_slot 1 = .ok (.iload_n 2, 1) := by decide +kernel
theorem dX5_slot_2 : decode cX5_slot 2 = .ok (.invokestatic 75, 3) := by decide +kernel
theorem dX5_slot_5 : decode cX5_slot 5 = .ok (.ifCond .ne 5, 3) := by decide +kernel
theorem dX5_slot_8 : decode cX5_slot 8 = .ok (.iconst (-1), 1) := by decide +kernel
theorem dX5_slot_9 : decode cX5_slot 9 = .ok (.ireturn, 1) := by decide +kernel
theorem dX5_slot_10 : decode cX5_slot 10 = .ok (.bipush 24, 2) := by decide +kernel
theorem dX5_slot_12 : decode cX5_slot 12 = .ok (.iload_n 1, 1) := by decide +kernel
theorem dX5_slot_13 : decode cX5_slot 13 = .ok (.imul, 1) := by decide +kernel
theorem dX5_slot_14 : decode cX5_slot 14 = .ok (.iload_n 2, 1) := by decide +kernel
theorem dX5_slot_15 : decode cX5_slot 15 = .ok (.iadd, 1) := by decide +kernel
theorem dX5_slot_16 : decode cX5_slot 16 = .ok (.istore 4, 2) := by decide +kernel
theorem dX5_slot_18 : decode cX5_slot 18 = .ok (.iload_n 3, 1) := by decide +kernel
theorem dX5_slot_19 : decode cX5_slot 19 = .ok (.tableswitch 84 0 5 #[37, 45, 53, 61, 69, 76], 37) := by decide +kernel
theorem dX5_slot_56 : decode cX5_slot 56 = .ok (.aload_n 0, 1) := by decide +kernel
theorem dX5_slot_57 : decode cX5_slot 57 = .ok (.iload 4, 2) := by decide +kernel
theorem dX5_slot_59 : decode cX5_slot 59 = .ok (.iconst 0, 1) := by decide +kernel
theorem dX5_slot_60 : decode cX5_slot 60 = .ok (.invokevirtual 46, 3) := by decide +kernel
theorem dX5_slot_63 : decode cX5_slot 63 = .ok (.ireturn, 1) := by decide +kernel
theorem dX5_slot_64 : decode cX5_slot 64 = .ok (.aload_n 0, 1) := by decide +kernel
theorem dX5_slot_65 : decode cX5_slot 65 = .ok (.iload 4, 2) := by decide +kernel
theorem dX5_slot_67 : decode cX5_slot 67 = .ok (.iconst 0, 1) := by decide +kernel
theorem dX5_slot_68 : decode cX5_slot 68 = .ok (.invokevirtual 95, 3) := by decide +kernel
theorem dX5_slot_71 : decode cX5_slot 71 = .ok (.ireturn, 1) := by decide +kernel
theorem dX5_slot_72 : decode cX5_slot 72 = .ok (.aload_n 0, 1) := by decide +kernel
theorem dX5_slot_73 : decode cX5_slot 73 = .ok (.iload 4, 2) := by decide +kernel
theorem dX5_slot_75 : decode cX5_slot 75 = .ok (.iconst 1, 1) := by decide +kernel
theorem dX5_slot_76 : decode cX5_slot 76 = .ok (.invokevirtual 95, 3) := by decide +kernel
theorem dX5_slot_79 : decode cX5_slot 79 = .ok (.ireturn, 1) := by decide +kernel
theorem dX5_slot_80 : decode cX5_slot 80 = .ok (.aload_n 0, 1) := by decide +kernel
theorem dX5_slot_81 : decode cX5_slot 81 = .ok (.iload 4, 2) := by decide +kernel
theorem dX5_slot_83 : decode cX5_slot 83 = .ok (.iconst 1, 1) := by decide +kernel
theorem dX5_slot_84 : decode cX5_slot 84 = .ok (.invokevirtual 46, 3) := by decide +kernel
theorem dX5_slot_87 : decode cX5_slot 87 = .ok (.ireturn, 1) := by decide +kernel
theorem dX5_slot_88 : decode cX5_slot 88 = .ok (.aload_n 0, 1) := by decide +kernel
theorem dX5_slot_89 : decode cX5_slot 89 = .ok (.iload 4, 2) := by decide +kernel
theorem dX5_slot_91 : decode cX5_slot 91 = .ok (.invokevirtual 92, 3) := by decide +kernel
theorem dX5_slot_94 : decode cX5_slot 94 = .ok (.ireturn, 1) := by decide +kernel
theorem dX5_slot_95 : decode cX5_slot 95 = .ok (.aload_n 0, 1) := by decide +kernel
theorem dX5_slot_96 : decode cX5_slot 96 = .ok (.iload 4, 2) := by decide +kernel
theorem dX5_slot_98 : decode cX5_slot 98 = .ok (.iconst 4, 1) := by decide +kernel
theorem dX5_slot_99 : decode cX5_slot 99 = .ok (.invokevirtual 46, 3) := by decide +kernel
theorem dX5_slot_102 : decode cX5_slot 102 = .ok (.ireturn, 1) := by decide +kernel
theorem dX5_slot_103 : decode cX5_slot 103 = .ok (.iconst (-1), 1) := by decide +kernel
theorem dX5_slot_104 : decode cX5_slot 104 = .ok (.ireturn, 1) := by decide +kernel
theorem dX5_bidOf_0 : decode cX5_bidOf 0 = .ok (.aload_n 0, 1) := by decide +kernel
theorem dX5_bidOf_1 : decode cX5_bidOf 1 = .ok (.iload_n 1, 1) := by decide +kernel
theorem dX5_bidOf_2 : decode cX5_bidOf 2 = .ok (.invokevirtual 61, 3) := by decide +kernel
theorem dX5_bidOf_5 : decode cX5_bidOf 5 = .ok (.ifCond .eq 11, 3) := by decide +kernel
theorem dX5_bidOf_8 : decode cX5_bidOf 8 = .ok (.iload_n 2, 1) := by decide +kernel
theorem dX5_bidOf_9 : decode cX5_bidOf 9 = .ok (.iload_n 3, 1) := by decide +kernel
theorem dX5_bidOf_10 : decode cX5_bidOf 10 = .ok (.invokestatic 75, 3) := by decide +kernel
theorem dX5_bidOf_13 : decode cX5_bidOf 13 = .ok (.ifCond .ne 5, 3) := by decide +kernel
theorem dX5_bidOf_16 : decode cX5_bidOf 16 = .ok (.iconst (-1), 1) := by decide +kernel
theorem dX5_bidOf_17 : decode cX5_bidOf 17 = .ok (.ireturn, 1) := by decide +kernel
theorem dX5_bidOf_18 : decode cX5_bidOf 18 = .ok (.aload_n 0, 1) := by decide +kernel
theorem dX5_bidOf_19 : decode cX5_bidOf 19 = .ok (.iload_n 1, 1) := by decide +kernel
theorem dX5_bidOf_20 : decode cX5_bidOf 20 = .ok (.bipush 24, 2) := by decide +kernel
theorem dX5_bidOf_22 : decode cX5_bidOf 22 = .ok (.iload_n 2, 1) := by decide +kernel
theorem dX5_bidOf_23 : decode cX5_bidOf 23 = .ok (.imul, 1) := by decide +kernel
theorem dX5_bidOf_24 : decode cX5_bidOf 24 = .ok (.iload_n 3, 1) := by decide +kernel
theorem dX5_bidOf_25 : decode cX5_bidOf 25 = .ok (.iadd, 1) := by decide +kernel
theorem dX5_bidOf_26 : decode cX5_bidOf 26 = .ok (.invokevirtual 35, 3) := by decide +kernel
theorem dX5_bidOf_29 : decode cX5_bidOf 29 = .ok (.istore 4, 2) := by decide +kernel
theorem dX5_bidOf_31 : decode cX5_bidOf 31 = .ok (.iload 4, 2) := by decide +kernel
theorem dX5_bidOf_33 : decode cX5_bidOf 33 = .ok (.ifCond .ne 8, 3) := by decide +kernel
theorem dX5_bidOf_36 : decode cX5_bidOf 36 = .ok (.bipush (-9), 2) := by decide +kernel
theorem dX5_bidOf_38 : decode cX5_bidOf 38 = .ok (.goto 5, 3) := by decide +kernel
theorem dX5_bidOf_41 : decode cX5_bidOf 41 = .ok (.iload 4, 2) := by decide +kernel
theorem dX5_bidOf_43 : decode cX5_bidOf 43 = .ok (.ireturn, 1) := by decide +kernel
theorem dX5_fund_0 : decode cX5_fund 0 = .ok (.iload_n 1, 1) := by decide +kernel
theorem dX5_fund_1 : decode cX5_fund 1 = .ok (.iconst 0, 1) := by decide +kernel
theorem dX5_fund_2 : decode cX5_fund 2 = .ok (.iconst 3, 1) := by decide +kernel
theorem dX5_fund_3 : decode cX5_fund 3 = .ok (.invokestatic 31, 3) := by decide +kernel
theorem dX5_fund_6 : decode cX5_fund 6 = .ok (.ifCond .eq 14, 3) := by decide +kernel
theorem dX5_fund_9 : decode cX5_fund 9 = .ok (.aload_n 0, 1) := by decide +kernel
theorem dX5_fund_10 : decode cX5_fund 10 = .ok (.getfield 7, 3) := by decide +kernel
theorem dX5_fund_13 : decode cX5_fund 13 = .ok (.iconst 4, 1) := by decide +kernel
theorem dX5_fund_14 : decode cX5_fund 14 = .ok (.iload_n 1, 1) := by decide +kernel
theorem dX5_fund_15 : decode cX5_fund 15 = .ok (.iadd, 1) := by decide +kernel
theorem dX5_fund_16 : decode cX5_fund 16 = .ok (.iaload, 1) := by decide +kernel
theorem dX5_fund_17 : decode cX5_fund 17 = .ok (.goto 4, 3) := by decide +kernel
theorem dX5_fund_20 : decode cX5_fund 20 = .ok (.iconst (-1), 1) := by decide +kernel
theorem dX5_fund_21 : decode cX5_fund 21 = .ok (.ireturn, 1) := by decide +kernel
theorem dX5_winner_0 : decode cX5_winner 0 = .ok (.iload_n 1, 1) := by decide +kernel
theorem dX5_winner_1 : decode cX5_winner 1 = .ok (.iload_n 2, 1) := by decide +kernel
theorem dX5_winner_2 : decode cX5_winner 2 = .ok (.invokestatic 75, 3) := by decide +kernel
theorem dX5_winner_5 : decode cX5_winner 5 = .ok (.ifCond .eq 16, 3) := by decide +kernel
theorem dX5_winner_8 : decode cX5_winner 8 = .ok (.aload_n 0, 1) := by decide +kernel
theorem dX5_winner_9 : decode cX5_winner 9 = .ok (.bipush 24, 2) := by decide +kernel
theorem dX5_winner_11 : decode cX5_winner 11 = .ok (.iload_n 1, 1) := by decide +kernel
theorem dX5_winner_12 : decode cX5_winner 12 = .ok (.imul, 1) := by decide +kernel
theorem dX5_winner_13 : decode cX5_winner 13 = .ok (.iload_n 2, 1) := by decide +kernel
theorem dX5_winner_14 : decode cX5_winner 14 = .ok (.iadd, 1) := by decide +kernel
theorem dX5_winner_15 : decode cX5_winner 15 = .ok (.invokevirtual 104, 3) := by decide +kernel
theorem dX5_winner_18 : decode cX5_winner 18 = .ok (.goto 4, 3) := by decide +kernel
theorem dX5_winner_21 : decode cX5_winner 21 = .ok (.iconst (-1), 1) := by decide +kernel
theorem dX5_winner_22 : decode cX5_winner 22 = .ok (.ireturn, 1) := by decide +kernel
theorem dX5_needed_0 : decode cX5_needed 0 = .ok (.iload_n 1, 1) := by decide +kernel
theorem dX5_needed_1 : decode cX5_needed 1 = .ok (.iload_n 2, 1) := by decide +kernel
theorem dX5_needed_2 : decode cX5_needed 2 = .ok (.invokestatic 75, 3) := by decide +kernel
theorem dX5_needed_5 : decode cX5_needed 5 = .ok (.ifCond .eq 12, 3) := by decide +kernel
theorem dX5_needed_8 : decode cX5_needed 8 = .ok (.iload_n 3, 1) := by decide +kernel
theorem dX5_needed_9 : decode cX5_needed 9 = .ok (.iconst 0, 1) := by decide +kernel
theorem dX5_needed_10 : decode cX5_needed 10 = .ok (.iconst 1, 1) := by decide +kernel
theorem dX5_needed_11 : decode cX5_needed 11 = .ok (.invokestatic 31, 3) := by decide +kernel
theorem dX5_needed_14 : decode cX5_needed 14 = .ok (.ifCond .ne 5, 3) := by decide +kernel
theorem dX5_needed_17 : decode cX5_needed 17 = .ok (.iconst (-1), 1) := by decide +kernel
theorem dX5_needed_18 : decode cX5_needed 18 = .ok (.ireturn, 1) := by decide +kernel
theorem dX5_needed_19 : decode cX5_needed 19 = .ok (.bipush 24, 2) := by decide +kernel
theorem dX5_needed_21 : decode cX5_needed 21 = .ok (.iload_n 1, 1) := by decide +kernel
theorem dX5_needed_22 : decode cX5_needed 22 = .ok (.imul, 1) := by decide +kernel
theorem dX5_needed_23 : decode cX5_needed 23 = .ok (.iload_n 2, 1) := by decide +kernel
theorem dX5_needed_24 : decode cX5_needed 24 = .ok (.iadd, 1) := by decide +kernel
theorem dX5_needed_25 : decode cX5_needed 25 = .ok (.istore 4, 2) := by decide +kernel
theorem dX5_needed_27 : decode cX5_needed 27 = .ok (.aload_n 0, 1) := by decide +kernel
theorem dX5_needed_28 : decode cX5_needed 28 = .ok (.iload 4, 2) := by decide +kernel
theorem dX5_needed_30 : decode cX5_needed 30 = .ok (.invokevirtual 104, 3) := by decide +kernel
theorem dX5_needed_33 : decode cX5_needed 33 = .ok (.iload_n 3, 1) := by decide +kernel
theorem dX5_needed_34 : decode cX5_needed 34 = .ok (.if_icmp .ne 5, 3) := by decide +kernel
theorem dX5_needed_37 : decode cX5_needed 37 = .ok (.iconst 0, 1) := by decide +kernel
theorem dX5_needed_38 : decode cX5_needed 38 = .ok (.ireturn, 1) := by decide +kernel
theorem dX5_needed_39 : decode cX5_needed 39 = .ok (.aload_n 0, 1) := by decide +kernel
theorem dX5_needed_40 : decode cX5_needed 40 = .ok (.iload 4, 2) := by decide +kernel
theorem dX5_needed_42 : decode cX5_needed 42 = .ok (.iconst 0, 1) := by decide +kernel
theorem dX5_needed_43 : decode cX5_needed 43 = .ok (.invokevirtual 95, 3) := by decide +kernel
theorem dX5_needed_46 : decode cX5_needed 46 = .ok (.aload_n 0, 1) := by decide +kernel
theorem dX5_needed_47 : decode cX5_needed 47 = .ok (.iload 4, 2) := by decide +kernel
theorem dX5_needed_49 : decode cX5_needed 49 = .ok (.iconst 1, 1) := by decide +kernel
theorem dX5_needed_50 : decode cX5_needed 50 = .ok (.invokevirtual 46, 3) := by decide +kernel
theorem dX5_needed_53 : decode cX5_needed 53 = .ok (.iadd, 1) := by decide +kernel
theorem dX5_needed_54 : decode cX5_needed 54 = .ok (.istore 5, 2) := by decide +kernel
theorem dX5_needed_56 : decode cX5_needed 56 = .ok (.aload_n 0, 1) := by decide +kernel
theorem dX5_needed_57 : decode cX5_needed 57 = .ok (.iload 4, 2) := by decide +kernel
theorem dX5_needed_59 : decode cX5_needed 59 = .ok (.iconst 1, 1) := by decide +kernel
theorem dX5_needed_60 : decode cX5_needed 60 = .ok (.invokevirtual 95, 3) := by decide +kernel
theorem dX5_needed_63 : decode cX5_needed 63 = .ok (.istore 6, 2) := by decide +kernel
theorem dX5_needed_65 : decode cX5_needed 65 = .ok (.iload_n 3, 1) := by decide +kernel
theorem dX5_needed_66 : decode cX5_needed 66 = .ok (.ifCond .ne 11, 3) := by decide +kernel
theorem dX5_needed_69 : decode cX5_needed 69 = .ok (.iload 6, 2) := by decide +kernel
theorem dX5_needed_71 : decode cX5_needed 71 = .ok (.iload 5, 2) := by decide +kernel
theorem dX5_needed_73 : decode cX5_needed 73 = .ok (.isub, 1) := by decide +kernel
theorem dX5_needed_74 : decode cX5_needed 74 = .ok (.goto 8, 3) := by decide +kernel
theorem dX5_needed_77 : decode cX5_needed 77 = .ok (.iload 5, 2) := by decide +kernel
theorem dX5_needed_79 : decode cX5_needed 79 = .ok (.iload 6, 2) := by decide +kernel
theorem dX5_needed_81 : decode cX5_needed 81 = .ok (.isub, 1) := by decide +kernel
theorem dX5_needed_82 : decode cX5_needed 82 = .ok (.aload_n 0, 1) := by decide +kernel
theorem dX5_needed_83 : decode cX5_needed 83 = .ok (.iload 4, 2) := by decide +kernel
theorem dX5_needed_85 : decode cX5_needed 85 = .ok (.invokevirtual 98, 3) := by decide +kernel
theorem dX5_needed_88 : decode cX5_needed 88 = .ok (.iload_n 3, 1) := by decide +kernel
theorem dX5_needed_89 : decode cX5_needed 89 = .ok (.if_icmp .ne 7, 3) := by decide +kernel
theorem dX5_needed_92 : decode cX5_needed 92 = .ok (.iconst 0, 1) := by decide +kernel
theorem dX5_needed_93 : decode cX5_needed 93 = .ok (.goto 4, 3) := by decide +kernel
theorem dX5_needed_96 : decode cX5_needed 96 = .ok (.iconst 1, 1) := by decide +kernel
theorem dX5_needed_97 : decode cX5_needed 97 = .ok (.iadd, 1) := by decide +kernel
theorem dX5_needed_98 : decode cX5_needed 98 = .ok (.istore 7, 2) := by decide +kernel
theorem dX5_needed_100 : decode cX5_needed 100 = .ok (.iload 7, 2) := by decide +kernel
theorem dX5_needed_102 : decode cX5_needed 102 = .ok (.iconst 1, 1) := by decide +kernel
theorem dX5_needed_103 : decode cX5_needed 103 = .ok (.if_icmp .ge 7, 3) := by decide +kernel
theorem dX5_needed_106 : decode cX5_needed 106 = .ok (.iconst 1, 1) := by decide +kernel
theorem dX5_needed_107 : decode cX5_needed 107 = .ok (.goto 5, 3) := by decide +kernel
theorem dX5_needed_110 : decode cX5_needed 110 = .ok (.iload 7, 2) := by decide +kernel
theorem dX5_needed_112 : decode cX5_needed 112 = .ok (.ireturn, 1) := by decide +kernel
theorem dX5_quiet_0 : decode cX5_quiet 0 = .ok (.iload_n 1, 1) := by decide +kernel
theorem dX5_quiet_1 : decode cX5_quiet 1 = .ok (.iconst 0, 1) := by decide +kernel
theorem dX5_quiet_2 : decode cX5_quiet 2 = .ok (.iconst 3, 1) := by decide +kernel
theorem dX5_quiet_3 : decode cX5_quiet 3 = .ok (.invokestatic 31, 3) := by decide +kernel
theorem dX5_quiet_6 : decode cX5_quiet 6 = .ok (.ifCond .eq 12, 3) := by decide +kernel
theorem dX5_quiet_9 : decode cX5_quiet 9 = .ok (.iload_n 2, 1) := by decide +kernel
theorem dX5_quiet_10 : decode cX5_quiet 10 = .ok (.iconst 0, 1) := by decide +kernel
theorem dX5_quiet_11 : decode cX5_quiet 11 = .ok (.iconst 2, 1) := by decide +kernel
theorem dX5_quiet_12 : decode cX5_quiet 12 = .ok (.invokestatic 31, 3) := by decide +kernel
theorem dX5_quiet_15 : decode cX5_quiet 15 = .ok (.ifCond .ne 5, 3) := by decide +kernel
theorem dX5_quiet_18 : decode cX5_quiet 18 = .ok (.iconst (-1), 1) := by decide +kernel
theorem dX5_quiet_19 : decode cX5_quiet 19 = .ok (.ireturn, 1) := by decide +kernel
theorem dX5_quiet_20 : decode cX5_quiet 20 = .ok (.iconst 0, 1) := by decide +kernel
theorem dX5_quiet_21 : decode cX5_quiet 21 = .ok (.istore_n 3, 1) := by decide +kernel
theorem dX5_quiet_22 : decode cX5_quiet 22 = .ok (.iconst 0, 1) := by decide +kernel
theorem dX5_quiet_23 : decode cX5_quiet 23 = .ok (.istore 4, 2) := by decide +kernel
theorem dX5_quiet_25 : decode cX5_quiet 25 = .ok (.iconst 0, 1) := by decide +kernel
theorem dX5_quiet_26 : decode cX5_quiet 26 = .ok (.istore 5, 2) := by decide +kernel
theorem dX5_quiet_28 : decode cX5_quiet 28 = .ok (.bipush (-9), 2) := by decide +kernel
theorem dX5_quiet_30 : decode cX5_quiet 30 = .ok (.istore 6, 2) := by decide +kernel
theorem dX5_quiet_32 : decode cX5_quiet 32 = .ok (.iconst 0, 1) := by decide +kernel
theorem dX5_quiet_33 : decode cX5_quiet 33 = .ok (.istore 7, 2) := by decide +kernel
theorem dX5_quiet_35 : decode cX5_quiet 35 = .ok (.iload 7, 2) := by decide +kernel
theorem dX5_quiet_37 : decode cX5_quiet 37 = .ok (.bipush 24, 2) := by decide +kernel
theorem dX5_quiet_39 : decode cX5_quiet 39 = .ok (.if_icmp .ge 96, 3) := by decide +kernel
theorem dX5_quiet_42 : decode cX5_quiet 42 = .ok (.aload_n 0, 1) := by decide +kernel
theorem dX5_quiet_43 : decode cX5_quiet 43 = .ok (.bipush 24, 2) := by decide +kernel
theorem dX5_quiet_45 : decode cX5_quiet 45 = .ok (.iload_n 1, 1) := by decide +kernel
theorem dX5_quiet_46 : decode cX5_quiet 46 = .ok (.imul, 1) := by decide +kernel
theorem dX5_quiet_47 : decode cX5_quiet 47 = .ok (.iload 7, 2) := by decide +kernel
theorem dX5_quiet_49 : decode cX5_quiet 49 = .ok (.iadd, 1) := by decide +kernel
theorem dX5_quiet_50 : decode cX5_quiet 50 = .ok (.iconst 0, 1) := by decide +kernel
theorem dX5_quiet_51 : decode cX5_quiet 51 = .ok (.invokevirtual 46, 3) := by decide +kernel
theorem dX5_quiet_54 : decode cX5_quiet 54 = .ok (.ifCond .ne 7, 3) := by decide +kernel
theorem dX5_quiet_57 : decode cX5_quiet 57 = .ok (.iconst 1, 1) := by decide +kernel
theorem dX5_quiet_58 : decode cX5_quiet 58 = .ok (.goto 4, 3) := by decide +kernel
theorem dX5_quiet_61 : decode cX5_quiet 61 = .ok (.iconst 0, 1) := by decide +kernel
theorem dX5_quiet_62 : decode cX5_quiet 62 = .ok (.istore 8, 2) := by decide +kernel
theorem dX5_quiet_64 : decode cX5_quiet 64 = .ok (.iload_n 3, 1) := by decide +kernel
theorem dX5_quiet_65 : decode cX5_quiet 65 = .ok (.iload 8, 2) := by decide +kernel
theorem dX5_quiet_67 : decode cX5_quiet 67 = .ok (.ifCond .eq 7, 3) := by decide +kernel
theorem dX5_quiet_70 : decode cX5_quiet 70 = .ok (.iconst 1, 1) := by decide +kernel
theorem dX5_quiet_71 : decode cX5_quiet 71 = .ok (.goto 4, 3) := by decide +kernel
theorem dX5_quiet_74 : decode cX5_quiet 74 = .ok (.iconst 0, 1) := by decide +kernel
theorem dX5_quiet_75 : decode cX5_quiet 75 = .ok (.iadd, 1) := by decide +kernel
theorem dX5_quiet_76 : decode cX5_quiet 76 = .ok (.istore_n 3, 1) := by decide +kernel
theorem dX5_quiet_77 : decode cX5_quiet 77 = .ok (.iload 8, 2) := by decide +kernel
theorem dX5_quiet_79 : decode cX5_quiet 79 = .ok (.ifCond .eq 10, 3) := by decide +kernel
theorem dX5_quiet_82 : decode cX5_quiet 82 = .ok (.iload 4, 2) := by decide +kernel
theorem dX5_quiet_84 : decode cX5_quiet 84 = .ok (.iconst 1, 1) := by decide +kernel
theorem dX5_quiet_85 : decode cX5_quiet 85 = .ok (.iadd, 1) := by decide +kernel
theorem dX5_quiet_86 : decode cX5_quiet 86 = .ok (.goto 4, 3) := by decide +kernel
theorem dX5_quiet_89 : decode cX5_quiet 89 = .ok (.iconst 0, 1) := by decide +kernel
theorem dX5_quiet_90 : decode cX5_quiet 90 = .ok (.istore 4, 2) := by decide +kernel
theorem dX5_quiet_92 : decode cX5_quiet 92 = .ok (.iload 4, 2) := by decide +kernel
theorem dX5_quiet_94 : decode cX5_quiet 94 = .ok (.iload 5, 2) := by decide +kernel
theorem dX5_quiet_96 : decode cX5_quiet 96 = .ok (.if_icmp .le 13, 3) := by decide +kernel
theorem dX5_quiet_99 : decode cX5_quiet 99 = .ok (.iload 7, 2) := by decide +kernel
theorem dX5_quiet_101 : decode cX5_quiet 101 = .ok (.iload 4, 2) := by decide +kernel
theorem dX5_quiet_103 : decode cX5_quiet 103 = .ok (.isub, 1) := by decide +kernel
theorem dX5_quiet_104 : decode cX5_quiet 104 = .ok (.iconst 1, 1) := by decide +kernel
theorem dX5_quiet_105 : decode cX5_quiet 105 = .ok (.iadd, 1) := by decide +kernel
theorem dX5_quiet_106 : decode cX5_quiet 106 = .ok (.goto 5, 3) := by decide +kernel
theorem dX5_quiet_109 : decode cX5_quiet 109 = .ok (.iload 6, 2) := by decide +kernel
theorem dX5_quiet_111 : decode cX5_quiet 111 = .ok (.istore 6, 2) := by decide +kernel
theorem dX5_quiet_113 : decode cX5_quiet 113 = .ok (.iload 4, 2) := by decide +kernel
theorem dX5_quiet_115 : decode cX5_quiet 115 = .ok (.iload 5, 2) := by decide +kernel
theorem dX5_quiet_117 : decode cX5_quiet 117 = .ok (.if_icmp .le 8, 3) := by decide +kernel
theorem dX5_quiet_120 : decode cX5_quiet 120 = .ok (.iload 4, 2) := by decide +kernel
theorem dX5_quiet_122 : decode cX5_quiet 122 = .ok (.goto 5, 3) := by decide +kernel
theorem dX5_quiet_125 : decode cX5_quiet 125 = .ok (.iload 5, 2) := by decide +kernel
theorem dX5_quiet_127 : decode cX5_quiet 127 = .ok (.istore 5, 2) := by decide +kernel
theorem dX5_quiet_129 : decode cX5_quiet 129 = .ok (.iinc 7 1, 3) := by decide +kernel
theorem dX5_quiet_132 : decode cX5_quiet 132 = .ok (.goto (-97), 3) := by decide +kernel
theorem dX5_quiet_135 : decode cX5_quiet 135 = .ok (.iload_n 2, 1) := by decide +kernel
theorem dX5_quiet_136 : decode cX5_quiet 136 = .ok (.ifCond .ne 7, 3) := by decide +kernel
theorem dX5_quiet_139 : decode cX5_quiet 139 = .ok (.iload_n 3, 1) := by decide +kernel
theorem dX5_quiet_140 : decode cX5_quiet 140 = .ok (.goto 15, 3) := by decide +kernel
theorem dX5_quiet_143 : decode cX5_quiet 143 = .ok (.iload_n 2, 1) := by decide +kernel
theorem dX5_quiet_144 : decode cX5_quiet 144 = .ok (.iconst 1, 1) := by decide +kernel
theorem dX5_quiet_145 : decode cX5_quiet 145 = .ok (.if_icmp .ne 8, 3) := by decide +kernel
theorem dX5_quiet_148 : decode cX5_quiet 148 = .ok (.iload 5, 2) := by decide +kernel
theorem dX5_quiet_150 : decode cX5_quiet 150 = .ok (.goto 5, 3) := by decide +kernel
theorem dX5_quiet_153 : decode cX5_quiet 153 = .ok (.iload 6, 2) := by decide +kernel
theorem dX5_quiet_155 : decode cX5_quiet 155 = .ok (.ireturn, 1) := by decide +kernel
theorem dX5_purseThen_0 : decode cX5_purseThen 0 = .ok (.aload_n 0, 1) := by decide +kernel
theorem dX5_purseThen_1 : decode cX5_purseThen 1 = .ok (.iload_n 1, 1) := by decide +kernel
theorem dX5_purseThen_2 : decode cX5_purseThen 2 = .ok (.invokevirtual 61, 3) := by decide +kernel
theorem dX5_purseThen_5 : decode cX5_purseThen 5 = .ok (.ifCond .ne 5, 3) := by decide +kernel
theorem dX5_purseThen_8 : decode cX5_purseThen 8 = .ok (.iconst (-1), 1) := by decide +kernel
theorem dX5_purseThen_9 : decode cX5_purseThen 9 = .ok (.ireturn, 1) := by decide +kernel
theorem dX5_purseThen_10 : decode cX5_purseThen 10 = .ok (.aload_n 0, 1) := by decide +kernel
theorem dX5_purseThen_11 : decode cX5_purseThen 11 = .ok (.invokevirtual 79, 3) := by decide +kernel
theorem dX5_purseThen_14 : decode cX5_purseThen 14 = .ok (.aload_n 0, 1) := by decide +kernel
theorem dX5_purseThen_15 : decode cX5_purseThen 15 = .ok (.invokevirtual 111, 3) := by decide +kernel
theorem dX5_purseThen_18 : decode cX5_purseThen 18 = .ok (.aload_n 0, 1) := by decide +kernel
theorem dX5_purseThen_19 : decode cX5_purseThen 19 = .ok (.iload_n 1, 1) := by decide +kernel
theorem dX5_purseThen_20 : decode cX5_purseThen 20 = .ok (.iconst 0, 1) := by decide +kernel
theorem dX5_purseThen_21 : decode cX5_purseThen 21 = .ok (.invokevirtual 43, 3) := by decide +kernel
theorem dX5_purseThen_24 : decode cX5_purseThen 24 = .ok (.istore_n 2, 1) := by decide +kernel
theorem dX5_purseThen_25 : decode cX5_purseThen 25 = .ok (.aload_n 0, 1) := by decide +kernel
theorem dX5_purseThen_26 : decode cX5_purseThen 26 = .ok (.invokevirtual 89, 3) := by decide +kernel
theorem dX5_purseThen_29 : decode cX5_purseThen 29 = .ok (.iload_n 2, 1) := by decide +kernel
theorem dX5_purseThen_30 : decode cX5_purseThen 30 = .ok (.ireturn, 1) := by decide +kernel
theorem dJ6_bitCount_0f7a4_0 : decode cJ6_bitCount_0f7a4 0 = .ok (.iload_n 0, 1) := by decide +kernel
theorem dJ6_bitCount_0f7a4_1 : decode cJ6_bitCount_0f7a4 1 = .ok (.iload_n 0, 1) := by decide +kernel
theorem dJ6_bitCount_0f7a4_2 : decode cJ6_bitCount_0f7a4 2 = .ok (.iconst 1, 1) := by decide +kernel
theorem dJ6_bitCount_0f7a4_3 : decode cJ6_bitCount_0f7a4 3 = .ok (.iushr, 1) := by decide +kernel
theorem dJ6_bitCount_0f7a4_4 : decode cJ6_bitCount_0f7a4 4 = .ok (.ldc_w 265, 3) := by decide +kernel
theorem dJ6_bitCount_0f7a4_7 : decode cJ6_bitCount_0f7a4 7 = .ok (.iand, 1) := by decide +kernel
theorem dJ6_bitCount_0f7a4_8 : decode cJ6_bitCount_0f7a4 8 = .ok (.isub, 1) := by decide +kernel
theorem dJ6_bitCount_0f7a4_9 : decode cJ6_bitCount_0f7a4 9 = .ok (.istore_n 0, 1) := by decide +kernel
theorem dJ6_bitCount_0f7a4_10 : decode cJ6_bitCount_0f7a4 10 = .ok (.iload_n 0, 1) := by decide +kernel
theorem dJ6_bitCount_0f7a4_11 : decode cJ6_bitCount_0f7a4 11 = .ok (.ldc_w 266, 3) := by decide +kernel
theorem dJ6_bitCount_0f7a4_14 : decode cJ6_bitCount_0f7a4 14 = .ok (.iand, 1) := by decide +kernel
theorem dJ6_bitCount_0f7a4_15 : decode cJ6_bitCount_0f7a4 15 = .ok (.iload_n 0, 1) := by decide +kernel
theorem dJ6_bitCount_0f7a4_16 : decode cJ6_bitCount_0f7a4 16 = .ok (.iconst 2, 1) := by decide +kernel
theorem dJ6_bitCount_0f7a4_17 : decode cJ6_bitCount_0f7a4 17 = .ok (.iushr, 1) := by decide +kernel
theorem dJ6_bitCount_0f7a4_18 : decode cJ6_bitCount_0f7a4 18 = .ok (.ldc_w 266, 3) := by decide +kernel
theorem dJ6_bitCount_0f7a4_21 : decode cJ6_bitCount_0f7a4 21 = .ok (.iand, 1) := by decide +kernel
theorem dJ6_bitCount_0f7a4_22 : decode cJ6_bitCount_0f7a4 22 = .ok (.iadd, 1) := by decide +kernel
theorem dJ6_bitCount_0f7a4_23 : decode cJ6_bitCount_0f7a4 23 = .ok (.istore_n 0, 1) := by decide +kernel
theorem dJ6_bitCount_0f7a4_24 : decode cJ6_bitCount_0f7a4 24 = .ok (.iload_n 0, 1) := by decide +kernel
theorem dJ6_bitCount_0f7a4_25 : decode cJ6_bitCount_0f7a4 25 = .ok (.iload_n 0, 1) := by decide +kernel
theorem dJ6_bitCount_0f7a4_26 : decode cJ6_bitCount_0f7a4 26 = .ok (.iconst 4, 1) := by decide +kernel
theorem dJ6_bitCount_0f7a4_27 : decode cJ6_bitCount_0f7a4 27 = .ok (.iushr, 1) := by decide +kernel
theorem dJ6_bitCount_0f7a4_28 : decode cJ6_bitCount_0f7a4 28 = .ok (.iadd, 1) := by decide +kernel
theorem dJ6_bitCount_0f7a4_29 : decode cJ6_bitCount_0f7a4 29 = .ok (.ldc_w 267, 3) := by decide +kernel
theorem dJ6_bitCount_0f7a4_32 : decode cJ6_bitCount_0f7a4 32 = .ok (.iand, 1) := by decide +kernel
theorem dJ6_bitCount_0f7a4_33 : decode cJ6_bitCount_0f7a4 33 = .ok (.istore_n 0, 1) := by decide +kernel
theorem dJ6_bitCount_0f7a4_34 : decode cJ6_bitCount_0f7a4 34 = .ok (.iload_n 0, 1) := by decide +kernel
theorem dJ6_bitCount_0f7a4_35 : decode cJ6_bitCount_0f7a4 35 = .ok (.iload_n 0, 1) := by decide +kernel
theorem dJ6_bitCount_0f7a4_36 : decode cJ6_bitCount_0f7a4 36 = .ok (.bipush 8, 2) := by decide +kernel
theorem dJ6_bitCount_0f7a4_38 : decode cJ6_bitCount_0f7a4 38 = .ok (.iushr, 1) := by decide +kernel
theorem dJ6_bitCount_0f7a4_39 : decode cJ6_bitCount_0f7a4 39 = .ok (.iadd, 1) := by decide +kernel
theorem dJ6_bitCount_0f7a4_40 : decode cJ6_bitCount_0f7a4 40 = .ok (.istore_n 0, 1) := by decide +kernel
theorem dJ6_bitCount_0f7a4_41 : decode cJ6_bitCount_0f7a4 41 = .ok (.iload_n 0, 1) := by decide +kernel
theorem dJ6_bitCount_0f7a4_42 : decode cJ6_bitCount_0f7a4 42 = .ok (.iload_n 0, 1) := by decide +kernel
theorem dJ6_bitCount_0f7a4_43 : decode cJ6_bitCount_0f7a4 43 = .ok (.bipush 16, 2) := by decide +kernel
theorem dJ6_bitCount_0f7a4_45 : decode cJ6_bitCount_0f7a4 45 = .ok (.iushr, 1) := by decide +kernel
theorem dJ6_bitCount_0f7a4_46 : decode cJ6_bitCount_0f7a4 46 = .ok (.iadd, 1) := by decide +kernel
theorem dJ6_bitCount_0f7a4_47 : decode cJ6_bitCount_0f7a4 47 = .ok (.istore_n 0, 1) := by decide +kernel
theorem dJ6_bitCount_0f7a4_48 : decode cJ6_bitCount_0f7a4 48 = .ok (.iload_n 0, 1) := by decide +kernel
theorem dJ6_bitCount_0f7a4_49 : decode cJ6_bitCount_0f7a4 49 = .ok (.bipush 63, 2) := by decide +kernel
theorem dJ6_bitCount_0f7a4_51 : decode cJ6_bitCount_0f7a4 51 = .ok (.iand, 1) := by decide +kernel
theorem dJ6_bitCount_0f7a4_52 : decode cJ6_bitCount_0f7a4 52 = .ok (.ireturn, 1) := by decide +kernel
theorem dJ9_max_7cf53_0 : decode cJ9_max_7cf53 0 = .ok (.iload_n 0, 1) := by decide +kernel
theorem dJ9_max_7cf53_1 : decode cJ9_max_7cf53 1 = .ok (.iload_n 1, 1) := by decide +kernel
theorem dJ9_max_7cf53_2 : decode cJ9_max_7cf53 2 = .ok (.if_icmp .lt 7, 3) := by decide +kernel
theorem dJ9_max_7cf53_5 : decode cJ9_max_7cf53 5 = .ok (.iload_n 0, 1) := by decide +kernel
theorem dJ9_max_7cf53_6 : decode cJ9_max_7cf53 6 = .ok (.goto 4, 3) := by decide +kernel
theorem dJ9_max_7cf53_9 : decode cJ9_max_7cf53 9 = .ok (.iload_n 1, 1) := by decide +kernel
theorem dJ9_max_7cf53_10 : decode cJ9_max_7cf53 10 = .ok (.ireturn, 1) := by decide +kernel
theorem dJ9_min_7cf53_0 : decode cJ9_min_7cf53 0 = .ok (.iload_n 0, 1) := by decide +kernel
theorem dJ9_min_7cf53_1 : decode cJ9_min_7cf53 1 = .ok (.iload_n 1, 1) := by decide +kernel
theorem dJ9_min_7cf53_2 : decode cJ9_min_7cf53 2 = .ok (.if_icmp .gt 7, 3) := by decide +kernel
theorem dJ9_min_7cf53_5 : decode cJ9_min_7cf53 5 = .ok (.iload_n 0, 1) := by decide +kernel
theorem dJ9_min_7cf53_6 : decode cJ9_min_7cf53 6 = .ok (.goto 4, 3) := by decide +kernel
theorem dJ9_min_7cf53_9 : decode cJ9_min_7cf53 9 = .ok (.iload_n 1, 1) := by decide +kernel
theorem dJ9_min_7cf53_10 : decode cJ9_min_7cf53 10 = .ok (.ireturn, 1) := by decide +kernel
theorem dJ7_fill_53178_0 : decode cJ7_fill_53178 0 = .ok (.iconst 0, 1) := by decide +kernel
theorem dJ7_fill_53178_1 : decode cJ7_fill_53178 1 = .ok (.istore_n 2, 1) := by decide +kernel
theorem dJ7_fill_53178_2 : decode cJ7_fill_53178 2 = .ok (.aload_n 0, 1) := by decide +kernel
theorem dJ7_fill_53178_3 : decode cJ7_fill_53178 3 = .ok (.arraylength, 1) := by decide +kernel
theorem dJ7_fill_53178_4 : decode cJ7_fill_53178 4 = .ok (.istore_n 3, 1) := by decide +kernel
theorem dJ7_fill_53178_5 : decode cJ7_fill_53178 5 = .ok (.iload_n 2, 1) := by decide +kernel
theorem dJ7_fill_53178_6 : decode cJ7_fill_53178 6 = .ok (.iload_n 3, 1) := by decide +kernel
theorem dJ7_fill_53178_7 : decode cJ7_fill_53178 7 = .ok (.if_icmp .ge 13, 3) := by decide +kernel
theorem dJ7_fill_53178_10 : decode cJ7_fill_53178 10 = .ok (.aload_n 0, 1) := by decide +kernel
theorem dJ7_fill_53178_11 : decode cJ7_fill_53178 11 = .ok (.iload_n 2, 1) := by decide +kernel
theorem dJ7_fill_53178_12 : decode cJ7_fill_53178 12 = .ok (.iload_n 1, 1) := by decide +kernel
theorem dJ7_fill_53178_13 : decode cJ7_fill_53178 13 = .ok (.iastore, 1) := by decide +kernel
theorem dJ7_fill_53178_14 : decode cJ7_fill_53178 14 = .ok (.iinc 2 1, 3) := by decide +kernel
theorem dJ7_fill_53178_17 : decode cJ7_fill_53178 17 = .ok (.goto (-12), 3) := by decide +kernel
theorem dJ7_fill_53178_20 : decode cJ7_fill_53178 20 = .ok (.return_, 1) := by decide +kernel
theorem dL_law_0 : decode cL_law 0 = .ok (.new 7, 3) := by decide +kernel
theorem dL_law_3 : decode cL_law 3 = .ok (.dup, 1) := by decide +kernel
theorem dL_law_4 : decode cL_law 4 = .ok (.invokespecial 9, 3) := by decide +kernel
theorem dL_law_7 : decode cL_law 7 = .ok (.astore_n 1, 1) := by decide +kernel
theorem dL_law_8 : decode cL_law 8 = .ok (.new 10, 3) := by decide +kernel
theorem dL_law_11 : decode cL_law 11 = .ok (.dup, 1) := by decide +kernel
theorem dL_law_12 : decode cL_law 12 = .ok (.invokespecial 12, 3) := by decide +kernel
theorem dL_law_15 : decode cL_law 15 = .ok (.astore_n 2, 1) := by decide +kernel
theorem dL_law_16 : decode cL_law 16 = .ok (.iconst 0, 1) := by decide +kernel
theorem dL_law_17 : decode cL_law 17 = .ok (.istore_n 3, 1) := by decide +kernel
theorem dL_law_18 : decode cL_law 18 = .ok (.iload_n 3, 1) := by decide +kernel
theorem dL_law_19 : decode cL_law 19 = .ok (.aload_n 0, 1) := by decide +kernel
theorem dL_law_20 : decode cL_law 20 = .ok (.arraylength, 1) := by decide +kernel
theorem dL_law_21 : decode cL_law 21 = .ok (.bipush 6, 2) := by decide +kernel
theorem dL_law_23 : decode cL_law 23 = .ok (.isub, 1) := by decide +kernel
theorem dL_law_24 : decode cL_law 24 = .ok (.if_icmp .gt 700, 3) := by decide +kernel
theorem dL_law_27 : decode cL_law 27 = .ok (.aload_n 0, 1) := by decide +kernel
theorem dL_law_28 : decode cL_law 28 = .ok (.iload_n 3, 1) := by decide +kernel
theorem dL_law_29 : decode cL_law 29 = .ok (.iaload, 1) := by decide +kernel
theorem dL_law_30 : decode cL_law 30 = .ok (.bipush 31, 2) := by decide +kernel
theorem dL_law_32 : decode cL_law 32 = .ok (.iand, 1) := by decide +kernel
theorem dL_law_33 : decode cL_law 33 = .ok (.tableswitch 685 0 19 #[95, 118, 151, 214, 237, 250, 293, 306, 329, 342, 365, 388, 411, 444, 487, 530, 553, 586, 629, 662], 95) := by decide +kernel
theorem dL_law_128 : decode cL_law 128 = .ok (.aload_n 1, 1) := by decide +kernel
theorem dL_law_129 : decode cL_law 129 = .ok (.aload_n 0, 1) := by decide +kernel
theorem dL_law_130 : decode cL_law 130 = .ok (.iload_n 3, 1) := by decide +kernel
theorem dL_law_131 : decode cL_law 131 = .ok (.iconst 1, 1) := by decide +kernel
theorem dL_law_132 : decode cL_law 132 = .ok (.iadd, 1) := by decide +kernel
theorem dL_law_133 : decode cL_law 133 = .ok (.iaload, 1) := by decide +kernel
theorem dL_law_134 : decode cL_law 134 = .ok (.invokevirtual 13, 3) := by decide +kernel
theorem dL_law_137 : decode cL_law 137 = .ok (.aload_n 2, 1) := by decide +kernel
theorem dL_law_138 : decode cL_law 138 = .ok (.aload_n 0, 1) := by decide +kernel
theorem dL_law_139 : decode cL_law 139 = .ok (.iload_n 3, 1) := by decide +kernel
theorem dL_law_140 : decode cL_law 140 = .ok (.iconst 1, 1) := by decide +kernel
theorem dL_law_141 : decode cL_law 141 = .ok (.iadd, 1) := by decide +kernel
theorem dL_law_142 : decode cL_law 142 = .ok (.iaload, 1) := by decide +kernel
theorem dL_law_143 : decode cL_law 143 = .ok (.invokevirtual 17, 3) := by decide +kernel
theorem dL_law_146 : decode cL_law 146 = .ok (.if_icmp .eq 572, 3) := by decide +kernel
theorem dL_law_149 : decode cL_law 149 = .ok (.iconst 0, 1) := by decide +kernel
theorem dL_law_150 : decode cL_law 150 = .ok (.ireturn, 1) := by decide +kernel
theorem dL_law_151 : decode cL_law 151 = .ok (.aload_n 1, 1) := by decide +kernel
theorem dL_law_152 : decode cL_law 152 = .ok (.aload_n 0, 1) := by decide +kernel
theorem dL_law_153 : decode cL_law 153 = .ok (.iload_n 3, 1) := by decide +kernel
theorem dL_law_154 : decode cL_law 154 = .ok (.iconst 1, 1) := by decide +kernel
theorem dL_law_155 : decode cL_law 155 = .ok (.iadd, 1) := by decide +kernel
theorem dL_law_156 : decode cL_law 156 = .ok (.iaload, 1) := by decide +kernel
theorem dL_law_157 : decode cL_law 157 = .ok (.aload_n 0, 1) := by decide +kernel
theorem dL_law_158 : decode cL_law 158 = .ok (.iload_n 3, 1) := by decide +kernel
theorem dL_law_159 : decode cL_law 159 = .ok (.iconst 2, 1) := by decide +kernel
theorem dL_law_160 : decode cL_law 160 = .ok (.iadd, 1) := by decide +kernel
theorem dL_law_161 : decode cL_law 161 = .ok (.iaload, 1) := by decide +kernel
theorem dL_law_162 : decode cL_law 162 = .ok (.invokevirtual 18, 3) := by decide +kernel
theorem dL_law_165 : decode cL_law 165 = .ok (.aload_n 2, 1) := by decide +kernel
theorem dL_law_166 : decode cL_law 166 = .ok (.aload_n 0, 1) := by decide +kernel
theorem dL_law_167 : decode cL_law 167 = .ok (.iload_n 3, 1) := by decide +kernel
theorem dL_law_168 : decode cL_law 168 = .ok (.iconst 1, 1) := by decide +kernel
theorem dL_law_169 : decode cL_law 169 = .ok (.iadd, 1) := by decide +kernel
theorem dL_law_170 : decode cL_law 170 = .ok (.iaload, 1) := by decide +kernel
theorem dL_law_171 : decode cL_law 171 = .ok (.aload_n 0, 1) := by decide +kernel
theorem dL_law_172 : decode cL_law 172 = .ok (.iload_n 3, 1) := by decide +kernel
theorem dL_law_173 : decode cL_law 173 = .ok (.iconst 2, 1) := by decide +kernel
theorem dL_law_174 : decode cL_law 174 = .ok (.iadd, 1) := by decide +kernel
theorem dL_law_175 : decode cL_law 175 = .ok (.iaload, 1) := by decide +kernel
theorem dL_law_176 : decode cL_law 176 = .ok (.invokevirtual 22, 3) := by decide +kernel
theorem dL_law_179 : decode cL_law 179 = .ok (.if_icmp .eq 539, 3) := by decide +kernel
theorem dL_law_182 : decode cL_law 182 = .ok (.iconst 0, 1) := by decide +kernel
theorem dL_law_183 : decode cL_law 183 = .ok (.ireturn, 1) := by decide +kernel
theorem dL_law_184 : decode cL_law 184 = .ok (.aload_n 1, 1) := by decide +kernel
theorem dL_law_185 : decode cL_law 185 = .ok (.aload_n 0, 1) := by decide +kernel
theorem dL_law_186 : decode cL_law 186 = .ok (.iload_n 3, 1) := by decide +kernel
theorem dL_law_187 : decode cL_law 187 = .ok (.iconst 1, 1) := by decide +kernel
theorem dL_law_188 : decode cL_law 188 = .ok (.iadd, 1) := by decide +kernel
theorem dL_law_189 : decode cL_law 189 = .ok (.iaload, 1) := by decide +kernel
theorem dL_law_190 : decode cL_law 190 = .ok (.aload_n 0, 1) := by decide +kernel
theorem dL_law_191 : decode cL_law 191 = .ok (.iload_n 3, 1) := by decide +kernel
theorem dL_law_192 : decode cL_law 192 = .ok (.iconst 2, 1) := by decide +kernel
theorem dL_law_193 : decode cL_law 193 = .ok (.iadd, 1) := by decide +kernel
theorem dL_law_194 : decode cL_law 194 = .ok (.iaload, 1) := by decide +kernel
theorem dL_law_195 : decode cL_law 195 = .ok (.aload_n 0, 1) := by decide +kernel
theorem dL_law_196 : decode cL_law 196 = .ok (.iload_n 3, 1) := by decide +kernel
theorem dL_law_197 : decode cL_law 197 = .ok (.iconst 3, 1) := by decide +kernel
theorem dL_law_198 : decode cL_law 198 = .ok (.iadd, 1) := by decide +kernel
theorem dL_law_199 : decode cL_law 199 = .ok (.iaload, 1) := by decide +kernel
theorem dL_law_200 : decode cL_law 200 = .ok (.aload_n 0, 1) := by decide +kernel
theorem dL_law_201 : decode cL_law 201 = .ok (.iload_n 3, 1) := by decide +kernel
theorem dL_law_202 : decode cL_law 202 = .ok (.iconst 4, 1) := by decide +kernel
theorem dL_law_203 : decode cL_law 203 = .ok (.iadd, 1) := by decide +kernel
theorem dL_law_204 : decode cL_law 204 = .ok (.iaload, 1) := by decide +kernel
theorem dL_law_205 : decode cL_law 205 = .ok (.aload_n 0, 1) := by decide +kernel
theorem dL_law_206 : decode cL_law 206 = .ok (.iload_n 3, 1) := by decide +kernel
theorem dL_law_207 : decode cL_law 207 = .ok (.iconst 5, 1) := by decide +kernel
theorem dL_law_208 : decode cL_law 208 = .ok (.iadd, 1) := by decide +kernel
theorem dL_law_209 : decode cL_law 209 = .ok (.iaload, 1) := by decide +kernel
theorem dL_law_210 : decode cL_law 210 = .ok (.invokevirtual 23, 3) := by decide +kernel
theorem dL_law_213 : decode cL_law 213 = .ok (.aload_n 2, 1) := by decide +kernel
theorem dL_law_214 : decode cL_law 214 = .ok (.aload_n 0, 1) := by decide +kernel
theorem dL_law_215 : decode cL_law 215 = .ok (.iload_n 3, 1) := by decide +kernel
theorem dL_law_216 : decode cL_law 216 = .ok (.iconst 1, 1) := by decide +kernel
theorem dL_law_217 : decode cL_law 217 = .ok (.iadd, 1) := by decide +kernel
theorem dL_law_218 : decode cL_law 218 = .ok (.iaload, 1) := by decide +kernel
theorem dL_law_219 : decode cL_law 219 = .ok (.aload_n 0, 1) := by decide +kernel
theorem dL_law_220 : decode cL_law 220 = .ok (.iload_n 3, 1) := by decide +kernel
theorem dL_law_221 : decode cL_law 221 = .ok (.iconst 2, 1) := by decide +kernel
theorem dL_law_222 : decode cL_law 222 = .ok (.iadd, 1) := by decide +kernel
theorem dL_law_223 : decode cL_law 223 = .ok (.iaload, 1) := by decide +kernel
theorem dL_law_224 : decode cL_law 224 = .ok (.aload_n 0, 1) := by decide +kernel
theorem dL_law_225 : decode cL_law 225 = .ok (.iload_n 3, 1) := by decide +kernel
theorem dL_law_226 : decode cL_law 226 = .ok (.iconst 3, 1) := by decide +kernel
theorem dL_law_227 : decode cL_law 227 = .ok (.iadd, 1) := by decide +kernel
theorem dL_law_228 : decode cL_law 228 = .ok (.iaload, 1) := by decide +kernel
theorem dL_law_229 : decode cL_law 229 = .ok (.aload_n 0, 1) := by decide +kernel
theorem dL_law_230 : decode cL_law 230 = .ok (.iload_n 3, 1) := by decide +kernel
theorem dL_law_231 : decode cL_law 231 = .ok (.iconst 4, 1) := by decide +kernel
theorem dL_law_232 : decode cL_law 232 = .ok (.iadd, 1) := by decide +kernel
theorem dL_law_233 : decode cL_law 233 = .ok (.iaload, 1) := by decide +kernel
theorem dL_law_234 : decode cL_law 234 = .ok (.aload_n 0, 1) := by decide +kernel
theorem dL_law_235 : decode cL_law 235 = .ok (.iload_n 3, 1) := by decide +kernel
theorem dL_law_236 : decode cL_law 236 = .ok (.iconst 5, 1) := by decide +kernel
theorem dL_law_237 : decode cL_law 237 = .ok (.iadd, 1) := by decide +kernel
theorem dL_law_238 : decode cL_law 238 = .ok (.iaload, 1) := by decide +kernel
theorem dL_law_239 : decode cL_law 239 = .ok (.invokevirtual 27, 3) := by decide +kernel
theorem dL_law_242 : decode cL_law 242 = .ok (.if_icmp .eq 476, 3) := by decide +kernel
theorem dL_law_245 : decode cL_law 245 = .ok (.iconst 0, 1) := by decide +kernel
theorem dL_law_246 : decode cL_law 246 = .ok (.ireturn, 1) := by decide +kernel
theorem dL_law_247 : decode cL_law 247 = .ok (.aload_n 1, 1) := by decide +kernel
theorem dL_law_248 : decode cL_law 248 = .ok (.aload_n 0, 1) := by decide +kernel
theorem dL_law_249 : decode cL_law 249 = .ok (.iload_n 3, 1) := by decide +kernel
theorem dL_law_250 : decode cL_law 250 = .ok (.iconst 1, 1) := by decide +kernel
theorem dL_law_251 : decode cL_law 251 = .ok (.iadd, 1) := by decide +kernel
theorem dL_law_252 : decode cL_law 252 = .ok (.iaload, 1) := by decide +kernel
theorem dL_law_253 : decode cL_law 253 = .ok (.invokevirtual 28, 3) := by decide +kernel
theorem dL_law_256 : decode cL_law 256 = .ok (.aload_n 2, 1) := by decide +kernel
theorem dL_law_257 : decode cL_law 257 = .ok (.aload_n 0, 1) := by decide +kernel
theorem dL_law_258 : decode cL_law 258 = .ok (.iload_n 3, 1) := by decide +kernel
theorem dL_law_259 : decode cL_law 259 = .ok (.iconst 1, 1) := by decide +kernel
theorem dL_law_260 : decode cL_law 260 = .ok (.iadd, 1) := by decide +kernel
theorem dL_law_261 : decode cL_law 261 = .ok (.iaload, 1) := by decide +kernel
theorem dL_law_262 : decode cL_law 262 = .ok (.invokevirtual 31, 3) := by decide +kernel
theorem dL_law_265 : decode cL_law 265 = .ok (.if_icmp .eq 453, 3) := by decide +kernel
theorem dL_law_268 : decode cL_law 268 = .ok (.iconst 0, 1) := by decide +kernel
theorem dL_law_269 : decode cL_law 269 = .ok (.ireturn, 1) := by decide +kernel
theorem dL_law_270 : decode cL_law 270 = .ok (.aload_n 1, 1) := by decide +kernel
theorem dL_law_271 : decode cL_law 271 = .ok (.invokevirtual 32, 3) := by decide +kernel
theorem dL_law_274 : decode cL_law 274 = .ok (.aload_n 2, 1) := by decide +kernel
theorem dL_law_275 : decode cL_law 275 = .ok (.invokevirtual 36, 3) := by decide +kernel
theorem dL_law_278 : decode cL_law 278 = .ok (.if_icmp .eq 440, 3) := by decide +kernel
theorem dL_law_281 : decode cL_law 281 = .ok (.iconst 0, 1) := by decide +kernel
theorem dL_law_282 : decode cL_law 282 = .ok (.ireturn, 1) := by decide +kernel
theorem dL_law_283 : decode cL_law 283 = .ok (.aload_n 1, 1) := by decide +kernel
theorem dL_law_284 : decode cL_law 284 = .ok (.aload_n 0, 1) := by decide +kernel
theorem dL_law_285 : decode cL_law 285 = .ok (.iload_n 3, 1) := by decide +kernel
theorem dL_law_286 : decode cL_law 286 = .ok (.iconst 1, 1) := by decide +kernel
theorem dL_law_287 : decode cL_law 287 = .ok (.iadd, 1) := by decide +kernel
theorem dL_law_288 : decode cL_law 288 = .ok (.iaload, 1) := by decide +kernel
theorem dL_law_289 : decode cL_law 289 = .ok (.aload_n 0, 1) := by decide +kernel
theorem dL_law_290 : decode cL_law 290 = .ok (.iload_n 3, 1) := by decide +kernel
theorem dL_law_291 : decode cL_law 291 = .ok (.iconst 2, 1) := by decide +kernel
theorem dL_law_292 : decode cL_law 292 = .ok (.iadd, 1) := by decide +kernel
theorem dL_law_293 : decode cL_law 293 = .ok (.iaload, 1) := by decide +kernel
theorem dL_law_294 : decode cL_law 294 = .ok (.aload_n 0, 1) := by decide +kernel
theorem dL_law_295 : decode cL_law 295 = .ok (.iload_n 3, 1) := by decide +kernel
theorem dL_law_296 : decode cL_law 296 = .ok (.iconst 3, 1) := by decide +kernel
theorem dL_law_297 : decode cL_law 297 = .ok (.iadd, 1) := by decide +kernel
theorem dL_law_298 : decode cL_law 298 = .ok (.iaload, 1) := by decide +kernel
theorem dL_law_299 : decode cL_law 299 = .ok (.invokevirtual 37, 3) := by decide +kernel
theorem dL_law_302 : decode cL_law 302 = .ok (.aload_n 2, 1) := by decide +kernel
theorem dL_law_303 : decode cL_law 303 = .ok (.aload_n 0, 1) := by decide +kernel
theorem dL_law_304 : decode cL_law 304 = .ok (.iload_n 3, 1) := by decide +kernel
theorem dL_law_305 : decode cL_law 305 = .ok (.iconst 1, 1) := by decide +kernel
theorem dL_law_306 : decode cL_law 306 = .ok (.iadd, 1) := by decide +kernel
theorem dL_law_307 : decode cL_law 307 = .ok (.iaload, 1) := by decide +kernel
theorem dL_law_308 : decode cL_law 308 = .ok (.aload_n 0, 1) := by decide +kernel
theorem dL_law_309 : decode cL_law 309 = .ok (.iload_n 3, 1) := by decide +kernel
theorem dL_law_310 : decode cL_law 310 = .ok (.iconst 2, 1) := by decide +kernel
theorem dL_law_311 : decode cL_law 311 = .ok (.iadd, 1) := by decide +kernel
theorem dL_law_312 : decode cL_law 312 = .ok (.iaload, 1) := by decide +kernel
theorem dL_law_313 : decode cL_law 313 = .ok (.aload_n 0, 1) := by decide +kernel
theorem dL_law_314 : decode cL_law 314 = .ok (.iload_n 3, 1) := by decide +kernel
theorem dL_law_315 : decode cL_law 315 = .ok (.iconst 3, 1) := by decide +kernel
theorem dL_law_316 : decode cL_law 316 = .ok (.iadd, 1) := by decide +kernel
theorem dL_law_317 : decode cL_law 317 = .ok (.iaload, 1) := by decide +kernel
theorem dL_law_318 : decode cL_law 318 = .ok (.invokevirtual 41, 3) := by decide +kernel
theorem dL_law_321 : decode cL_law 321 = .ok (.if_icmp .eq 397, 3) := by decide +kernel
theorem dL_law_324 : decode cL_law 324 = .ok (.iconst 0, 1) := by decide +kernel
theorem dL_law_325 : decode cL_law 325 = .ok (.ireturn, 1) := by decide +kernel
theorem dL_law_326 : decode cL_law 326 = .ok (.aload_n 1, 1) := by decide +kernel
theorem dL_law_327 : decode cL_law 327 = .ok (.invokevirtual 42, 3) := by decide +kernel
theorem dL_law_330 : decode cL_law 330 = .ok (.aload_n 2, 1) := by decide +kernel
theorem dL_law_331 : decode cL_law 331 = .ok (.invokevirtual 45, 3) := by decide +kernel
theorem dL_law_334 : decode cL_law 334 = .ok (.if_icmp .eq 384, 3) := by decide +kernel
theorem dL_law_337 : decode cL_law 337 = .ok (.iconst 0, 1) := by decide +kernel
theorem dL_law_338 : decode cL_law 338 = .ok (.ireturn, 1) := by decide +kernel
theorem dL_law_339 : decode cL_law 339 = .ok (.aload_n 1, 1) := by decide +kernel
theorem dL_law_340 : decode cL_law 340 = .ok (.aload_n 0, 1) := by decide +kernel
theorem dL_law_341 : decode cL_law 341 = .ok (.iload_n 3, 1) := by decide +kernel
theorem dL_law_342 : decode cL_law 342 = .ok (.iconst 1, 1) := by decide +kernel
theorem dL_law_343 : decode cL_law 343 = .ok (.iadd, 1) := by decide +kernel
theorem dL_law_344 : decode cL_law 344 = .ok (.iaload, 1) := by decide +kernel
theorem dL_law_345 : decode cL_law 345 = .ok (.invokevirtual 46, 3) := by decide +kernel
theorem dL_law_348 : decode cL_law 348 = .ok (.aload_n 2, 1) := by decide +kernel
theorem dL_law_349 : decode cL_law 349 = .ok (.aload_n 0, 1) := by decide +kernel
theorem dL_law_350 : decode cL_law 350 = .ok (.iload_n 3, 1) := by decide +kernel
theorem dL_law_351 : decode cL_law 351 = .ok (.iconst 1, 1) := by decide +kernel
theorem dL_law_352 : decode cL_law 352 = .ok (.iadd, 1) := by decide +kernel
theorem dL_law_353 : decode cL_law 353 = .ok (.iaload, 1) := by decide +kernel
theorem dL_law_354 : decode cL_law 354 = .ok (.invokevirtual 49, 3) := by decide +kernel
theorem dL_law_357 : decode cL_law 357 = .ok (.if_icmp .eq 361, 3) := by decide +kernel
theorem dL_law_360 : decode cL_law 360 = .ok (.iconst 0, 1) := by decide +kernel
theorem dL_law_361 : decode cL_law 361 = .ok (.ireturn, 1) := by decide +kernel
theorem dL_law_362 : decode cL_law 362 = .ok (.aload_n 1, 1) := by decide +kernel
theorem dL_law_363 : decode cL_law 363 = .ok (.invokevirtual 50, 3) := by decide +kernel
theorem dL_law_366 : decode cL_law 366 = .ok (.aload_n 2, 1) := by decide +kernel
theorem dL_law_367 : decode cL_law 367 = .ok (.invokevirtual 53, 3) := by decide +kernel
theorem dL_law_370 : decode cL_law 370 = .ok (.if_icmp .eq 348, 3) := by decide +kernel
theorem dL_law_373 : decode cL_law 373 = .ok (.iconst 0, 1) := by decide +kernel
theorem dL_law_374 : decode cL_law 374 = .ok (.ireturn, 1) := by decide +kernel
theorem dL_law_375 : decode cL_law 375 = .ok (.aload_n 1, 1) := by decide +kernel
theorem dL_law_376 : decode cL_law 376 = .ok (.aload_n 0, 1) := by decide +kernel
theorem dL_law_377 : decode cL_law 377 = .ok (.iload_n 3, 1) := by decide +kernel
theorem dL_law_378 : decode cL_law 378 = .ok (.iconst 1, 1) := by decide +kernel
theorem dL_law_379 : decode cL_law 379 = .ok (.iadd, 1) := by decide +kernel
theorem dL_law_380 : decode cL_law 380 = .ok (.iaload, 1) := by decide +kernel
theorem dL_law_381 : decode cL_law 381 = .ok (.invokevirtual 54, 3) := by decide +kernel
theorem dL_law_384 : decode cL_law 384 = .ok (.aload_n 2, 1) := by decide +kernel
theorem dL_law_385 : decode cL_law 385 = .ok (.aload_n 0, 1) := by decide +kernel
theorem dL_law_386 : decode cL_law 386 = .ok (.iload_n 3, 1) := by decide +kernel
theorem dL_law_387 : decode cL_law 387 = .ok (.iconst 1, 1) := by decide +kernel
theorem dL_law_388 : decode cL_law 388 = .ok (.iadd, 1) := by decide +kernel
theorem dL_law_389 : decode cL_law 389 = .ok (.iaload, 1) := by decide +kernel
theorem dL_law_390 : decode cL_law 390 = .ok (.invokevirtual 57, 3) := by decide +kernel
theorem dL_law_393 : decode cL_law 393 = .ok (.if_icmp .eq 325, 3) := by decide +kernel
theorem dL_law_396 : decode cL_law 396 = .ok (.iconst 0, 1) := by decide +kernel
theorem dL_law_397 : decode cL_law 397 = .ok (.ireturn, 1) := by decide +kernel
theorem dL_law_398 : decode cL_law 398 = .ok (.aload_n 1, 1) := by decide +kernel
theorem dL_law_399 : decode cL_law 399 = .ok (.aload_n 0, 1) := by decide +kernel
theorem dL_law_400 : decode cL_law 400 = .ok (.iload_n 3, 1) := by decide +kernel
theorem dL_law_401 : decode cL_law 401 = .ok (.iconst 1, 1) := by decide +kernel
theorem dL_law_402 : decode cL_law 402 = .ok (.iadd, 1) := by decide +kernel
theorem dL_law_403 : decode cL_law 403 = .ok (.iaload, 1) := by decide +kernel
theorem dL_law_404 : decode cL_law 404 = .ok (.invokevirtual 58, 3) := by decide +kernel
theorem dL_law_407 : decode cL_law 407 = .ok (.aload_n 2, 1) := by decide +kernel
theorem dL_law_408 : decode cL_law 408 = .ok (.aload_n 0, 1) := by decide +kernel
theorem dL_law_409 : decode cL_law 409 = .ok (.iload_n 3, 1) := by decide +kernel
theorem dL_law_410 : decode cL_law 410 = .ok (.iconst 1, 1) := by decide +kernel
theorem dL_law_411 : decode cL_law 411 = .ok (.iadd, 1) := by decide +kernel
theorem dL_law_412 : decode cL_law 412 = .ok (.iaload, 1) := by decide +kernel
theorem dL_law_413 : decode cL_law 413 = .ok (.invokevirtual 61, 3) := by decide +kernel
theorem dL_law_416 : decode cL_law 416 = .ok (.if_icmp .eq 302, 3) := by decide +kernel
theorem dL_law_419 : decode cL_law 419 = .ok (.iconst 0, 1) := by decide +kernel
theorem dL_law_420 : decode cL_law 420 = .ok (.ireturn, 1) := by decide +kernel
theorem dL_law_421 : decode cL_law 421 = .ok (.aload_n 1, 1) := by decide +kernel
theorem dL_law_422 : decode cL_law 422 = .ok (.aload_n 0, 1) := by decide +kernel
theorem dL_law_423 : decode cL_law 423 = .ok (.iload_n 3, 1) := by decide +kernel
theorem dL_law_424 : decode cL_law 424 = .ok (.iconst 1, 1) := by decide +kernel
theorem dL_law_425 : decode cL_law 425 = .ok (.iadd, 1) := by decide +kernel
theorem dL_law_426 : decode cL_law 426 = .ok (.iaload, 1) := by decide +kernel
theorem dL_law_427 : decode cL_law 427 = .ok (.invokevirtual 62, 3) := by decide +kernel
theorem dL_law_430 : decode cL_law 430 = .ok (.aload_n 2, 1) := by decide +kernel
theorem dL_law_431 : decode cL_law 431 = .ok (.aload_n 0, 1) := by decide +kernel
theorem dL_law_432 : decode cL_law 432 = .ok (.iload_n 3, 1) := by decide +kernel
theorem dL_law_433 : decode cL_law 433 = .ok (.iconst 1, 1) := by decide +kernel
theorem dL_law_434 : decode cL_law 434 = .ok (.iadd, 1) := by decide +kernel
theorem dL_law_435 : decode cL_law 435 = .ok (.iaload, 1) := by decide +kernel
theorem dL_law_436 : decode cL_law 436 = .ok (.invokevirtual 65, 3) := by decide +kernel
theorem dL_law_439 : decode cL_law 439 = .ok (.if_icmp .eq 279, 3) := by decide +kernel
theorem dL_law_442 : decode cL_law 442 = .ok (.iconst 0, 1) := by decide +kernel
theorem dL_law_443 : decode cL_law 443 = .ok (.ireturn, 1) := by decide +kernel
theorem dL_law_444 : decode cL_law 444 = .ok (.aload_n 1, 1) := by decide +kernel
theorem dL_law_445 : decode cL_law 445 = .ok (.aload_n 0, 1) := by decide +kernel
theorem dL_law_446 : decode cL_law 446 = .ok (.iload_n 3, 1) := by decide +kernel
theorem dL_law_447 : decode cL_law 447 = .ok (.iconst 1, 1) := by decide +kernel
theorem dL_law_448 : decode cL_law 448 = .ok (.iadd, 1) := by decide +kernel
theorem dL_law_449 : decode cL_law 449 = .ok (.iaload, 1) := by decide +kernel
theorem dL_law_450 : decode cL_law 450 = .ok (.aload_n 0, 1) := by decide +kernel
theorem dL_law_451 : decode cL_law 451 = .ok (.iload_n 3, 1) := by decide +kernel
theorem dL_law_452 : decode cL_law 452 = .ok (.iconst 2, 1) := by decide +kernel
theorem dL_law_453 : decode cL_law 453 = .ok (.iadd, 1) := by decide +kernel
theorem dL_law_454 : decode cL_law 454 = .ok (.iaload, 1) := by decide +kernel
theorem dL_law_455 : decode cL_law 455 = .ok (.invokevirtual 66, 3) := by decide +kernel
theorem dL_law_458 : decode cL_law 458 = .ok (.aload_n 2, 1) := by decide +kernel
theorem dL_law_459 : decode cL_law 459 = .ok (.aload_n 0, 1) := by decide +kernel
theorem dL_law_460 : decode cL_law 460 = .ok (.iload_n 3, 1) := by decide +kernel
theorem dL_law_461 : decode cL_law 461 = .ok (.iconst 1, 1) := by decide +kernel
theorem dL_law_462 : decode cL_law 462 = .ok (.iadd, 1) := by decide +kernel
theorem dL_law_463 : decode cL_law 463 = .ok (.iaload, 1) := by decide +kernel
theorem dL_law_464 : decode cL_law 464 = .ok (.aload_n 0, 1) := by decide +kernel
theorem dL_law_465 : decode cL_law 465 = .ok (.iload_n 3, 1) := by decide +kernel
theorem dL_law_466 : decode cL_law 466 = .ok (.iconst 2, 1) := by decide +kernel
theorem dL_law_467 : decode cL_law 467 = .ok (.iadd, 1) := by decide +kernel
theorem dL_law_468 : decode cL_law 468 = .ok (.iaload, 1) := by decide +kernel
theorem dL_law_469 : decode cL_law 469 = .ok (.invokevirtual 69, 3) := by decide +kernel
theorem dL_law_472 : decode cL_law 472 = .ok (.if_icmp .eq 246, 3) := by decide +kernel
theorem dL_law_475 : decode cL_law 475 = .ok (.iconst 0, 1) := by decide +kernel
theorem dL_law_476 : decode cL_law 476 = .ok (.ireturn, 1) := by decide +kernel
theorem dL_law_477 : decode cL_law 477 = .ok (.aload_n 1, 1) := by decide +kernel
theorem dL_law_478 : decode cL_law 478 = .ok (.aload_n 0, 1) := by decide +kernel
theorem dL_law_479 : decode cL_law 479 = .ok (.iload_n 3, 1) := by decide +kernel
theorem dL_law_480 : decode cL_law 480 = .ok (.iconst 1, 1) := by decide +kernel
theorem dL_law_481 : decode cL_law 481 = .ok (.iadd, 1) := by decide +kernel
theorem dL_law_482 : decode cL_law 482 = .ok (.iaload, 1) := by decide +kernel
theorem dL_law_483 : decode cL_law 483 = .ok (.aload_n 0, 1) := by decide +kernel
theorem dL_law_484 : decode cL_law 484 = .ok (.iload_n 3, 1) := by decide +kernel
theorem dL_law_485 : decode cL_law 485 = .ok (.iconst 2, 1) := by decide +kernel
theorem dL_law_486 : decode cL_law 486 = .ok (.iadd, 1) := by decide +kernel
theorem dL_law_487 : decode cL_law 487 = .ok (.iaload, 1) := by decide +kernel
theorem dL_law_488 : decode cL_law 488 = .ok (.aload_n 0, 1) := by decide +kernel
theorem dL_law_489 : decode cL_law 489 = .ok (.iload_n 3, 1) := by decide +kernel
theorem dL_law_490 : decode cL_law 490 = .ok (.iconst 3, 1) := by decide +kernel
theorem dL_law_491 : decode cL_law 491 = .ok (.iadd, 1) := by decide +kernel
theorem dL_law_492 : decode cL_law 492 = .ok (.iaload, 1) := by decide +kernel
theorem dL_law_493 : decode cL_law 493 = .ok (.invokevirtual 70, 3) := by decide +kernel
theorem dL_law_496 : decode cL_law 496 = .ok (.aload_n 2, 1) := by decide +kernel
theorem dL_law_497 : decode cL_law 497 = .ok (.aload_n 0, 1) := by decide +kernel
theorem dL_law_498 : decode cL_law 498 = .ok (.iload_n 3, 1) := by decide +kernel
theorem dL_law_499 : decode cL_law 499 = .ok (.iconst 1, 1) := by decide +kernel
theorem dL_law_500 : decode cL_law 500 = .ok (.iadd, 1) := by decide +kernel
theorem dL_law_501 : decode cL_law 501 = .ok (.iaload, 1) := by decide +kernel
theorem dL_law_502 : decode cL_law 502 = .ok (.aload_n 0, 1) := by decide +kernel
theorem dL_law_503 : decode cL_law 503 = .ok (.iload_n 3, 1) := by decide +kernel
theorem dL_law_504 : decode cL_law 504 = .ok (.iconst 2, 1) := by decide +kernel
theorem dL_law_505 : decode cL_law 505 = .ok (.iadd, 1) := by decide +kernel
theorem dL_law_506 : decode cL_law 506 = .ok (.iaload, 1) := by decide +kernel
theorem dL_law_507 : decode cL_law 507 = .ok (.aload_n 0, 1) := by decide +kernel
theorem dL_law_508 : decode cL_law 508 = .ok (.iload_n 3, 1) := by decide +kernel
theorem dL_law_509 : decode cL_law 509 = .ok (.iconst 3, 1) := by decide +kernel
theorem dL_law_510 : decode cL_law 510 = .ok (.iadd, 1) := by decide +kernel
theorem dL_law_511 : decode cL_law 511 = .ok (.iaload, 1) := by decide +kernel
theorem dL_law_512 : decode cL_law 512 = .ok (.invokevirtual 73, 3) := by decide +kernel
theorem dL_law_515 : decode cL_law 515 = .ok (.if_icmp .eq 203, 3) := by decide +kernel
theorem dL_law_518 : decode cL_law 518 = .ok (.iconst 0, 1) := by decide +kernel
theorem dL_law_519 : decode cL_law 519 = .ok (.ireturn, 1) := by decide +kernel
theorem dL_law_520 : decode cL_law 520 = .ok (.aload_n 1, 1) := by decide +kernel
theorem dL_law_521 : decode cL_law 521 = .ok (.aload_n 0, 1) := by decide +kernel
theorem dL_law_522 : decode cL_law 522 = .ok (.iload_n 3, 1) := by decide +kernel
theorem dL_law_523 : decode cL_law 523 = .ok (.iconst 1, 1) := by decide +kernel
theorem dL_law_524 : decode cL_law 524 = .ok (.iadd, 1) := by decide +kernel
theorem dL_law_525 : decode cL_law 525 = .ok (.iaload, 1) := by decide +kernel
theorem dL_law_526 : decode cL_law 526 = .ok (.aload_n 0, 1) := by decide +kernel
theorem dL_law_527 : decode cL_law 527 = .ok (.iload_n 3, 1) := by decide +kernel
theorem dL_law_528 : decode cL_law 528 = .ok (.iconst 2, 1) := by decide +kernel
theorem dL_law_529 : decode cL_law 529 = .ok (.iadd, 1) := by decide +kernel
theorem dL_law_530 : decode cL_law 530 = .ok (.iaload, 1) := by decide +kernel
theorem dL_law_531 : decode cL_law 531 = .ok (.aload_n 0, 1) := by decide +kernel
theorem dL_law_532 : decode cL_law 532 = .ok (.iload_n 3, 1) := by decide +kernel
theorem dL_law_533 : decode cL_law 533 = .ok (.iconst 3, 1) := by decide +kernel
theorem dL_law_534 : decode cL_law 534 = .ok (.iadd, 1) := by decide +kernel
theorem dL_law_535 : decode cL_law 535 = .ok (.iaload, 1) := by decide +kernel
theorem dL_law_536 : decode cL_law 536 = .ok (.invokevirtual 74, 3) := by decide +kernel
theorem dL_law_539 : decode cL_law 539 = .ok (.aload_n 2, 1) := by decide +kernel
theorem dL_law_540 : decode cL_law 540 = .ok (.aload_n 0, 1) := by decide +kernel
theorem dL_law_541 : decode cL_law 541 = .ok (.iload_n 3, 1) := by decide +kernel
theorem dL_law_542 : decode cL_law 542 = .ok (.iconst 1, 1) := by decide +kernel
theorem dL_law_543 : decode cL_law 543 = .ok (.iadd, 1) := by decide +kernel
theorem dL_law_544 : decode cL_law 544 = .ok (.iaload, 1) := by decide +kernel
theorem dL_law_545 : decode cL_law 545 = .ok (.aload_n 0, 1) := by decide +kernel
theorem dL_law_546 : decode cL_law 546 = .ok (.iload_n 3, 1) := by decide +kernel
theorem dL_law_547 : decode cL_law 547 = .ok (.iconst 2, 1) := by decide +kernel
theorem dL_law_548 : decode cL_law 548 = .ok (.iadd, 1) := by decide +kernel
theorem dL_law_549 : decode cL_law 549 = .ok (.iaload, 1) := by decide +kernel
theorem dL_law_550 : decode cL_law 550 = .ok (.aload_n 0, 1) := by decide +kernel
theorem dL_law_551 : decode cL_law 551 = .ok (.iload_n 3, 1) := by decide +kernel
theorem dL_law_552 : decode cL_law 552 = .ok (.iconst 3, 1) := by decide +kernel
theorem dL_law_553 : decode cL_law 553 = .ok (.iadd, 1) := by decide +kernel
theorem dL_law_554 : decode cL_law 554 = .ok (.iaload, 1) := by decide +kernel
theorem dL_law_555 : decode cL_law 555 = .ok (.invokevirtual 77, 3) := by decide +kernel
theorem dL_law_558 : decode cL_law 558 = .ok (.if_icmp .eq 160, 3) := by decide +kernel
theorem dL_law_561 : decode cL_law 561 = .ok (.iconst 0, 1) := by decide +kernel
theorem dL_law_562 : decode cL_law 562 = .ok (.ireturn, 1) := by decide +kernel
theorem dL_law_563 : decode cL_law 563 = .ok (.aload_n 1, 1) := by decide +kernel
theorem dL_law_564 : decode cL_law 564 = .ok (.aload_n 0, 1) := by decide +kernel
theorem dL_law_565 : decode cL_law 565 = .ok (.iload_n 3, 1) := by decide +kernel
theorem dL_law_566 : decode cL_law 566 = .ok (.iconst 1, 1) := by decide +kernel
theorem dL_law_567 : decode cL_law 567 = .ok (.iadd, 1) := by decide +kernel
theorem dL_law_568 : decode cL_law 568 = .ok (.iaload, 1) := by decide +kernel
theorem dL_law_569 : decode cL_law 569 = .ok (.invokevirtual 78, 3) := by decide +kernel
theorem dL_law_572 : decode cL_law 572 = .ok (.aload_n 2, 1) := by decide +kernel
theorem dL_law_573 : decode cL_law 573 = .ok (.aload_n 0, 1) := by decide +kernel
theorem dL_law_574 : decode cL_law 574 = .ok (.iload_n 3, 1) := by decide +kernel
theorem dL_law_575 : decode cL_law 575 = .ok (.iconst 1, 1) := by decide +kernel
theorem dL_law_576 : decode cL_law 576 = .ok (.iadd, 1) := by decide +kernel
theorem dL_law_577 : decode cL_law 577 = .ok (.iaload, 1) := by decide +kernel
theorem dL_law_578 : decode cL_law 578 = .ok (.invokevirtual 81, 3) := by decide +kernel
theorem dL_law_581 : decode cL_law 581 = .ok (.if_icmp .eq 137, 3) := by decide +kernel
theorem dL_law_584 : decode cL_law 584 = .ok (.iconst 0, 1) := by decide +kernel
theorem dL_law_585 : decode cL_law 585 = .ok (.ireturn, 1) := by decide +kernel
theorem dL_law_586 : decode cL_law 586 = .ok (.aload_n 1, 1) := by decide +kernel
theorem dL_law_587 : decode cL_law 587 = .ok (.aload_n 0, 1) := by decide +kernel
theorem dL_law_588 : decode cL_law 588 = .ok (.iload_n 3, 1) := by decide +kernel
theorem dL_law_589 : decode cL_law 589 = .ok (.iconst 1, 1) := by decide +kernel
theorem dL_law_590 : decode cL_law 590 = .ok (.iadd, 1) := by decide +kernel
theorem dL_law_591 : decode cL_law 591 = .ok (.iaload, 1) := by decide +kernel
theorem dL_law_592 : decode cL_law 592 = .ok (.aload_n 0, 1) := by decide +kernel
theorem dL_law_593 : decode cL_law 593 = .ok (.iload_n 3, 1) := by decide +kernel
theorem dL_law_594 : decode cL_law 594 = .ok (.iconst 2, 1) := by decide +kernel
theorem dL_law_595 : decode cL_law 595 = .ok (.iadd, 1) := by decide +kernel
theorem dL_law_596 : decode cL_law 596 = .ok (.iaload, 1) := by decide +kernel
theorem dL_law_597 : decode cL_law 597 = .ok (.invokevirtual 82, 3) := by decide +kernel
theorem dL_law_600 : decode cL_law 600 = .ok (.aload_n 2, 1) := by decide +kernel
theorem dL_law_601 : decode cL_law 601 = .ok (.aload_n 0, 1) := by decide +kernel
theorem dL_law_602 : decode cL_law 602 = .ok (.iload_n 3, 1) := by decide +kernel
theorem dL_law_603 : decode cL_law 603 = .ok (.iconst 1, 1) := by decide +kernel
theorem dL_law_604 : decode cL_law 604 = .ok (.iadd, 1) := by decide +kernel
theorem dL_law_605 : decode cL_law 605 = .ok (.iaload, 1) := by decide +kernel
theorem dL_law_606 : decode cL_law 606 = .ok (.aload_n 0, 1) := by decide +kernel
theorem dL_law_607 : decode cL_law 607 = .ok (.iload_n 3, 1) := by decide +kernel
theorem dL_law_608 : decode cL_law 608 = .ok (.iconst 2, 1) := by decide +kernel
theorem dL_law_609 : decode cL_law 609 = .ok (.iadd, 1) := by decide +kernel
theorem dL_law_610 : decode cL_law 610 = .ok (.iaload, 1) := by decide +kernel
theorem dL_law_611 : decode cL_law 611 = .ok (.invokevirtual 85, 3) := by decide +kernel
theorem dL_law_614 : decode cL_law 614 = .ok (.if_icmp .eq 104, 3) := by decide +kernel
theorem dL_law_617 : decode cL_law 617 = .ok (.iconst 0, 1) := by decide +kernel
theorem dL_law_618 : decode cL_law 618 = .ok (.ireturn, 1) := by decide +kernel
theorem dL_law_619 : decode cL_law 619 = .ok (.aload_n 1, 1) := by decide +kernel
theorem dL_law_620 : decode cL_law 620 = .ok (.aload_n 0, 1) := by decide +kernel
theorem dL_law_621 : decode cL_law 621 = .ok (.iload_n 3, 1) := by decide +kernel
theorem dL_law_622 : decode cL_law 622 = .ok (.iconst 1, 1) := by decide +kernel
theorem dL_law_623 : decode cL_law 623 = .ok (.iadd, 1) := by decide +kernel
theorem dL_law_624 : decode cL_law 624 = .ok (.iaload, 1) := by decide +kernel
theorem dL_law_625 : decode cL_law 625 = .ok (.aload_n 0, 1) := by decide +kernel
theorem dL_law_626 : decode cL_law 626 = .ok (.iload_n 3, 1) := by decide +kernel
theorem dL_law_627 : decode cL_law 627 = .ok (.iconst 2, 1) := by decide +kernel
theorem dL_law_628 : decode cL_law 628 = .ok (.iadd, 1) := by decide +kernel
theorem dL_law_629 : decode cL_law 629 = .ok (.iaload, 1) := by decide +kernel
theorem dL_law_630 : decode cL_law 630 = .ok (.aload_n 0, 1) := by decide +kernel
theorem dL_law_631 : decode cL_law 631 = .ok (.iload_n 3, 1) := by decide +kernel
theorem dL_law_632 : decode cL_law 632 = .ok (.iconst 3, 1) := by decide +kernel
theorem dL_law_633 : decode cL_law 633 = .ok (.iadd, 1) := by decide +kernel
theorem dL_law_634 : decode cL_law 634 = .ok (.iaload, 1) := by decide +kernel
theorem dL_law_635 : decode cL_law 635 = .ok (.invokevirtual 86, 3) := by decide +kernel
theorem dL_law_638 : decode cL_law 638 = .ok (.aload_n 2, 1) := by decide +kernel
theorem dL_law_639 : decode cL_law 639 = .ok (.aload_n 0, 1) := by decide +kernel
theorem dL_law_640 : decode cL_law 640 = .ok (.iload_n 3, 1) := by decide +kernel
theorem dL_law_641 : decode cL_law 641 = .ok (.iconst 1, 1) := by decide +kernel
theorem dL_law_642 : decode cL_law 642 = .ok (.iadd, 1) := by decide +kernel
theorem dL_law_643 : decode cL_law 643 = .ok (.iaload, 1) := by decide +kernel
theorem dL_law_644 : decode cL_law 644 = .ok (.aload_n 0, 1) := by decide +kernel
theorem dL_law_645 : decode cL_law 645 = .ok (.iload_n 3, 1) := by decide +kernel
theorem dL_law_646 : decode cL_law 646 = .ok (.iconst 2, 1) := by decide +kernel
theorem dL_law_647 : decode cL_law 647 = .ok (.iadd, 1) := by decide +kernel
theorem dL_law_648 : decode cL_law 648 = .ok (.iaload, 1) := by decide +kernel
theorem dL_law_649 : decode cL_law 649 = .ok (.aload_n 0, 1) := by decide +kernel
theorem dL_law_650 : decode cL_law 650 = .ok (.iload_n 3, 1) := by decide +kernel
theorem dL_law_651 : decode cL_law 651 = .ok (.iconst 3, 1) := by decide +kernel
theorem dL_law_652 : decode cL_law 652 = .ok (.iadd, 1) := by decide +kernel
theorem dL_law_653 : decode cL_law 653 = .ok (.iaload, 1) := by decide +kernel
theorem dL_law_654 : decode cL_law 654 = .ok (.invokevirtual 89, 3) := by decide +kernel
theorem dL_law_657 : decode cL_law 657 = .ok (.if_icmp .eq 61, 3) := by decide +kernel
theorem dL_law_660 : decode cL_law 660 = .ok (.iconst 0, 1) := by decide +kernel
theorem dL_law_661 : decode cL_law 661 = .ok (.ireturn, 1) := by decide +kernel
theorem dL_law_662 : decode cL_law 662 = .ok (.aload_n 1, 1) := by decide +kernel
theorem dL_law_663 : decode cL_law 663 = .ok (.aload_n 0, 1) := by decide +kernel
theorem dL_law_664 : decode cL_law 664 = .ok (.iload_n 3, 1) := by decide +kernel
theorem dL_law_665 : decode cL_law 665 = .ok (.iconst 1, 1) := by decide +kernel
theorem dL_law_666 : decode cL_law 666 = .ok (.iadd, 1) := by decide +kernel
theorem dL_law_667 : decode cL_law 667 = .ok (.iaload, 1) := by decide +kernel
theorem dL_law_668 : decode cL_law 668 = .ok (.aload_n 0, 1) := by decide +kernel
theorem dL_law_669 : decode cL_law 669 = .ok (.iload_n 3, 1) := by decide +kernel
theorem dL_law_670 : decode cL_law 670 = .ok (.iconst 2, 1) := by decide +kernel
theorem dL_law_671 : decode cL_law 671 = .ok (.iadd, 1) := by decide +kernel
theorem dL_law_672 : decode cL_law 672 = .ok (.iaload, 1) := by decide +kernel
theorem dL_law_673 : decode cL_law 673 = .ok (.invokevirtual 90, 3) := by decide +kernel
theorem dL_law_676 : decode cL_law 676 = .ok (.aload_n 2, 1) := by decide +kernel
theorem dL_law_677 : decode cL_law 677 = .ok (.aload_n 0, 1) := by decide +kernel
theorem dL_law_678 : decode cL_law 678 = .ok (.iload_n 3, 1) := by decide +kernel
theorem dL_law_679 : decode cL_law 679 = .ok (.iconst 1, 1) := by decide +kernel
theorem dL_law_680 : decode cL_law 680 = .ok (.iadd, 1) := by decide +kernel
theorem dL_law_681 : decode cL_law 681 = .ok (.iaload, 1) := by decide +kernel
theorem dL_law_682 : decode cL_law 682 = .ok (.aload_n 0, 1) := by decide +kernel
theorem dL_law_683 : decode cL_law 683 = .ok (.iload_n 3, 1) := by decide +kernel
theorem dL_law_684 : decode cL_law 684 = .ok (.iconst 2, 1) := by decide +kernel
theorem dL_law_685 : decode cL_law 685 = .ok (.iadd, 1) := by decide +kernel
theorem dL_law_686 : decode cL_law 686 = .ok (.iaload, 1) := by decide +kernel
theorem dL_law_687 : decode cL_law 687 = .ok (.invokevirtual 93, 3) := by decide +kernel
theorem dL_law_690 : decode cL_law 690 = .ok (.if_icmp .eq 28, 3) := by decide +kernel
theorem dL_law_693 : decode cL_law 693 = .ok (.iconst 0, 1) := by decide +kernel
theorem dL_law_694 : decode cL_law 694 = .ok (.ireturn, 1) := by decide +kernel
theorem dL_law_695 : decode cL_law 695 = .ok (.aload_n 1, 1) := by decide +kernel
theorem dL_law_696 : decode cL_law 696 = .ok (.aload_n 0, 1) := by decide +kernel
theorem dL_law_697 : decode cL_law 697 = .ok (.iload_n 3, 1) := by decide +kernel
theorem dL_law_698 : decode cL_law 698 = .ok (.iconst 1, 1) := by decide +kernel
theorem dL_law_699 : decode cL_law 699 = .ok (.iadd, 1) := by decide +kernel
theorem dL_law_700 : decode cL_law 700 = .ok (.iaload, 1) := by decide +kernel
theorem dL_law_701 : decode cL_law 701 = .ok (.invokevirtual 94, 3) := by decide +kernel
theorem dL_law_704 : decode cL_law 704 = .ok (.aload_n 2, 1) := by decide +kernel
theorem dL_law_705 : decode cL_law 705 = .ok (.aload_n 0, 1) := by decide +kernel
theorem dL_law_706 : decode cL_law 706 = .ok (.iload_n 3, 1) := by decide +kernel
theorem dL_law_707 : decode cL_law 707 = .ok (.iconst 1, 1) := by decide +kernel
theorem dL_law_708 : decode cL_law 708 = .ok (.iadd, 1) := by decide +kernel
theorem dL_law_709 : decode cL_law 709 = .ok (.iaload, 1) := by decide +kernel
theorem dL_law_710 : decode cL_law 710 = .ok (.invokevirtual 97, 3) := by decide +kernel
theorem dL_law_713 : decode cL_law 713 = .ok (.if_icmp .eq 5, 3) := by decide +kernel
theorem dL_law_716 : decode cL_law 716 = .ok (.iconst 0, 1) := by decide +kernel
theorem dL_law_717 : decode cL_law 717 = .ok (.ireturn, 1) := by decide +kernel
theorem dL_law_718 : decode cL_law 718 = .ok (.iinc 3 6, 3) := by decide +kernel
theorem dL_law_721 : decode cL_law 721 = .ok (.goto (-703), 3) := by decide +kernel
theorem dL_law_724 : decode cL_law 724 = .ok (.iconst 1, 1) := by decide +kernel
theorem dL_law_725 : decode cL_law 725 = .ok (.ireturn, 1) := by decide +kernel
end
section
/-! ===== a layer of my own: worlds as numbered cells, and a judgement 'from here the method comes to this end' over them ===== -/
abbrev AV : Type := Int32 ⊕ Option Nat
abbrev Mem : Type := Nat → Nat → Int32
abbrev Sh : Type := Nat × (Nat → Nat) × (Nat → Nat) × (Nat → Nat → Option Nat)
abbrev MI : Type := MethodName × ByteArray × Nat × Option FieldType
abbrev Cs : Type := ClassId × ClassId × ClassId
def rv (n0 : Nat) (v : AV) : Value := match v with
  | .inl x => .int x
  | .inr r => va_rf (r.map (fun i => n0 + i))
theorem rv_cat (n0 : Nat) (v : AV) : (rv n0 v).category = 1 := by
  cases v with
  | inl x => rfl
  | inr r => cases r <;> rfl
/-- how many fields a kind has; which of them are references -/
def nF : Nat → Nat
  | 0 => 3
  | 1 => 7
  | 2 => 8
  | 3 => 19
  | 4 => 5
  | _ => 14
def rF : Nat → Nat → Bool
  | 0, j => j == 0
  | 1, _ => false
  | 2, j => j == 0 || j == 2 || j == 7
  | 3, j => Nat.ble 4 j
  | 4, _ => true
  | _, j => j == 0 || j == 1 || j == 3 || j == 4 || j == 8 || j == 11 || j == 12
def RK : Nat → String
  | 0 => RX0
  | 1 => RX1
  | 2 => RX2
  | 3 => RX3
  | 4 => RX4
  | _ => RX5
def TK : Nat → u_T
  | 0 => TX0
  | 1 => TX1
  | 2 => TX2
  | 3 => TX3
  | 4 => TX4
  | _ => TX5
def tyK : Nat → Nat → FieldType
  | 0 => tyX0
  | 1 => tyX1
  | 2 => tyX2
  | 3 => tyX3
  | 4 => tyX4
  | _ => tyX5
theorem K_cl {k : Nat} (h : k < 6) : vwCl[k]? = some (RK k, TK k, nF k) := by
  match k, h with
  | 0, _ => rfl
  | 1, _ => rfl
  | 2, _ => rfl
  | 3, _ => rfl
  | 4, _ => rfl
  | 5, _ => rfl
theorem K_in {k : Nat} (h : k < 6) : ∀ w ∈ u_ws (RK k) (TK k) (nF k), w ∈ zWS := by
  match k, h with
  | 0, _ => exact zinX0
  | 1, _ => exact zinX1
  | 2, _ => exact zinX2
  | 3, _ => exact zinX3
  | 4, _ => exact zinX4
  | 5, _ => exact zinX5
theorem K_nm {k : Nat} (h : k < 6) : ∀ a, a < nF k → ∀ b, b < nF k → a ≠ b → (TK k a).2.1 ≠ (TK k b).2.1 := by
  match k, h with
  | 0, _ => exact nmX0
  | 1, _ => exact nmX1
  | 2, _ => exact nmX2
  | 3, _ => exact nmX3
  | 4, _ => exact nmX4
  | 5, _ => exact nmX5
theorem K_ty {k : Nat} (h : k < 6) : ∀ j, j < nF k → parseFieldDescriptor (TK k j).2.2.1 = some (tyK k j) := by
  match k, h with
  | 0, _ => exact tyX0_ok
  | 1, _ => exact tyX1_ok
  | 2, _ => exact tyX2_ok
  | 3, _ => exact tyX3_ok
  | 4, _ => exact tyX4_ok
  | 5, _ => exact tyX5_ok
def fv (n0 : Nat) (b : Bool) (x : Int32) (r : Option Nat) : Value := match b with
  | true => va_rf (r.map (fun i => n0 + i))
  | false => .int x
def flds (n0 k : Nat) (c : Nat → Int32) (r : Nat → Option Nat) : List Value := (List.range (nF k)).map (fun j => fv n0 (rF k j) (c j) (r j))
def ent (n0 : Nat) (cs : Cs) (k len : Nat) (c : Nat → Int32) (r : Nat → Option Nat) : va_E :=
  if k = 6 then .inl (cs.1, len, .inl c)
  else if k = 7 then .inl (cs.2.1, len, .inr (.inr (.inr (.inr (fun j => (r j).map (fun i => n0 + i))))))
  else if k = 8 then .inl (cs.2.2, len, .inr (.inr (.inr (.inr (fun j => (r j).map (fun i => n0 + i))))))
  else .inr (k, flds n0 k c r)
def entS (n0 : Nat) (cs : Cs) (sh : Sh) (C : Mem) (i : Nat) : va_E := ent n0 cs (sh.2.1 i) (sh.2.2.1 i) (C i) (sh.2.2.2 i)
def wsl (n0 : Nat) (cs : Cs) (sh : Sh) (C : Mem) : va_W := (List.range sh.1).map (fun i => (n0 + i, entS n0 cs sh C i))
theorem wsl_at {n0 : Nat} {cs : Cs} {sh : Sh} {C : Mem} {i : Nat} (h : i < sh.1) : (wsl n0 cs sh C)[i]? = some (n0 + i, entS n0 cs sh C i) := by
  simp [wsl, h]
theorem wsl_len {n0 : Nat} {cs : Cs} {sh : Sh} {C : Mem} : (wsl n0 cs sh C).length = sh.1 := by simp [wsl]
theorem wsl_inv {n0 : Nat} {cs : Cs} {sh : Sh} {C : Mem} {i : Nat} {q : Nat × va_E} (h : (wsl n0 cs sh C)[i]? = some q) : i < sh.1 ∧ q = (n0 + i, entS n0 cs sh C i) := by
  have hl : i < sh.1 := by
    have := (List.getElem?_eq_some_iff.mp h).1
    rwa [wsl_len] at this
  rw [wsl_at hl] at h
  exact ⟨hl, (Option.some.inj h).symm⟩
theorem wsl_D {n0 : Nat} {cs : Cs} {sh : Sh} {C : Mem} : va_D (fun q => n0 ≤ q) (wsl n0 cs sh C) := by
  refine ⟨fun i j p q hi hj h => ?_, fun k q h => ?_⟩
  · obtain ⟨-, rfl⟩ := wsl_inv hi
    obtain ⟨-, rfl⟩ := wsl_inv hj
    exact Nat.add_left_cancel h
  · obtain ⟨-, rfl⟩ := wsl_inv h
    exact Nat.le_add_right _ _
theorem ent_int {n0 : Nat} {cs : Cs} {k len : Nat} {c : Nat → Int32} {r : Nat → Option Nat} (h : k = 6) : ent n0 cs k len c r = .inl (cs.1, len, .inl c) := by simp [ent, h]
theorem ent_7 {n0 : Nat} {cs : Cs} {k len : Nat} {c : Nat → Int32} {r : Nat → Option Nat} (h : k = 7) : ent n0 cs k len c r = .inl (cs.2.1, len, .inr (.inr (.inr (.inr (fun j => (r j).map (fun i => n0 + i)))))) := by simp [ent, h]
theorem ent_8 {n0 : Nat} {cs : Cs} {k len : Nat} {c : Nat → Int32} {r : Nat → Option Nat} (h : k = 8) : ent n0 cs k len c r = .inl (cs.2.2, len, .inr (.inr (.inr (.inr (fun j => (r j).map (fun i => n0 + i)))))) := by simp [ent, h]
theorem ent_obj {n0 : Nat} {cs : Cs} {k len : Nat} {c : Nat → Int32} {r : Nat → Option Nat} (h : k < 6) : ent n0 cs k len c r = .inr (k, flds n0 k c r) := by
  have h6 : k ≠ 6 := by omega
  have h7 : k ≠ 7 := by omega
  have h8 : k ≠ 8 := by omega
  simp [ent, h6, h7, h8]
theorem flds_at {n0 k : Nat} {c : Nat → Int32} {r : Nat → Option Nat} {j : Nat} (h : j < nF k) : (flds n0 k c r)[j]? = some (fv n0 (rF k j) (c j) (r j)) := by
  simp [flds, h]
theorem flds_len {n0 k : Nat} {c : Nat → Int32} {r : Nat → Option Nat} : (flds n0 k c r).length = nF k := by simp [flds]
theorem flds_set {n0 k : Nat} {c c' : Nat → Int32} {r r' : Nat → Option Nat} {j : Nat} {v : Value} (hj : j < nF k) (hv : v = fv n0 (rF k j) (c' j) (r' j)) (ho : ∀ i, i ≠ j → c' i = c i ∧ r' i = r i) : (flds n0 k c r).set j v = flds n0 k c' r' := by
  apply List.ext_getElem?
  intro i
  rw [List.getElem?_set]
  by_cases hi : i < nF k
  · rw [flds_at hi, flds_at hi]
    by_cases hij : j = i
    · subst hij
      simp [flds_len, hj, hv]
    · obtain ⟨e1, e2⟩ := ho i (Ne.symm hij)
      simp [hij, e1, e2]
  · have h1 : (flds n0 k c r)[i]? = none := List.getElem?_eq_none (by rw [flds_len]; omega)
    have h2 : (flds n0 k c' r')[i]? = none := List.getElem?_eq_none (by rw [flds_len]; omega)
    have hij : ¬ j = i := by omega
    rw [h1, h2]
    simp [hij]
theorem wsl_set {n0 : Nat} {cs : Cs} {sh sh' : Sh} {C C' : Mem} {i : Nat} {e : va_E} (hi : i < sh.1) (hn : sh'.1 = sh.1) (he : entS n0 cs sh' C' i = e) (ho : ∀ j, j ≠ i → entS n0 cs sh' C' j = entS n0 cs sh C j) : (wsl n0 cs sh C).set i (n0 + i, e) = wsl n0 cs sh' C' := by
  apply List.ext_getElem?
  intro j
  rw [List.getElem?_set]
  by_cases hj : j < sh.1
  · rw [wsl_at hj, wsl_at (by rw [hn]; exact hj)]
    by_cases hij : i = j
    · subst hij
      simp [wsl_len, hi, he]
    · simp [hij, ho j (Ne.symm hij)]
  · have h1 : (wsl n0 cs sh C)[j]? = none := List.getElem?_eq_none (by rw [wsl_len]; omega)
    have h2 : (wsl n0 cs sh' C')[j]? = none := List.getElem?_eq_none (by rw [wsl_len, hn]; omega)
    have hij : ¬ i = j := by omega
    rw [h1, h2]
    simp [hij]
/-- one slot of one cell -/
def up (C : Mem) (a j : Nat) (x : Int32) : Mem := fun a' => if a' = a then upd (C a) j x else C a'
def setR (sh : Sh) (i j : Nat) (t : Option Nat) : Sh := (sh.1, sh.2.1, sh.2.2.1, fun a => if a = i then (fun b => if b = j then t else sh.2.2.2 i b) else sh.2.2.2 a)
def pushS (sh : Sh) (k len : Nat) : Sh := (sh.1 + 1, (fun i => if i = sh.1 then k else sh.2.1 i), (fun i => if i = sh.1 then len else sh.2.2.1 i), fun i => if i = sh.1 then (fun _ => none) else sh.2.2.2 i)
def pushC (C : Mem) (n : Nat) : Mem := fun a => if a = n then (fun _ => 0) else C a
theorem wsl_push {n0 : Nat} {cs : Cs} {sh : Sh} {C : Mem} {k len : Nat} : wsl n0 cs sh C ++ [(n0 + sh.1, ent n0 cs k len (fun _ => 0) (fun _ => none))] = wsl n0 cs (pushS sh k len) (pushC C sh.1) := by
  show _ = (List.range (sh.1 + 1)).map _
  rw [List.range_succ, List.map_append]
  congr 1
  · refine List.map_congr_left fun i hi => ?_
    have h : i ≠ sh.1 := Nat.ne_of_lt (List.mem_range.mp hi)
    simp [entS, pushS, pushC, h]
  · simp [entS, pushS, pushC]
def tysOf (cs : Cs) : List (ClassId × FieldType) := [(cs.1, .int), (cs.2.1, .object "SilenceHours$Part"), (cs.2.2, .object "SilenceHours$State")]
def nestWs : List Cond := [.methodLinkNest "SilenceHours" 11 yX3_init "SilenceHours", .methodLinkNest "SilenceHours$History" 17 yX3_init "SilenceHours", .methodLinkNest "SilenceHours$Plan" 28 yX1_init "SilenceHours", .methodLinkNest "SilenceHours$State" 80 yX4_isWithin "SilenceHours", .methodLinkNest "SilenceHours$State" 116 yX4_otherSide "SilenceHours", .methodLinkNest "SilenceHours$State" 156 yX4_slotAt "SilenceHours", .methodLinkNest "SilenceHours$Plan" 109 yX4_isWithin "SilenceHours", .methodLinkNest "SilenceHours$Plan" 103 yX4_isStreet "SilenceHours"]
def KF (G : va_G) (cs : Cs) (U : State) : Prop := va_K G vwCl (tysOf cs) U ∧ (∀ w ∈ nestWs, va_Nw w U) ∧ va_AO "SilenceHours$State" U ∧ va_AO "SilenceHours$Part" U
theorem KF.moved {G : va_G} {cs : Cs} {s U : State} (h : KF G cs s) (hW : s.WarmedH U.vm) : KF G cs U := by
  refine ⟨va_K.moved hW.alike h.1, fun w hw => ?_, va_AO.moved hW.alike h.2.2.1, va_AO.moved hW.alike h.2.2.2⟩
  have h1 := h.2.1 w hw
  have key : ∃ a i x g, w = Cond.methodLinkNest a i x g := by
    simp only [nestWs, List.mem_cons, List.not_mem_nil, or_false] at hw
    rcases hw with rfl | rfl | rfl | rfl | rfl | rfl | rfl | rfl <;> exact ⟨_, _, _, _, rfl⟩
  obtain ⟨a, i, x, g, rfl⟩ := key
  exact va_Nw.warmM hW h1
def HW (n0 : Nat) (G : va_G) (cs : Cs) (sh : Sh) (C : Mem) (H : Heap) : Prop := va_P G vwCl (wsl n0 cs sh C) H
def rmm (d k n : Nat) : Room := { frames := d, cells := k, slots := n, locals := 37 * d }
def wsY (y : MI) : List Cond := Cond.code y.1 y.2.1 y.2.2.1 y.2.2.2 :: zWS
theorem zWS_tbl {w : Cond} (h : w ∈ zWS) : w ∈ lw_tbl := (List.mem_filter.mp h).1
theorem goodIn_zw {y : MI} {L : List Cond} (h : ∀ w ∈ L, w ∈ zWS) : GoodIn (wsY y) L := fun w hw => ⟨List.mem_cons_of_mem _ (h w hw), good_of_word (List.mem_filter.mp (h w hw)).2⟩
def Qcc (n0 : Nat) (G : va_G) (cs : Cs) (r : Option AV) (sh : Sh) (C : Mem) : Array Value → State → Outcome → State → Prop := fun _ st oc t => oc = .returned (r.map (rv n0)) ∧ HW n0 G cs sh C t.heap ∧ va_F (fun q => n0 ≤ q) st t
def Pcc (n0 : Nat) (G : va_G) (cs : Cs) (args : List AV) (sh : Sh) (C : Mem) : Array Value → State → Prop := va_Pc (args.map (rv n0)) (fun U => KF G cs U ∧ U.heap.size = n0 + sh.1 ∧ HW n0 G cs sh C U.heap)
/-- the method y, at depth d with k new cells of n slots, called with args in the world sh, C: it returns r, in the world sh', C' -/
def Calls (y : MI) (d k n : Nat) (args : List AV) (sh : Sh) (C : Mem) (r : Option AV) (sh' : Sh) (C' : Mem) : Prop :=
  ∀ (l : Launch) (n0 : Nat) (G : va_G) (cs : Cs), Met l y.1 (wsY y) (rmm d k n) (Pcc n0 G cs args sh C) (Qcc n0 G cs r sh' C') k n (fun q => n0 ≤ q)
def LocOk (n0 : Nat) (arr : Array Slot) (nL : Nat) (ls : List (Option AV)) : Prop := arr.size = nL ∧ lv_wf arr ∧ ∀ (i : Nat) (v : AV), ls[i]? = some (some v) → arr[i]? = some (.val (rv n0 v))
/-- what holds inside a body -/
def Cx (y : MI) (k n n0 : Nat) (G : va_G) (cs : Cs) (p : Program) (s : State) (m : MethodId) (args : Array Value) (meth : Method) (c : Code) (H : Heap) (locs : List Loc) (cells slots mc ms : Nat) (arr : Array Slot) (sh : Sh) (C : Mem) (ls : List (Option AV)) : Prop :=
  p.tables.exec = Jvm.exec ∧ c.code = y.2.1 ∧ c.maxLocals = y.2.2.1 ∧ meth.sig.returnType = y.2.2.2 ∧ (∀ w ∈ wsY y, w.before args s = true) ∧ s.vm.findClass y.1.cls = some m.cls ∧ meth.locks = false ∧ meth.name = y.1.name ∧ KF G cs s ∧ HW n0 G cs sh C H ∧ va_S (fun q => n0 ≤ q) s.heap H locs ∧ n0 ≤ s.heap.size ∧ s.heap.size + cells = n0 + sh.1 ∧ cells + k ≤ mc ∧ slots + n ≤ ms ∧ LocOk n0 arr y.2.2.1 ls
/-- from this place in the body of y, with these locals, this stack and this world: y returns r, in the world sh', C' -/
def WP (y : MI) (d k n pc : Nat) (ls : List (Option AV)) (stk : List AV) (sh : Sh) (C : Mem) (r : Option AV) (sh' : Sh) (C' : Mem) : Prop :=
  ∀ (n0 : Nat) (G : va_G) (cs : Cs) (p : Program) (l : Launch) (e : Env) (s : State) (m : MethodId) (args : Array Value) (below : List Frame) (meth : Method) (c : Code) (H : Heap) (locs : List Loc) (cells slots mc ms : Nat) (arr : Array Slot),
    Cx y k n n0 G cs p s m args meth c H locs cells slots mc ms arr sh C ls →
    W p l e (rmm d mc ms) s m args below meth c H locs cells slots (MQ below (Qcc n0 G cs r sh' C') args s mc ms (fun q => n0 ≤ q)) (F0 m pc arr (stk.map (rv n0)))
theorem LocOk.lt {n0 nL : Nat} {arr : Array Slot} {ls : List (Option AV)} (h : LocOk n0 arr nL ls) {i : Nat} {v : AV} (hi : ls[i]? = some (some v)) : arr[i]? = some (.val (rv n0 v)) := h.2.2 i v hi
def encL (n0 : Nat) : Nat → List (Option AV) → List (Nat × Value)
  | _, [] => []
  | i, none :: t => encL n0 (i + 1) t
  | i, some v :: t => (i, rv n0 v) :: encL n0 (i + 1) t
theorem encL_mem {n0 : Nat} : ∀ (ls : List (Option AV)) (i : Nat) (q : Nat × Value), q ∈ encL n0 i ls ↔ ∃ (j : Nat) (v : AV), ls[j]? = some (some v) ∧ q = (i + j, rv n0 v)
  | [], i, q => by simp [encL]
  | none :: t, i, q => by
    rw [encL, encL_mem t (i + 1) q]
    constructor
    · rintro ⟨j, v, h1, h2⟩
      exact ⟨j + 1, v, by simpa using h1, by rw [h2]; congr 1; omega⟩
    · rintro ⟨j, v, h1, h2⟩
      cases j with
      | zero => simp at h1
      | succ j => exact ⟨j, v, by simpa using h1, by rw [h2]; congr 1; omega⟩
  | some w :: t, i, q => by
    rw [encL, List.mem_cons, encL_mem t (i + 1) q]
    constructor
    · rintro (h | ⟨j, v, h1, h2⟩)
      · exact ⟨0, w, by simp, by rw [h]; rfl⟩
      · exact ⟨j + 1, v, by simpa using h1, by rw [h2]; congr 1; omega⟩
    · rintro ⟨j, v, h1, h2⟩
      cases j with
      | zero =>
        simp at h1
        subst h1
        exact Or.inl h2
      | succ j => exact Or.inr ⟨j, v, by simpa using h1, by rw [h2]; congr 1; omega⟩
theorem encL_has {n0 nL : Nat} {arr : Array Slot} {ls : List (Option AV)} (h : LocOk n0 arr nL ls) : lv_has arr nL (encL n0 0 ls) := by
  refine ⟨h.1, h.2.1, fun q hq => ?_⟩
  obtain ⟨j, v, h1, rfl⟩ := (encL_mem ls 0 q).mp hq
  have h2 := h.2.2 j v h1
  simpa using h2
theorem encL_at {n0 : Nat} {ls : List (Option AV)} {i : Nat} {x : Int32} (h : ls[i]? = some (some (.inl x))) : ∃ k : Nat, (encL n0 0 ls)[k]? = some (i, Value.int x) := by
  have hm : (i, Value.int x) ∈ encL n0 0 ls := (encL_mem ls 0 _).mpr ⟨i, .inl x, h, by simp [rv]⟩
  obtain ⟨k, hk⟩ := List.getElem?_of_mem hm
  exact ⟨k, hk⟩
theorem LocOk.set {n0 nL : Nat} {arr arr1 : Array Slot} {ls : List (Option AV)} {i : Nat} (h : LocOk n0 arr nL ls) (v : AV) (h1 : lv_has arr1 nL ((i, rv n0 v) :: (encL n0 0 ls).filter (fun q => !(q.1 == i) && !(q.1 + 1 == i && q.2.category == 2)))) : LocOk n0 arr1 nL (ls.set i (some v)) := by
  refine ⟨h1.1, h1.2.1, fun j w hj => ?_⟩
  rw [List.getElem?_set] at hj
  by_cases hij : i = j
  · subst hij
    have h0 := h1.2.2 _ List.mem_cons_self
    rw [if_pos rfl] at hj
    split at hj
    · cases hj
      exact h0
    · cases hj
  · rw [if_neg hij] at hj
    have hm : (j, rv n0 w) ∈ encL n0 0 ls := (encL_mem ls 0 _).mpr ⟨j, w, hj, by simp⟩
    refine h1.2.2 (j, rv n0 w) (List.mem_cons_of_mem _ (List.mem_filter.mpr ⟨hm, ?_⟩))
    have e1 : (j == i) = false := by simpa using Ne.symm hij
    simp [e1, rv_cat]
theorem HW.size {n0 : Nat} {G : va_G} {cs : Cs} {sh : Sh} {C : Mem} {H : Heap} {p : Program} {l : Launch} {e : Env} {R : Room} {s : State} {m : MethodId} {args : Array Value} {below : List Frame} {meth : Method} {c : Code} {T : State} {locs : List Loc} {cells slots : Nat} (h : HW n0 G cs sh C H) (X : Stand p l e R s m args below meth c T locs cells slots) (hT : T.heap = H) (h0 : n0 ≤ s.heap.size) (hz : s.heap.size + cells = n0 + sh.1) : H.size = n0 + sh.1 := by
  have h1 : T.heap.size ≤ s.heap.size + cells := X.same.2.2.1
  have h2 : s.heap.size ≤ T.heap.size := X.same.2.1
  rw [hT] at h1 h2
  by_cases hn : sh.1 = 0
  · omega
  · have h3 := (h (sh.1 - 1) _ (wsl_at (by omega))).lt
    have h4 : n0 + (sh.1 - 1) < H.size := h3
    omega
theorem lg_sl_rv (n0 : Nat) (args : List AV) : lg_sl (args.map (rv n0)) = args.map (fun v => Slot.val (rv n0 v)) := by
  induction args with
  | nil => rfl
  | cons v t ih =>
    have e : lg_sl ((v :: t).map (rv n0)) = (if (rv n0 v).category = 2 then [Slot.val (rv n0 v), .second] else [Slot.val (rv n0 v)]) ++ lg_sl (t.map (rv n0)) := by
      simp [lg_sl]
    rw [e, ih, if_neg (by rw [rv_cat]; decide)]
    rfl
theorem LocOk.entry (n0 : Nat) (args : List AV) {nL : Nat} (h : args.length ≤ nL) : LocOk n0 ((lg_sl (args.map (rv n0)) ++ List.replicate (nL - (lg_sl (args.map (rv n0))).length) Slot.unset).toArray) nL (args.map some ++ List.replicate (nL - args.length) none) := by
  have hlen : (lg_sl (args.map (rv n0))).length = args.length := by rw [lg_sl_rv, List.length_map]
  have h0 := lv_entry (args.map (rv n0)) (n := nL) (by rw [hlen]; exact h)
  refine ⟨h0.1, h0.2.1, fun i v hi => ?_⟩
  rw [List.getElem?_toArray, lg_sl_rv]
  by_cases hl : i < args.length
  · rw [List.getElem?_append_left (by simpa using hl)] at hi ⊢
    rw [List.getElem?_map] at hi ⊢
    rw [List.getElem?_eq_getElem hl] at hi ⊢
    simp at hi
    subst hi
    rfl
  · rw [List.getElem?_append_right (by simpa using hl)] at hi
    rw [List.getElem?_replicate] at hi
    split at hi <;> cases hi
end
section
theorem stk_cat (n0 : Nat) (stk : List AV) : ((stk.map (rv n0)).map fun v => v.category).sum = stk.length := by
  induction stk with
  | nil => rfl
  | cons v t ih =>
    simp only [List.map_cons, List.sum_cons, List.length_cons, rv_cat]
    simp only [List.map_map] at ih ⊢
    omega
def cpy (C : Mem) (a b u v w : Nat) : Mem := fun q => if q = b then va_cpy (C a) (C b) u v w else C q
theorem nfw : nativeFrameWords "java/lang/System" "arraycopy" 5 = 7 := by decide +kernel
theorem zw_iadd {y : MI} {d k n pc : Nat} {ls : List (Option AV)} {stk : List AV} {sh sh' : Sh} {C C' : Mem} {r : Option AV} {x z : Int32} (hd : decode y.2.1 pc = .ok (.iadd, 1)) (kk : WP y d k n (pc + 1) ls (.inl (x + z) :: stk) sh C r sh' C') : WP y d k n pc ls (.inl z :: .inl x :: stk) sh C r sh' C' := by
  intro n0 G cs p l e s m args below meth c H locs cells slots mc ms arr hc
  have hc0 := hc
  obtain ⟨hx, hb, hml, hr, hts, hown, hlk, hnm, hK, hH, hS, hn0, hz, hcm, hsm, hl⟩ := hc
  exact lv_iadd hx hb hd (kk n0 G cs p l e s m args below meth c H locs cells slots mc ms arr hc0)
theorem zw_isub {y : MI} {d k n pc : Nat} {ls : List (Option AV)} {stk : List AV} {sh sh' : Sh} {C C' : Mem} {r : Option AV} {x z : Int32} (hd : decode y.2.1 pc = .ok (.isub, 1)) (kk : WP y d k n (pc + 1) ls (.inl (x - z) :: stk) sh C r sh' C') : WP y d k n pc ls (.inl z :: .inl x :: stk) sh C r sh' C' := by
  intro n0 G cs p l e s m args below meth c H locs cells slots mc ms arr hc
  have hc0 := hc
  obtain ⟨hx, hb, hml, hr, hts, hown, hlk, hnm, hK, hH, hS, hn0, hz, hcm, hsm, hl⟩ := hc
  exact lv_isub hx hb hd (kk n0 G cs p l e s m args below meth c H locs cells slots mc ms arr hc0)
theorem zw_imul {y : MI} {d k n pc : Nat} {ls : List (Option AV)} {stk : List AV} {sh sh' : Sh} {C C' : Mem} {r : Option AV} {x z : Int32} (hd : decode y.2.1 pc = .ok (.imul, 1)) (kk : WP y d k n (pc + 1) ls (.inl (x * z) :: stk) sh C r sh' C') : WP y d k n pc ls (.inl z :: .inl x :: stk) sh C r sh' C' := by
  intro n0 G cs p l e s m args below meth c H locs cells slots mc ms arr hc
  have hc0 := hc
  obtain ⟨hx, hb, hml, hr, hts, hown, hlk, hnm, hK, hH, hS, hn0, hz, hcm, hsm, hl⟩ := hc
  exact lv_imul hx hb hd (kk n0 G cs p l e s m args below meth c H locs cells slots mc ms arr hc0)
theorem zw_iand {y : MI} {d k n pc : Nat} {ls : List (Option AV)} {stk : List AV} {sh sh' : Sh} {C C' : Mem} {r : Option AV} {x z : Int32} (hd : decode y.2.1 pc = .ok (.iand, 1)) (kk : WP y d k n (pc + 1) ls (.inl (x &&& z) :: stk) sh C r sh' C') : WP y d k n pc ls (.inl z :: .inl x :: stk) sh C r sh' C' := by
  intro n0 G cs p l e s m args below meth c H locs cells slots mc ms arr hc
  have hc0 := hc
  obtain ⟨hx, hb, hml, hr, hts, hown, hlk, hnm, hK, hH, hS, hn0, hz, hcm, hsm, hl⟩ := hc
  exact lv_iand hx hb hd (kk n0 G cs p l e s m args below meth c H locs cells slots mc ms arr hc0)
theorem zw_ior {y : MI} {d k n pc : Nat} {ls : List (Option AV)} {stk : List AV} {sh sh' : Sh} {C C' : Mem} {r : Option AV} {x z : Int32} (hd : decode y.2.1 pc = .ok (.ior, 1)) (kk : WP y d k n (pc + 1) ls (.inl (x ||| z) :: stk) sh C r sh' C') : WP y d k n pc ls (.inl z :: .inl x :: stk) sh C r sh' C' := by
  intro n0 G cs p l e s m args below meth c H locs cells slots mc ms arr hc
  have hc0 := hc
  obtain ⟨hx, hb, hml, hr, hts, hown, hlk, hnm, hK, hH, hS, hn0, hz, hcm, hsm, hl⟩ := hc
  exact lv_ior hx hb hd (kk n0 G cs p l e s m args below meth c H locs cells slots mc ms arr hc0)
theorem zw_ishl {y : MI} {d k n pc : Nat} {ls : List (Option AV)} {stk : List AV} {sh sh' : Sh} {C C' : Mem} {r : Option AV} {x z : Int32} (hd : decode y.2.1 pc = .ok (.ishl, 1)) (kk : WP y d k n (pc + 1) ls (.inl (x <<< (z &&& 31)) :: stk) sh C r sh' C') : WP y d k n pc ls (.inl z :: .inl x :: stk) sh C r sh' C' := by
  intro n0 G cs p l e s m args below meth c H locs cells slots mc ms arr hc
  have hc0 := hc
  obtain ⟨hx, hb, hml, hr, hts, hown, hlk, hnm, hK, hH, hS, hn0, hz, hcm, hsm, hl⟩ := hc
  exact lv_ishl hx hb hd (kk n0 G cs p l e s m args below meth c H locs cells slots mc ms arr hc0)
theorem zw_ishr {y : MI} {d k n pc : Nat} {ls : List (Option AV)} {stk : List AV} {sh sh' : Sh} {C C' : Mem} {r : Option AV} {x z : Int32} (hd : decode y.2.1 pc = .ok (.ishr, 1)) (kk : WP y d k n (pc + 1) ls (.inl (x >>> (z &&& 31)) :: stk) sh C r sh' C') : WP y d k n pc ls (.inl z :: .inl x :: stk) sh C r sh' C' := by
  intro n0 G cs p l e s m args below meth c H locs cells slots mc ms arr hc
  have hc0 := hc
  obtain ⟨hx, hb, hml, hr, hts, hown, hlk, hnm, hK, hH, hS, hn0, hz, hcm, hsm, hl⟩ := hc
  exact lv_ishr hx hb hd (kk n0 G cs p l e s m args below meth c H locs cells slots mc ms arr hc0)
theorem zw_iushr {y : MI} {d k n pc : Nat} {ls : List (Option AV)} {stk : List AV} {sh sh' : Sh} {C C' : Mem} {r : Option AV} {x z : Int32} (hd : decode y.2.1 pc = .ok (.iushr, 1)) (kk : WP y d k n (pc + 1) ls (.inl ((x.toUInt32 >>> (z.toUInt32 &&& Int32.toUInt32 31)).toInt32) :: stk) sh C r sh' C') : WP y d k n pc ls (.inl z :: .inl x :: stk) sh C r sh' C' := by
  intro n0 G cs p l e s m args below meth c H locs cells slots mc ms arr hc
  have hc0 := hc
  obtain ⟨hx, hb, hml, hr, hts, hown, hlk, hnm, hK, hH, hS, hn0, hz, hcm, hsm, hl⟩ := hc
  exact lv_iushr hx hb hd rfl (kk n0 G cs p l e s m args below meth c H locs cells slots mc ms arr hc0)
theorem zw_ineg {y : MI} {d k n pc : Nat} {ls : List (Option AV)} {stk : List AV} {sh sh' : Sh} {C C' : Mem} {r : Option AV} {x : Int32} (hd : decode y.2.1 pc = .ok (.ineg, 1)) (kk : WP y d k n (pc + 1) ls (.inl (-x) :: stk) sh C r sh' C') : WP y d k n pc ls (.inl x :: stk) sh C r sh' C' := by
  intro n0 G cs p l e s m args below meth c H locs cells slots mc ms arr hc
  have hc0 := hc
  obtain ⟨hx, hb, hml, hr, hts, hown, hlk, hnm, hK, hH, hS, hn0, hz, hcm, hsm, hl⟩ := hc
  exact lv_ineg hx hb hd (kk n0 G cs p l e s m args below meth c H locs cells slots mc ms arr hc0)
theorem zw_idiv {y : MI} {d k n pc : Nat} {ls : List (Option AV)} {stk : List AV} {sh sh' : Sh} {C C' : Mem} {r : Option AV} {x z : Int32} (hd : decode y.2.1 pc = .ok (.idiv, 1)) (hne : ¬ z = 0) (kk : WP y d k n (pc + 1) ls (.inl (x / z) :: stk) sh C r sh' C') : WP y d k n pc ls (.inl z :: .inl x :: stk) sh C r sh' C' := by
  intro n0 G cs p l e s m args below meth c H locs cells slots mc ms arr hc
  have hc0 := hc
  obtain ⟨hx, hb, hml, hr, hts, hown, hlk, hnm, hK, hH, hS, hn0, hz, hcm, hsm, hl⟩ := hc
  exact lv_idiv hx hb hd hne (kk n0 G cs p l e s m args below meth c H locs cells slots mc ms arr hc0)
theorem zw_irem {y : MI} {d k n pc : Nat} {ls : List (Option AV)} {stk : List AV} {sh sh' : Sh} {C C' : Mem} {r : Option AV} {x z : Int32} (hd : decode y.2.1 pc = .ok (.irem, 1)) (hne : ¬ z = 0) (kk : WP y d k n (pc + 1) ls (.inl (x - x / z * z) :: stk) sh C r sh' C') : WP y d k n pc ls (.inl z :: .inl x :: stk) sh C r sh' C' := by
  intro n0 G cs p l e s m args below meth c H locs cells slots mc ms arr hc
  have hc0 := hc
  obtain ⟨hx, hb, hml, hr, hts, hown, hlk, hnm, hK, hH, hS, hn0, hz, hcm, hsm, hl⟩ := hc
  exact lv_irem hx hb hd hne (kk n0 G cs p l e s m args below meth c H locs cells slots mc ms arr hc0)
theorem zw_iconst {y : MI} {d k n pc : Nat} {ls : List (Option AV)} {stk : List AV} {sh sh' : Sh} {C C' : Mem} {r : Option AV} {z : Int} {v : Int32} (hd : decode y.2.1 pc = .ok (.iconst z, 1)) (hv : Int32.ofInt z = v) (kk : WP y d k n (pc + 1) ls (.inl v :: stk) sh C r sh' C') : WP y d k n pc ls stk sh C r sh' C' := by
  intro n0 G cs p l e s m args below meth c H locs cells slots mc ms arr hc
  have hc0 := hc
  obtain ⟨hx, hb, hml, hr, hts, hown, hlk, hnm, hK, hH, hS, hn0, hz, hcm, hsm, hl⟩ := hc
  exact lv_iconst hx hb hd hv (kk n0 G cs p l e s m args below meth c H locs cells slots mc ms arr hc0)
theorem zw_bipush {y : MI} {d k n pc : Nat} {ls : List (Option AV)} {stk : List AV} {sh sh' : Sh} {C C' : Mem} {r : Option AV} {z : Int} {v : Int32} (hd : decode y.2.1 pc = .ok (.bipush z, 2)) (hv : (Int8.ofInt z).toInt32 = v) (kk : WP y d k n (pc + 2) ls (.inl v :: stk) sh C r sh' C') : WP y d k n pc ls stk sh C r sh' C' := by
  intro n0 G cs p l e s m args below meth c H locs cells slots mc ms arr hc
  have hc0 := hc
  obtain ⟨hx, hb, hml, hr, hts, hown, hlk, hnm, hK, hH, hS, hn0, hz, hcm, hsm, hl⟩ := hc
  exact lv_bipush hx hb hd hv (kk n0 G cs p l e s m args below meth c H locs cells slots mc ms arr hc0)
theorem zw_sipush {y : MI} {d k n pc : Nat} {ls : List (Option AV)} {stk : List AV} {sh sh' : Sh} {C C' : Mem} {r : Option AV} {z : Int} {v : Int32} (hd : decode y.2.1 pc = .ok (.sipush z, 3)) (hv : (Int16.ofInt z).toInt32 = v) (kk : WP y d k n (pc + 3) ls (.inl v :: stk) sh C r sh' C') : WP y d k n pc ls stk sh C r sh' C' := by
  intro n0 G cs p l e s m args below meth c H locs cells slots mc ms arr hc
  have hc0 := hc
  obtain ⟨hx, hb, hml, hr, hts, hown, hlk, hnm, hK, hH, hS, hn0, hz, hcm, hsm, hl⟩ := hc
  exact lv_sipush hx hb hd hv (kk n0 G cs p l e s m args below meth c H locs cells slots mc ms arr hc0)
theorem zw_ldc {y : MI} {d k n pc : Nat} {ls : List (Option AV)} {stk : List AV} {sh sh' : Sh} {C C' : Mem} {r : Option AV} {idx : Nat} {v : Int32} (hd : decode y.2.1 pc = .ok (.ldc idx, 2)) (hw : Cond.constant y.1.cls idx v ∈ zWS) (kk : WP y d k n (pc + 2) ls (.inl v :: stk) sh C r sh' C') : WP y d k n pc ls stk sh C r sh' C' := by
  intro n0 G cs p l e s m args below meth c H locs cells slots mc ms arr hc
  have hc0 := hc
  obtain ⟨hx, hb, hml, hr, hts, hown, hlk, hnm, hK, hH, hS, hn0, hz, hcm, hsm, hl⟩ := hc
  exact lv_ldc hx hb hown (hts _ (List.mem_cons_of_mem _ hw)) hd (kk n0 G cs p l e s m args below meth c H locs cells slots mc ms arr hc0)
theorem zw_ldc_w {y : MI} {d k n pc : Nat} {ls : List (Option AV)} {stk : List AV} {sh sh' : Sh} {C C' : Mem} {r : Option AV} {idx : Nat} {v : Int32} (hd : decode y.2.1 pc = .ok (.ldc_w idx, 3)) (hw : Cond.constant y.1.cls idx v ∈ zWS) (kk : WP y d k n (pc + 3) ls (.inl v :: stk) sh C r sh' C') : WP y d k n pc ls stk sh C r sh' C' := by
  intro n0 G cs p l e s m args below meth c H locs cells slots mc ms arr hc
  have hc0 := hc
  obtain ⟨hx, hb, hml, hr, hts, hown, hlk, hnm, hK, hH, hS, hn0, hz, hcm, hsm, hl⟩ := hc
  exact lv_ldcw hx hb hown (hts _ (List.mem_cons_of_mem _ hw)) hd (kk n0 G cs p l e s m args below meth c H locs cells slots mc ms arr hc0)
theorem zw_iload {y : MI} {d k n pc : Nat} {ls : List (Option AV)} {stk : List AV} {sh sh' : Sh} {C C' : Mem} {r : Option AV} {i : Nat} {x : Int32} (hd : decode y.2.1 pc = .ok (.iload i, 2)) (hl0 : ls[i]? = some (some (.inl x))) (kk : WP y d k n (pc + 2) ls (.inl x :: stk) sh C r sh' C') : WP y d k n pc ls stk sh C r sh' C' := by
  intro n0 G cs p l e s m args below meth c H locs cells slots mc ms arr hc
  have hc0 := hc
  obtain ⟨hx, hb, hml, hr, hts, hown, hlk, hnm, hK, hH, hS, hn0, hz, hcm, hsm, hl⟩ := hc
  exact lv_iload hx hb hd (hl.2.2 _ _ hl0) (kk n0 G cs p l e s m args below meth c H locs cells slots mc ms arr hc0)
theorem zw_iload_n {y : MI} {d k n pc : Nat} {ls : List (Option AV)} {stk : List AV} {sh sh' : Sh} {C C' : Mem} {r : Option AV} {i : Fin 4} {x : Int32} (hd : decode y.2.1 pc = .ok (.iload_n i, 1)) (hl0 : ls[(i : Nat)]? = some (some (.inl x))) (kk : WP y d k n (pc + 1) ls (.inl x :: stk) sh C r sh' C') : WP y d k n pc ls stk sh C r sh' C' := by
  intro n0 G cs p l e s m args below meth c H locs cells slots mc ms arr hc
  have hc0 := hc
  obtain ⟨hx, hb, hml, hr, hts, hown, hlk, hnm, hK, hH, hS, hn0, hz, hcm, hsm, hl⟩ := hc
  exact lv_iload_n hx hb hd rfl (hl.2.2 _ _ hl0) (kk n0 G cs p l e s m args below meth c H locs cells slots mc ms arr hc0)
theorem zw_aload {y : MI} {d k n pc : Nat} {ls : List (Option AV)} {stk : List AV} {sh sh' : Sh} {C C' : Mem} {r : Option AV} {i : Nat} {t : Nat} (hd : decode y.2.1 pc = .ok (.aload i, 2)) (hl0 : ls[i]? = some (some (.inr (some t)))) (kk : WP y d k n (pc + 2) ls (.inr (some t) :: stk) sh C r sh' C') : WP y d k n pc ls stk sh C r sh' C' := by
  intro n0 G cs p l e s m args below meth c H locs cells slots mc ms arr hc
  have hc0 := hc
  obtain ⟨hx, hb, hml, hr, hts, hown, hlk, hnm, hK, hH, hS, hn0, hz, hcm, hsm, hl⟩ := hc
  exact lv_aload hx hb hd (hl.2.2 _ _ hl0) (kk n0 G cs p l e s m args below meth c H locs cells slots mc ms arr hc0)
theorem zw_aload_n {y : MI} {d k n pc : Nat} {ls : List (Option AV)} {stk : List AV} {sh sh' : Sh} {C C' : Mem} {r : Option AV} {i : Fin 4} {t : Nat} (hd : decode y.2.1 pc = .ok (.aload_n i, 1)) (hl0 : ls[(i : Nat)]? = some (some (.inr (some t)))) (kk : WP y d k n (pc + 1) ls (.inr (some t) :: stk) sh C r sh' C') : WP y d k n pc ls stk sh C r sh' C' := by
  intro n0 G cs p l e s m args below meth c H locs cells slots mc ms arr hc
  have hc0 := hc
  obtain ⟨hx, hb, hml, hr, hts, hown, hlk, hnm, hK, hH, hS, hn0, hz, hcm, hsm, hl⟩ := hc
  exact lv_aload_n hx hb hd rfl (hl.2.2 _ _ hl0) (kk n0 G cs p l e s m args below meth c H locs cells slots mc ms arr hc0)
theorem zw_istore {y : MI} {d k n pc : Nat} {ls : List (Option AV)} {stk : List AV} {sh sh' : Sh} {C C' : Mem} {r : Option AV} {i : Nat} {x : Int32} (hd : decode y.2.1 pc = .ok (.istore i, 2)) (hi : i < y.2.2.1) (kk : WP y d k n (pc + 2) (ls.set i (some (.inl x))) stk sh C r sh' C') : WP y d k n pc ls (.inl x :: stk) sh C r sh' C' := by
  intro n0 G cs p l e s m args below meth c H locs cells slots mc ms arr hc
  have hc0 := hc
  obtain ⟨hx, hb, hml, hr, hts, hown, hlk, hnm, hK, hH, hS, hn0, hz, hcm, hsm, hl⟩ := hc
  exact lv_istore hx hb hd (encL_has hl) hi rfl (fun arr1 hh => kk n0 G cs p l e s m args below meth c H locs cells slots mc ms arr1 ⟨hx, hb, hml, hr, hts, hown, hlk, hnm, hK, hH, hS, hn0, hz, hcm, hsm, LocOk.set hl (.inl x) hh⟩)
theorem zw_istore_n {y : MI} {d k n pc : Nat} {ls : List (Option AV)} {stk : List AV} {sh sh' : Sh} {C C' : Mem} {r : Option AV} {i : Fin 4} {x : Int32} (hd : decode y.2.1 pc = .ok (.istore_n i, 1)) (hi : (i : Nat) < y.2.2.1) (kk : WP y d k n (pc + 1) (ls.set (i : Nat) (some (.inl x))) stk sh C r sh' C') : WP y d k n pc ls (.inl x :: stk) sh C r sh' C' := by
  intro n0 G cs p l e s m args below meth c H locs cells slots mc ms arr hc
  have hc0 := hc
  obtain ⟨hx, hb, hml, hr, hts, hown, hlk, hnm, hK, hH, hS, hn0, hz, hcm, hsm, hl⟩ := hc
  exact lv_istore_n hx hb hd rfl (encL_has hl) hi rfl (fun arr1 hh => kk n0 G cs p l e s m args below meth c H locs cells slots mc ms arr1 ⟨hx, hb, hml, hr, hts, hown, hlk, hnm, hK, hH, hS, hn0, hz, hcm, hsm, LocOk.set hl (.inl x) hh⟩)
theorem zw_astore {y : MI} {d k n pc : Nat} {ls : List (Option AV)} {stk : List AV} {sh sh' : Sh} {C C' : Mem} {r : Option AV} {i : Nat} {t : Nat} (hd : decode y.2.1 pc = .ok (.astore i, 2)) (hi : i < y.2.2.1) (kk : WP y d k n (pc + 2) (ls.set i (some (.inr (some t)))) stk sh C r sh' C') : WP y d k n pc ls (.inr (some t) :: stk) sh C r sh' C' := by
  intro n0 G cs p l e s m args below meth c H locs cells slots mc ms arr hc
  have hc0 := hc
  obtain ⟨hx, hb, hml, hr, hts, hown, hlk, hnm, hK, hH, hS, hn0, hz, hcm, hsm, hl⟩ := hc
  exact lv_astore hx hb hd (encL_has hl) hi rfl (fun arr1 hh => kk n0 G cs p l e s m args below meth c H locs cells slots mc ms arr1 ⟨hx, hb, hml, hr, hts, hown, hlk, hnm, hK, hH, hS, hn0, hz, hcm, hsm, LocOk.set hl (.inr (some t)) hh⟩)
theorem zw_astore_n {y : MI} {d k n pc : Nat} {ls : List (Option AV)} {stk : List AV} {sh sh' : Sh} {C C' : Mem} {r : Option AV} {i : Fin 4} {t : Nat} (hd : decode y.2.1 pc = .ok (.astore_n i, 1)) (hi : (i : Nat) < y.2.2.1) (kk : WP y d k n (pc + 1) (ls.set (i : Nat) (some (.inr (some t)))) stk sh C r sh' C') : WP y d k n pc ls (.inr (some t) :: stk) sh C r sh' C' := by
  intro n0 G cs p l e s m args below meth c H locs cells slots mc ms arr hc
  have hc0 := hc
  obtain ⟨hx, hb, hml, hr, hts, hown, hlk, hnm, hK, hH, hS, hn0, hz, hcm, hsm, hl⟩ := hc
  exact lv_astore_n hx hb hd rfl (encL_has hl) hi rfl (fun arr1 hh => kk n0 G cs p l e s m args below meth c H locs cells slots mc ms arr1 ⟨hx, hb, hml, hr, hts, hown, hlk, hnm, hK, hH, hS, hn0, hz, hcm, hsm, LocOk.set hl (.inr (some t)) hh⟩)
theorem zw_iinc {y : MI} {d k n pc : Nat} {ls : List (Option AV)} {stk : List AV} {sh sh' : Sh} {C C' : Mem} {r : Option AV} {i : Nat} {z : Int} {x v : Int32} (hd : decode y.2.1 pc = .ok (.iinc i z, 3)) (hl0 : ls[i]? = some (some (.inl x))) (hv : x + Int32.ofInt z = v) (hi : i < y.2.2.1) (kk : WP y d k n (pc + 3) (ls.set i (some (.inl v))) stk sh C r sh' C') : WP y d k n pc ls stk sh C r sh' C' := by
  intro n0 G cs p l e s m args below meth c H locs cells slots mc ms arr hc
  have hc0 := hc
  obtain ⟨hx, hb, hml, hr, hts, hown, hlk, hnm, hK, hH, hS, hn0, hz, hcm, hsm, hl⟩ := hc
  obtain ⟨k9, hk9⟩ := encL_at (n0 := n0) hl0
  exact lv_iinc hx hb hd (encL_has hl) hk9 hv hi rfl (fun arr1 hh => kk n0 G cs p l e s m args below meth c H locs cells slots mc ms arr1 ⟨hx, hb, hml, hr, hts, hown, hlk, hnm, hK, hH, hS, hn0, hz, hcm, hsm, LocOk.set hl (.inl v) hh⟩)
theorem zw_dup {y : MI} {d k n pc : Nat} {ls : List (Option AV)} {stk : List AV} {sh sh' : Sh} {C C' : Mem} {r : Option AV} {v : AV} (hd : decode y.2.1 pc = .ok (.dup, 1)) (kk : WP y d k n (pc + 1) ls (v :: v :: stk) sh C r sh' C') : WP y d k n pc ls (v :: stk) sh C r sh' C' := by
  intro n0 G cs p l e s m args below meth c H locs cells slots mc ms arr hc
  have hc0 := hc
  obtain ⟨hx, hb, hml, hr, hts, hown, hlk, hnm, hK, hH, hS, hn0, hz, hcm, hsm, hl⟩ := hc
  exact lv_dup hx hb hd (rv_cat n0 v) (kk n0 G cs p l e s m args below meth c H locs cells slots mc ms arr hc0)
theorem zw_dup2 {y : MI} {d k n pc : Nat} {ls : List (Option AV)} {stk : List AV} {sh sh' : Sh} {C C' : Mem} {r : Option AV} {v w : AV} (hd : decode y.2.1 pc = .ok (.dup2, 1)) (kk : WP y d k n (pc + 1) ls (v :: w :: v :: w :: stk) sh C r sh' C') : WP y d k n pc ls (v :: w :: stk) sh C r sh' C' := by
  intro n0 G cs p l e s m args below meth c H locs cells slots mc ms arr hc
  have hc0 := hc
  obtain ⟨hx, hb, hml, hr, hts, hown, hlk, hnm, hK, hH, hS, hn0, hz, hcm, hsm, hl⟩ := hc
  exact lv_dup2_11 hx hb hd (rv_cat n0 v) (rv_cat n0 w) (kk n0 G cs p l e s m args below meth c H locs cells slots mc ms arr hc0)
theorem zw_pop {y : MI} {d k n pc : Nat} {ls : List (Option AV)} {stk : List AV} {sh sh' : Sh} {C C' : Mem} {r : Option AV} {v : AV} (hd : decode y.2.1 pc = .ok (.pop, 1)) (kk : WP y d k n (pc + 1) ls stk sh C r sh' C') : WP y d k n pc ls (v :: stk) sh C r sh' C' := by
  intro n0 G cs p l e s m args below meth c H locs cells slots mc ms arr hc
  have hc0 := hc
  obtain ⟨hx, hb, hml, hr, hts, hown, hlk, hnm, hK, hH, hS, hn0, hz, hcm, hsm, hl⟩ := hc
  exact lv_pop hx hb hd (rv_cat n0 v) (kk n0 G cs p l e s m args below meth c H locs cells slots mc ms arr hc0)
theorem zw_goto {y : MI} {d k n pc : Nat} {ls : List (Option AV)} {stk : List AV} {sh sh' : Sh} {C C' : Mem} {r : Option AV} {off : Int} {tgt : Nat} (hd : decode y.2.1 pc = .ok (.goto off, 3)) (ht : (pc : Int) + off = (tgt : Int)) (kk : WP y d k n tgt ls stk sh C r sh' C') : WP y d k n pc ls stk sh C r sh' C' := by
  intro n0 G cs p l e s m args below meth c H locs cells slots mc ms arr hc
  have hc0 := hc
  obtain ⟨hx, hb, hml, hr, hts, hown, hlk, hnm, hK, hH, hS, hn0, hz, hcm, hsm, hl⟩ := hc
  exact lv_goto hx hb hd ht (kk n0 G cs p l e s m args below meth c H locs cells slots mc ms arr hc0)
theorem zw_icmp_eq {y : MI} {d k n pc : Nat} {ls : List (Option AV)} {stk : List AV} {sh sh' : Sh} {C C' : Mem} {r : Option AV} {x z : Int32} {off : Int} {tgt : Nat} (hd : decode y.2.1 pc = .ok (.if_icmp .eq off, 3)) (ht : (pc : Int) + off = (tgt : Int)) (kt : x = z → WP y d k n tgt ls stk sh C r sh' C') (kf : ¬ x = z → WP y d k n (pc + 3) ls stk sh C r sh' C') : WP y d k n pc ls (.inl z :: .inl x :: stk) sh C r sh' C' := by
  intro n0 G cs p l e s m args below meth c H locs cells slots mc ms arr hc
  have hc0 := hc
  obtain ⟨hx, hb, hml, hr, hts, hown, hlk, hnm, hK, hH, hS, hn0, hz, hcm, hsm, hl⟩ := hc
  exact lv_icmp_eq hx hb hd ht (fun q => kt q n0 G cs p l e s m args below meth c H locs cells slots mc ms arr hc0) (fun q => kf q n0 G cs p l e s m args below meth c H locs cells slots mc ms arr hc0)
theorem zw_if_eq {y : MI} {d k n pc : Nat} {ls : List (Option AV)} {stk : List AV} {sh sh' : Sh} {C C' : Mem} {r : Option AV} {x : Int32} {off : Int} {tgt : Nat} (hd : decode y.2.1 pc = .ok (.ifCond .eq off, 3)) (ht : (pc : Int) + off = (tgt : Int)) (kt : x = 0 → WP y d k n tgt ls stk sh C r sh' C') (kf : ¬ x = 0 → WP y d k n (pc + 3) ls stk sh C r sh' C') : WP y d k n pc ls (.inl x :: stk) sh C r sh' C' := by
  intro n0 G cs p l e s m args below meth c H locs cells slots mc ms arr hc
  have hc0 := hc
  obtain ⟨hx, hb, hml, hr, hts, hown, hlk, hnm, hK, hH, hS, hn0, hz, hcm, hsm, hl⟩ := hc
  exact lv_if_eq hx hb hd ht (fun q => kt q n0 G cs p l e s m args below meth c H locs cells slots mc ms arr hc0) (fun q => kf q n0 G cs p l e s m args below meth c H locs cells slots mc ms arr hc0)
theorem zw_icmp_ne {y : MI} {d k n pc : Nat} {ls : List (Option AV)} {stk : List AV} {sh sh' : Sh} {C C' : Mem} {r : Option AV} {x z : Int32} {off : Int} {tgt : Nat} (hd : decode y.2.1 pc = .ok (.if_icmp .ne off, 3)) (ht : (pc : Int) + off = (tgt : Int)) (kt : ¬ x = z → WP y d k n tgt ls stk sh C r sh' C') (kf : x = z → WP y d k n (pc + 3) ls stk sh C r sh' C') : WP y d k n pc ls (.inl z :: .inl x :: stk) sh C r sh' C' := by
  intro n0 G cs p l e s m args below meth c H locs cells slots mc ms arr hc
  have hc0 := hc
  obtain ⟨hx, hb, hml, hr, hts, hown, hlk, hnm, hK, hH, hS, hn0, hz, hcm, hsm, hl⟩ := hc
  exact lv_icmp_ne hx hb hd ht (fun q => kt q n0 G cs p l e s m args below meth c H locs cells slots mc ms arr hc0) (fun q => kf q n0 G cs p l e s m args below meth c H locs cells slots mc ms arr hc0)
theorem zw_if_ne {y : MI} {d k n pc : Nat} {ls : List (Option AV)} {stk : List AV} {sh sh' : Sh} {C C' : Mem} {r : Option AV} {x : Int32} {off : Int} {tgt : Nat} (hd : decode y.2.1 pc = .ok (.ifCond .ne off, 3)) (ht : (pc : Int) + off = (tgt : Int)) (kt : ¬ x = 0 → WP y d k n tgt ls stk sh C r sh' C') (kf : x = 0 → WP y d k n (pc + 3) ls stk sh C r sh' C') : WP y d k n pc ls (.inl x :: stk) sh C r sh' C' := by
  intro n0 G cs p l e s m args below meth c H locs cells slots mc ms arr hc
  have hc0 := hc
  obtain ⟨hx, hb, hml, hr, hts, hown, hlk, hnm, hK, hH, hS, hn0, hz, hcm, hsm, hl⟩ := hc
  exact lv_if_ne hx hb hd ht (fun q => kt q n0 G cs p l e s m args below meth c H locs cells slots mc ms arr hc0) (fun q => kf q n0 G cs p l e s m args below meth c H locs cells slots mc ms arr hc0)
theorem zw_icmp_lt {y : MI} {d k n pc : Nat} {ls : List (Option AV)} {stk : List AV} {sh sh' : Sh} {C C' : Mem} {r : Option AV} {x z : Int32} {off : Int} {tgt : Nat} (hd : decode y.2.1 pc = .ok (.if_icmp .lt off, 3)) (ht : (pc : Int) + off = (tgt : Int)) (kt : x < z → WP y d k n tgt ls stk sh C r sh' C') (kf : ¬ x < z → WP y d k n (pc + 3) ls stk sh C r sh' C') : WP y d k n pc ls (.inl z :: .inl x :: stk) sh C r sh' C' := by
  intro n0 G cs p l e s m args below meth c H locs cells slots mc ms arr hc
  have hc0 := hc
  obtain ⟨hx, hb, hml, hr, hts, hown, hlk, hnm, hK, hH, hS, hn0, hz, hcm, hsm, hl⟩ := hc
  exact lv_icmp_lt hx hb hd ht (fun q => kt q n0 G cs p l e s m args below meth c H locs cells slots mc ms arr hc0) (fun q => kf q n0 G cs p l e s m args below meth c H locs cells slots mc ms arr hc0)
theorem zw_if_lt {y : MI} {d k n pc : Nat} {ls : List (Option AV)} {stk : List AV} {sh sh' : Sh} {C C' : Mem} {r : Option AV} {x : Int32} {off : Int} {tgt : Nat} (hd : decode y.2.1 pc = .ok (.ifCond .lt off, 3)) (ht : (pc : Int) + off = (tgt : Int)) (kt : x < 0 → WP y d k n tgt ls stk sh C r sh' C') (kf : ¬ x < 0 → WP y d k n (pc + 3) ls stk sh C r sh' C') : WP y d k n pc ls (.inl x :: stk) sh C r sh' C' := by
  intro n0 G cs p l e s m args below meth c H locs cells slots mc ms arr hc
  have hc0 := hc
  obtain ⟨hx, hb, hml, hr, hts, hown, hlk, hnm, hK, hH, hS, hn0, hz, hcm, hsm, hl⟩ := hc
  exact lv_if_lt hx hb hd ht (fun q => kt q n0 G cs p l e s m args below meth c H locs cells slots mc ms arr hc0) (fun q => kf q n0 G cs p l e s m args below meth c H locs cells slots mc ms arr hc0)
theorem zw_icmp_ge {y : MI} {d k n pc : Nat} {ls : List (Option AV)} {stk : List AV} {sh sh' : Sh} {C C' : Mem} {r : Option AV} {x z : Int32} {off : Int} {tgt : Nat} (hd : decode y.2.1 pc = .ok (.if_icmp .ge off, 3)) (ht : (pc : Int) + off = (tgt : Int)) (kt : ¬ x < z → WP y d k n tgt ls stk sh C r sh' C') (kf : x < z → WP y d k n (pc + 3) ls stk sh C r sh' C') : WP y d k n pc ls (.inl z :: .inl x :: stk) sh C r sh' C' := by
  intro n0 G cs p l e s m args below meth c H locs cells slots mc ms arr hc
  have hc0 := hc
  obtain ⟨hx, hb, hml, hr, hts, hown, hlk, hnm, hK, hH, hS, hn0, hz, hcm, hsm, hl⟩ := hc
  exact lv_icmp_ge hx hb hd ht (fun q => kt (Int32.not_lt.mpr q) n0 G cs p l e s m args below meth c H locs cells slots mc ms arr hc0) (fun q => kf (Int32.not_le.mp q) n0 G cs p l e s m args below meth c H locs cells slots mc ms arr hc0)
theorem zw_if_ge {y : MI} {d k n pc : Nat} {ls : List (Option AV)} {stk : List AV} {sh sh' : Sh} {C C' : Mem} {r : Option AV} {x : Int32} {off : Int} {tgt : Nat} (hd : decode y.2.1 pc = .ok (.ifCond .ge off, 3)) (ht : (pc : Int) + off = (tgt : Int)) (kt : ¬ x < 0 → WP y d k n tgt ls stk sh C r sh' C') (kf : x < 0 → WP y d k n (pc + 3) ls stk sh C r sh' C') : WP y d k n pc ls (.inl x :: stk) sh C r sh' C' := by
  intro n0 G cs p l e s m args below meth c H locs cells slots mc ms arr hc
  have hc0 := hc
  obtain ⟨hx, hb, hml, hr, hts, hown, hlk, hnm, hK, hH, hS, hn0, hz, hcm, hsm, hl⟩ := hc
  exact lv_if_ge hx hb hd ht (fun q => kt (Int32.not_lt.mpr q) n0 G cs p l e s m args below meth c H locs cells slots mc ms arr hc0) (fun q => kf (Int32.not_le.mp q) n0 G cs p l e s m args below meth c H locs cells slots mc ms arr hc0)
theorem zw_icmp_gt {y : MI} {d k n pc : Nat} {ls : List (Option AV)} {stk : List AV} {sh sh' : Sh} {C C' : Mem} {r : Option AV} {x z : Int32} {off : Int} {tgt : Nat} (hd : decode y.2.1 pc = .ok (.if_icmp .gt off, 3)) (ht : (pc : Int) + off = (tgt : Int)) (kt : z < x → WP y d k n tgt ls stk sh C r sh' C') (kf : ¬ z < x → WP y d k n (pc + 3) ls stk sh C r sh' C') : WP y d k n pc ls (.inl z :: .inl x :: stk) sh C r sh' C' := by
  intro n0 G cs p l e s m args below meth c H locs cells slots mc ms arr hc
  have hc0 := hc
  obtain ⟨hx, hb, hml, hr, hts, hown, hlk, hnm, hK, hH, hS, hn0, hz, hcm, hsm, hl⟩ := hc
  exact lv_icmp_gt hx hb hd ht (fun q => kt q n0 G cs p l e s m args below meth c H locs cells slots mc ms arr hc0) (fun q => kf q n0 G cs p l e s m args below meth c H locs cells slots mc ms arr hc0)
theorem zw_if_gt {y : MI} {d k n pc : Nat} {ls : List (Option AV)} {stk : List AV} {sh sh' : Sh} {C C' : Mem} {r : Option AV} {x : Int32} {off : Int} {tgt : Nat} (hd : decode y.2.1 pc = .ok (.ifCond .gt off, 3)) (ht : (pc : Int) + off = (tgt : Int)) (kt : 0 < x → WP y d k n tgt ls stk sh C r sh' C') (kf : ¬ 0 < x → WP y d k n (pc + 3) ls stk sh C r sh' C') : WP y d k n pc ls (.inl x :: stk) sh C r sh' C' := by
  intro n0 G cs p l e s m args below meth c H locs cells slots mc ms arr hc
  have hc0 := hc
  obtain ⟨hx, hb, hml, hr, hts, hown, hlk, hnm, hK, hH, hS, hn0, hz, hcm, hsm, hl⟩ := hc
  exact lv_if_gt hx hb hd ht (fun q => kt q n0 G cs p l e s m args below meth c H locs cells slots mc ms arr hc0) (fun q => kf q n0 G cs p l e s m args below meth c H locs cells slots mc ms arr hc0)
theorem zw_icmp_le {y : MI} {d k n pc : Nat} {ls : List (Option AV)} {stk : List AV} {sh sh' : Sh} {C C' : Mem} {r : Option AV} {x z : Int32} {off : Int} {tgt : Nat} (hd : decode y.2.1 pc = .ok (.if_icmp .le off, 3)) (ht : (pc : Int) + off = (tgt : Int)) (kt : ¬ z < x → WP y d k n tgt ls stk sh C r sh' C') (kf : z < x → WP y d k n (pc + 3) ls stk sh C r sh' C') : WP y d k n pc ls (.inl z :: .inl x :: stk) sh C r sh' C' := by
  intro n0 G cs p l e s m args below meth c H locs cells slots mc ms arr hc
  have hc0 := hc
  obtain ⟨hx, hb, hml, hr, hts, hown, hlk, hnm, hK, hH, hS, hn0, hz, hcm, hsm, hl⟩ := hc
  exact lv_icmp_le hx hb hd ht (fun q => kt (Int32.not_lt.mpr q) n0 G cs p l e s m args below meth c H locs cells slots mc ms arr hc0) (fun q => kf (Int32.not_le.mp q) n0 G cs p l e s m args below meth c H locs cells slots mc ms arr hc0)
theorem zw_if_le {y : MI} {d k n pc : Nat} {ls : List (Option AV)} {stk : List AV} {sh sh' : Sh} {C C' : Mem} {r : Option AV} {x : Int32} {off : Int} {tgt : Nat} (hd : decode y.2.1 pc = .ok (.ifCond .le off, 3)) (ht : (pc : Int) + off = (tgt : Int)) (kt : ¬ 0 < x → WP y d k n tgt ls stk sh C r sh' C') (kf : 0 < x → WP y d k n (pc + 3) ls stk sh C r sh' C') : WP y d k n pc ls (.inl x :: stk) sh C r sh' C' := by
  intro n0 G cs p l e s m args below meth c H locs cells slots mc ms arr hc
  have hc0 := hc
  obtain ⟨hx, hb, hml, hr, hts, hown, hlk, hnm, hK, hH, hS, hn0, hz, hcm, hsm, hl⟩ := hc
  exact lv_if_le hx hb hd ht (fun q => kt (Int32.not_lt.mpr q) n0 G cs p l e s m args below meth c H locs cells slots mc ms arr hc0) (fun q => kf (Int32.not_le.mp q) n0 G cs p l e s m args below meth c H locs cells slots mc ms arr hc0)
theorem zw_tswIn {y : MI} {d k n pc : Nat} {ls : List (Option AV)} {stk : List AV} {sh sh' : Sh} {C C' : Mem} {r : Option AV} {dflt lo hi : Int} {offs : Array Int} {len : Nat} {x : Int32} {off : Int} {tgt : Nat} (hd : decode y.2.1 pc = .ok (.tableswitch dflt lo hi offs, len)) (h1 : ¬ x.toInt < lo) (h2 : ¬ hi < x.toInt) (ho : offs[(x.toInt - lo).toNat]? = some off) (ht : (pc : Int) + off = (tgt : Int)) (kk : WP y d k n tgt ls stk sh C r sh' C') : WP y d k n pc ls (.inl x :: stk) sh C r sh' C' := by
  intro n0 G cs p l e s m args below meth c H locs cells slots mc ms arr hc
  have hc0 := hc
  obtain ⟨hx, hb, hml, hr, hts, hown, hlk, hnm, hK, hH, hS, hn0, hz, hcm, hsm, hl⟩ := hc
  exact lv_tableIn hx hb hd h1 h2 ho ht (kk n0 G cs p l e s m args below meth c H locs cells slots mc ms arr hc0)
theorem zw_tswOut {y : MI} {d k n pc : Nat} {ls : List (Option AV)} {stk : List AV} {sh sh' : Sh} {C C' : Mem} {r : Option AV} {dflt lo hi : Int} {offs : Array Int} {len : Nat} {x : Int32} {tgt : Nat} (hd : decode y.2.1 pc = .ok (.tableswitch dflt lo hi offs, len)) (h : x.toInt < lo ∨ hi < x.toInt) (ht : (pc : Int) + dflt = (tgt : Int)) (kk : WP y d k n tgt ls stk sh C r sh' C') : WP y d k n pc ls (.inl x :: stk) sh C r sh' C' := by
  intro n0 G cs p l e s m args below meth c H locs cells slots mc ms arr hc
  have hc0 := hc
  obtain ⟨hx, hb, hml, hr, hts, hown, hlk, hnm, hK, hH, hS, hn0, hz, hcm, hsm, hl⟩ := hc
  exact lv_tableOut hx hb hd h ht (kk n0 G cs p l e s m args below meth c H locs cells slots mc ms arr hc0)
theorem zw_getI {y : MI} {d k n pc : Nat} {ls : List (Option AV)} {stk : List AV} {sh sh' : Sh} {C C' : Mem} {r : Option AV} {i j kd idx : Nat} (hd : decode y.2.1 pc = .ok (.getfield idx, 3)) (hi : i < sh.1) (hk : sh.2.1 i = kd) (hkd : kd < 6) (hj : j < nF kd) (hw : Cond.fieldLink y.1.cls idx (TK kd j).1 (TK kd j).2.1 (TK kd j).2.2.1 ∈ zWS) (hf : rF kd j = false) (kk : WP y d k n (pc + 3) ls (.inl (C i j) :: stk) sh C r sh' C') : WP y d k n pc ls (.inr (some i) :: stk) sh C r sh' C' := by
  intro n0 G cs p l e s m args below meth c H locs cells slots mc ms arr hc
  have hc0 := hc
  obtain ⟨hx, hb, hml, hr, hts, hown, hlk, hnm, hK, hH, hS, hn0, hz, hcm, hsm, hl⟩ := hc
  have hat : (wsl n0 cs sh C)[i]? = some (n0 + i, .inr (kd, flds n0 kd (C i) (sh.2.2.2 i))) := by
    rw [wsl_at hi, entS, ent_obj (by rw [hk]; exact hkd), hk]
  exact va_get (D := G) (tys := tysOf cs) (C := RK kd) (T := TK kd) (N := nF kd) (v := .int (C i j)) hx hb hts (fun w h => List.mem_cons_of_mem _ (K_in hkd w h)) hown hK.1 hH i hat (K_cl hkd) j hj (hts _ (List.mem_cons_of_mem _ hw)) (fun _ h9 => h9) (by rw [flds_at hj, hf]; rfl) hd (kk n0 G cs p l e s m args below meth c H locs cells slots mc ms arr hc0)
theorem zw_getR {y : MI} {d k n pc : Nat} {ls : List (Option AV)} {stk : List AV} {sh sh' : Sh} {C C' : Mem} {r : Option AV} {i j kd idx t : Nat} (hd : decode y.2.1 pc = .ok (.getfield idx, 3)) (hi : i < sh.1) (hk : sh.2.1 i = kd) (hkd : kd < 6) (hj : j < nF kd) (hw : Cond.fieldLink y.1.cls idx (TK kd j).1 (TK kd j).2.1 (TK kd j).2.2.1 ∈ zWS) (hf : rF kd j = true) (ht : sh.2.2.2 i j = some t) (kk : WP y d k n (pc + 3) ls (.inr (some t) :: stk) sh C r sh' C') : WP y d k n pc ls (.inr (some i) :: stk) sh C r sh' C' := by
  intro n0 G cs p l e s m args below meth c H locs cells slots mc ms arr hc
  have hc0 := hc
  obtain ⟨hx, hb, hml, hr, hts, hown, hlk, hnm, hK, hH, hS, hn0, hz, hcm, hsm, hl⟩ := hc
  have hat : (wsl n0 cs sh C)[i]? = some (n0 + i, .inr (kd, flds n0 kd (C i) (sh.2.2.2 i))) := by
    rw [wsl_at hi, entS, ent_obj (by rw [hk]; exact hkd), hk]
  exact va_get (D := G) (tys := tysOf cs) (C := RK kd) (T := TK kd) (N := nF kd) (v := .ref (n0 + t)) hx hb hts (fun w h => List.mem_cons_of_mem _ (K_in hkd w h)) hown hK.1 hH i hat (K_cl hkd) j hj (hts _ (List.mem_cons_of_mem _ hw)) (fun _ h9 => h9) (by rw [flds_at hj, hf, ht]; rfl) hd (kk n0 G cs p l e s m args below meth c H locs cells slots mc ms arr hc0)
theorem pd_I : parseFieldDescriptor "I" = some .int := by decide +kernel
theorem pd_Z : parseFieldDescriptor "Z" = some .boolean := by decide +kernel
theorem zw_putI {y : MI} {d k n pc : Nat} {ls : List (Option AV)} {stk : List AV} {sh sh' : Sh} {C C' : Mem} {r : Option AV} {i j kd idx : Nat} {x : Int32} (hd : decode y.2.1 pc = .ok (.putfield idx, 3)) (hi : i < sh.1) (hk : sh.2.1 i = kd) (hkd : kd < 6) (hj : j < nF kd) (hw : Cond.fieldLink y.1.cls idx (TK kd j).1 (TK kd j).2.1 (TK kd j).2.2.1 ∈ zWS) (hf : rF kd j = false) (hds : (TK kd j).2.2.1 = "I") (hfn : (TK kd j).2.2.2 = false) (kk : WP y d k n (pc + 3) ls stk sh (up C i j x) r sh' C') : WP y d k n pc ls (.inl x :: .inr (some i) :: stk) sh C r sh' C' := by
  intro n0 G cs p l e s m args below meth c H locs cells slots mc ms arr hc
  have hc0 := hc
  obtain ⟨hx, hb, hml, hr, hts, hown, hlk, hnm, hK, hH, hS, hn0, hz, hcm, hsm, hl⟩ := hc
  have hat : (wsl n0 cs sh C)[i]? = some (n0 + i, .inr (kd, flds n0 kd (C i) (sh.2.2.2 i))) := by
    rw [wsl_at hi, entS, ent_obj (by rw [hk]; exact hkd), hk]
  have hset : (wsl n0 cs sh C).set i (n0 + i, .inr (kd, (flds n0 kd (C i) (sh.2.2.2 i)).set j (.int x))) = wsl n0 cs sh (up C i j x) := by
    refine wsl_set hi rfl ?_ (fun b hb => ?_)
    · show ent n0 cs (sh.2.1 i) (sh.2.2.1 i) _ _ = _
      rw [ent_obj (by rw [hk]; exact hkd), hk]
      congr 2
      exact (flds_set hj (by rw [hf]; simp [fv, up, upd, setR, va_rf]) (fun b hb => by simp [up, upd, setR, hb])).symm
    · simp [entS, up, setR, hb]
  exact va_put (D := G) (tys := tysOf cs) (C := RK kd) (T := TK kd) (N := nF kd) (v := .int x) (ty := .int) hx hb hts (fun w h => List.mem_cons_of_mem _ (K_in hkd w h)) (tyK kd) (K_ty hkd) (K_nm hkd) hown hK.1 hH wsl_D hS i hat (K_cl hkd) j hj (hts _ (List.mem_cons_of_mem _ hw)) (fun _ h9 => h9) hfn (by rw [hds]; exact pd_I) rfl rfl (by rw [flds_len]; exact hj) hd (fun H1 locs1 hP1 _ hS1 => kk n0 G cs p l e s m args below meth c H1 locs1 cells slots mc ms arr ⟨hx, hb, hml, hr, hts, hown, hlk, hnm, hK, (show va_P G vwCl _ H1 by rw [← hset]; exact hP1), hS1, hn0, hz, hcm, hsm, hl⟩)
theorem zw_putZ {y : MI} {d k n pc : Nat} {ls : List (Option AV)} {stk : List AV} {sh sh' : Sh} {C C' : Mem} {r : Option AV} {i j kd idx : Nat} {x : Int32} (hd : decode y.2.1 pc = .ok (.putfield idx, 3)) (hi : i < sh.1) (hk : sh.2.1 i = kd) (hkd : kd < 6) (hj : j < nF kd) (hw : Cond.fieldLink y.1.cls idx (TK kd j).1 (TK kd j).2.1 (TK kd j).2.2.1 ∈ zWS) (hf : rF kd j = false) (hds : (TK kd j).2.2.1 = "Z") (hfn : (TK kd j).2.2.2 = false) (hxb : x = 0 ∨ x = 1) (kk : WP y d k n (pc + 3) ls stk sh (up C i j x) r sh' C') : WP y d k n pc ls (.inl x :: .inr (some i) :: stk) sh C r sh' C' := by
  intro n0 G cs p l e s m args below meth c H locs cells slots mc ms arr hc
  have hc0 := hc
  obtain ⟨hx, hb, hml, hr, hts, hown, hlk, hnm, hK, hH, hS, hn0, hz, hcm, hsm, hl⟩ := hc
  have hat : (wsl n0 cs sh C)[i]? = some (n0 + i, .inr (kd, flds n0 kd (C i) (sh.2.2.2 i))) := by
    rw [wsl_at hi, entS, ent_obj (by rw [hk]; exact hkd), hk]
  have hset : (wsl n0 cs sh C).set i (n0 + i, .inr (kd, (flds n0 kd (C i) (sh.2.2.2 i)).set j (.int x))) = wsl n0 cs sh (up C i j x) := by
    refine wsl_set hi rfl ?_ (fun b hb => ?_)
    · show ent n0 cs (sh.2.1 i) (sh.2.2.1 i) _ _ = _
      rw [ent_obj (by rw [hk]; exact hkd), hk]
      congr 2
      exact (flds_set hj (by rw [hf]; simp [fv, up, upd, setR, va_rf]) (fun b hb => by simp [up, upd, setR, hb])).symm
    · simp [entS, up, setR, hb]
  exact va_put (D := G) (tys := tysOf cs) (C := RK kd) (T := TK kd) (N := nF kd) (v := .int x) (ty := .boolean) hx hb hts (fun w h => List.mem_cons_of_mem _ (K_in hkd w h)) (tyK kd) (K_ty hkd) (K_nm hkd) hown hK.1 hH wsl_D hS i hat (K_cl hkd) j hj (hts _ (List.mem_cons_of_mem _ hw)) (fun _ h9 => h9) hfn (by rw [hds]; exact pd_Z) (by rcases hxb with rfl | rfl <;> rfl) (by rcases hxb with rfl | rfl <;> rfl) (by rw [flds_len]; exact hj) hd (fun H1 locs1 hP1 _ hS1 => kk n0 G cs p l e s m args below meth c H1 locs1 cells slots mc ms arr ⟨hx, hb, hml, hr, hts, hown, hlk, hnm, hK, (show va_P G vwCl _ H1 by rw [← hset]; exact hP1), hS1, hn0, hz, hcm, hsm, hl⟩)
theorem zw_putR {y : MI} {d k n pc : Nat} {ls : List (Option AV)} {stk : List AV} {sh sh' : Sh} {C C' : Mem} {r : Option AV} {i j kd idx t : Nat} (hd : decode y.2.1 pc = .ok (.putfield idx, 3)) (hi : i < sh.1) (hk : sh.2.1 i = kd) (hkd : kd < 6) (hj : j < nF kd) (hw : Cond.fieldLink y.1.cls idx (TK kd j).1 (TK kd j).2.1 (TK kd j).2.2.1 ∈ zWS) (hf : rF kd j = true) (hfn : (TK kd j).2.2.2 = true) (hnn : y.1.name = "<init>") (hde : (TK kd j).1 = y.1.cls) (hna : ∀ a, narrow (tyK kd j) (.ref a) = .ref a) (hfi : ∀ a, fits (tyK kd j) (.ref a) = true) (kk : WP y d k n (pc + 3) ls stk (setR sh i j (some t)) C r sh' C') : WP y d k n pc ls (.inr (some t) :: .inr (some i) :: stk) sh C r sh' C' := by
  intro n0 G cs p l e s m args below meth c H locs cells slots mc ms arr hc
  have hc0 := hc
  obtain ⟨hx, hb, hml, hr, hts, hown, hlk, hnm, hK, hH, hS, hn0, hz, hcm, hsm, hl⟩ := hc
  have hat : (wsl n0 cs sh C)[i]? = some (n0 + i, .inr (kd, flds n0 kd (C i) (sh.2.2.2 i))) := by
    rw [wsl_at hi, entS, ent_obj (by rw [hk]; exact hkd), hk]
  have hset : (wsl n0 cs sh C).set i (n0 + i, .inr (kd, (flds n0 kd (C i) (sh.2.2.2 i)).set j (.ref (n0 + t)))) = wsl n0 cs (setR sh i j (some t)) C := by
    refine wsl_set hi rfl ?_ (fun b hb => ?_)
    · show ent n0 cs (sh.2.1 i) (sh.2.2.1 i) _ _ = _
      rw [ent_obj (by rw [hk]; exact hkd), hk]
      congr 2
      exact (flds_set hj (by rw [hf]; simp [fv, up, upd, setR, va_rf]) (fun b hb => by simp [up, upd, setR, hb])).symm
    · simp [entS, up, setR, hb]
  exact va_putF (D := G) (tys := tysOf cs) (C := RK kd) (T := TK kd) (N := nF kd) (v := .ref (n0 + t)) (ty := tyK kd j) hx hb hts (fun w h => List.mem_cons_of_mem _ (K_in hkd w h)) (tyK kd) (K_ty hkd) (K_nm hkd) hown hK.1 hH wsl_D hS i hat (K_cl hkd) j hj (hts _ (List.mem_cons_of_mem _ hw)) (fun _ h9 => h9) hfn (hnm.trans hnn) hde (K_ty hkd j hj) (hna _) (hfi _) (by rw [flds_len]; exact hj) hd (fun H1 locs1 hP1 _ hS1 => kk n0 G cs p l e s m args below meth c H1 locs1 cells slots mc ms arr ⟨hx, hb, hml, hr, hts, hown, hlk, hnm, hK, (show va_P G vwCl _ H1 by rw [← hset]; exact hP1), hS1, hn0, hz, hcm, hsm, hl⟩)
theorem zw_iald {y : MI} {d k n pc : Nat} {ls : List (Option AV)} {stk : List AV} {sh sh' : Sh} {C C' : Mem} {r : Option AV} {a j : Nat} {x : Int32} (hd : decode y.2.1 pc = .ok (.iaload, 1)) (hi : a < sh.1) (hk : sh.2.1 a = 6) (hL : sh.2.2.1 a < 2 ^ 31) (hxj : x = nI j) (hj : j < sh.2.2.1 a) (kk : WP y d k n (pc + 1) ls (.inl (C a j) :: stk) sh C r sh' C') : WP y d k n pc ls (.inl x :: .inr (some a) :: stk) sh C r sh' C' := by
  intro n0 G cs p l e s m args below meth c H locs cells slots mc ms arr hc
  have hc0 := hc
  obtain ⟨hx, hb, hml, hr, hts, hown, hlk, hnm, hK, hH, hS, hn0, hz, hcm, hsm, hl⟩ := hc
  have hat : (wsl n0 cs sh C)[a]? = some (n0 + a, .inl (cs.1, sh.2.2.1 a, .inl (C a))) := by
    rw [wsl_at hi, entS, ent_int hk]
  subst hxj
  refine va_iald (D := G) (tys := tysOf cs) hx hb hK.1 hH a 0 hat rfl (vp_in_nI hj hL) hd ?_
  rw [nI_clamp (by omega)]
  exact (kk n0 G cs p l e s m args below meth c H locs cells slots mc ms arr hc0)
theorem zw_iast {y : MI} {d k n pc : Nat} {ls : List (Option AV)} {stk : List AV} {sh sh' : Sh} {C C' : Mem} {r : Option AV} {a j : Nat} {x v : Int32} (hd : decode y.2.1 pc = .ok (.iastore, 1)) (hi : a < sh.1) (hk : sh.2.1 a = 6) (hL : sh.2.2.1 a < 2 ^ 31) (hxj : x = nI j) (hj : j < sh.2.2.1 a) (kk : WP y d k n (pc + 1) ls stk sh (up C a j v) r sh' C') : WP y d k n pc ls (.inl v :: .inl x :: .inr (some a) :: stk) sh C r sh' C' := by
  intro n0 G cs p l e s m args below meth c H locs cells slots mc ms arr hc
  have hc0 := hc
  obtain ⟨hx, hb, hml, hr, hts, hown, hlk, hnm, hK, hH, hS, hn0, hz, hcm, hsm, hl⟩ := hc
  have hat : (wsl n0 cs sh C)[a]? = some (n0 + a, .inl (cs.1, sh.2.2.1 a, .inl (C a))) := by
    rw [wsl_at hi, entS, ent_int hk]
  subst hxj
  have hset : (wsl n0 cs sh C).set a (n0 + a, .inl (cs.1, sh.2.2.1 a, .inl (upd (C a) (nI j).toNatClampNeg v))) = wsl n0 cs sh (up C a j v) := by
    refine wsl_set hi rfl ?_ (fun b hb => ?_)
    · rw [entS, ent_int hk, nI_clamp (by omega)]
      simp [up]
    · simp [entS, up, hb]
  exact va_iast (D := G) (tys := tysOf cs) hx hb hK.1 hH wsl_D hS a 0 hat rfl (vp_in_nI hj hL) hd (fun H1 locs1 hP1 _ hS1 => kk n0 G cs p l e s m args below meth c H1 locs1 cells slots mc ms arr ⟨hx, hb, hml, hr, hts, hown, hlk, hnm, hK, (show va_P G vwCl _ H1 by rw [← hset]; exact hP1), hS1, hn0, hz, hcm, hsm, hl⟩)
theorem zw_alen {y : MI} {d k n pc : Nat} {ls : List (Option AV)} {stk : List AV} {sh sh' : Sh} {C C' : Mem} {r : Option AV} {a : Nat} (hd : decode y.2.1 pc = .ok (.arraylength, 1)) (hi : a < sh.1) (hk : sh.2.1 a = 6) (kk : WP y d k n (pc + 1) ls (.inl (nI (sh.2.2.1 a)) :: stk) sh C r sh' C') : WP y d k n pc ls (.inr (some a) :: stk) sh C r sh' C' := by
  intro n0 G cs p l e s m args below meth c H locs cells slots mc ms arr hc
  have hc0 := hc
  obtain ⟨hx, hb, hml, hr, hts, hown, hlk, hnm, hK, hH, hS, hn0, hz, hcm, hsm, hl⟩ := hc
  have hat : (wsl n0 cs sh C)[a]? = some (n0 + a, .inl (cs.1, sh.2.2.1 a, .inl (C a))) := by
    rw [wsl_at hi, entS, ent_int hk]
  exact va_alen (D := G) (tys := tysOf cs) hx hb hK.1 hH a 0 hat rfl rfl hd (kk n0 G cs p l e s m args below meth c H locs cells slots mc ms arr hc0)
theorem zw_aaldP {y : MI} {d k n pc : Nat} {ls : List (Option AV)} {stk : List AV} {sh sh' : Sh} {C C' : Mem} {r : Option AV} {a j t : Nat} {x : Int32} (hd : decode y.2.1 pc = .ok (.aaload, 1)) (hi : a < sh.1) (hk : sh.2.1 a = 7) (hL : sh.2.2.1 a < 2 ^ 31) (hxj : x = nI j) (hj : j < sh.2.2.1 a) (ht : sh.2.2.2 a j = some t) (kk : WP y d k n (pc + 1) ls (.inr (some t) :: stk) sh C r sh' C') : WP y d k n pc ls (.inl x :: .inr (some a) :: stk) sh C r sh' C' := by
  intro n0 G cs p l e s m args below meth c H locs cells slots mc ms arr hc
  have hc0 := hc
  obtain ⟨hx, hb, hml, hr, hts, hown, hlk, hnm, hK, hH, hS, hn0, hz, hcm, hsm, hl⟩ := hc
  have hat : (wsl n0 cs sh C)[a]? = some (n0 + a, .inl (cs.2.1, sh.2.2.1 a, .inr (.inr (.inr (.inr (fun j => (sh.2.2.2 a j).map (fun i => n0 + i))))))) := by
    rw [wsl_at hi, entS, ent_7 hk]
  subst hxj
  refine va_aldq (D := G) (tys := tysOf cs) hx hb hK.1 hH a 1 hat rfl (vp_in_nI hj hL) hd ?_
  rw [nI_clamp (by omega), ht]
  exact (kk n0 G cs p l e s m args below meth c H locs cells slots mc ms arr hc0)
theorem zw_aastP {y : MI} {d k n pc : Nat} {ls : List (Option AV)} {stk : List AV} {sh sh' : Sh} {C C' : Mem} {r : Option AV} {a j t : Nat} {x : Int32} (hd : decode y.2.1 pc = .ok (.aastore, 1)) (hi : a < sh.1) (hk : sh.2.1 a = 7) (hL : sh.2.2.1 a < 2 ^ 31) (hxj : x = nI j) (hj : j < sh.2.2.1 a) (ht : t < sh.1) (htk : sh.2.1 t = 1) (kk : WP y d k n (pc + 1) ls stk (setR sh a j (some t)) C r sh' C') : WP y d k n pc ls (.inr (some t) :: .inl x :: .inr (some a) :: stk) sh C r sh' C' := by
  intro n0 G cs p l e s m args below meth c H locs cells slots mc ms arr hc
  have hc0 := hc
  obtain ⟨hx, hb, hml, hr, hts, hown, hlk, hnm, hK, hH, hS, hn0, hz, hcm, hsm, hl⟩ := hc
  have hat : (wsl n0 cs sh C)[a]? = some (n0 + a, .inl (cs.2.1, sh.2.2.1 a, .inr (.inr (.inr (.inr (fun j => (sh.2.2.2 a j).map (fun i => n0 + i))))))) := by
    rw [wsl_at hi, entS, ent_7 hk]
  subst hxj
  have htt : (wsl n0 cs sh C)[t]? = some (n0 + t, .inr (1, flds n0 1 (C t) (sh.2.2.2 t))) := by
    rw [wsl_at ht, entS, ent_obj (by rw [htk]; decide), htk]
  have hset : (wsl n0 cs sh C).set a (n0 + a, .inl (cs.2.1, sh.2.2.1 a, .inr (.inr (.inr (.inr (va_up (fun j => (sh.2.2.2 a j).map (fun i => n0 + i)) (nI j).toNatClampNeg (some (n0 + t)))))))) = wsl n0 cs (setR sh a j (some t)) C := by
    refine wsl_set hi rfl ?_ (fun b hb => ?_)
    · have hfun : (fun b => ((setR sh a j (some t)).2.2.2 a b).map (fun i => n0 + i)) = va_up (fun j => (sh.2.2.2 a j).map (fun i => n0 + i)) j (some (n0 + t)) := by
        funext b
        by_cases hbj : b = j <;> simp [setR, va_up, hbj]
      show ent n0 cs (sh.2.1 a) (sh.2.2.1 a) _ _ = _
      rw [ent_7 hk, nI_clamp (by omega), ← hfun]
    · simp [entS, setR, hb]
  exact va_astq (D := G) (tys := tysOf cs) hx hb hK.1 hH wsl_D hS a 1 t 1 (r := (RK 1, TK 1, nF 1)) hat rfl htt (K_cl (by decide)) (vp_in_nI hj hL) hd (fun H1 locs1 hP1 _ hS1 => kk n0 G cs p l e s m args below meth c H1 locs1 cells slots mc ms arr ⟨hx, hb, hml, hr, hts, hown, hlk, hnm, hK, (show va_P G vwCl _ H1 by rw [← hset]; exact hP1), hS1, hn0, hz, hcm, hsm, hl⟩)
theorem zw_aaldS {y : MI} {d k n pc : Nat} {ls : List (Option AV)} {stk : List AV} {sh sh' : Sh} {C C' : Mem} {r : Option AV} {a j t : Nat} {x : Int32} (hd : decode y.2.1 pc = .ok (.aaload, 1)) (hi : a < sh.1) (hk : sh.2.1 a = 8) (hL : sh.2.2.1 a < 2 ^ 31) (hxj : x = nI j) (hj : j < sh.2.2.1 a) (ht : sh.2.2.2 a j = some t) (kk : WP y d k n (pc + 1) ls (.inr (some t) :: stk) sh C r sh' C') : WP y d k n pc ls (.inl x :: .inr (some a) :: stk) sh C r sh' C' := by
  intro n0 G cs p l e s m args below meth c H locs cells slots mc ms arr hc
  have hc0 := hc
  obtain ⟨hx, hb, hml, hr, hts, hown, hlk, hnm, hK, hH, hS, hn0, hz, hcm, hsm, hl⟩ := hc
  have hat : (wsl n0 cs sh C)[a]? = some (n0 + a, .inl (cs.2.2, sh.2.2.1 a, .inr (.inr (.inr (.inr (fun j => (sh.2.2.2 a j).map (fun i => n0 + i))))))) := by
    rw [wsl_at hi, entS, ent_8 hk]
  subst hxj
  refine va_aldq (D := G) (tys := tysOf cs) hx hb hK.1 hH a 2 hat rfl (vp_in_nI hj hL) hd ?_
  rw [nI_clamp (by omega), ht]
  exact (kk n0 G cs p l e s m args below meth c H locs cells slots mc ms arr hc0)
theorem zw_aastS {y : MI} {d k n pc : Nat} {ls : List (Option AV)} {stk : List AV} {sh sh' : Sh} {C C' : Mem} {r : Option AV} {a j t : Nat} {x : Int32} (hd : decode y.2.1 pc = .ok (.aastore, 1)) (hi : a < sh.1) (hk : sh.2.1 a = 8) (hL : sh.2.2.1 a < 2 ^ 31) (hxj : x = nI j) (hj : j < sh.2.2.1 a) (ht : t < sh.1) (htk : sh.2.1 t = 3) (kk : WP y d k n (pc + 1) ls stk (setR sh a j (some t)) C r sh' C') : WP y d k n pc ls (.inr (some t) :: .inl x :: .inr (some a) :: stk) sh C r sh' C' := by
  intro n0 G cs p l e s m args below meth c H locs cells slots mc ms arr hc
  have hc0 := hc
  obtain ⟨hx, hb, hml, hr, hts, hown, hlk, hnm, hK, hH, hS, hn0, hz, hcm, hsm, hl⟩ := hc
  have hat : (wsl n0 cs sh C)[a]? = some (n0 + a, .inl (cs.2.2, sh.2.2.1 a, .inr (.inr (.inr (.inr (fun j => (sh.2.2.2 a j).map (fun i => n0 + i))))))) := by
    rw [wsl_at hi, entS, ent_8 hk]
  subst hxj
  have htt : (wsl n0 cs sh C)[t]? = some (n0 + t, .inr (3, flds n0 3 (C t) (sh.2.2.2 t))) := by
    rw [wsl_at ht, entS, ent_obj (by rw [htk]; decide), htk]
  have hset : (wsl n0 cs sh C).set a (n0 + a, .inl (cs.2.2, sh.2.2.1 a, .inr (.inr (.inr (.inr (va_up (fun j => (sh.2.2.2 a j).map (fun i => n0 + i)) (nI j).toNatClampNeg (some (n0 + t)))))))) = wsl n0 cs (setR sh a j (some t)) C := by
    refine wsl_set hi rfl ?_ (fun b hb => ?_)
    · have hfun : (fun b => ((setR sh a j (some t)).2.2.2 a b).map (fun i => n0 + i)) = va_up (fun j => (sh.2.2.2 a j).map (fun i => n0 + i)) j (some (n0 + t)) := by
        funext b
        by_cases hbj : b = j <;> simp [setR, va_up, hbj]
      show ent n0 cs (sh.2.1 a) (sh.2.2.1 a) _ _ = _
      rw [ent_8 hk, nI_clamp (by omega), ← hfun]
    · simp [entS, setR, hb]
  exact va_astq (D := G) (tys := tysOf cs) hx hb hK.1 hH wsl_D hS a 2 t 3 (r := (RK 3, TK 3, nF 3)) hat rfl htt (K_cl (by decide)) (vp_in_nI hj hL) hd (fun H1 locs1 hP1 _ hS1 => kk n0 G cs p l e s m args below meth c H1 locs1 cells slots mc ms arr ⟨hx, hb, hml, hr, hts, hown, hlk, hnm, hK, (show va_P G vwCl _ H1 by rw [← hset]; exact hP1), hS1, hn0, hz, hcm, hsm, hl⟩)
theorem zw_mmin {y : MI} {d k n pc : Nat} {ls : List (Option AV)} {stk : List AV} {sh sh' : Sh} {C C' : Mem} {r : Option AV} {idx : Nat} {x z : Int32} (hd : decode y.2.1 pc = .ok (.invokestatic idx, 3)) (hw : Cond.methodLink y.1.cls idx Lib.Math.min.name ∈ zWS) (hd1 : 1 ≤ d) (hst : stk.length ≤ 8) (kk : WP y d k n (pc + 3) ls (.inl (if z < x then z else x) :: stk) sh C r sh' C') : WP y d k n pc ls (.inl z :: .inl x :: stk) sh C r sh' C' := by
  intro n0 G cs p l e s m args below meth c H locs cells slots mc ms arr hc
  have hc0 := hc
  obtain ⟨hx, hb, hml, hr, hts, hown, hlk, hnm, hK, hH, hS, hn0, hz, hcm, hsm, hl⟩ := hc
  have hls : c.maxLocals = arr.size := by rw [hml, hl.1]
  exact va_mmin hx hb hls hown (hts _ (List.mem_cons_of_mem _ hw)) (hts _ (List.mem_cons_of_mem _ st_Lib_Math_min_name)) (hts _ (List.mem_cons_of_mem _ in_J9)) (hts _ (List.mem_cons_of_mem _ co_Lib_Math_min_name)) hd1 (by rw [stk_cat]; show _ ≤ 37 * d; omega) (by show cells ≤ mc; omega) (by show slots ≤ ms; omega) hd (kk n0 G cs p l e s m args below meth c H locs cells slots mc ms arr hc0)
theorem zw_mmax {y : MI} {d k n pc : Nat} {ls : List (Option AV)} {stk : List AV} {sh sh' : Sh} {C C' : Mem} {r : Option AV} {idx : Nat} {x z : Int32} (hd : decode y.2.1 pc = .ok (.invokestatic idx, 3)) (hw : Cond.methodLink y.1.cls idx Lib.Math.max.name ∈ zWS) (hd1 : 1 ≤ d) (hst : stk.length ≤ 8) (kk : WP y d k n (pc + 3) ls (.inl (if x < z then z else x) :: stk) sh C r sh' C') : WP y d k n pc ls (.inl z :: .inl x :: stk) sh C r sh' C' := by
  intro n0 G cs p l e s m args below meth c H locs cells slots mc ms arr hc
  have hc0 := hc
  obtain ⟨hx, hb, hml, hr, hts, hown, hlk, hnm, hK, hH, hS, hn0, hz, hcm, hsm, hl⟩ := hc
  have hls : c.maxLocals = arr.size := by rw [hml, hl.1]
  exact va_mmax hx hb hls hown (hts _ (List.mem_cons_of_mem _ hw)) (hts _ (List.mem_cons_of_mem _ st_Lib_Math_max_name)) (hts _ (List.mem_cons_of_mem _ in_J9)) (hts _ (List.mem_cons_of_mem _ co_Lib_Math_max_name)) hd1 (by rw [stk_cat]; show _ ≤ 37 * d; omega) (by show cells ≤ mc; omega) (by show slots ≤ ms; omega) hd (kk n0 G cs p l e s m args below meth c H locs cells slots mc ms arr hc0)
theorem zw_copy {y : MI} {d k n pc : Nat} {ls : List (Option AV)} {stk : List AV} {sh sh' : Sh} {C C' : Mem} {r : Option AV} {idx a b u v w : Nat} {xu xv xw : Int32} (hd : decode y.2.1 pc = .ok (.invokestatic idx, 3)) (hw : Cond.methodLink y.1.cls idx arraycopyName ∈ zWS) (hd1 : 1 ≤ d) (hst : stk.length ≤ 4) (hi : a < sh.1) (hk : sh.2.1 a = 6) (hi2 : b < sh.1) (hk2 : sh.2.1 b = 6) (hxu : xu = nI u) (hxv : xv = nI v) (hxw : xw = nI w) (hb1 : u < 2 ^ 31 ∧ v < 2 ^ 31 ∧ w < 2 ^ 31) (hb2 : u + w ≤ sh.2.2.1 a) (hb3 : v + w ≤ sh.2.2.1 b) (kk : WP y d k n (pc + 3) ls stk sh (cpy C a b u v w) r sh' C') : WP y d k n pc ls (.inl xw :: .inl xv :: .inr (some b) :: .inl xu :: .inr (some a) :: stk) sh C r sh' C' := by
  intro n0 G cs p l e s m args below meth c H locs cells slots mc ms arr hc
  have hc0 := hc
  obtain ⟨hx, hb, hml, hr, hts, hown, hlk, hnm, hK, hH, hS, hn0, hz, hcm, hsm, hl⟩ := hc
  have hat : (wsl n0 cs sh C)[a]? = some (n0 + a, .inl (cs.1, sh.2.2.1 a, .inl (C a))) := by
    rw [wsl_at hi, entS, ent_int hk]
  have hat2 : (wsl n0 cs sh C)[b]? = some (n0 + b, .inl (cs.1, sh.2.2.1 b, .inl (C b))) := by
    rw [wsl_at hi2, entS, ent_int hk2]
  subst hxu; subst hxv; subst hxw
  obtain ⟨hb4, hb5, hb6⟩ := hb1
  have hls : c.maxLocals = arr.size := by rw [hml, hl.1]
  have hset : (wsl n0 cs sh C).set b (n0 + b, .inl (cs.1, sh.2.2.1 b, .inl (va_cpy (C a) (C b) (nI u).toNatClampNeg (nI v).toNatClampNeg (nI w).toNatClampNeg))) = wsl n0 cs sh (cpy C a b u v w) := by
    refine wsl_set hi2 rfl ?_ (fun q hq => ?_)
    · rw [entS, ent_int hk2, nI_clamp hb4, nI_clamp hb5, nI_clamp hb6]
      simp [cpy]
    · simp [entS, cpy, hq]
  exact va_copyi (D := G) (tys := tysOf cs) hx hb hls hown (hts _ (List.mem_cons_of_mem _ hw)) (hts _ (List.mem_cons_of_mem _ na_arraycopyName)) (hts _ (List.mem_cons_of_mem _ st_arraycopyName)) (hts _ (List.mem_cons_of_mem _ in_J10)) hK.1 hH wsl_D hS a b 0 0 (ty := .int) hat hat2 rfl rfl rfl (nI_pos hb4) (nI_pos hb5) (nI_pos hb6) (by rw [nI_clamp hb4, nI_clamp hb6]; exact hb2) (by rw [nI_clamp hb5, nI_clamp hb6]; exact hb3) (fun _ _ => rfl) hd1 (by rw [stk_cat]; show _ + (nativeFrameWords "java/lang/System" "arraycopy" 5 + 11) ≤ 37 * d; rw [nfw]; omega) hd (fun H1 locs1 hP1 _ hS1 => kk n0 G cs p l e s m args below meth c H1 locs1 cells slots mc ms arr ⟨hx, hb, hml, hr, hts, hown, hlk, hnm, hK, (show va_P G vwCl _ H1 by rw [← hset]; exact hP1), hS1, hn0, hz, hcm, hsm, hl⟩)
theorem KF.same {G : va_G} {cs : Cs} {u U : State} (h : u.vm = U.vm) (hK : KF G cs u) : KF G cs U :=
  ⟨va_K.moved (by rw [h]; exact Vm.Alike.refl _) hK.1, fun w hw => by
    have h1 := hK.2.1 w hw
    have key : ∃ a i x g, w = Cond.methodLinkNest a i x g := by
      simp only [nestWs, List.mem_cons, List.not_mem_nil, or_false] at hw
      rcases hw with rfl | rfl | rfl | rfl | rfl | rfl | rfl | rfl <;> exact ⟨_, _, _, _, rfl⟩
    obtain ⟨a, i, x, g, rfl⟩ := key
    exact va_Nw.same rfl h h1, va_AO.moved (by rw [h]; exact Vm.Alike.refl _) hK.2.2.1, va_AO.moved (by rw [h]; exact Vm.Alike.refl _) hK.2.2.2⟩
theorem Pcc.blind {n0 : Nat} {G : va_G} {cs : Cs} {args : List AV} {sh : Sh} {C : Mem} : FrameBlind (Pcc n0 G cs args sh C) := fun a U g mk q => by
  obtain ⟨q0, q1, q2, q3⟩ := q
  exact ⟨q0, KF.same (u := U) (U := U.calling g mk a) rfl q1, q2, q3⟩
/-- the words of a method that can be called -/
def okM (y : MI) (np : Nat) : Prop := Cond.initialized y.1.cls ∈ zWS ∧ Cond.code y.1 y.2.1 y.2.2.1 y.2.2.2 ∈ zWS ∧ (y.1.cls ≠ "java/lang/invoke/MethodHandle" ∧ y.1.cls ≠ "java/lang/invoke/VarHandle" ∧ (parseMethodDescriptor y.1.desc).map (fun d => d.parameters.length) = some np) ∧ y.2.2.1 ≤ 18
def okV (y : MI) (np : Nat) : Prop := okM y np ∧ Cond.instanceMethod y.1 ∈ zWS ∧ Cond.selects y.1.cls y.1 y.1 ∈ zWS
def okS (y : MI) (np : Nat) : Prop := okM y np ∧ Cond.static y.1 ∈ zWS
def okI (y : MI) : Prop := okM y 0 ∧ Cond.instanceMethod y.1 ∈ zWS ∧ y.1.name = "<init>" ∧ y.2.2.2 = none
theorem good_callee {y y2 : MI} (h : Cond.code y2.1 y2.2.1 y2.2.2.1 y2.2.2.2 ∈ zWS) : ∀ w ∈ wsY y2, w ∈ zWS := fun w hw => (List.mem_cons.mp hw).elim (fun e => e ▸ h) id
/-- behind a call -/
theorem zw_after {y : MI} {d k n pc k2 n2 k3 n3 : Nat} {ls : List (Option AV)} {stk : List AV} {sh sh2 sh' : Sh} {C C2 C' : Mem} {r r2 : Option AV} {n0 : Nat} {G : va_G} {cs : Cs} {p : Program} {l : Launch} {e : Env} {s : State} {m : MethodId} {args a2 : Array Value} {below : List Frame} {meth : Method} {c : Code} {H : Heap} {locs : List Loc} {cells slots mc ms : Nat} {arr : Array Slot} {st0 : List Value}
    (hc : Cx y k n n0 G cs p s m args meth c H locs cells slots mc ms arr sh C ls) (hkk : k = k2 + k3) (hnn : n = n2 + n3) (hs2 : sh2.1 = sh.1 + k2)
    (hr : va_Run p l e (rmm d mc ms) s m args below meth c H locs cells slots k2 n2 (F0 m pc arr st0) (stk.map (rv n0)) (Qcc n0 G cs r2 sh2 C2 a2) (fun q => n0 ≤ q))
    (kk : WP y d k3 n3 (pc + 3) ls (r2.toList ++ stk) sh2 C2 r sh' C') :
    W p l e (rmm d mc ms) s m args below meth c H locs cells slots (MQ below (Qcc n0 G cs r sh' C') args s mc ms (fun q => n0 ≤ q)) (F0 m pc arr st0) := by
  obtain ⟨hx, hb, hml, hr0, hts, hown, hlk, hnm, hK, hH, hS, hn0, hz, hcm, hsm, hl⟩ := hc
  intro T hT X
  obtain ⟨v, st₀, t, T', L, h0, X', hL, e1, e2, ⟨hv, hW2, hz2, hk2⟩, st⟩ := hr T hT X
  have hv2 : v = r2.map (rv n0) := by injection hv
  subst hv2
  rw [h0] at hz2 hk2
  have hS2 : va_S (fun q => n0 ≤ q) s.heap T'.heap (locs ++ L) := ⟨Nat.le_trans hS.1 (by rw [e1]; exact hz2), fun q h1 h2 => by rw [e1, hk2 q (Nat.lt_of_lt_of_le h1 hS.1) h2]; exact hS.2.1 q h1 h2, fun q hq => by
    rcases List.mem_append.mp hq with h | h
    · exact hS.2.2 q h
    · exact hL q h⟩
  obtain ⟨t2, a1, b1⟩ := kk n0 G cs p l e s m args below meth c T'.heap (locs ++ L) (cells + k2) (slots + n2) mc ms arr ⟨hx, hb, hml, hr0, hts, hown, hlk, hnm, hK, by rw [e1]; exact hW2, hS2, hn0, by omega, by omega, by omega, hl⟩ T' rfl X'
  refine ⟨t2, st t2 ?_, b1⟩
  have hst : (r2.toList ++ stk).map (rv n0) = (r2.map (rv n0)).toList ++ stk.map (rv n0) := by cases r2 <;> rfl
  rw [hst] at a1
  exact a1
theorem zw_invV {y : MI} {d k n pc : Nat} {ls : List (Option AV)} {stk : List AV} {sh sh' : Sh} {C C' : Mem} {r : Option AV} {y2 : MI} {d2 k2 n2 k3 n3 idx : Nat} {args2 : List AV} {stk0 : List AV} {sh2 : Sh} {C2 : Mem} {r2 : Option AV} {i ci : Nat} (hd : decode y.2.1 pc = .ok (.invokevirtual idx, 3)) (hok : okV y2 args2.length) (hlw : Cond.methodLink y.1.cls idx y2.1 ∈ zWS) (hi : i < sh.1) (hk : sh.2.1 i = ci) (hci : ci < 6) (hcl : RK ci = y2.1.cls) (hR : d2 + 1 ≤ d) (hstk : stk0 = args2.reverse ++ .inr (some i) :: stk) (hst : stk.length ≤ 8) (hkk : k = k2 + k3) (hnn : n = n2 + n3) (hs2 : sh2.1 = sh.1 + k2) (hc2 : Calls y2 d2 k2 n2 (.inr (some i) :: args2) sh C r2 sh2 C2) (kk : WP y d k3 n3 (pc + 3) ls (r2.toList ++ stk) sh2 C2 r sh' C') : WP y d k n pc ls stk0 sh C r sh' C' := by
  intro n0 G cs p l e s m args below meth c H locs cells slots mc ms arr hc
  have hc0 := hc
  obtain ⟨hx, hb, hml, hr, hts, hown, hlk, hnm, hK, hH, hS, hn0, hz, hcm, hsm, hl⟩ := hc
  intro T hT X
  have hsz := HW.size hH X hT hn0 hz
  subst hstk
  have hat : (wsl n0 cs sh C)[i]? = some (n0 + i, .inr (ci, flds n0 ci (C i) (sh.2.2.2 i))) := by
    rw [wsl_at hi, entS, ent_obj (by rw [hk]; exact hci), hk]
  have hM := hc2 l n0 G cs
  have hrecv : ∃ cell : Cell, H[n0 + i]? = some cell ∧ cell.vm.isStatics = false ∧ s.vm.findClass y2.1.cls = some cell.cls := by
    have h9 := va_recv hK.1 hH (K_cl hci) hat
    rw [hcl] at h9
    exact h9
  have hPV : PreV s H y2.1.cls (n0 + i) (Pcc n0 G cs (.inr (some i) :: args2) sh C) (args2.map (rv n0)) := ⟨Pcc.blind, hrecv, fun U hU hW => ⟨rfl, hK.moved hW, by rw [hU]; exact hsz, by rw [hU]; exact hH⟩⟩
  have hsk : (args2.reverse ++ .inr (some i) :: stk).map (rv n0) = (args2.map (rv n0)).reverse ++ .ref (n0 + i) :: stk.map (rv n0) := by
    rw [List.map_append, List.map_reverse]
    rfl
  refine zw_after hc0 hkk hnn hs2 (va_runV (nL := y.2.2.1) (own := y.1.cls) (C := y2.1.cls) (As := args2.map (rv n0)) (rest := stk.map (rv n0)) ⟨hx, hb, hml, hown, hts⟩ hM (cwV args2.length hts (goodIn_zw (y := y) (fun w hw => by
      simp only [wsV, List.mem_append, List.mem_cons, List.not_mem_nil, or_false] at hw
      rcases hw with (rfl | rfl | rfl | rfl) | hw
      · exact hlw
      · exact hok.2.1
      · exact hok.2.2
      · exact hok.1.1
      · exact good_callee (y := y) hok.1.2.1 w hw)) rfl rfl rfl ⟨rfl, hok.1.2.2.1⟩ ⟨by show d2 + 1 ≤ d; exact hR, by have := hok.1.2.2.2; show 8 + (y2.2.2.1 + 11) + 37 * d2 ≤ 37 * d; omega⟩) hPV rfl (by simp) hl.1 hsk (lv_room (by rw [stk_cat]; exact hst)) (by exact hd) ⟨by show cells + k2 ≤ mc; omega, by show slots + n2 ≤ ms; omega⟩) kk T hT X
theorem zcwS {R : Room} {s : State} {args : Array Value} {own : String} {index maxL mc ms : Nat} {y : MethodName} {bytes : ByteArray} {ret : Option FieldType} {Ts ws ws' : List Cond} {rm : Room} (n : Nat) (ht : ∀ w ∈ Ts, w.before args s = true) (hG : GoodIn Ts ws) (hw : ws = Cond.code y bytes maxL ret :: ws') (hrc : rm.cells = mc) (hrs : rm.slots = ms) (hini : (Cond.initialized y.cls).before args s = true) (hl : (Cond.methodLink own index y).before args s = true) (hst : (Cond.static y).before args s = true)
    (hd : y.cls ≠ "java/lang/invoke/MethodHandle" ∧ y.cls ≠ "java/lang/invoke/VarHandle" ∧ (parseMethodDescriptor y.desc).map (fun d => d.parameters.length) = some n) (hR : rm.frames + 1 ≤ R.frames ∧ 8 + (maxL + 11) + rm.locals ≤ R.locals) :
    CallB R s args own index y bytes maxL ret ws rm mc ms n ∧ (Cond.static y).before args s = true :=
  ⟨callB_of n ht hG hw hrc hrs hini hl hd hR, hst⟩
theorem zw_invS {y : MI} {d k n pc : Nat} {ls : List (Option AV)} {stk : List AV} {sh sh' : Sh} {C C' : Mem} {r : Option AV} {y2 : MI} {d2 k2 n2 k3 n3 idx : Nat} {args2 : List AV} {stk0 : List AV} {sh2 : Sh} {C2 : Mem} {r2 : Option AV}  (hd : decode y.2.1 pc = .ok (.invokestatic idx, 3)) (hok : okS y2 args2.length) (hlw : Cond.methodLink y.1.cls idx y2.1 ∈ zWS) (hR : d2 + 1 ≤ d) (hstk : stk0 = args2.reverse ++ stk) (hst : stk.length ≤ 8) (hkk : k = k2 + k3) (hnn : n = n2 + n3) (hs2 : sh2.1 = sh.1 + k2) (hc2 : Calls y2 d2 k2 n2 args2 sh C r2 sh2 C2) (kk : WP y d k3 n3 (pc + 3) ls (r2.toList ++ stk) sh2 C2 r sh' C') : WP y d k n pc ls stk0 sh C r sh' C' := by
  intro n0 G cs p l e s m args below meth c H locs cells slots mc ms arr hc
  have hc0 := hc
  obtain ⟨hx, hb, hml, hr, hts, hown, hlk, hnm, hK, hH, hS, hn0, hz, hcm, hsm, hl⟩ := hc
  intro T hT X
  have hsz := HW.size hH X hT hn0 hz
  subst hstk
  have hM := hc2 l n0 G cs
  have hPS : PreS s H (Pcc n0 G cs args2 sh C) (args2.map (rv n0)) := ⟨Pcc.blind, fun U hU hW => ⟨rfl, hK.moved hW, by rw [hU]; exact hsz, by rw [hU]; exact hH⟩⟩
  have hsk : (args2.reverse ++ stk).map (rv n0) = (args2.map (rv n0)).reverse ++ stk.map (rv n0) := by
    rw [List.map_append, List.map_reverse]
  refine zw_after hc0 hkk hnn hs2 (va_runS (nL := y.2.2.1) (own := y.1.cls) (As := args2.map (rv n0)) (rest := stk.map (rv n0)) ⟨hx, hb, hml, hown, hts⟩ hM (zcwS args2.length hts (goodIn_zw (y := y) (good_callee (y := y) hok.1.2.1)) rfl rfl rfl (hts _ (List.mem_cons_of_mem _ hok.1.1)) (hts _ (List.mem_cons_of_mem _ hlw)) (hts _ (List.mem_cons_of_mem _ hok.2)) hok.1.2.2.1 ⟨by show d2 + 1 ≤ d; exact hR, by have := hok.1.2.2.2; show 8 + (y2.2.2.1 + 11) + 37 * d2 ≤ 37 * d; omega⟩) hPS rfl (by simp) hl.1 hsk (lv_room (by rw [stk_cat]; exact hst)) (by exact hd) ⟨by show cells + k2 ≤ mc; omega, by show slots + n2 ≤ ms; omega⟩) kk T hT X
theorem zw_invSN {y : MI} {d k n pc : Nat} {ls : List (Option AV)} {stk : List AV} {sh sh' : Sh} {C C' : Mem} {r : Option AV} {y2 : MI} {d2 k2 n2 k3 n3 idx : Nat} {args2 : List AV} {stk0 : List AV} {sh2 : Sh} {C2 : Mem} {r2 : Option AV}  (hd : decode y.2.1 pc = .ok (.invokestatic idx, 3)) (hok : okS y2 args2.length) (hlw : Cond.methodLinkNest y.1.cls idx y2.1 "SilenceHours" ∈ nestWs) (hR : d2 + 1 ≤ d) (hstk : stk0 = args2.reverse ++ stk) (hst : stk.length ≤ 8) (hkk : k = k2 + k3) (hnn : n = n2 + n3) (hs2 : sh2.1 = sh.1 + k2) (hc2 : Calls y2 d2 k2 n2 args2 sh C r2 sh2 C2) (kk : WP y d k3 n3 (pc + 3) ls (r2.toList ++ stk) sh2 C2 r sh' C') : WP y d k n pc ls stk0 sh C r sh' C' := by
  intro n0 G cs p l e s m args below meth c H locs cells slots mc ms arr hc
  have hc0 := hc
  obtain ⟨hx, hb, hml, hr, hts, hown, hlk, hnm, hK, hH, hS, hn0, hz, hcm, hsm, hl⟩ := hc
  intro T hT X
  have hsz := HW.size hH X hT hn0 hz
  subst hstk
  have hM := hc2 l n0 G cs
  have hPS : PreS s H (Pcc n0 G cs args2 sh C) (args2.map (rv n0)) := ⟨Pcc.blind, fun U hU hW => ⟨rfl, hK.moved hW, by rw [hU]; exact hsz, by rw [hU]; exact hH⟩⟩
  have hsk : (args2.reverse ++ stk).map (rv n0) = (args2.map (rv n0)).reverse ++ stk.map (rv n0) := by
    rw [List.map_append, List.map_reverse]
  refine zw_after hc0 hkk hnn hs2 (va_runSN (nL := y.2.2.1) (own := y.1.cls) (host := "SilenceHours") (As := args2.map (rv n0)) (rest := stk.map (rv n0)) ⟨hx, hb, hml, hown, hts⟩ hM ⟨va_cnB args2.length hts (goodIn_zw (y := y) (good_callee (y := y) hok.1.2.1)) rfl rfl rfl (hK.2.1 _ hlw) (hts _ (List.mem_cons_of_mem _ hok.1.1)) hok.1.2.2.1 ⟨by show d2 + 1 ≤ d; exact hR, by have := hok.1.2.2.2; show 8 + (y2.2.2.1 + 11) + 37 * d2 ≤ 37 * d; omega⟩, hts _ (List.mem_cons_of_mem _ hok.2), trivial⟩ hPS rfl (by simp) hl.1 hsk (lv_room (by rw [stk_cat]; exact hst)) (by exact hd) ⟨by show cells + k2 ≤ mc; omega, by show slots + n2 ≤ ms; omega⟩) kk T hT X
theorem zw_invI {y : MI} {d k n pc : Nat} {ls : List (Option AV)} {stk : List AV} {sh sh' : Sh} {C C' : Mem} {r : Option AV} {b2 : MethodName} {c2 : ByteArray} {L2 : Nat} {d2 k2 n2 k3 n3 idx i : Nat} {sh2 : Sh} {C2 : Mem} (hd : decode y.2.1 pc = .ok (.invokespecial idx, 3)) (hok : okI (b2, c2, L2, none)) (hlw : Cond.methodLink y.1.cls idx b2 ∈ zWS) (hR : d2 + 1 ≤ d) (hst : stk.length ≤ 8) (hkk : k = k2 + k3) (hnn : n = n2 + n3) (hs2 : sh2.1 = sh.1 + k2) (hc2 : Calls (b2, c2, L2, none) d2 k2 n2 [.inr (some i)] sh C none sh2 C2) (kk : WP y d k3 n3 (pc + 3) ls stk sh2 C2 r sh' C') : WP y d k n pc ls (.inr (some i) :: stk) sh C r sh' C' := by
  intro n0 G cs p l e s m args below meth c H locs cells slots mc ms arr hc
  have hc0 := hc
  obtain ⟨hx, hb, hml, hr, hts, hown, hlk, hnm, hK, hH, hS, hn0, hz, hcm, hsm, hl⟩ := hc
  intro T hT X
  have hsz := HW.size hH X hT hn0 hz
  have hM := hc2 l n0 G cs
  have hPS : PreS s H (Pcc n0 G cs [.inr (some i)] sh C) [.ref (n0 + i)] := ⟨Pcc.blind, fun U hU hW => ⟨rfl, hK.moved hW, by rw [hU]; exact hsz, by rw [hU]; exact hH⟩⟩
  refine zw_after hc0 hkk hnn hs2 (va_runI (nL := y.2.2.1) (own := y.1.cls) (As := []) (rest := stk.map (rv n0)) ⟨hx, hb, hml, hown, hts⟩ hM (cwI 0 hts (goodIn_zw (y := y) (good_callee (y := y) hok.1.2.1)) rfl rfl rfl (hts _ (List.mem_cons_of_mem _ hok.1.1)) (hts _ (List.mem_cons_of_mem _ hlw)) (hts _ (List.mem_cons_of_mem _ hok.2.1)) hok.2.2.1 hok.1.2.2.1 ⟨by show d2 + 1 ≤ d; exact hR, by have h7 : L2 ≤ 18 := hok.1.2.2.2; show 8 + (L2 + 11) + 37 * d2 ≤ 37 * d; omega⟩) hPS rfl rfl hl.1 rfl (lv_room (by rw [stk_cat]; exact hst)) (by exact hd) ⟨by show cells + k2 ≤ mc; omega, by show slots + n2 ≤ ms; omega⟩) kk T hT X
theorem zw_invIN {y : MI} {d k n pc : Nat} {ls : List (Option AV)} {stk : List AV} {sh sh' : Sh} {C C' : Mem} {r : Option AV} {b2 : MethodName} {c2 : ByteArray} {L2 : Nat} {d2 k2 n2 k3 n3 idx i : Nat} {sh2 : Sh} {C2 : Mem} (hd : decode y.2.1 pc = .ok (.invokespecial idx, 3)) (hok : okI (b2, c2, L2, none)) (hlw : Cond.methodLinkNest y.1.cls idx b2 "SilenceHours" ∈ nestWs) (hR : d2 + 1 ≤ d) (hst : stk.length ≤ 8) (hkk : k = k2 + k3) (hnn : n = n2 + n3) (hs2 : sh2.1 = sh.1 + k2) (hc2 : Calls (b2, c2, L2, none) d2 k2 n2 [.inr (some i)] sh C none sh2 C2) (kk : WP y d k3 n3 (pc + 3) ls stk sh2 C2 r sh' C') : WP y d k n pc ls (.inr (some i) :: stk) sh C r sh' C' := by
  intro n0 G cs p l e s m args below meth c H locs cells slots mc ms arr hc
  have hc0 := hc
  obtain ⟨hx, hb, hml, hr, hts, hown, hlk, hnm, hK, hH, hS, hn0, hz, hcm, hsm, hl⟩ := hc
  intro T hT X
  have hsz := HW.size hH X hT hn0 hz
  have hM := hc2 l n0 G cs
  have hPS : PreS s H (Pcc n0 G cs [.inr (some i)] sh C) [.ref (n0 + i)] := ⟨Pcc.blind, fun U hU hW => ⟨rfl, hK.moved hW, by rw [hU]; exact hsz, by rw [hU]; exact hH⟩⟩
  refine zw_after hc0 hkk hnn hs2 (va_runIN (nL := y.2.2.1) (own := y.1.cls) (host := "SilenceHours") (As := []) (rest := stk.map (rv n0)) ⟨hx, hb, hml, hown, hts⟩ hM ⟨va_cnB 0 hts (goodIn_zw (y := y) (good_callee (y := y) hok.1.2.1)) rfl rfl rfl (hK.2.1 _ hlw) (hts _ (List.mem_cons_of_mem _ hok.1.1)) hok.1.2.2.1 ⟨by show d2 + 1 ≤ d; exact hR, by have h7 : L2 ≤ 18 := hok.1.2.2.2; show 8 + (L2 + 11) + 37 * d2 ≤ 37 * d; omega⟩, hok.2.2.1, hts _ (List.mem_cons_of_mem _ hok.2.1)⟩ hPS rfl rfl hl.1 rfl (lv_room (by rw [stk_cat]; exact hst)) (by exact hd) ⟨by show cells + k2 ≤ mc; omega, by show slots + n2 ≤ ms; omega⟩) kk T hT X
theorem zw_objInit {y : MI} {d k n pc : Nat} {ls : List (Option AV)} {stk : List AV} {sh sh' : Sh} {C C' : Mem} {r : Option AV} {idx i : Nat} (hd : decode y.2.1 pc = .ok (.invokespecial idx, 3)) (hlw : Cond.methodLink y.1.cls idx objectInit ∈ zWS) (hd1 : 1 ≤ d) (hst : stk.length ≤ 8) (kk : WP y d k n (pc + 3) ls stk sh C r sh' C') : WP y d k n pc ls (.inr (some i) :: stk) sh C r sh' C' := by
  intro n0 G cs p l e s m args below meth c H locs cells slots mc ms arr hc
  have hc0 := hc
  obtain ⟨hx, hb, hml, hr, hts, hown, hlk, hnm, hK, hH, hS, hn0, hz, hcm, hsm, hl⟩ := hc
  exact W.objInit hx hb hown (hts _ (List.mem_cons_of_mem _ hlw)) (hts _ (List.mem_cons_of_mem _ im_objectInit)) (hts _ (List.mem_cons_of_mem _ co_objectInit)) rfl (by rw [hml]; exact hl.1) rfl hd hd1 (by show 2 * 0 + _ + 12 ≤ 37 * d; rw [stk_cat]; omega) (kk n0 G cs p l e s m args below meth c H locs cells slots mc ms arr hc0)
theorem zw_new {y : MI} {d k n pc : Nat} {ls : List (Option AV)} {stk : List AV} {sh sh' : Sh} {C C' : Mem} {r : Option AV} {idx kd : Nat} (hd : decode y.2.1 pc = .ok (.new idx, 3)) (hkd : kd < 6) (hlw : Cond.classLink y.1.cls idx (RK kd) ∈ zWS) (hit : Cond.instantiable (RK kd) (nF kd) ∈ zWS) (hin : Cond.initialized (RK kd) ∈ zWS) (hdf : ∀ j, j < nF kd → defaultValue (tyK kd j) = fv 0 (rF kd j) 0 none) (hk1 : 1 ≤ k) (hn1 : nF kd ≤ n) (kk : WP y d (k - 1) (n - nF kd) (pc + 3) ls (.inr (some sh.1) :: stk) (pushS sh kd 0) (pushC C sh.1) r sh' C') : WP y d k n pc ls stk sh C r sh' C' := by
  intro n0 G cs p l e s m args below meth c H locs cells slots mc ms arr hc
  have hc0 := hc
  obtain ⟨hx, hb, hml, hr, hts, hown, hlk, hnm, hK, hH, hS, hn0, hz, hcm, hsm, hl⟩ := hc
  intro T hT X
  have hsz := HW.size hH X hT hn0 hz
  have hgo : W p l e (rmm d mc ms) s m args below meth c H locs cells slots (MQ below (Qcc n0 G cs r sh' C') args s mc ms (fun q => n0 ≤ q)) (F0 m pc arr (stk.map (rv n0))) := by
    refine W.newcK hx hb hown (hts _ (List.mem_cons_of_mem _ hlw)) (hts _ (List.mem_cons_of_mem _ hit)) (hts _ (List.mem_cons_of_mem _ hin)) rfl hd (by show cells + 1 ≤ mc; omega) (by show slots + nF kd ≤ ms; omega) (hK.1.1 kd _ (K_cl hkd)).2.1 rfl (fun H1 kC hkC e1 z1 o1 => ?_)
    rw [hsz] at e1 ⊢
    have hP1 : va_P G vwCl (wsl n0 cs (pushS sh kd 0) (pushC C sh.1)) H1 := by
      rw [← wsl_push]
      refine (hH.kept (fun q x hx => o1 x.1 ((hH q x hx).lt))).app (fun q x hx => ?_)
      have hq : q < 1 := (List.getElem?_eq_some_iff.mp hx).1
      rw [show q = 0 by omega] at hx
      cases hx
      rw [ent_obj hkd]
      exact ⟨_, K_cl hkd, (u_born (tyK kd) hts (fun w h => List.mem_cons_of_mem _ (K_in hkd w h)) (hK.1.1 kd _ (K_cl hkd)) hkC e1 (K_ty hkd)).to (fun j hj => by
        rw [hdf j hj]
        have h9 : (flds n0 kd (fun _ => 0) (fun _ => none))[j]? = some (fv n0 (rF kd j) 0 none) := flds_at hj
        show _ = (flds n0 kd (fun _ => 0) (fun _ => none)).getD j .null
        rw [List.getD_eq_getElem?_getD, h9]
        cases rF kd j <;> rfl)⟩
    exact kk n0 G cs p l e s m args below meth c H1 locs (cells + 1) (slots + nF kd) mc ms arr ⟨hx, hb, hml, hr, hts, hown, hlk, hnm, hK, hP1, ⟨Nat.le_trans hS.1 (by omega), fun x h1 h2 => (o1 x (Nat.lt_of_lt_of_le h1 hS.1)).trans (hS.2.1 x h1 h2), hS.2.2⟩, hn0, by show s.heap.size + (cells + 1) = n0 + (sh.1 + 1); omega, by omega, by omega, hl⟩
  exact hgo T hT X
theorem zw_newI {y : MI} {d k n pc : Nat} {ls : List (Option AV)} {stk : List AV} {sh sh' : Sh} {C C' : Mem} {r : Option AV} {len : Nat} {x : Int32} (hd : decode y.2.1 pc = .ok (.newarray .int, 2)) (hxl : x = nI len) (hlen : len ≤ 100000) (hk1 : 1 ≤ k) (hn1 : len ≤ n) (kk : WP y d (k - 1) (n - len) (pc + 2) ls (.inr (some sh.1) :: stk) (pushS sh 6 len) (pushC C sh.1) r sh' C') : WP y d k n pc ls (.inl x :: stk) sh C r sh' C' := by
  intro n0 G cs p l e s m args below meth c H locs cells slots mc ms arr hc
  have hc0 := hc
  obtain ⟨hx, hb, hml, hr, hts, hown, hlk, hnm, hK, hH, hS, hn0, hz, hcm, hsm, hl⟩ := hc
  subst hxl
  intro T hT X
  have hsz := HW.size hH X hT hn0 hz
  have hgo : W p l e (rmm d mc ms) s m args below meth c H locs cells slots (MQ below (Qcc n0 G cs r sh' C') args s mc ms (fun q => n0 ≤ q)) (F0 m pc arr (.int (nI len) :: stk.map (rv n0))) := by
    refine va_newaK (atype := .int) (N := len) hx hb (hts _ (List.mem_cons_of_mem _ ac_int)) rfl hd rfl (nI_pos (by omega)) (nI_clamp (by omega)) (by show len * 4 ≤ 536870912; omega) (by show cells + 1 ≤ mc; omega) (by show slots + len ≤ ms; omega) hsz (fun H1 cA e1 z1 o1 hAr hNm => ?_)
    have hcA : cA = cs.1 := by
      have h8 : s.vm.findClass ("[" ++ (FieldType.int).toString) = some cs.1 := (hK.1.2 0 _ rfl).2
      exact Option.some.inj (hNm.symm.trans h8)
    subst hcA
    have hP1 : va_P G vwCl (wsl n0 cs (pushS sh 6 len) (pushC C sh.1)) H1 := by
      rw [← wsl_push]
      refine (hH.kept (fun q x hx => o1 x.1 (by rw [← hsz]; exact (hH q x hx).lt))).app (fun q x hx => ?_)
      have hq : q < 1 := (List.getElem?_eq_some_iff.mp hx).1
      rw [show q = 0 by omega] at hx
      cases hx
      rw [ent_int rfl]
      exact e1
    exact kk n0 G cs p l e s m args below meth c H1 locs (cells + 1) (slots + len) mc ms arr ⟨hx, hb, hml, hr, hts, hown, hlk, hnm, hK, hP1, ⟨Nat.le_trans hS.1 (by omega), fun x h1 h2 => (o1 x (by have := hS.1; omega)).trans (hS.2.1 x h1 h2), hS.2.2⟩, hn0, by show s.heap.size + (cells + 1) = n0 + (sh.1 + 1); omega, by omega, by omega, hl⟩
  exact hgo T hT X
theorem zw_anewP {y : MI} {d k n pc : Nat} {ls : List (Option AV)} {stk : List AV} {sh sh' : Sh} {C C' : Mem} {r : Option AV} {idx len : Nat} {x : Int32} (hd : decode y.2.1 pc = .ok (.anewarray idx, 3)) (hlw : Cond.classLink y.1.cls idx (RK 1) ∈ zWS) (hxl : x = nI len) (hlen : len ≤ 100000) (hk1 : 1 ≤ k) (hn1 : len ≤ n) (kk : WP y d (k - 1) (n - len) (pc + 3) ls (.inr (some sh.1) :: stk) (pushS sh 7 len) (pushC C sh.1) r sh' C') : WP y d k n pc ls (.inl x :: stk) sh C r sh' C' := by
  intro n0 G cs p l e s m args below meth c H locs cells slots mc ms arr hc
  have hc0 := hc
  obtain ⟨hx, hb, hml, hr, hts, hown, hlk, hnm, hK, hH, hS, hn0, hz, hcm, hsm, hl⟩ := hc
  subst hxl
  intro T hT X
  have hsz := HW.size hH X hT hn0 hz
  have hcl9 : (nI len).toNatClampNeg = len := nI_clamp (by omega)
  have hgo : W p l e (rmm d mc ms) s m args below meth c H locs cells slots (MQ below (Qcc n0 G cs r sh' C') args s mc ms (fun q => n0 ≤ q)) (F0 m pc arr (.int (nI len) :: stk.map (rv n0))) := by
    refine W.anew (C := RK 1) hx hb hown (hts _ (List.mem_cons_of_mem _ hlw)) (va_AO.use hK.2.2.2) rfl hd rfl (nI_pos (by omega)) (by rw [hcl9]; omega) (by show cells + 1 ≤ mc; omega) (by rw [hcl9]; show slots + len ≤ ms; omega) (fun cA kA comp f1 f2 f3 f4 => ?_)
    rw [hcl9, hsz]
    generalize hH1 : H.push ({ cls := cA, slots := Array.replicate len .null, vm := .none } : Cell) = H1
    have z1 : H1.size = H.size + 1 := by rw [← hH1, Array.size_push]
    have e1 : H1[H.size]? = some (arrV cA len (fun _ => .null)) := by rw [← hH1, Array.getElem?_push_size, ← arrV_new]
    have o1 : ∀ q : Nat, q < H.size → H1[q]? = H[q]? := fun q hq => by rw [← hH1, Array.getElem?_push, if_neg (Nat.ne_of_lt hq)]
    have hcA : cA = cs.2.1 := by
      obtain ⟨_, _, -, -, -, h8⟩ := (hK.1.2 1 _ rfl).2
      exact Option.some.inj (f1.symm.trans h8)
    subst hcA
    rw [hsz] at e1
    have hP1 : va_P G vwCl (wsl n0 cs (pushS sh 7 len) (pushC C sh.1)) H1 := by
      rw [← wsl_push]
      refine (hH.kept (fun q x hx => o1 x.1 ((hH q x hx).lt))).app (fun q x hx => ?_)
      have hq : q < 1 := (List.getElem?_eq_some_iff.mp hx).1
      rw [show q = 0 by omega] at hx
      cases hx
      rw [ent_7 rfl]
      exact e1
    exact kk n0 G cs p l e s m args below meth c H1 locs (cells + 1) (slots + len) mc ms arr ⟨hx, hb, hml, hr, hts, hown, hlk, hnm, hK, hP1, ⟨Nat.le_trans hS.1 (by omega), fun x h1 h2 => (o1 x (Nat.lt_of_lt_of_le h1 hS.1)).trans (hS.2.1 x h1 h2), hS.2.2⟩, hn0, by show s.heap.size + (cells + 1) = n0 + (sh.1 + 1); omega, by omega, by omega, hl⟩
  exact hgo T hT X
theorem zw_anewS {y : MI} {d k n pc : Nat} {ls : List (Option AV)} {stk : List AV} {sh sh' : Sh} {C C' : Mem} {r : Option AV} {idx len : Nat} {x : Int32} (hd : decode y.2.1 pc = .ok (.anewarray idx, 3)) (hlw : Cond.classLink y.1.cls idx (RK 3) ∈ zWS) (hxl : x = nI len) (hlen : len ≤ 100000) (hk1 : 1 ≤ k) (hn1 : len ≤ n) (kk : WP y d (k - 1) (n - len) (pc + 3) ls (.inr (some sh.1) :: stk) (pushS sh 8 len) (pushC C sh.1) r sh' C') : WP y d k n pc ls (.inl x :: stk) sh C r sh' C' := by
  intro n0 G cs p l e s m args below meth c H locs cells slots mc ms arr hc
  have hc0 := hc
  obtain ⟨hx, hb, hml, hr, hts, hown, hlk, hnm, hK, hH, hS, hn0, hz, hcm, hsm, hl⟩ := hc
  subst hxl
  intro T hT X
  have hsz := HW.size hH X hT hn0 hz
  have hcl9 : (nI len).toNatClampNeg = len := nI_clamp (by omega)
  have hgo : W p l e (rmm d mc ms) s m args below meth c H locs cells slots (MQ below (Qcc n0 G cs r sh' C') args s mc ms (fun q => n0 ≤ q)) (F0 m pc arr (.int (nI len) :: stk.map (rv n0))) := by
    refine W.anew (C := RK 3) hx hb hown (hts _ (List.mem_cons_of_mem _ hlw)) (va_AO.use hK.2.2.1) rfl hd rfl (nI_pos (by omega)) (by rw [hcl9]; omega) (by show cells + 1 ≤ mc; omega) (by rw [hcl9]; show slots + len ≤ ms; omega) (fun cA kA comp f1 f2 f3 f4 => ?_)
    rw [hcl9, hsz]
    generalize hH1 : H.push ({ cls := cA, slots := Array.replicate len .null, vm := .none } : Cell) = H1
    have z1 : H1.size = H.size + 1 := by rw [← hH1, Array.size_push]
    have e1 : H1[H.size]? = some (arrV cA len (fun _ => .null)) := by rw [← hH1, Array.getElem?_push_size, ← arrV_new]
    have o1 : ∀ q : Nat, q < H.size → H1[q]? = H[q]? := fun q hq => by rw [← hH1, Array.getElem?_push, if_neg (Nat.ne_of_lt hq)]
    have hcA : cA = cs.2.2 := by
      obtain ⟨_, _, -, -, -, h8⟩ := (hK.1.2 2 _ rfl).2
      exact Option.some.inj (f1.symm.trans h8)
    subst hcA
    rw [hsz] at e1
    have hP1 : va_P G vwCl (wsl n0 cs (pushS sh 8 len) (pushC C sh.1)) H1 := by
      rw [← wsl_push]
      refine (hH.kept (fun q x hx => o1 x.1 ((hH q x hx).lt))).app (fun q x hx => ?_)
      have hq : q < 1 := (List.getElem?_eq_some_iff.mp hx).1
      rw [show q = 0 by omega] at hx
      cases hx
      rw [ent_8 rfl]
      exact e1
    exact kk n0 G cs p l e s m args below meth c H1 locs (cells + 1) (slots + len) mc ms arr ⟨hx, hb, hml, hr, hts, hown, hlk, hnm, hK, hP1, ⟨Nat.le_trans hS.1 (by omega), fun x h1 h2 => (o1 x (Nat.lt_of_lt_of_le h1 hS.1)).trans (hS.2.1 x h1 h2), hS.2.2⟩, hn0, by show s.heap.size + (cells + 1) = n0 + (sh.1 + 1); omega, by omega, by omega, hl⟩
  exact hgo T hT X
theorem zw_iret {y : MI} {d k n pc : Nat} {ls : List (Option AV)} {sh : Sh} {C : Mem} {x : Int32} (hd : decode y.2.1 pc = .ok (.ireturn, 1)) (hr0 : y.2.2.2 = some .int) : WP y d k n pc ls [.inl x] sh C (some (.inl x)) sh C := by
  intro n0 G cs p l e s m args below meth c H locs cells slots mc ms arr hc
  have hc0 := hc
  obtain ⟨hx, hb, hml, hr, hts, hown, hlk, hnm, hK, hH, hS, hn0, hz, hcm, hsm, hl⟩ := hc
  refine W.widen (k := mc) (n := ms) (by omega) (by omega) ?_
  exact W.iret (v := x) hx hb (hr.trans hr0) (fun t ht hW => ⟨rfl, by rw [ht]; exact hH, hS.F ht⟩) hS.2.2 hd
theorem zw_zret {y : MI} {d k n pc : Nat} {ls : List (Option AV)} {sh : Sh} {C : Mem} {x : Int32} (hd : decode y.2.1 pc = .ok (.ireturn, 1)) (hr0 : y.2.2.2 = some .boolean) (hx01 : x = 0 ∨ x = 1) : WP y d k n pc ls [.inl x] sh C (some (.inl x)) sh C := by
  intro n0 G cs p l e s m args below meth c H locs cells slots mc ms arr hc
  have hc0 := hc
  obtain ⟨hx, hb, hml, hr, hts, hown, hlk, hnm, hK, hH, hS, hn0, hz, hcm, hsm, hl⟩ := hc
  refine W.widen (k := mc) (n := ms) (by omega) (by omega) ?_
  exact W.zret (v := x) hx hb (hr.trans hr0) (by rcases hx01 with rfl | rfl <;> rfl) (fun t ht hW => ⟨rfl, by rw [ht]; exact hH, hS.F ht⟩) hS.2.2 hd
theorem zw_vret {y : MI} {d k n pc : Nat} {ls : List (Option AV)} {sh : Sh} {C : Mem} (hd : decode y.2.1 pc = .ok (.return_, 1)) (hr0 : y.2.2.2 = none) : WP y d k n pc ls [] sh C none sh C := by
  intro n0 G cs p l e s m args below meth c H locs cells slots mc ms arr hc
  have hc0 := hc
  obtain ⟨hx, hb, hml, hr, hts, hown, hlk, hnm, hK, hH, hS, hn0, hz, hcm, hsm, hl⟩ := hc
  refine W.widen (k := mc) (n := ms) (by omega) (by omega) ?_
  exact W.vret hx hb (hr.trans hr0) (fun t ht hW => ⟨rfl, by rw [ht]; exact hH, hS.F ht⟩) hS.2.2 hd
theorem WP.wk {y : MI} {d k n pc : Nat} {ls : List (Option AV)} {stk : List AV} {sh sh' : Sh} {C C' : Mem} {r : Option AV} {ls2 : List (Option AV)} (h : ∀ (i : Nat) (v : AV), ls2[i]? = some (some v) → ls[i]? = some (some v)) (kk : WP y d k n pc ls2 stk sh C r sh' C') : WP y d k n pc ls stk sh C r sh' C' := by
  intro n0 G cs p l e s m args below meth c H locs cells slots mc ms arr hc
  have hc0 := hc
  obtain ⟨hx, hb, hml, hr, hts, hown, hlk, hnm, hK, hH, hS, hn0, hz, hcm, hsm, hl⟩ := hc
  exact kk n0 G cs p l e s m args below meth c H locs cells slots mc ms arr ⟨hx, hb, hml, hr, hts, hown, hlk, hnm, hK, hH, hS, hn0, hz, hcm, hsm, ⟨hl.1, hl.2.1, fun i v hi => hl.2.2 i v (h i v hi)⟩⟩
theorem Calls.of {y : MI} {d k n : Nat} {args : List AV} {sh sh' : Sh} {C C' : Mem} {r : Option AV} (hp : plainName y.1.cls = true) (hlen : args.length ≤ y.2.2.1) (kk : WP y d k n 0 (args.map some ++ List.replicate (y.2.2.1 - args.length) none) [] sh C r sh' C') : Calls y d k n args sh C r sh' C' := by
  intro l n0 G cs
  refine Met.ofW (cc := y.2.1) (maxL := y.2.2.1) (ret := y.2.2.2) (ws' := zWS) hp rfl ?_
  intro p e s m args' below meth c s₁ B hml hv
  obtain ⟨rfl, hK, hsz, hP⟩ := hv
  rw [lg_entry_eq]
  exact kk n0 G cs p l e s m _ below meth c s.heap [] 0 0 k n _ ⟨B.exec, B.bytes, hml, B.returns, atoms_spec (ws := wsY y) B.pre, findClass_of_methodNamed B.named, B.notSynchronized, (name_of_methodNamed B.named B.method).1, hK, hP, va_S.rf, by omega, by omega, by omega, by omega, LocOk.entry n0 args hlen⟩
theorem zw_getIv {y : MI} {d k n pc : Nat} {ls : List (Option AV)} {stk : List AV} {sh sh' : Sh} {C C' : Mem} {r : Option AV} {i j kd idx : Nat} {v : Int32} (hd : decode y.2.1 pc = .ok (.getfield idx, 3)) (hi : i < sh.1) (hk : sh.2.1 i = kd) (hkd : kd < 6) (hj : j < nF kd) (hw : Cond.fieldLink y.1.cls idx (TK kd j).1 (TK kd j).2.1 (TK kd j).2.2.1 ∈ zWS) (hf : rF kd j = false) (hv : C i j = v) (kk : WP y d k n (pc + 3) ls (.inl v :: stk) sh C r sh' C') : WP y d k n pc ls (.inr (some i) :: stk) sh C r sh' C' := by
  subst hv
  exact zw_getI hd hi hk hkd hj hw hf kk
theorem zw_ialdv {y : MI} {d k n pc : Nat} {ls : List (Option AV)} {stk : List AV} {sh sh' : Sh} {C C' : Mem} {r : Option AV} {a j : Nat} {x v : Int32} (hd : decode y.2.1 pc = .ok (.iaload, 1)) (hi : a < sh.1) (hk : sh.2.1 a = 6) (hL : sh.2.2.1 a < 2 ^ 31) (hxj : x = nI j) (hj : j < sh.2.2.1 a) (hv : C a j = v) (kk : WP y d k n (pc + 1) ls (.inl v :: stk) sh C r sh' C') : WP y d k n pc ls (.inl x :: .inr (some a) :: stk) sh C r sh' C' := by
  subst hv
  exact zw_iald hd hi hk hL hxj hj kk
theorem zw_iaddn {y : MI} {d k n pc : Nat} {ls : List (Option AV)} {stk : List AV} {sh sh' : Sh} {C C' : Mem} {r : Option AV} {a b : Nat} (hd : decode y.2.1 pc = .ok (.iadd, 1)) (kk : WP y d k n (pc + 1) ls (.inl (nI (a + b)) :: stk) sh C r sh' C') : WP y d k n pc ls (.inl (nI b) :: .inl (nI a) :: stk) sh C r sh' C' := by
  refine zw_iadd hd ?_
  rw [nI_add]
  exact kk
theorem zw_imuln {y : MI} {d k n pc : Nat} {ls : List (Option AV)} {stk : List AV} {sh sh' : Sh} {C C' : Mem} {r : Option AV} {a b : Nat} (hd : decode y.2.1 pc = .ok (.imul, 1)) (kk : WP y d k n (pc + 1) ls (.inl (nI (a * b)) :: stk) sh C r sh' C') : WP y d k n pc ls (.inl (nI b) :: .inl (nI a) :: stk) sh C r sh' C' := by
  refine zw_imul hd ?_
  rw [pk_mul]
  exact kk
theorem zw_isubn {y : MI} {d k n pc : Nat} {ls : List (Option AV)} {stk : List AV} {sh sh' : Sh} {C C' : Mem} {r : Option AV} {a b : Nat} (hd : decode y.2.1 pc = .ok (.isub, 1)) (hle : b ≤ a) (kk : WP y d k n (pc + 1) ls (.inl (nI (a - b)) :: stk) sh C r sh' C') : WP y d k n pc ls (.inl (nI b) :: .inl (nI a) :: stk) sh C r sh' C' := by
  refine zw_isub hd ?_
  rw [pk_sub hle]
  exact kk
theorem zw_idivn {y : MI} {d k n pc : Nat} {ls : List (Option AV)} {stk : List AV} {sh sh' : Sh} {C C' : Mem} {r : Option AV} {a b : Nat} (hd : decode y.2.1 pc = .ok (.idiv, 1)) (ha : a < 2 ^ 31) (hb0 : 0 < b) (hb : b < 2 ^ 31) (kk : WP y d k n (pc + 1) ls (.inl (nI (a / b)) :: stk) sh C r sh' C') : WP y d k n pc ls (.inl (nI b) :: .inl (nI a) :: stk) sh C r sh' C' := by
  refine zw_idiv hd (nI_ne0 hb0 hb) ?_
  rw [pk_div ha hb0 hb]
  exact kk
theorem zw_iremn {y : MI} {d k n pc : Nat} {ls : List (Option AV)} {stk : List AV} {sh sh' : Sh} {C C' : Mem} {r : Option AV} {a b : Nat} (hd : decode y.2.1 pc = .ok (.irem, 1)) (ha : a < 2 ^ 31) (hb0 : 0 < b) (hb : b < 2 ^ 31) (kk : WP y d k n (pc + 1) ls (.inl (nI (a % b)) :: stk) sh C r sh' C') : WP y d k n pc ls (.inl (nI b) :: .inl (nI a) :: stk) sh C r sh' C' := by
  refine zw_irem hd (nI_ne0 hb0 hb) ?_
  rw [pk_rem ha hb0 hb]
  exact kk
theorem zw_iincn {y : MI} {d k n pc : Nat} {ls : List (Option AV)} {stk : List AV} {sh sh' : Sh} {C C' : Mem} {r : Option AV} {i a : Nat} (hd : decode y.2.1 pc = .ok (.iinc i 1, 3)) (hl0 : ls[i]? = some (some (.inl (nI a)))) (hi : i < y.2.2.1) (kk : WP y d k n (pc + 3) (ls.set i (some (.inl (nI (a + 1))))) stk sh C r sh' C') : WP y d k n pc ls stk sh C r sh' C' := by
  exact zw_iinc hd hl0 (nI_1 a) hi kk
theorem zw_top {y : MI} {d k n pc : Nat} {ls : List (Option AV)} {stk : List AV} {sh sh' : Sh} {C C' : Mem} {r : Option AV} {x x2 : Int32} (h : x = x2) (kk : WP y d k n pc ls (.inl x2 :: stk) sh C r sh' C') : WP y d k n pc ls (.inl x :: stk) sh C r sh' C' := by
  subst h
  exact kk
theorem zw_mem {y : MI} {d k n pc : Nat} {ls : List (Option AV)} {stk : List AV} {sh sh' : Sh} {C C' : Mem} {r : Option AV} {C2 : Mem} (h : C = C2) (kk : WP y d k n pc ls stk sh C2 r sh' C') : WP y d k n pc ls stk sh C r sh' C' := by
  subst h
  exact kk
theorem zw_ialdx {y : MI} {d k n pc : Nat} {ls : List (Option AV)} {stk : List AV} {sh sh' : Sh} {C C' : Mem} {r : Option AV} {a : Nat} {x : Int32} (hd : decode y.2.1 pc = .ok (.iaload, 1)) (hi : a < sh.1) (hk : sh.2.1 a = 6) (hL : sh.2.2.1 a < 2 ^ 31) (hin : vp_in x (sh.2.2.1 a)) (kk : WP y d k n (pc + 1) ls (.inl (C a x.toNatClampNeg) :: stk) sh C r sh' C') : WP y d k n pc ls (.inl x :: .inr (some a) :: stk) sh C r sh' C' := by
  obtain ⟨j, hj, hxj⟩ := vp_in_of hin hL
  have e : x.toNatClampNeg = j := by rw [hxj, nI_clamp (by omega)]
  rw [e] at kk
  exact zw_iald hd hi hk hL hxj hj kk
theorem zw_iastx {y : MI} {d k n pc : Nat} {ls : List (Option AV)} {stk : List AV} {sh sh' : Sh} {C C' : Mem} {r : Option AV} {a : Nat} {x v : Int32} (hd : decode y.2.1 pc = .ok (.iastore, 1)) (hi : a < sh.1) (hk : sh.2.1 a = 6) (hL : sh.2.2.1 a < 2 ^ 31) (hin : vp_in x (sh.2.2.1 a)) (kk : WP y d k n (pc + 1) ls stk sh (up C a x.toNatClampNeg v) r sh' C') : WP y d k n pc ls (.inl v :: .inl x :: .inr (some a) :: stk) sh C r sh' C' := by
  obtain ⟨j, hj, hxj⟩ := vp_in_of hin hL
  have e : x.toNatClampNeg = j := by rw [hxj, nI_clamp (by omega)]
  rw [e] at kk
  exact zw_iast hd hi hk hL hxj hj kk
theorem zw_iretE {y : MI} {d k n pc : Nat} {ls : List (Option AV)} {sh sh' : Sh} {C C' : Mem} {r : Option AV} {x : Int32} (hd : decode y.2.1 pc = .ok (.ireturn, 1)) (hr0 : y.2.2.2 = some .int) (hrr : r = some (.inl x)) (hss : sh' = sh) (hCC : C' = C) : WP y d k n pc ls [.inl x] sh C r sh' C' := by
  subst hrr; subst hss; subst hCC
  exact zw_iret hd hr0
theorem zw_zretE {y : MI} {d k n pc : Nat} {ls : List (Option AV)} {sh sh' : Sh} {C C' : Mem} {r : Option AV} {x : Int32} (hd : decode y.2.1 pc = .ok (.ireturn, 1)) (hr0 : y.2.2.2 = some .boolean) (hx01 : x = 0 ∨ x = 1) (hrr : r = some (.inl x)) (hss : sh' = sh) (hCC : C' = C) : WP y d k n pc ls [.inl x] sh C r sh' C' := by
  subst hrr; subst hss; subst hCC
  exact zw_zret hd hr0 hx01
theorem zw_vretE {y : MI} {d k n pc : Nat} {ls : List (Option AV)} {sh sh' : Sh} {C C' : Mem} {r : Option AV} (hd : decode y.2.1 pc = .ok (.return_, 1)) (hr0 : y.2.2.2 = none) (hrr : r = none) (hss : sh' = sh) (hCC : C' = C) : WP y d k n pc ls [] sh C r sh' C' := by
  subst hrr; subst hss; subst hCC
  exact zw_vret hd hr0
/-- what is known of fewer locals -/
def subL : List (Option AV) → List (Option AV) → Prop
  | [], _ => True
  | none :: a, b => subL a b.tail
  | some v :: a, b => b.head? = some (some v) ∧ subL a b.tail
theorem subL_at : ∀ (a b : List (Option AV)), subL a b → ∀ (i : Nat) (v : AV), a[i]? = some (some v) → b[i]? = some (some v)
  | [], b, _, i, v, hi => by simp at hi
  | none :: a, b, h, i, v, hi => by
    cases i with
    | zero => simp at hi
    | succ i =>
      have h1 := subL_at a b.tail h i v (by simpa using hi)
      cases b with
      | nil => simp at h1
      | cons w b => simpa using h1
  | some w :: a, b, h, i, v, hi => by
    obtain ⟨h0, h⟩ := h
    cases b with
    | nil => simp at h0
    | cons u b =>
      simp at h0
      cases i with
      | zero =>
        simp at hi ⊢
        rw [h0, hi]
      | succ i => simpa using subL_at a b h i v (by simpa using hi)
theorem WP.sub {y : MI} {d k n pc : Nat} {ls : List (Option AV)} {stk : List AV} {sh sh' : Sh} {C C' : Mem} {r : Option AV} {ls2 : List (Option AV)} (kk : WP y d k n pc ls2 stk sh C r sh' C') (h : subL ls2 ls) : WP y d k n pc ls stk sh C r sh' C' := WP.wk (subL_at _ _ h) kk
end
section
theorem plX0 : plainName RX0 = true := by decide +kernel
theorem plX1 : plainName RX1 = true := by decide +kernel
theorem plX2 : plainName RX2 = true := by decide +kernel
theorem plX3 : plainName RX3 = true := by decide +kernel
theorem plX4 : plainName RX4 = true := by decide +kernel
theorem plX5 : plainName RX5 = true := by decide +kernel
theorem plJ6 : plainName RJ6 = true := by decide +kernel
theorem plJ7 : plainName RJ7 = true := by decide +kernel
theorem plL : plainName RL = true := by decide +kernel
abbrev mX0_init : MI := (yX0_init, cX0_init, 2, none)
theorem okX0_init : okI mX0_init := ⟨⟨in_X0, co_yX0_init, by decide +kernel, by decide⟩, im_yX0_init, by decide, rfl⟩
abbrev mX0_record : MI := (yX0_record, cX0_record, 2, none)
theorem okX0_record : okV mX0_record 1 := ⟨⟨in_X0, co_yX0_record, by decide +kernel, by decide⟩, im_yX0_record, se_yX0_record⟩
abbrev mX0_restoreLatest : MI := (yX0_restoreLatest, cX0_restoreLatest, 2, none)
theorem okX0_restoreLatest : okV mX0_restoreLatest 1 := ⟨⟨in_X0, co_yX0_restoreLatest, by decide +kernel, by decide⟩, im_yX0_restoreLatest, se_yX0_restoreLatest⟩
abbrev mX1_init : MI := (yX1_init, cX1_init, 1, none)
theorem okX1_init : okI mX1_init := ⟨⟨in_X1, co_yX1_init, by decide +kernel, by decide⟩, im_yX1_init, by decide, rfl⟩
abbrev mX2_init : MI := (yX2_init, cX2_init, 2, none)
theorem okX2_init : okI mX2_init := ⟨⟨in_X2, co_yX2_init, by decide +kernel, by decide⟩, im_yX2_init, by decide, rfl⟩
abbrev mX2_readText : MI := (yX2_readText, cX2_readText, 2, (some .boolean))
theorem okX2_readText : okV mX2_readText 0 := ⟨⟨in_X2, co_yX2_readText, by decide +kernel, by decide⟩, im_yX2_readText, se_yX2_readText⟩
abbrev mX2_readPiece : MI := (yX2_readPiece, cX2_readPiece, 2, none)
theorem okX2_readPiece : okV mX2_readPiece 0 := ⟨⟨in_X2, co_yX2_readPiece, by decide +kernel, by decide⟩, im_yX2_readPiece, se_yX2_readPiece⟩
abbrev mX2_openGroup : MI := (yX2_openGroup, cX2_openGroup, 2, none)
theorem okX2_openGroup : okV mX2_openGroup 1 := ⟨⟨in_X2, co_yX2_openGroup, by decide +kernel, by decide⟩, im_yX2_openGroup, se_yX2_openGroup⟩
abbrev mX2_closeGroup : MI := (yX2_closeGroup, cX2_closeGroup, 1, none)
theorem okX2_closeGroup : okV mX2_closeGroup 0 := ⟨⟨in_X2, co_yX2_closeGroup, by decide +kernel, by decide⟩, im_yX2_closeGroup, se_yX2_closeGroup⟩
abbrev mX2_readBids : MI := (yX2_readBids, cX2_readBids, 8, none)
theorem okX2_readBids : okV mX2_readBids 0 := ⟨⟨in_X2, co_yX2_readBids, by decide +kernel, by decide⟩, im_yX2_readBids, se_yX2_readBids⟩
abbrev mX2_takeStreet : MI := (yX2_takeStreet, cX2_takeStreet, 2, (some .int))
theorem okX2_takeStreet : okV mX2_takeStreet 0 := ⟨⟨in_X2, co_yX2_takeStreet, by decide +kernel, by decide⟩, im_yX2_takeStreet, se_yX2_takeStreet⟩
abbrev mX2_takeNumber : MI := (yX2_takeNumber, cX2_takeNumber, 8, (some .int))
theorem okX2_takeNumber : okV mX2_takeNumber 2 := ⟨⟨in_X2, co_yX2_takeNumber, by decide +kernel, by decide⟩, im_yX2_takeNumber, se_yX2_takeNumber⟩
abbrev mX2_take : MI := (yX2_take, cX2_take, 2, none)
theorem okX2_take : okV mX2_take 1 := ⟨⟨in_X2, co_yX2_take, by decide +kernel, by decide⟩, im_yX2_take, se_yX2_take⟩
abbrev mX2_takeIf : MI := (yX2_takeIf, cX2_takeIf, 3, (some .boolean))
theorem okX2_takeIf : okV mX2_takeIf 1 := ⟨⟨in_X2, co_yX2_takeIf, by decide +kernel, by decide⟩, im_yX2_takeIf, se_yX2_takeIf⟩
abbrev mX2_skip : MI := (yX2_skip, cX2_skip, 1, none)
theorem okX2_skip : okV mX2_skip 0 := ⟨⟨in_X2, co_yX2_skip, by decide +kernel, by decide⟩, im_yX2_skip, se_yX2_skip⟩
abbrev mX2_sign : MI := (yX2_sign, cX2_sign, 1, (some .int))
theorem okX2_sign : okV mX2_sign 0 := ⟨⟨in_X2, co_yX2_sign, by decide +kernel, by decide⟩, im_yX2_sign, se_yX2_sign⟩
abbrev mX2_isDigit : MI := (yX2_isDigit, cX2_isDigit, 1, (some .boolean))
theorem okX2_isDigit : okS mX2_isDigit 1 := ⟨⟨in_X2, co_yX2_isDigit, by decide +kernel, by decide⟩, st_yX2_isDigit⟩
abbrev mX2_failAt : MI := (yX2_failAt, cX2_failAt, 2, none)
theorem okX2_failAt : okV mX2_failAt 1 := ⟨⟨in_X2, co_yX2_failAt, by decide +kernel, by decide⟩, im_yX2_failAt, se_yX2_failAt⟩
abbrev mX2_hasFailed : MI := (yX2_hasFailed, cX2_hasFailed, 1, (some .boolean))
theorem okX2_hasFailed : okV mX2_hasFailed 0 := ⟨⟨in_X2, co_yX2_hasFailed, by decide +kernel, by decide⟩, im_yX2_hasFailed, se_yX2_hasFailed⟩
abbrev mX3_init : MI := (yX3_init, cX3_init, 1, none)
theorem okX3_init : okI mX3_init := ⟨⟨in_X3, co_yX3_init, by decide +kernel, by decide⟩, im_yX3_init, by decide, rfl⟩
abbrev mX3_copyFrom : MI := (yX3_copyFrom, cX3_copyFrom, 2, none)
theorem okX3_copyFrom : okV mX3_copyFrom 1 := ⟨⟨in_X3, co_yX3_copyFrom, by decide +kernel, by decide⟩, im_yX3_copyFrom, se_yX3_copyFrom⟩
abbrev mX3_markedBid : MI := (yX3_markedBid, cX3_markedBid, 3, (some .int))
theorem okX3_markedBid : okV mX3_markedBid 2 := ⟨⟨in_X3, co_yX3_markedBid, by decide +kernel, by decide⟩, im_yX3_markedBid, se_yX3_markedBid⟩
abbrev mX3_bidFor : MI := (yX3_bidFor, cX3_bidFor, 6, (some .int))
theorem okX3_bidFor : okV mX3_bidFor 3 := ⟨⟨in_X3, co_yX3_bidFor, by decide +kernel, by decide⟩, im_yX3_bidFor, se_yX3_bidFor⟩
abbrev mX3_bidAmount : MI := (yX3_bidAmount, cX3_bidAmount, 3, (some .int))
theorem okX3_bidAmount : okV mX3_bidAmount 2 := ⟨⟨in_X3, co_yX3_bidAmount, by decide +kernel, by decide⟩, im_yX3_bidAmount, se_yX3_bidAmount⟩
abbrev mX3_freeMoney : MI := (yX3_freeMoney, cX3_freeMoney, 2, (some .int))
theorem okX3_freeMoney : okV mX3_freeMoney 1 := ⟨⟨in_X3, co_yX3_freeMoney, by decide +kernel, by decide⟩, im_yX3_freeMoney, se_yX3_freeMoney⟩
abbrev mX3_bidError : MI := (yX3_bidError, cX3_bidError, 5, (some .int))
theorem okX3_bidError : okV mX3_bidError 3 := ⟨⟨in_X3, co_yX3_bidError, by decide +kernel, by decide⟩, im_yX3_bidError, se_yX3_bidError⟩
abbrev mX3_placeBid : MI := (yX3_placeBid, cX3_placeBid, 6, (some .int))
theorem okX3_placeBid : okV mX3_placeBid 4 := ⟨⟨in_X3, co_yX3_placeBid, by decide +kernel, by decide⟩, im_yX3_placeBid, se_yX3_placeBid⟩
abbrev mX3_bidsBy : MI := (yX3_bidsBy, cX3_bidsBy, 4, (some .int))
theorem okX3_bidsBy : okV mX3_bidsBy 1 := ⟨⟨in_X3, co_yX3_bidsBy, by decide +kernel, by decide⟩, im_yX3_bidsBy, se_yX3_bidsBy⟩
abbrev mX3_bidsFor : MI := (yX3_bidsFor, cX3_bidsFor, 4, (some .int))
theorem okX3_bidsFor : okV mX3_bidsFor 1 := ⟨⟨in_X3, co_yX3_bidsFor, by decide +kernel, by decide⟩, im_yX3_bidsFor, se_yX3_bidsFor⟩
abbrev mX3_sumOfBids : MI := (yX3_sumOfBids, cX3_sumOfBids, 5, (some .int))
theorem okX3_sumOfBids : okV mX3_sumOfBids 2 := ⟨⟨in_X3, co_yX3_sumOfBids, by decide +kernel, by decide⟩, im_yX3_sumOfBids, se_yX3_sumOfBids⟩
abbrev mX3_receive : MI := (yX3_receive, cX3_receive, 4, none)
theorem okX3_receive : okV mX3_receive 2 := ⟨⟨in_X3, co_yX3_receive, by decide +kernel, by decide⟩, im_yX3_receive, se_yX3_receive⟩
abbrev mX3_canBePaid : MI := (yX3_canBePaid, cX3_canBePaid, 4, (some .boolean))
theorem okX3_canBePaid : okV mX3_canBePaid 2 := ⟨⟨in_X3, co_yX3_canBePaid, by decide +kernel, by decide⟩, im_yX3_canBePaid, se_yX3_canBePaid⟩
abbrev mX3_allMoney : MI := (yX3_allMoney, cX3_allMoney, 3, (some .int))
theorem okX3_allMoney : okV mX3_allMoney 0 := ⟨⟨in_X3, co_yX3_allMoney, by decide +kernel, by decide⟩, im_yX3_allMoney, se_yX3_allMoney⟩
abbrev mX3_allDebts : MI := (yX3_allDebts, cX3_allDebts, 3, (some .int))
theorem okX3_allDebts : okV mX3_allDebts 0 := ⟨⟨in_X3, co_yX3_allDebts, by decide +kernel, by decide⟩, im_yX3_allDebts, se_yX3_allDebts⟩
abbrev mX3_allBids : MI := (yX3_allBids, cX3_allBids, 3, (some .int))
theorem okX3_allBids : okV mX3_allBids 0 := ⟨⟨in_X3, co_yX3_allBids, by decide +kernel, by decide⟩, im_yX3_allBids, se_yX3_allBids⟩
abbrev mX3_strength : MI := (yX3_strength, cX3_strength, 3, (some .int))
theorem okX3_strength : okV mX3_strength 2 := ⟨⟨in_X3, co_yX3_strength, by decide +kernel, by decide⟩, im_yX3_strength, se_yX3_strength⟩
abbrev mX3_ownerThen : MI := (yX3_ownerThen, cX3_ownerThen, 4, (some .int))
theorem okX3_ownerThen : okV mX3_ownerThen 1 := ⟨⟨in_X3, co_yX3_ownerThen, by decide +kernel, by decide⟩, im_yX3_ownerThen, se_yX3_ownerThen⟩
abbrev mX3_missingFor : MI := (yX3_missingFor, cX3_missingFor, 5, (some .int))
theorem okX3_missingFor : okV mX3_missingFor 2 := ⟨⟨in_X3, co_yX3_missingFor, by decide +kernel, by decide⟩, im_yX3_missingFor, se_yX3_missingFor⟩
abbrev mX3_settleDay : MI := (yX3_settleDay, cX3_settleDay, 2, none)
theorem okX3_settleDay : okV mX3_settleDay 0 := ⟨⟨in_X3, co_yX3_settleDay, by decide +kernel, by decide⟩, im_yX3_settleDay, se_yX3_settleDay⟩
abbrev mX3_settleBids : MI := (yX3_settleBids, cX3_settleBids, 6, none)
theorem okX3_settleBids : okV mX3_settleBids 1 := ⟨⟨in_X3, co_yX3_settleBids, by decide +kernel, by decide⟩, im_yX3_settleBids, se_yX3_settleBids⟩
abbrev mX3_collectFrom : MI := (yX3_collectFrom, cX3_collectFrom, 6, (some .int))
theorem okX3_collectFrom : okV mX3_collectFrom 2 := ⟨⟨in_X3, co_yX3_collectFrom, by decide +kernel, by decide⟩, im_yX3_collectFrom, se_yX3_collectFrom⟩
abbrev mX3_shareOut : MI := (yX3_shareOut, cX3_shareOut, 8, (some .int))
theorem okX3_shareOut : okV mX3_shareOut 3 := ⟨⟨in_X3, co_yX3_shareOut, by decide +kernel, by decide⟩, im_yX3_shareOut, se_yX3_shareOut⟩
abbrev mX3_biddersForQuiet : MI := (yX3_biddersForQuiet, cX3_biddersForQuiet, 4, (some .int))
theorem okX3_biddersForQuiet : okV mX3_biddersForQuiet 1 := ⟨⟨in_X3, co_yX3_biddersForQuiet, by decide +kernel, by decide⟩, im_yX3_biddersForQuiet, se_yX3_biddersForQuiet⟩
abbrev mX3_noteBreach : MI := (yX3_noteBreach, cX3_noteBreach, 6, (some .int))
theorem okX3_noteBreach : okV mX3_noteBreach 2 := ⟨⟨in_X3, co_yX3_noteBreach, by decide +kernel, by decide⟩, im_yX3_noteBreach, se_yX3_noteBreach⟩
abbrev mX3_shareFine : MI := (yX3_shareFine, cX3_shareFine, 6, (some .int))
theorem okX3_shareFine : okV mX3_shareFine 2 := ⟨⟨in_X3, co_yX3_shareFine, by decide +kernel, by decide⟩, im_yX3_shareFine, se_yX3_shareFine⟩
abbrev mX3_noisySlots : MI := (yX3_noisySlots, cX3_noisySlots, 3, (some .int))
theorem okX3_noisySlots : okV mX3_noisySlots 0 := ⟨⟨in_X3, co_yX3_noisySlots, by decide +kernel, by decide⟩, im_yX3_noisySlots, se_yX3_noisySlots⟩
abbrev mX3_quietHours : MI := (yX3_quietHours, cX3_quietHours, 4, (some .int))
theorem okX3_quietHours : okV mX3_quietHours 1 := ⟨⟨in_X3, co_yX3_quietHours, by decide +kernel, by decide⟩, im_yX3_quietHours, se_yX3_quietHours⟩
abbrev mX3_longestQuiet : MI := (yX3_longestQuiet, cX3_longestQuiet, 4, (some .int))
theorem okX3_longestQuiet : okV mX3_longestQuiet 1 := ⟨⟨in_X3, co_yX3_longestQuiet, by decide +kernel, by decide⟩, im_yX3_longestQuiet, se_yX3_longestQuiet⟩
abbrev mX3_longestQuietStart : MI := (yX3_longestQuietStart, cX3_longestQuietStart, 6, (some .int))
theorem okX3_longestQuietStart : okV mX3_longestQuietStart 1 := ⟨⟨in_X3, co_yX3_longestQuietStart, by decide +kernel, by decide⟩, im_yX3_longestQuietStart, se_yX3_longestQuietStart⟩
abbrev mX3_quietFrom : MI := (yX3_quietFrom, cX3_quietFrom, 4, (some .int))
theorem okX3_quietFrom : okV mX3_quietFrom 2 := ⟨⟨in_X3, co_yX3_quietFrom, by decide +kernel, by decide⟩, im_yX3_quietFrom, se_yX3_quietFrom⟩
abbrev mX4_init : MI := (yX4_init, cX4_init, 1, none)
theorem okX4_init : okI mX4_init := ⟨⟨in_X4, co_yX4_init, by decide +kernel, by decide⟩, im_yX4_init, by decide, rfl⟩
abbrev mX4_join : MI := (yX4_join, cX4_join, 2, (some .int))
theorem okX4_join : okV mX4_join 1 := ⟨⟨in_X4, co_yX4_join, by decide +kernel, by decide⟩, im_yX4_join, se_yX4_join⟩
abbrev mX4_pay : MI := (yX4_pay, cX4_pay, 3, (some .int))
theorem okX4_pay : okV mX4_pay 2 := ⟨⟨in_X4, co_yX4_pay, by decide +kernel, by decide⟩, im_yX4_pay, se_yX4_pay⟩
abbrev mX4_bid : MI := (yX4_bid, cX4_bid, 8, (some .int))
theorem okX4_bid : okV mX4_bid 5 := ⟨⟨in_X4, co_yX4_bid, by decide +kernel, by decide⟩, im_yX4_bid, se_yX4_bid⟩
abbrev mX4_setFine : MI := (yX4_setFine, cX4_setFine, 3, (some .int))
theorem okX4_setFine : okV mX4_setFine 1 := ⟨⟨in_X4, co_yX4_setFine, by decide +kernel, by decide⟩, im_yX4_setFine, se_yX4_setFine⟩
abbrev mX4_settle : MI := (yX4_settle, cX4_settle, 1, (some .int))
theorem okX4_settle : okV mX4_settle 0 := ⟨⟨in_X4, co_yX4_settle, by decide +kernel, by decide⟩, im_yX4_settle, se_yX4_settle⟩
abbrev mX4_breach : MI := (yX4_breach, cX4_breach, 5, (some .int))
theorem okX4_breach : okV mX4_breach 3 := ⟨⟨in_X4, co_yX4_breach, by decide +kernel, by decide⟩, im_yX4_breach, se_yX4_breach⟩
abbrev mX4_undo : MI := (yX4_undo, cX4_undo, 1, (some .int))
theorem okX4_undo : okV mX4_undo 0 := ⟨⟨in_X4, co_yX4_undo, by decide +kernel, by decide⟩, im_yX4_undo, se_yX4_undo⟩
abbrev mX4_append : MI := (yX4_append, cX4_append, 2, (some .int))
theorem okX4_append : okV mX4_append 1 := ⟨⟨in_X4, co_yX4_append, by decide +kernel, by decide⟩, im_yX4_append, se_yX4_append⟩
abbrev mX4_clearText : MI := (yX4_clearText, cX4_clearText, 2, (some .int))
theorem okX4_clearText : okV mX4_clearText 0 := ⟨⟨in_X4, co_yX4_clearText, by decide +kernel, by decide⟩, im_yX4_clearText, se_yX4_clearText⟩
abbrev mX4_run : MI := (yX4_run, cX4_run, 8, (some .int))
theorem okX4_run : okV mX4_run 1 := ⟨⟨in_X4, co_yX4_run, by decide +kernel, by decide⟩, im_yX4_run, se_yX4_run⟩
abbrev mX4_failure : MI := (yX4_failure, cX4_failure, 3, (some .int))
theorem okX4_failure : okV mX4_failure 1 := ⟨⟨in_X4, co_yX4_failure, by decide +kernel, by decide⟩, im_yX4_failure, se_yX4_failure⟩
abbrev mX4_count : MI := (yX4_count, cX4_count, 2, (some .int))
theorem okX4_count : okV mX4_count 1 := ⟨⟨in_X4, co_yX4_count, by decide +kernel, by decide⟩, im_yX4_count, se_yX4_count⟩
abbrev mX4_person : MI := (yX4_person, cX4_person, 3, (some .int))
theorem okX4_person : okV mX4_person 2 := ⟨⟨in_X4, co_yX4_person, by decide +kernel, by decide⟩, im_yX4_person, se_yX4_person⟩
abbrev mX4_slot : MI := (yX4_slot, cX4_slot, 5, (some .int))
theorem okX4_slot : okV mX4_slot 3 := ⟨⟨in_X4, co_yX4_slot, by decide +kernel, by decide⟩, im_yX4_slot, se_yX4_slot⟩
abbrev mX4_bidOf : MI := (yX4_bidOf, cX4_bidOf, 5, (some .int))
theorem okX4_bidOf : okV mX4_bidOf 3 := ⟨⟨in_X4, co_yX4_bidOf, by decide +kernel, by decide⟩, im_yX4_bidOf, se_yX4_bidOf⟩
abbrev mX4_fund : MI := (yX4_fund, cX4_fund, 2, (some .int))
theorem okX4_fund : okV mX4_fund 1 := ⟨⟨in_X4, co_yX4_fund, by decide +kernel, by decide⟩, im_yX4_fund, se_yX4_fund⟩
abbrev mX4_winner : MI := (yX4_winner, cX4_winner, 3, (some .int))
theorem okX4_winner : okV mX4_winner 2 := ⟨⟨in_X4, co_yX4_winner, by decide +kernel, by decide⟩, im_yX4_winner, se_yX4_winner⟩
abbrev mX4_needed : MI := (yX4_needed, cX4_needed, 4, (some .int))
theorem okX4_needed : okV mX4_needed 3 := ⟨⟨in_X4, co_yX4_needed, by decide +kernel, by decide⟩, im_yX4_needed, se_yX4_needed⟩
abbrev mX4_quiet : MI := (yX4_quiet, cX4_quiet, 3, (some .int))
theorem okX4_quiet : okV mX4_quiet 2 := ⟨⟨in_X4, co_yX4_quiet, by decide +kernel, by decide⟩, im_yX4_quiet, se_yX4_quiet⟩
abbrev mX4_purseThen : MI := (yX4_purseThen, cX4_purseThen, 2, (some .int))
theorem okX4_purseThen : okV mX4_purseThen 1 := ⟨⟨in_X4, co_yX4_purseThen, by decide +kernel, by decide⟩, im_yX4_purseThen, se_yX4_purseThen⟩
abbrev mX4_failPlan : MI := (yX4_failPlan, cX4_failPlan, 6, (some .int))
theorem okX4_failPlan : okV mX4_failPlan 5 := ⟨⟨in_X4, co_yX4_failPlan, by decide +kernel, by decide⟩, im_yX4_failPlan, se_yX4_failPlan⟩
abbrev mX4_isPerson : MI := (yX4_isPerson, cX4_isPerson, 2, (some .boolean))
theorem okX4_isPerson : okV mX4_isPerson 1 := ⟨⟨in_X4, co_yX4_isPerson, by decide +kernel, by decide⟩, im_yX4_isPerson, se_yX4_isPerson⟩
abbrev mX4_isStreet : MI := (yX4_isStreet, cX4_isStreet, 1, (some .boolean))
theorem okX4_isStreet : okS mX4_isStreet 1 := ⟨⟨in_X4, co_yX4_isStreet, by decide +kernel, by decide⟩, st_yX4_isStreet⟩
abbrev mX4_isSlot : MI := (yX4_isSlot, cX4_isSlot, 2, (some .boolean))
theorem okX4_isSlot : okS mX4_isSlot 2 := ⟨⟨in_X4, co_yX4_isSlot, by decide +kernel, by decide⟩, st_yX4_isSlot⟩
abbrev mX4_isSide : MI := (yX4_isSide, cX4_isSide, 1, (some .boolean))
theorem okX4_isSide : okS mX4_isSide 1 := ⟨⟨in_X4, co_yX4_isSide, by decide +kernel, by decide⟩, st_yX4_isSide⟩
abbrev mX4_isWithin : MI := (yX4_isWithin, cX4_isWithin, 3, (some .boolean))
theorem okX4_isWithin : okS mX4_isWithin 3 := ⟨⟨in_X4, co_yX4_isWithin, by decide +kernel, by decide⟩, st_yX4_isWithin⟩
abbrev mX4_slotAt : MI := (yX4_slotAt, cX4_slotAt, 2, (some .int))
theorem okX4_slotAt : okS mX4_slotAt 2 := ⟨⟨in_X4, co_yX4_slotAt, by decide +kernel, by decide⟩, st_yX4_slotAt⟩
abbrev mX4_otherSide : MI := (yX4_otherSide, cX4_otherSide, 1, (some .int))
theorem okX4_otherSide : okS mX4_otherSide 1 := ⟨⟨in_X4, co_yX4_otherSide, by decide +kernel, by decide⟩, st_yX4_otherSide⟩
abbrev mX5_init : MI := (yX5_init, cX5_init, 1, none)
theorem okX5_init : okI mX5_init := ⟨⟨in_X5, co_yX5_init, by decide +kernel, by decide⟩, im_yX5_init, by decide, rfl⟩
abbrev mX5_in : MI := (yX5_in, cX5_in, 3, (some .boolean))
theorem okX5_in : okS mX5_in 3 := ⟨⟨in_X5, co_yX5_in, by decide +kernel, by decide⟩, st_yX5_in⟩
abbrev mX5_isPerson : MI := (yX5_isPerson, cX5_isPerson, 2, (some .boolean))
theorem okX5_isPerson : okV mX5_isPerson 1 := ⟨⟨in_X5, co_yX5_isPerson, by decide +kernel, by decide⟩, im_yX5_isPerson, se_yX5_isPerson⟩
abbrev mX5_isSlot : MI := (yX5_isSlot, cX5_isSlot, 2, (some .boolean))
theorem okX5_isSlot : okS mX5_isSlot 2 := ⟨⟨in_X5, co_yX5_isSlot, by decide +kernel, by decide⟩, st_yX5_isSlot⟩
abbrev mX5_of : MI := (yX5_of, cX5_of, 3, (some .int))
theorem okX5_of : okV mX5_of 2 := ⟨⟨in_X5, co_yX5_of, by decide +kernel, by decide⟩, im_yX5_of, se_yX5_of⟩
abbrev mX5_adds : MI := (yX5_adds, cX5_adds, 4, none)
theorem okX5_adds : okV mX5_adds 3 := ⟨⟨in_X5, co_yX5_adds, by decide +kernel, by decide⟩, im_yX5_adds, se_yX5_adds⟩
abbrev mX5_slotOf : MI := (yX5_slotOf, cX5_slotOf, 3, (some .int))
theorem okX5_slotOf : okV mX5_slotOf 2 := ⟨⟨in_X5, co_yX5_slotOf, by decide +kernel, by decide⟩, im_yX5_slotOf, se_yX5_slotOf⟩
abbrev mX5_puts : MI := (yX5_puts, cX5_puts, 4, none)
theorem okX5_puts : okV mX5_puts 3 := ⟨⟨in_X5, co_yX5_puts, by decide +kernel, by decide⟩, im_yX5_puts, se_yX5_puts⟩
abbrev mX5_bidAt : MI := (yX5_bidAt, cX5_bidAt, 3, (some .int))
theorem okX5_bidAt : okV mX5_bidAt 2 := ⟨⟨in_X5, co_yX5_bidAt, by decide +kernel, by decide⟩, im_yX5_bidAt, se_yX5_bidAt⟩
abbrev mX5_amount : MI := (yX5_amount, cX5_amount, 5, (some .int))
theorem okX5_amount : okV mX5_amount 3 := ⟨⟨in_X5, co_yX5_amount, by decide +kernel, by decide⟩, im_yX5_amount, se_yX5_amount⟩
abbrev mX5_sumOf : MI := (yX5_sumOf, cX5_sumOf, 5, (some .int))
theorem okX5_sumOf : okV mX5_sumOf 2 := ⟨⟨in_X5, co_yX5_sumOf, by decide +kernel, by decide⟩, im_yX5_sumOf, se_yX5_sumOf⟩
abbrev mX5_bidsFor : MI := (yX5_bidsFor, cX5_bidsFor, 4, (some .int))
theorem okX5_bidsFor : okV mX5_bidsFor 1 := ⟨⟨in_X5, co_yX5_bidsFor, by decide +kernel, by decide⟩, im_yX5_bidsFor, se_yX5_bidsFor⟩
abbrev mX5_bidsBy : MI := (yX5_bidsBy, cX5_bidsBy, 4, (some .int))
theorem okX5_bidsBy : okV mX5_bidsBy 1 := ⟨⟨in_X5, co_yX5_bidsBy, by decide +kernel, by decide⟩, im_yX5_bidsBy, se_yX5_bidsBy⟩
abbrev mX5_free : MI := (yX5_free, cX5_free, 4, (some .int))
theorem okX5_free : okV mX5_free 1 := ⟨⟨in_X5, co_yX5_free, by decide +kernel, by decide⟩, im_yX5_free, se_yX5_free⟩
abbrev mX5_noisy : MI := (yX5_noisy, cX5_noisy, 3, (some .int))
theorem okX5_noisy : okV mX5_noisy 0 := ⟨⟨in_X5, co_yX5_noisy, by decide +kernel, by decide⟩, im_yX5_noisy, se_yX5_noisy⟩
abbrev mX5_notes : MI := (yX5_notes, cX5_notes, 2, none)
theorem okX5_notes : okV mX5_notes 0 := ⟨⟨in_X5, co_yX5_notes, by decide +kernel, by decide⟩, im_yX5_notes, se_yX5_notes⟩
abbrev mX5_asides : MI := (yX5_asides, cX5_asides, 2, none)
theorem okX5_asides : okV mX5_asides 0 := ⟨⟨in_X5, co_yX5_asides, by decide +kernel, by decide⟩, im_yX5_asides, se_yX5_asides⟩
abbrev mX5_backs : MI := (yX5_backs, cX5_backs, 2, none)
theorem okX5_backs : okV mX5_backs 0 := ⟨⟨in_X5, co_yX5_backs, by decide +kernel, by decide⟩, im_yX5_backs, se_yX5_backs⟩
abbrev mX5_swaps : MI := (yX5_swaps, cX5_swaps, 3, none)
theorem okX5_swaps : okV mX5_swaps 0 := ⟨⟨in_X5, co_yX5_swaps, by decide +kernel, by decide⟩, im_yX5_swaps, se_yX5_swaps⟩
abbrev mX5_undo : MI := (yX5_undo, cX5_undo, 2, (some .int))
theorem okX5_undo : okV mX5_undo 0 := ⟨⟨in_X5, co_yX5_undo, by decide +kernel, by decide⟩, im_yX5_undo, se_yX5_undo⟩
abbrev mX5_receives : MI := (yX5_receives, cX5_receives, 4, none)
theorem okX5_receives : okV mX5_receives 2 := ⟨⟨in_X5, co_yX5_receives, by decide +kernel, by decide⟩, im_yX5_receives, se_yX5_receives⟩
abbrev mX5_join : MI := (yX5_join, cX5_join, 4, (some .int))
theorem okX5_join : okV mX5_join 1 := ⟨⟨in_X5, co_yX5_join, by decide +kernel, by decide⟩, im_yX5_join, se_yX5_join⟩
abbrev mX5_pay : MI := (yX5_pay, cX5_pay, 5, (some .int))
theorem okX5_pay : okV mX5_pay 2 := ⟨⟨in_X5, co_yX5_pay, by decide +kernel, by decide⟩, im_yX5_pay, se_yX5_pay⟩
abbrev mX5_bids : MI := (yX5_bids, cX5_bids, 8, (some .int))
theorem okX5_bids : okV mX5_bids 5 := ⟨⟨in_X5, co_yX5_bids, by decide +kernel, by decide⟩, im_yX5_bids, se_yX5_bids⟩
abbrev mX5_bid : MI := (yX5_bid, cX5_bid, 7, (some .int))
theorem okX5_bid : okV mX5_bid 5 := ⟨⟨in_X5, co_yX5_bid, by decide +kernel, by decide⟩, im_yX5_bid, se_yX5_bid⟩
abbrev mX5_setFine : MI := (yX5_setFine, cX5_setFine, 3, (some .int))
theorem okX5_setFine : okV mX5_setFine 1 := ⟨⟨in_X5, co_yX5_setFine, by decide +kernel, by decide⟩, im_yX5_setFine, se_yX5_setFine⟩
abbrev mX5_tied : MI := (yX5_tied, cX5_tied, 2, (some .int))
theorem okX5_tied : okV mX5_tied 1 := ⟨⟨in_X5, co_yX5_tied, by decide +kernel, by decide⟩, im_yX5_tied, se_yX5_tied⟩
abbrev mX5_winnerOf : MI := (yX5_winnerOf, cX5_winnerOf, 4, (some .int))
theorem okX5_winnerOf : okV mX5_winnerOf 1 := ⟨⟨in_X5, co_yX5_winnerOf, by decide +kernel, by decide⟩, im_yX5_winnerOf, se_yX5_winnerOf⟩
abbrev mX5_settles : MI := (yX5_settles, cX5_settles, 11, none)
theorem okX5_settles : okV mX5_settles 1 := ⟨⟨in_X5, co_yX5_settles, by decide +kernel, by decide⟩, im_yX5_settles, se_yX5_settles⟩
abbrev mX5_settlesAll : MI := (yX5_settlesAll, cX5_settlesAll, 2, none)
theorem okX5_settlesAll : okV mX5_settlesAll 0 := ⟨⟨in_X5, co_yX5_settlesAll, by decide +kernel, by decide⟩, im_yX5_settlesAll, se_yX5_settlesAll⟩
abbrev mX5_settle : MI := (yX5_settle, cX5_settle, 1, (some .int))
theorem okX5_settle : okV mX5_settle 0 := ⟨⟨in_X5, co_yX5_settle, by decide +kernel, by decide⟩, im_yX5_settle, se_yX5_settle⟩
abbrev mX5_breach : MI := (yX5_breach, cX5_breach, 10, (some .int))
theorem okX5_breach : okV mX5_breach 3 := ⟨⟨in_X5, co_yX5_breach, by decide +kernel, by decide⟩, im_yX5_breach, se_yX5_breach⟩
abbrev mX5_fails : MI := (yX5_fails, cX5_fails, 2, none)
theorem okX5_fails : okV mX5_fails 1 := ⟨⟨in_X5, co_yX5_fails, by decide +kernel, by decide⟩, im_yX5_fails, se_yX5_fails⟩
abbrev mX5_failedBy : MI := (yX5_failedBy, cX5_failedBy, 6, none)
theorem okX5_failedBy : okV mX5_failedBy 5 := ⟨⟨in_X5, co_yX5_failedBy, by decide +kernel, by decide⟩, im_yX5_failedBy, se_yX5_failedBy⟩
abbrev mX5_here : MI := (yX5_here, cX5_here, 1, (some .int))
theorem okX5_here : okV mX5_here 0 := ⟨⟨in_X5, co_yX5_here, by decide +kernel, by decide⟩, im_yX5_here, se_yX5_here⟩
abbrev mX5_sign : MI := (yX5_sign, cX5_sign, 2, none)
theorem okX5_sign : okV mX5_sign 1 := ⟨⟨in_X5, co_yX5_sign, by decide +kernel, by decide⟩, im_yX5_sign, se_yX5_sign⟩
abbrev mX5_number : MI := (yX5_number, cX5_number, 5, (some .int))
theorem okX5_number : okV mX5_number 2 := ⟨⟨in_X5, co_yX5_number, by decide +kernel, by decide⟩, im_yX5_number, se_yX5_number⟩
abbrev mX5_opens : MI := (yX5_opens, cX5_opens, 2, none)
theorem okX5_opens : okV mX5_opens 1 := ⟨⟨in_X5, co_yX5_opens, by decide +kernel, by decide⟩, im_yX5_opens, se_yX5_opens⟩
abbrev mX5_readPart : MI := (yX5_readPart, cX5_readPart, 4, none)
theorem okX5_readPart : okV mX5_readPart 0 := ⟨⟨in_X5, co_yX5_readPart, by decide +kernel, by decide⟩, im_yX5_readPart, se_yX5_readPart⟩
abbrev mX5_reads : MI := (yX5_reads, cX5_reads, 3, none)
theorem okX5_reads : okV mX5_reads 0 := ⟨⟨in_X5, co_yX5_reads, by decide +kernel, by decide⟩, im_yX5_reads, se_yX5_reads⟩
abbrev mX5_append : MI := (yX5_append, cX5_append, 2, (some .int))
theorem okX5_append : okV mX5_append 1 := ⟨⟨in_X5, co_yX5_append, by decide +kernel, by decide⟩, im_yX5_append, se_yX5_append⟩
abbrev mX5_clearText : MI := (yX5_clearText, cX5_clearText, 2, (some .int))
theorem okX5_clearText : okV mX5_clearText 0 := ⟨⟨in_X5, co_yX5_clearText, by decide +kernel, by decide⟩, im_yX5_clearText, se_yX5_clearText⟩
abbrev mX5_run : MI := (yX5_run, cX5_run, 6, (some .int))
theorem okX5_run : okV mX5_run 1 := ⟨⟨in_X5, co_yX5_run, by decide +kernel, by decide⟩, im_yX5_run, se_yX5_run⟩
abbrev mX5_failure : MI := (yX5_failure, cX5_failure, 2, (some .int))
theorem okX5_failure : okV mX5_failure 1 := ⟨⟨in_X5, co_yX5_failure, by decide +kernel, by decide⟩, im_yX5_failure, se_yX5_failure⟩
abbrev mX5_money : MI := (yX5_money, cX5_money, 3, (some .int))
theorem okX5_money : okV mX5_money 0 := ⟨⟨in_X5, co_yX5_money, by decide +kernel, by decide⟩, im_yX5_money, se_yX5_money⟩
abbrev mX5_debts : MI := (yX5_debts, cX5_debts, 3, (some .int))
theorem okX5_debts : okV mX5_debts 0 := ⟨⟨in_X5, co_yX5_debts, by decide +kernel, by decide⟩, im_yX5_debts, se_yX5_debts⟩
abbrev mX5_allBids : MI := (yX5_allBids, cX5_allBids, 3, (some .int))
theorem okX5_allBids : okV mX5_allBids 0 := ⟨⟨in_X5, co_yX5_allBids, by decide +kernel, by decide⟩, im_yX5_allBids, se_yX5_allBids⟩
abbrev mX5_count : MI := (yX5_count, cX5_count, 2, (some .int))
theorem okX5_count : okV mX5_count 1 := ⟨⟨in_X5, co_yX5_count, by decide +kernel, by decide⟩, im_yX5_count, se_yX5_count⟩
abbrev mX5_person : MI := (yX5_person, cX5_person, 3, (some .int))
theorem okX5_person : okV mX5_person 2 := ⟨⟨in_X5, co_yX5_person, by decide +kernel, by decide⟩, im_yX5_person, se_yX5_person⟩
abbrev mX5_slot : MI := (yX5_slot, cX5_slot, 5, (some .int))
theorem okX5_slot : okV mX5_slot 3 := ⟨⟨in_X5, co_yX5_slot, by decide +kernel, by decide⟩, im_yX5_slot, se_yX5_slot⟩
abbrev mX5_bidOf : MI := (yX5_bidOf, cX5_bidOf, 5, (some .int))
theorem okX5_bidOf : okV mX5_bidOf 3 := ⟨⟨in_X5, co_yX5_bidOf, by decide +kernel, by decide⟩, im_yX5_bidOf, se_yX5_bidOf⟩
abbrev mX5_fund : MI := (yX5_fund, cX5_fund, 2, (some .int))
theorem okX5_fund : okV mX5_fund 1 := ⟨⟨in_X5, co_yX5_fund, by decide +kernel, by decide⟩, im_yX5_fund, se_yX5_fund⟩
abbrev mX5_winner : MI := (yX5_winner, cX5_winner, 3, (some .int))
theorem okX5_winner : okV mX5_winner 2 := ⟨⟨in_X5, co_yX5_winner, by decide +kernel, by decide⟩, im_yX5_winner, se_yX5_winner⟩
abbrev mX5_needed : MI := (yX5_needed, cX5_needed, 8, (some .int))
theorem okX5_needed : okV mX5_needed 3 := ⟨⟨in_X5, co_yX5_needed, by decide +kernel, by decide⟩, im_yX5_needed, se_yX5_needed⟩
abbrev mX5_quiet : MI := (yX5_quiet, cX5_quiet, 9, (some .int))
theorem okX5_quiet : okV mX5_quiet 2 := ⟨⟨in_X5, co_yX5_quiet, by decide +kernel, by decide⟩, im_yX5_quiet, se_yX5_quiet⟩
abbrev mX5_purseThen : MI := (yX5_purseThen, cX5_purseThen, 3, (some .int))
theorem okX5_purseThen : okV mX5_purseThen 1 := ⟨⟨in_X5, co_yX5_purseThen, by decide +kernel, by decide⟩, im_yX5_purseThen, se_yX5_purseThen⟩
abbrev mJ6_bitCount_0f7a4 : MI := (yJ6_bitCount_0f7a4, cJ6_bitCount_0f7a4, 1, (some .int))
theorem okJ6_bitCount_0f7a4 : okS mJ6_bitCount_0f7a4 1 := ⟨⟨in_J6, co_yJ6_bitCount_0f7a4, by decide +kernel, by decide⟩, st_yJ6_bitCount_0f7a4⟩
abbrev mJ7_fill_53178 : MI := (yJ7_fill_53178, cJ7_fill_53178, 4, none)
theorem okJ7_fill_53178 : okS mJ7_fill_53178 2 := ⟨⟨in_J7, co_yJ7_fill_53178, by decide +kernel, by decide⟩, st_yJ7_fill_53178⟩
end
section
/-! ===== shapes, small words, call rows without new cells ===== -/
def stLen (j : Nat) : Nat := if j < 8 then 12 else if j = 8 then 1152 else if j < 14 then 96 else 4
def IsSt (sh : Sh) (q : Nat) : Prop := q + 16 ≤ sh.1 ∧ sh.2.1 q = 3 ∧ ∀ j, j < 15 → sh.2.1 (q + 1 + j) = 6 ∧ sh.2.2.2 q (4 + j) = some (q + 1 + j) ∧ sh.2.2.1 (q + 1 + j) = stLen j
theorem IsSt.i {sh : Sh} {q : Nat} (h : IsSt sh q) : q < sh.1 := by have := h.1; omega
theorem IsSt.k {sh : Sh} {q : Nat} (h : IsSt sh q) : sh.2.1 q = 3 := h.2.1
theorem IsSt.i0 {sh : Sh} {q : Nat} (h : IsSt sh q) : q + 1 < sh.1 := by have := h.1; omega
theorem IsSt.k0 {sh : Sh} {q : Nat} (h : IsSt sh q) : sh.2.1 (q + 1) = 6 := (h.2.2 0 (by decide)).1
theorem IsSt.r0 {sh : Sh} {q : Nat} (h : IsSt sh q) : sh.2.2.2 q 4 = some (q + 1) := (h.2.2 0 (by decide)).2.1
theorem IsSt.n0 {sh : Sh} {q : Nat} (h : IsSt sh q) : sh.2.2.1 (q + 1) = 12 := (h.2.2 0 (by decide)).2.2
theorem IsSt.L0 {sh : Sh} {q : Nat} (h : IsSt sh q) : sh.2.2.1 (q + 1) < 2 ^ 31 := by rw [h.n0]; decide
theorem IsSt.i1 {sh : Sh} {q : Nat} (h : IsSt sh q) : q + 2 < sh.1 := by have := h.1; omega
theorem IsSt.k1 {sh : Sh} {q : Nat} (h : IsSt sh q) : sh.2.1 (q + 2) = 6 := (h.2.2 1 (by decide)).1
theorem IsSt.r1 {sh : Sh} {q : Nat} (h : IsSt sh q) : sh.2.2.2 q 5 = some (q + 2) := (h.2.2 1 (by decide)).2.1
theorem IsSt.n1 {sh : Sh} {q : Nat} (h : IsSt sh q) : sh.2.2.1 (q + 2) = 12 := (h.2.2 1 (by decide)).2.2
theorem IsSt.L1 {sh : Sh} {q : Nat} (h : IsSt sh q) : sh.2.2.1 (q + 2) < 2 ^ 31 := by rw [h.n1]; decide
theorem IsSt.i2 {sh : Sh} {q : Nat} (h : IsSt sh q) : q + 3 < sh.1 := by have := h.1; omega
theorem IsSt.k2 {sh : Sh} {q : Nat} (h : IsSt sh q) : sh.2.1 (q + 3) = 6 := (h.2.2 2 (by decide)).1
theorem IsSt.r2 {sh : Sh} {q : Nat} (h : IsSt sh q) : sh.2.2.2 q 6 = some (q + 3) := (h.2.2 2 (by decide)).2.1
theorem IsSt.n2 {sh : Sh} {q : Nat} (h : IsSt sh q) : sh.2.2.1 (q + 3) = 12 := (h.2.2 2 (by decide)).2.2
theorem IsSt.L2 {sh : Sh} {q : Nat} (h : IsSt sh q) : sh.2.2.1 (q + 3) < 2 ^ 31 := by rw [h.n2]; decide
theorem IsSt.i3 {sh : Sh} {q : Nat} (h : IsSt sh q) : q + 4 < sh.1 := by have := h.1; omega
theorem IsSt.k3 {sh : Sh} {q : Nat} (h : IsSt sh q) : sh.2.1 (q + 4) = 6 := (h.2.2 3 (by decide)).1
theorem IsSt.r3 {sh : Sh} {q : Nat} (h : IsSt sh q) : sh.2.2.2 q 7 = some (q + 4) := (h.2.2 3 (by decide)).2.1
theorem IsSt.n3 {sh : Sh} {q : Nat} (h : IsSt sh q) : sh.2.2.1 (q + 4) = 12 := (h.2.2 3 (by decide)).2.2
theorem IsSt.L3 {sh : Sh} {q : Nat} (h : IsSt sh q) : sh.2.2.1 (q + 4) < 2 ^ 31 := by rw [h.n3]; decide
theorem IsSt.i4 {sh : Sh} {q : Nat} (h : IsSt sh q) : q + 5 < sh.1 := by have := h.1; omega
theorem IsSt.k4 {sh : Sh} {q : Nat} (h : IsSt sh q) : sh.2.1 (q + 5) = 6 := (h.2.2 4 (by decide)).1
theorem IsSt.r4 {sh : Sh} {q : Nat} (h : IsSt sh q) : sh.2.2.2 q 8 = some (q + 5) := (h.2.2 4 (by decide)).2.1
theorem IsSt.n4 {sh : Sh} {q : Nat} (h : IsSt sh q) : sh.2.2.1 (q + 5) = 12 := (h.2.2 4 (by decide)).2.2
theorem IsSt.L4 {sh : Sh} {q : Nat} (h : IsSt sh q) : sh.2.2.1 (q + 5) < 2 ^ 31 := by rw [h.n4]; decide
theorem IsSt.i5 {sh : Sh} {q : Nat} (h : IsSt sh q) : q + 6 < sh.1 := by have := h.1; omega
theorem IsSt.k5 {sh : Sh} {q : Nat} (h : IsSt sh q) : sh.2.1 (q + 6) = 6 := (h.2.2 5 (by decide)).1
theorem IsSt.r5 {sh : Sh} {q : Nat} (h : IsSt sh q) : sh.2.2.2 q 9 = some (q + 6) := (h.2.2 5 (by decide)).2.1
theorem IsSt.n5 {sh : Sh} {q : Nat} (h : IsSt sh q) : sh.2.2.1 (q + 6) = 12 := (h.2.2 5 (by decide)).2.2
theorem IsSt.L5 {sh : Sh} {q : Nat} (h : IsSt sh q) : sh.2.2.1 (q + 6) < 2 ^ 31 := by rw [h.n5]; decide
theorem IsSt.i6 {sh : Sh} {q : Nat} (h : IsSt sh q) : q + 7 < sh.1 := by have := h.1; omega
theorem IsSt.k6 {sh : Sh} {q : Nat} (h : IsSt sh q) : sh.2.1 (q + 7) = 6 := (h.2.2 6 (by decide)).1
theorem IsSt.r6 {sh : Sh} {q : Nat} (h : IsSt sh q) : sh.2.2.2 q 10 = some (q + 7) := (h.2.2 6 (by decide)).2.1
theorem IsSt.n6 {sh : Sh} {q : Nat} (h : IsSt sh q) : sh.2.2.1 (q + 7) = 12 := (h.2.2 6 (by decide)).2.2
theorem IsSt.L6 {sh : Sh} {q : Nat} (h : IsSt sh q) : sh.2.2.1 (q + 7) < 2 ^ 31 := by rw [h.n6]; decide
theorem IsSt.i7 {sh : Sh} {q : Nat} (h : IsSt sh q) : q + 8 < sh.1 := by have := h.1; omega
theorem IsSt.k7 {sh : Sh} {q : Nat} (h : IsSt sh q) : sh.2.1 (q + 8) = 6 := (h.2.2 7 (by decide)).1
theorem IsSt.r7 {sh : Sh} {q : Nat} (h : IsSt sh q) : sh.2.2.2 q 11 = some (q + 8) := (h.2.2 7 (by decide)).2.1
theorem IsSt.n7 {sh : Sh} {q : Nat} (h : IsSt sh q) : sh.2.2.1 (q + 8) = 12 := (h.2.2 7 (by decide)).2.2
theorem IsSt.L7 {sh : Sh} {q : Nat} (h : IsSt sh q) : sh.2.2.1 (q + 8) < 2 ^ 31 := by rw [h.n7]; decide
theorem IsSt.i8 {sh : Sh} {q : Nat} (h : IsSt sh q) : q + 9 < sh.1 := by have := h.1; omega
theorem IsSt.k8 {sh : Sh} {q : Nat} (h : IsSt sh q) : sh.2.1 (q + 9) = 6 := (h.2.2 8 (by decide)).1
theorem IsSt.r8 {sh : Sh} {q : Nat} (h : IsSt sh q) : sh.2.2.2 q 12 = some (q + 9) := (h.2.2 8 (by decide)).2.1
theorem IsSt.n8 {sh : Sh} {q : Nat} (h : IsSt sh q) : sh.2.2.1 (q + 9) = 1152 := (h.2.2 8 (by decide)).2.2
theorem IsSt.L8 {sh : Sh} {q : Nat} (h : IsSt sh q) : sh.2.2.1 (q + 9) < 2 ^ 31 := by rw [h.n8]; decide
theorem IsSt.i9 {sh : Sh} {q : Nat} (h : IsSt sh q) : q + 10 < sh.1 := by have := h.1; omega
theorem IsSt.k9 {sh : Sh} {q : Nat} (h : IsSt sh q) : sh.2.1 (q + 10) = 6 := (h.2.2 9 (by decide)).1
theorem IsSt.r9 {sh : Sh} {q : Nat} (h : IsSt sh q) : sh.2.2.2 q 13 = some (q + 10) := (h.2.2 9 (by decide)).2.1
theorem IsSt.n9 {sh : Sh} {q : Nat} (h : IsSt sh q) : sh.2.2.1 (q + 10) = 96 := (h.2.2 9 (by decide)).2.2
theorem IsSt.L9 {sh : Sh} {q : Nat} (h : IsSt sh q) : sh.2.2.1 (q + 10) < 2 ^ 31 := by rw [h.n9]; decide
theorem IsSt.i10 {sh : Sh} {q : Nat} (h : IsSt sh q) : q + 11 < sh.1 := by have := h.1; omega
theorem IsSt.k10 {sh : Sh} {q : Nat} (h : IsSt sh q) : sh.2.1 (q + 11) = 6 := (h.2.2 10 (by decide)).1
theorem IsSt.r10 {sh : Sh} {q : Nat} (h : IsSt sh q) : sh.2.2.2 q 14 = some (q + 11) := (h.2.2 10 (by decide)).2.1
theorem IsSt.n10 {sh : Sh} {q : Nat} (h : IsSt sh q) : sh.2.2.1 (q + 11) = 96 := (h.2.2 10 (by decide)).2.2
theorem IsSt.L10 {sh : Sh} {q : Nat} (h : IsSt sh q) : sh.2.2.1 (q + 11) < 2 ^ 31 := by rw [h.n10]; decide
theorem IsSt.i11 {sh : Sh} {q : Nat} (h : IsSt sh q) : q + 12 < sh.1 := by have := h.1; omega
theorem IsSt.k11 {sh : Sh} {q : Nat} (h : IsSt sh q) : sh.2.1 (q + 12) = 6 := (h.2.2 11 (by decide)).1
theorem IsSt.r11 {sh : Sh} {q : Nat} (h : IsSt sh q) : sh.2.2.2 q 15 = some (q + 12) := (h.2.2 11 (by decide)).2.1
theorem IsSt.n11 {sh : Sh} {q : Nat} (h : IsSt sh q) : sh.2.2.1 (q + 12) = 96 := (h.2.2 11 (by decide)).2.2
theorem IsSt.L11 {sh : Sh} {q : Nat} (h : IsSt sh q) : sh.2.2.1 (q + 12) < 2 ^ 31 := by rw [h.n11]; decide
theorem IsSt.i12 {sh : Sh} {q : Nat} (h : IsSt sh q) : q + 13 < sh.1 := by have := h.1; omega
theorem IsSt.k12 {sh : Sh} {q : Nat} (h : IsSt sh q) : sh.2.1 (q + 13) = 6 := (h.2.2 12 (by decide)).1
theorem IsSt.r12 {sh : Sh} {q : Nat} (h : IsSt sh q) : sh.2.2.2 q 16 = some (q + 13) := (h.2.2 12 (by decide)).2.1
theorem IsSt.n12 {sh : Sh} {q : Nat} (h : IsSt sh q) : sh.2.2.1 (q + 13) = 96 := (h.2.2 12 (by decide)).2.2
theorem IsSt.L12 {sh : Sh} {q : Nat} (h : IsSt sh q) : sh.2.2.1 (q + 13) < 2 ^ 31 := by rw [h.n12]; decide
theorem IsSt.i13 {sh : Sh} {q : Nat} (h : IsSt sh q) : q + 14 < sh.1 := by have := h.1; omega
theorem IsSt.k13 {sh : Sh} {q : Nat} (h : IsSt sh q) : sh.2.1 (q + 14) = 6 := (h.2.2 13 (by decide)).1
theorem IsSt.r13 {sh : Sh} {q : Nat} (h : IsSt sh q) : sh.2.2.2 q 17 = some (q + 14) := (h.2.2 13 (by decide)).2.1
theorem IsSt.n13 {sh : Sh} {q : Nat} (h : IsSt sh q) : sh.2.2.1 (q + 14) = 96 := (h.2.2 13 (by decide)).2.2
theorem IsSt.L13 {sh : Sh} {q : Nat} (h : IsSt sh q) : sh.2.2.1 (q + 14) < 2 ^ 31 := by rw [h.n13]; decide
theorem IsSt.i14 {sh : Sh} {q : Nat} (h : IsSt sh q) : q + 15 < sh.1 := by have := h.1; omega
theorem IsSt.k14 {sh : Sh} {q : Nat} (h : IsSt sh q) : sh.2.1 (q + 15) = 6 := (h.2.2 14 (by decide)).1
theorem IsSt.r14 {sh : Sh} {q : Nat} (h : IsSt sh q) : sh.2.2.2 q 18 = some (q + 15) := (h.2.2 14 (by decide)).2.1
theorem IsSt.n14 {sh : Sh} {q : Nat} (h : IsSt sh q) : sh.2.2.1 (q + 15) = 4 := (h.2.2 14 (by decide)).2.2
theorem IsSt.L14 {sh : Sh} {q : Nat} (h : IsSt sh q) : sh.2.2.1 (q + 15) < 2 ^ 31 := by rw [h.n14]; decide
def IsHi (sh : Sh) (h : Nat) : Prop := h + 82 ≤ sh.1 ∧ sh.2.1 h = 0 ∧ sh.2.2.2 h 0 = some (h + 1) ∧ sh.2.1 (h + 1) = 8 ∧ sh.2.2.1 (h + 1) = 5 ∧ ∀ j, j < 5 → sh.2.2.2 (h + 1) j = some (h + 2 + 16 * j) ∧ IsSt sh (h + 2 + 16 * j)
theorem IsHi.i {sh : Sh} {q : Nat} (h : IsHi sh q) : q < sh.1 := by have := h.1; omega
theorem IsHi.k {sh : Sh} {q : Nat} (h : IsHi sh q) : sh.2.1 q = 0 := h.2.1
theorem IsHi.r0 {sh : Sh} {q : Nat} (h : IsHi sh q) : sh.2.2.2 q 0 = some (q + 1) := h.2.2.1
theorem IsHi.i0 {sh : Sh} {q : Nat} (h : IsHi sh q) : q + 1 < sh.1 := by have := h.1; omega
theorem IsHi.k0 {sh : Sh} {q : Nat} (h : IsHi sh q) : sh.2.1 (q + 1) = 8 := h.2.2.2.1
theorem IsHi.n0 {sh : Sh} {q : Nat} (h : IsHi sh q) : sh.2.2.1 (q + 1) = 5 := h.2.2.2.2.1
theorem IsHi.L0 {sh : Sh} {q : Nat} (h : IsHi sh q) : sh.2.2.1 (q + 1) < 2 ^ 31 := by rw [h.n0]; decide
theorem IsHi.row {sh : Sh} {q j : Nat} (h : IsHi sh q) (hj : j < 5) : sh.2.2.2 (q + 1) j = some (q + 2 + 16 * j) := (h.2.2.2.2.2 j hj).1
theorem IsHi.st {sh : Sh} {q j : Nat} (h : IsHi sh q) (hj : j < 5) : IsSt sh (q + 2 + 16 * j) := (h.2.2.2.2.2 j hj).2
def IsPl (sh : Sh) (p : Nat) : Prop := p + 18 ≤ sh.1 ∧ sh.2.1 p = 2 ∧ (sh.2.2.2 p 0 = some (p + 1) ∧ sh.2.1 (p + 1) = 6 ∧ sh.2.2.1 (p + 1) = 100) ∧ (sh.2.2.2 p 2 = some (p + 2) ∧ sh.2.1 (p + 2) = 7 ∧ sh.2.2.1 (p + 2) = 14) ∧ (sh.2.2.2 p 7 = some (p + 3) ∧ sh.2.1 (p + 3) = 6 ∧ sh.2.2.1 (p + 3) = 5) ∧ ∀ j, j < 14 → sh.2.2.2 (p + 2) j = some (p + 4 + j) ∧ sh.2.1 (p + 4 + j) = 1
theorem IsPl.i {sh : Sh} {q : Nat} (h : IsPl sh q) : q < sh.1 := by have := h.1; omega
theorem IsPl.k {sh : Sh} {q : Nat} (h : IsPl sh q) : sh.2.1 q = 2 := h.2.1
theorem IsPl.i0 {sh : Sh} {q : Nat} (h : IsPl sh q) : q + 1 < sh.1 := by have := h.1; omega
theorem IsPl.r0 {sh : Sh} {q : Nat} (h : IsPl sh q) : sh.2.2.2 q 0 = some (q + 1) := h.2.2.1.1
theorem IsPl.k0 {sh : Sh} {q : Nat} (h : IsPl sh q) : sh.2.1 (q + 1) = 6 := h.2.2.1.2.1
theorem IsPl.n0 {sh : Sh} {q : Nat} (h : IsPl sh q) : sh.2.2.1 (q + 1) = 100 := h.2.2.1.2.2
theorem IsPl.L0 {sh : Sh} {q : Nat} (h : IsPl sh q) : sh.2.2.1 (q + 1) < 2 ^ 31 := by rw [h.n0]; decide
theorem IsPl.i2 {sh : Sh} {q : Nat} (h : IsPl sh q) : q + 2 < sh.1 := by have := h.1; omega
theorem IsPl.r2 {sh : Sh} {q : Nat} (h : IsPl sh q) : sh.2.2.2 q 2 = some (q + 2) := h.2.2.2.1.1
theorem IsPl.k2 {sh : Sh} {q : Nat} (h : IsPl sh q) : sh.2.1 (q + 2) = 7 := h.2.2.2.1.2.1
theorem IsPl.n2 {sh : Sh} {q : Nat} (h : IsPl sh q) : sh.2.2.1 (q + 2) = 14 := h.2.2.2.1.2.2
theorem IsPl.L2 {sh : Sh} {q : Nat} (h : IsPl sh q) : sh.2.2.1 (q + 2) < 2 ^ 31 := by rw [h.n2]; decide
theorem IsPl.i7 {sh : Sh} {q : Nat} (h : IsPl sh q) : q + 3 < sh.1 := by have := h.1; omega
theorem IsPl.r7 {sh : Sh} {q : Nat} (h : IsPl sh q) : sh.2.2.2 q 7 = some (q + 3) := h.2.2.2.2.1.1
theorem IsPl.k7 {sh : Sh} {q : Nat} (h : IsPl sh q) : sh.2.1 (q + 3) = 6 := h.2.2.2.2.1.2.1
theorem IsPl.n7 {sh : Sh} {q : Nat} (h : IsPl sh q) : sh.2.2.1 (q + 3) = 5 := h.2.2.2.2.1.2.2
theorem IsPl.L7 {sh : Sh} {q : Nat} (h : IsPl sh q) : sh.2.2.1 (q + 3) < 2 ^ 31 := by rw [h.n7]; decide
theorem IsPl.pr {sh : Sh} {q j : Nat} (h : IsPl sh q) (hj : j < 14) : sh.2.2.2 (q + 2) j = some (q + 4 + j) := (h.2.2.2.2.2 j hj).1
theorem IsPl.pk {sh : Sh} {q j : Nat} (h : IsPl sh q) (hj : j < 14) : sh.2.1 (q + 4 + j) = 1 := (h.2.2.2.2.2 j hj).2
theorem IsPl.pi {sh : Sh} {q j : Nat} (h : IsPl sh q) (hj : j < 14) : q + 4 + j < sh.1 := by have := h.1; omega
def IsSH (sh : Sh) (b : Nat) : Prop := b + 134 ≤ sh.1 ∧ sh.2.1 b = 4 ∧ sh.2.2.2 b 0 = some (b + 1) ∧ sh.2.2.2 b 1 = some (b + 17) ∧ sh.2.2.2 b 2 = some (b + 33) ∧ sh.2.2.2 b 3 = some (b + 115) ∧ sh.2.2.2 b 4 = some (b + 133) ∧ IsSt sh (b + 1) ∧ IsSt sh (b + 17) ∧ IsHi sh (b + 33) ∧ IsPl sh (b + 115) ∧ sh.2.1 (b + 133) = 6 ∧ sh.2.2.1 (b + 133) = 5
theorem IsSH.i {sh : Sh} {q : Nat} (h : IsSH sh q) : q < sh.1 := by have := h.1; omega
theorem IsSH.k {sh : Sh} {q : Nat} (h : IsSH sh q) : sh.2.1 q = 4 := h.2.1
theorem IsSH.r0 {sh : Sh} {q : Nat} (h : IsSH sh q) : sh.2.2.2 q 0 = some (q + 1) := h.2.2.1
theorem IsSH.r1 {sh : Sh} {q : Nat} (h : IsSH sh q) : sh.2.2.2 q 1 = some (q + 17) := h.2.2.2.1
theorem IsSH.r2 {sh : Sh} {q : Nat} (h : IsSH sh q) : sh.2.2.2 q 2 = some (q + 33) := h.2.2.2.2.1
theorem IsSH.r3 {sh : Sh} {q : Nat} (h : IsSH sh q) : sh.2.2.2 q 3 = some (q + 115) := h.2.2.2.2.2.1
theorem IsSH.r4 {sh : Sh} {q : Nat} (h : IsSH sh q) : sh.2.2.2 q 4 = some (q + 133) := h.2.2.2.2.2.2.1
theorem IsSH.st {sh : Sh} {q : Nat} (h : IsSH sh q) : IsSt sh (q + 1) := h.2.2.2.2.2.2.2.1
theorem IsSH.sp {sh : Sh} {q : Nat} (h : IsSH sh q) : IsSt sh (q + 17) := h.2.2.2.2.2.2.2.2.1
theorem IsSH.hi {sh : Sh} {q : Nat} (h : IsSH sh q) : IsHi sh (q + 33) := h.2.2.2.2.2.2.2.2.2.1
theorem IsSH.pl {sh : Sh} {q : Nat} (h : IsSH sh q) : IsPl sh (q + 115) := h.2.2.2.2.2.2.2.2.2.2.1
theorem IsSH.k4 {sh : Sh} {q : Nat} (h : IsSH sh q) : sh.2.1 (q + 133) = 6 := h.2.2.2.2.2.2.2.2.2.2.2.1
theorem IsSH.n4 {sh : Sh} {q : Nat} (h : IsSH sh q) : sh.2.2.1 (q + 133) = 5 := h.2.2.2.2.2.2.2.2.2.2.2.2
theorem IsSH.i4 {sh : Sh} {q : Nat} (h : IsSH sh q) : q + 133 < sh.1 := by have := h.1; omega
theorem IsSH.L4 {sh : Sh} {q : Nat} (h : IsSH sh q) : sh.2.2.1 (q + 133) < 2 ^ 31 := by rw [h.n4]; decide
def moF (j : Nat) : Nat := match j with
  | 0 => 0
  | 1 => 1
  | 2 => 3
  | 3 => 4
  | 4 => 8
  | 5 => 11
  | _ => 12
def moL (j : Nat) : Nat := match j with
  | 0 => 1724
  | 1 => 8620
  | 2 => 1724
  | 3 => 100
  | 4 => 5
  | 5 => 5
  | _ => 140
def IsMo (sh : Sh) (q : Nat) : Prop := q + 8 ≤ sh.1 ∧ sh.2.1 q = 5 ∧ ∀ j, j < 7 → sh.2.1 (q + 1 + j) = 6 ∧ sh.2.2.2 q (moF j) = some (q + 1 + j) ∧ sh.2.2.1 (q + 1 + j) = moL j
theorem IsMo.i {sh : Sh} {q : Nat} (h : IsMo sh q) : q < sh.1 := by have := h.1; omega
theorem IsMo.k {sh : Sh} {q : Nat} (h : IsMo sh q) : sh.2.1 q = 5 := h.2.1
theorem IsMo.i0 {sh : Sh} {q : Nat} (h : IsMo sh q) : q + 1 < sh.1 := by have := h.1; omega
theorem IsMo.k0 {sh : Sh} {q : Nat} (h : IsMo sh q) : sh.2.1 (q + 1) = 6 := (h.2.2 0 (by decide)).1
theorem IsMo.r0 {sh : Sh} {q : Nat} (h : IsMo sh q) : sh.2.2.2 q 0 = some (q + 1) := (h.2.2 0 (by decide)).2.1
theorem IsMo.n0 {sh : Sh} {q : Nat} (h : IsMo sh q) : sh.2.2.1 (q + 1) = 1724 := (h.2.2 0 (by decide)).2.2
theorem IsMo.L0 {sh : Sh} {q : Nat} (h : IsMo sh q) : sh.2.2.1 (q + 1) < 2 ^ 31 := by rw [h.n0]; decide
theorem IsMo.i1 {sh : Sh} {q : Nat} (h : IsMo sh q) : q + 2 < sh.1 := by have := h.1; omega
theorem IsMo.k1 {sh : Sh} {q : Nat} (h : IsMo sh q) : sh.2.1 (q + 2) = 6 := (h.2.2 1 (by decide)).1
theorem IsMo.r1 {sh : Sh} {q : Nat} (h : IsMo sh q) : sh.2.2.2 q 1 = some (q + 2) := (h.2.2 1 (by decide)).2.1
theorem IsMo.n1 {sh : Sh} {q : Nat} (h : IsMo sh q) : sh.2.2.1 (q + 2) = 8620 := (h.2.2 1 (by decide)).2.2
theorem IsMo.L1 {sh : Sh} {q : Nat} (h : IsMo sh q) : sh.2.2.1 (q + 2) < 2 ^ 31 := by rw [h.n1]; decide
theorem IsMo.i3 {sh : Sh} {q : Nat} (h : IsMo sh q) : q + 3 < sh.1 := by have := h.1; omega
theorem IsMo.k3 {sh : Sh} {q : Nat} (h : IsMo sh q) : sh.2.1 (q + 3) = 6 := (h.2.2 2 (by decide)).1
theorem IsMo.r3 {sh : Sh} {q : Nat} (h : IsMo sh q) : sh.2.2.2 q 3 = some (q + 3) := (h.2.2 2 (by decide)).2.1
theorem IsMo.n3 {sh : Sh} {q : Nat} (h : IsMo sh q) : sh.2.2.1 (q + 3) = 1724 := (h.2.2 2 (by decide)).2.2
theorem IsMo.L3 {sh : Sh} {q : Nat} (h : IsMo sh q) : sh.2.2.1 (q + 3) < 2 ^ 31 := by rw [h.n3]; decide
theorem IsMo.i4 {sh : Sh} {q : Nat} (h : IsMo sh q) : q + 4 < sh.1 := by have := h.1; omega
theorem IsMo.k4 {sh : Sh} {q : Nat} (h : IsMo sh q) : sh.2.1 (q + 4) = 6 := (h.2.2 3 (by decide)).1
theorem IsMo.r4 {sh : Sh} {q : Nat} (h : IsMo sh q) : sh.2.2.2 q 4 = some (q + 4) := (h.2.2 3 (by decide)).2.1
theorem IsMo.n4 {sh : Sh} {q : Nat} (h : IsMo sh q) : sh.2.2.1 (q + 4) = 100 := (h.2.2 3 (by decide)).2.2
theorem IsMo.L4 {sh : Sh} {q : Nat} (h : IsMo sh q) : sh.2.2.1 (q + 4) < 2 ^ 31 := by rw [h.n4]; decide
theorem IsMo.i8 {sh : Sh} {q : Nat} (h : IsMo sh q) : q + 5 < sh.1 := by have := h.1; omega
theorem IsMo.k8 {sh : Sh} {q : Nat} (h : IsMo sh q) : sh.2.1 (q + 5) = 6 := (h.2.2 4 (by decide)).1
theorem IsMo.r8 {sh : Sh} {q : Nat} (h : IsMo sh q) : sh.2.2.2 q 8 = some (q + 5) := (h.2.2 4 (by decide)).2.1
theorem IsMo.n8 {sh : Sh} {q : Nat} (h : IsMo sh q) : sh.2.2.1 (q + 5) = 5 := (h.2.2 4 (by decide)).2.2
theorem IsMo.L8 {sh : Sh} {q : Nat} (h : IsMo sh q) : sh.2.2.1 (q + 5) < 2 ^ 31 := by rw [h.n8]; decide
theorem IsMo.i11 {sh : Sh} {q : Nat} (h : IsMo sh q) : q + 6 < sh.1 := by have := h.1; omega
theorem IsMo.k11 {sh : Sh} {q : Nat} (h : IsMo sh q) : sh.2.1 (q + 6) = 6 := (h.2.2 5 (by decide)).1
theorem IsMo.r11 {sh : Sh} {q : Nat} (h : IsMo sh q) : sh.2.2.2 q 11 = some (q + 6) := (h.2.2 5 (by decide)).2.1
theorem IsMo.n11 {sh : Sh} {q : Nat} (h : IsMo sh q) : sh.2.2.1 (q + 6) = 5 := (h.2.2 5 (by decide)).2.2
theorem IsMo.L11 {sh : Sh} {q : Nat} (h : IsMo sh q) : sh.2.2.1 (q + 6) < 2 ^ 31 := by rw [h.n11]; decide
theorem IsMo.i12 {sh : Sh} {q : Nat} (h : IsMo sh q) : q + 7 < sh.1 := by have := h.1; omega
theorem IsMo.k12 {sh : Sh} {q : Nat} (h : IsMo sh q) : sh.2.1 (q + 7) = 6 := (h.2.2 6 (by decide)).1
theorem IsMo.r12 {sh : Sh} {q : Nat} (h : IsMo sh q) : sh.2.2.2 q 12 = some (q + 7) := (h.2.2 6 (by decide)).2.1
theorem IsMo.n12 {sh : Sh} {q : Nat} (h : IsMo sh q) : sh.2.2.1 (q + 7) = 140 := (h.2.2 6 (by decide)).2.2
theorem IsMo.L12 {sh : Sh} {q : Nat} (h : IsMo sh q) : sh.2.2.1 (q + 7) < 2 ^ 31 := by rw [h.n12]; decide
def b01 (p : Prop) [Decidable p] : Int32 := if p then 1 else 0
theorem b01_t {p : Prop} [Decidable p] (h : p) : b01 p = 1 := if_pos h
theorem b01_f {p : Prop} [Decidable p] (h : ¬ p) : b01 p = 0 := if_neg h
theorem b01_01 {p : Prop} [Decidable p] : b01 p = 0 ∨ b01 p = 1 := by by_cases h : p <;> simp [b01, h]
noncomputable def b01c (p : Prop) : Int32 := @ite _ p (Classical.propDecidable p) 1 0
theorem b01c_t {p : Prop} (h : p) : b01c p = nI 1 := if_pos h
theorem b01c_f {p : Prop} (h : ¬ p) : b01c p = nI 0 := if_neg h
theorem b01c_01 {p : Prop} : b01c p = 0 ∨ b01c p = 1 := by by_cases h : p <;> simp [b01c, h]
def sm (f : Nat → Int32) : Nat → Int32
  | 0 => 0
  | n + 1 => sm f n + f n
theorem up_eq {C : Mem} {a j : Nat} {x : Int32} : up C a j x a j = x := by simp [up, upd]
theorem up_ne {C : Mem} {a b j : Nat} {x : Int32} (h : b ≠ a) : up C a j x b = C b := by simp [up, h]
theorem up_ne2 {C : Mem} {a i j : Nat} {x : Int32} (h : i ≠ j) : up C a j x a i = C a i := by simp [up, upd, h]
theorem vin {x : Int32} {n : Nat} (h0 : 0 ≤ x.toInt) (h1 : x.toInt < n) : vp_in x n := vp_in_iff.mpr ⟨h0, h1⟩
/-- the index that a value is -/
abbrev ixN (x : Int32) : Nat := x.toNatClampNeg
theorem hd_eq {x x2 : Int32} (h : x = x2) : some (some (Sum.inl x : AV)) = some (some (Sum.inl x2)) := by rw [h]
theorem zw_icmp_ge_n {y : MI} {d pc : Nat} {ls : List (Option AV)} {stk : List AV} {sh sh' : Sh} {C C' : Mem} {r : Option AV} {a b tgt : Nat} {off : Int} (hd : decode y.2.1 pc = .ok (.if_icmp .ge off, 3)) (ht : (pc : Int) + off = (tgt : Int)) (ha : a < 2 ^ 31) (hb : b < 2 ^ 31) (kt : b ≤ a → WP y d 0 0 tgt ls stk sh C r sh' C') (kf : a < b → WP y d 0 0 (pc + 3) ls stk sh C r sh' C') : WP y d 0 0 pc ls (.inl (nI b) :: .inl (nI a) :: stk) sh C r sh' C' :=
  zw_icmp_ge hd ht (fun q => kt (Nat.le_of_not_lt (fun z => q ((nI_ltI ha hb).mpr z)))) (fun q => kf ((nI_ltI ha hb).mp q))
theorem zw_icmp_lt_n {y : MI} {d pc : Nat} {ls : List (Option AV)} {stk : List AV} {sh sh' : Sh} {C C' : Mem} {r : Option AV} {a b tgt : Nat} {off : Int} (hd : decode y.2.1 pc = .ok (.if_icmp .lt off, 3)) (ht : (pc : Int) + off = (tgt : Int)) (ha : a < 2 ^ 31) (hb : b < 2 ^ 31) (kt : a < b → WP y d 0 0 tgt ls stk sh C r sh' C') (kf : b ≤ a → WP y d 0 0 (pc + 3) ls stk sh C r sh' C') : WP y d 0 0 pc ls (.inl (nI b) :: .inl (nI a) :: stk) sh C r sh' C' :=
  zw_icmp_lt hd ht (fun q => kt ((nI_ltI ha hb).mp q)) (fun q => kf (Nat.le_of_not_lt (fun z => q ((nI_ltI ha hb).mpr z))))
theorem zw_icmp_gt_n {y : MI} {d pc : Nat} {ls : List (Option AV)} {stk : List AV} {sh sh' : Sh} {C C' : Mem} {r : Option AV} {a b tgt : Nat} {off : Int} (hd : decode y.2.1 pc = .ok (.if_icmp .gt off, 3)) (ht : (pc : Int) + off = (tgt : Int)) (ha : a < 2 ^ 31) (hb : b < 2 ^ 31) (kt : b < a → WP y d 0 0 tgt ls stk sh C r sh' C') (kf : a ≤ b → WP y d 0 0 (pc + 3) ls stk sh C r sh' C') : WP y d 0 0 pc ls (.inl (nI b) :: .inl (nI a) :: stk) sh C r sh' C' :=
  zw_icmp_gt hd ht (fun q => kt ((nI_ltI hb ha).mp q)) (fun q => kf (Nat.le_of_not_lt (fun z => q ((nI_ltI hb ha).mpr z))))
theorem zw_icmp_le_n {y : MI} {d pc : Nat} {ls : List (Option AV)} {stk : List AV} {sh sh' : Sh} {C C' : Mem} {r : Option AV} {a b tgt : Nat} {off : Int} (hd : decode y.2.1 pc = .ok (.if_icmp .le off, 3)) (ht : (pc : Int) + off = (tgt : Int)) (ha : a < 2 ^ 31) (hb : b < 2 ^ 31) (kt : a ≤ b → WP y d 0 0 tgt ls stk sh C r sh' C') (kf : b < a → WP y d 0 0 (pc + 3) ls stk sh C r sh' C') : WP y d 0 0 pc ls (.inl (nI b) :: .inl (nI a) :: stk) sh C r sh' C' :=
  zw_icmp_le hd ht (fun q => kt (Nat.le_of_not_lt (fun z => q ((nI_ltI hb ha).mpr z)))) (fun q => kf ((nI_ltI hb ha).mp q))
theorem zw_icmp_eq_n {y : MI} {d pc : Nat} {ls : List (Option AV)} {stk : List AV} {sh sh' : Sh} {C C' : Mem} {r : Option AV} {a b tgt : Nat} {off : Int} (hd : decode y.2.1 pc = .ok (.if_icmp .eq off, 3)) (ht : (pc : Int) + off = (tgt : Int)) (ha : a < 2 ^ 31) (hb : b < 2 ^ 31) (kt : a = b → WP y d 0 0 tgt ls stk sh C r sh' C') (kf : a ≠ b → WP y d 0 0 (pc + 3) ls stk sh C r sh' C') : WP y d 0 0 pc ls (.inl (nI b) :: .inl (nI a) :: stk) sh C r sh' C' :=
  zw_icmp_eq hd ht (fun q => kt ((nI_eq ha hb).mp q)) (fun q => kf (fun z => q ((nI_eq ha hb).mpr z)))
theorem zw_icmp_ne_n {y : MI} {d pc : Nat} {ls : List (Option AV)} {stk : List AV} {sh sh' : Sh} {C C' : Mem} {r : Option AV} {a b tgt : Nat} {off : Int} (hd : decode y.2.1 pc = .ok (.if_icmp .ne off, 3)) (ht : (pc : Int) + off = (tgt : Int)) (ha : a < 2 ^ 31) (hb : b < 2 ^ 31) (kt : a ≠ b → WP y d 0 0 tgt ls stk sh C r sh' C') (kf : a = b → WP y d 0 0 (pc + 3) ls stk sh C r sh' C') : WP y d 0 0 pc ls (.inl (nI b) :: .inl (nI a) :: stk) sh C r sh' C' :=
  zw_icmp_ne hd ht (fun q => kt (fun z => q ((nI_eq ha hb).mpr z))) (fun q => kf ((nI_eq ha hb).mp q))
theorem zw_if_eq_n {y : MI} {d pc : Nat} {ls : List (Option AV)} {stk : List AV} {sh sh' : Sh} {C C' : Mem} {r : Option AV} {a tgt : Nat} {off : Int} (hd : decode y.2.1 pc = .ok (.ifCond .eq off, 3)) (ht : (pc : Int) + off = (tgt : Int)) (ha : a < 2 ^ 31) (kt : a = 0 → WP y d 0 0 tgt ls stk sh C r sh' C') (kf : a ≠ 0 → WP y d 0 0 (pc + 3) ls stk sh C r sh' C') : WP y d 0 0 pc ls (.inl (nI a) :: stk) sh C r sh' C' := by
  have h1 : nI a = 0 ↔ a = 0 := by rw [← nI_0]; exact nI_eq ha (by decide)
  have h2 : ¬ nI a < 0 := nI_pos ha
  have h3 : 0 ≤ nI a := nI_pos' ha
  have h4 : nI a ≤ 0 ↔ a = 0 := by rw [← nI_0, nI_leI ha (by decide)]; omega
  have h5 : 0 < nI a ↔ 0 < a := by rw [← nI_0]; exact nI_ltI (by decide) ha
  exact zw_if_eq hd ht (fun q => kt (h1.mp q)) (fun q => kf (fun z => q (h1.mpr z)))
theorem zw_if_ne_n {y : MI} {d pc : Nat} {ls : List (Option AV)} {stk : List AV} {sh sh' : Sh} {C C' : Mem} {r : Option AV} {a tgt : Nat} {off : Int} (hd : decode y.2.1 pc = .ok (.ifCond .ne off, 3)) (ht : (pc : Int) + off = (tgt : Int)) (ha : a < 2 ^ 31) (kt : a ≠ 0 → WP y d 0 0 tgt ls stk sh C r sh' C') (kf : a = 0 → WP y d 0 0 (pc + 3) ls stk sh C r sh' C') : WP y d 0 0 pc ls (.inl (nI a) :: stk) sh C r sh' C' := by
  have h1 : nI a = 0 ↔ a = 0 := by rw [← nI_0]; exact nI_eq ha (by decide)
  have h2 : ¬ nI a < 0 := nI_pos ha
  have h3 : 0 ≤ nI a := nI_pos' ha
  have h4 : nI a ≤ 0 ↔ a = 0 := by rw [← nI_0, nI_leI ha (by decide)]; omega
  have h5 : 0 < nI a ↔ 0 < a := by rw [← nI_0]; exact nI_ltI (by decide) ha
  exact zw_if_ne hd ht (fun q => kt (fun z => q (h1.mpr z))) (fun q => kf (h1.mp q))
theorem zw_if_le_n {y : MI} {d pc : Nat} {ls : List (Option AV)} {stk : List AV} {sh sh' : Sh} {C C' : Mem} {r : Option AV} {a tgt : Nat} {off : Int} (hd : decode y.2.1 pc = .ok (.ifCond .le off, 3)) (ht : (pc : Int) + off = (tgt : Int)) (ha : a < 2 ^ 31) (kt : a = 0 → WP y d 0 0 tgt ls stk sh C r sh' C') (kf : 0 < a → WP y d 0 0 (pc + 3) ls stk sh C r sh' C') : WP y d 0 0 pc ls (.inl (nI a) :: stk) sh C r sh' C' := by
  have h1 : nI a = 0 ↔ a = 0 := by rw [← nI_0]; exact nI_eq ha (by decide)
  have h2 : ¬ nI a < 0 := nI_pos ha
  have h3 : 0 ≤ nI a := nI_pos' ha
  have h4 : nI a ≤ 0 ↔ a = 0 := by rw [← nI_0, nI_leI ha (by decide)]; omega
  have h5 : 0 < nI a ↔ 0 < a := by rw [← nI_0]; exact nI_ltI (by decide) ha
  exact zw_if_le hd ht (fun q => kt (Nat.eq_zero_of_not_pos (fun z => q (h5.mpr z)))) (fun q => kf (h5.mp q))
theorem zw_if_gt_n {y : MI} {d pc : Nat} {ls : List (Option AV)} {stk : List AV} {sh sh' : Sh} {C C' : Mem} {r : Option AV} {a tgt : Nat} {off : Int} (hd : decode y.2.1 pc = .ok (.ifCond .gt off, 3)) (ht : (pc : Int) + off = (tgt : Int)) (ha : a < 2 ^ 31) (kt : 0 < a → WP y d 0 0 tgt ls stk sh C r sh' C') (kf : a = 0 → WP y d 0 0 (pc + 3) ls stk sh C r sh' C') : WP y d 0 0 pc ls (.inl (nI a) :: stk) sh C r sh' C' := by
  have h1 : nI a = 0 ↔ a = 0 := by rw [← nI_0]; exact nI_eq ha (by decide)
  have h2 : ¬ nI a < 0 := nI_pos ha
  have h3 : 0 ≤ nI a := nI_pos' ha
  have h4 : nI a ≤ 0 ↔ a = 0 := by rw [← nI_0, nI_leI ha (by decide)]; omega
  have h5 : 0 < nI a ↔ 0 < a := by rw [← nI_0]; exact nI_ltI (by decide) ha
  exact zw_if_gt hd ht (fun q => kt (h5.mp q)) (fun q => kf (Nat.eq_zero_of_not_pos (fun z => q (h5.mpr z))))
theorem zw_if_lt_n {y : MI} {d pc : Nat} {ls : List (Option AV)} {stk : List AV} {sh sh' : Sh} {C C' : Mem} {r : Option AV} {a tgt : Nat} {off : Int} (hd : decode y.2.1 pc = .ok (.ifCond .lt off, 3)) (ht : (pc : Int) + off = (tgt : Int)) (ha : a < 2 ^ 31) (kt : False → WP y d 0 0 tgt ls stk sh C r sh' C') (kf : True → WP y d 0 0 (pc + 3) ls stk sh C r sh' C') : WP y d 0 0 pc ls (.inl (nI a) :: stk) sh C r sh' C' := by
  have h1 : nI a = 0 ↔ a = 0 := by rw [← nI_0]; exact nI_eq ha (by decide)
  have h2 : ¬ nI a < 0 := nI_pos ha
  have h3 : 0 ≤ nI a := nI_pos' ha
  have h4 : nI a ≤ 0 ↔ a = 0 := by rw [← nI_0, nI_leI ha (by decide)]; omega
  have h5 : 0 < nI a ↔ 0 < a := by rw [← nI_0]; exact nI_ltI (by decide) ha
  exact zw_if_lt hd ht (fun q => absurd q h2) (fun _ => kf trivial)
theorem zw_if_ge_n {y : MI} {d pc : Nat} {ls : List (Option AV)} {stk : List AV} {sh sh' : Sh} {C C' : Mem} {r : Option AV} {a tgt : Nat} {off : Int} (hd : decode y.2.1 pc = .ok (.ifCond .ge off, 3)) (ht : (pc : Int) + off = (tgt : Int)) (ha : a < 2 ^ 31) (kt : True → WP y d 0 0 tgt ls stk sh C r sh' C') (kf : False → WP y d 0 0 (pc + 3) ls stk sh C r sh' C') : WP y d 0 0 pc ls (.inl (nI a) :: stk) sh C r sh' C' := by
  have h1 : nI a = 0 ↔ a = 0 := by rw [← nI_0]; exact nI_eq ha (by decide)
  have h2 : ¬ nI a < 0 := nI_pos ha
  have h3 : 0 ≤ nI a := nI_pos' ha
  have h4 : nI a ≤ 0 ↔ a = 0 := by rw [← nI_0, nI_leI ha (by decide)]; omega
  have h5 : 0 < nI a ↔ 0 < a := by rw [← nI_0]; exact nI_ltI (by decide) ha
  exact zw_if_ge hd ht (fun _ => kt trivial) (fun q => absurd q h2)
theorem zw_if_eq_b {y : MI} {d pc : Nat} {ls : List (Option AV)} {stk : List AV} {sh sh' : Sh} {C C' : Mem} {r : Option AV} {p : Prop} [Decidable p] {tgt : Nat} {off : Int} (hd : decode y.2.1 pc = .ok (.ifCond .eq off, 3)) (ht : (pc : Int) + off = (tgt : Int)) (kt : ¬ p → WP y d 0 0 tgt ls stk sh C r sh' C') (kf : p → WP y d 0 0 (pc + 3) ls stk sh C r sh' C') : WP y d 0 0 pc ls (.inl (b01 p) :: stk) sh C r sh' C' := by
  have h1 : b01 p = 0 ↔ ¬ p := by by_cases h : p <;> simp [b01, h]
  exact zw_if_eq hd ht (fun q => kt (h1.mp q)) (fun q => kf (Classical.not_not.mp (fun z => q (h1.mpr z))))
theorem zw_if_ne_b {y : MI} {d pc : Nat} {ls : List (Option AV)} {stk : List AV} {sh sh' : Sh} {C C' : Mem} {r : Option AV} {p : Prop} [Decidable p] {tgt : Nat} {off : Int} (hd : decode y.2.1 pc = .ok (.ifCond .ne off, 3)) (ht : (pc : Int) + off = (tgt : Int)) (kt : p → WP y d 0 0 tgt ls stk sh C r sh' C') (kf : ¬ p → WP y d 0 0 (pc + 3) ls stk sh C r sh' C') : WP y d 0 0 pc ls (.inl (b01 p) :: stk) sh C r sh' C' := by
  have h1 : b01 p = 0 ↔ ¬ p := by by_cases h : p <;> simp [b01, h]
  exact zw_if_ne hd ht (fun q => kt (Classical.not_not.mp (fun z => q (h1.mpr z)))) (fun q => kf (h1.mp q))
theorem zw_if_eq_c {y : MI} {d pc : Nat} {ls : List (Option AV)} {stk : List AV} {sh sh' : Sh} {C C' : Mem} {r : Option AV} {p : Prop} {tgt : Nat} {off : Int} (hd : decode y.2.1 pc = .ok (.ifCond .eq off, 3)) (ht : (pc : Int) + off = (tgt : Int)) (kt : ¬ p → WP y d 0 0 tgt ls stk sh C r sh' C') (kf : p → WP y d 0 0 (pc + 3) ls stk sh C r sh' C') : WP y d 0 0 pc ls (.inl (b01c p) :: stk) sh C r sh' C' := by
  have h1 : b01c p = 0 ↔ ¬ p := by by_cases h : p <;> simp [b01c, h]
  exact zw_if_eq hd ht (fun q => kt (h1.mp q)) (fun q => kf (Classical.not_not.mp (fun z => q (h1.mpr z))))
theorem zw_if_ne_c {y : MI} {d pc : Nat} {ls : List (Option AV)} {stk : List AV} {sh sh' : Sh} {C C' : Mem} {r : Option AV} {p : Prop} {tgt : Nat} {off : Int} (hd : decode y.2.1 pc = .ok (.ifCond .ne off, 3)) (ht : (pc : Int) + off = (tgt : Int)) (kt : p → WP y d 0 0 tgt ls stk sh C r sh' C') (kf : ¬ p → WP y d 0 0 (pc + 3) ls stk sh C r sh' C') : WP y d 0 0 pc ls (.inl (b01c p) :: stk) sh C r sh' C' := by
  have h1 : b01c p = 0 ↔ ¬ p := by by_cases h : p <;> simp [b01c, h]
  exact zw_if_ne hd ht (fun q => kt (Classical.not_not.mp (fun z => q (h1.mpr z)))) (fun q => kf (h1.mp q))
theorem zw_cVi {y : MI} {d pc : Nat} {ls : List (Option AV)} {stk : List AV} {sh sh' : Sh} {C C' : Mem} {r : Option AV} {y2 : MI} {d2 idx : Nat} {args2 : List AV} {stk0 : List AV} {C2 : Mem} {i ci : Nat} {x : Int32} (hd : decode y.2.1 pc = .ok (.invokevirtual idx, 3)) (hc2 : Calls y2 d2 0 0 (.inr (some i) :: args2) sh C (some (.inl x)) sh C2) (hstk : stk0 = args2.reverse ++ .inr (some i) :: stk) (hok : okV y2 args2.length) (hlw : Cond.methodLink y.1.cls idx y2.1 ∈ zWS) (hi : i < sh.1) (hk : sh.2.1 i = ci) (hci : ci < 6) (hcl : RK ci = y2.1.cls) (hR : d2 + 1 ≤ d) (hst : stk.length ≤ 8) (kk : WP y d 0 0 (pc + 3) ls (.inl x :: stk) sh C2 r sh' C') : WP y d 0 0 pc ls stk0 sh C r sh' C' :=
  zw_invV (k3 := 0) (n3 := 0) hd hok hlw hi hk hci hcl hR hstk hst rfl rfl rfl hc2 kk
theorem zw_cSi {y : MI} {d pc : Nat} {ls : List (Option AV)} {stk : List AV} {sh sh' : Sh} {C C' : Mem} {r : Option AV} {y2 : MI} {d2 idx : Nat} {args2 : List AV} {stk0 : List AV} {C2 : Mem} {x : Int32} (hd : decode y.2.1 pc = .ok (.invokestatic idx, 3)) (hc2 : Calls y2 d2 0 0 args2 sh C (some (.inl x)) sh C2) (hstk : stk0 = args2.reverse ++ stk) (hok : okS y2 args2.length) (hlw : Cond.methodLink y.1.cls idx y2.1 ∈ zWS) (hR : d2 + 1 ≤ d) (hst : stk.length ≤ 8) (kk : WP y d 0 0 (pc + 3) ls (.inl x :: stk) sh C2 r sh' C') : WP y d 0 0 pc ls stk0 sh C r sh' C' :=
  zw_invS (k3 := 0) (n3 := 0) hd hok hlw hR hstk hst rfl rfl rfl hc2 kk
theorem zw_cNi {y : MI} {d pc : Nat} {ls : List (Option AV)} {stk : List AV} {sh sh' : Sh} {C C' : Mem} {r : Option AV} {y2 : MI} {d2 idx : Nat} {args2 : List AV} {stk0 : List AV} {C2 : Mem} {x : Int32} (hd : decode y.2.1 pc = .ok (.invokestatic idx, 3)) (hc2 : Calls y2 d2 0 0 args2 sh C (some (.inl x)) sh C2) (hstk : stk0 = args2.reverse ++ stk) (hok : okS y2 args2.length) (hlw : Cond.methodLinkNest y.1.cls idx y2.1 "SilenceHours" ∈ nestWs) (hR : d2 + 1 ≤ d) (hst : stk.length ≤ 8) (kk : WP y d 0 0 (pc + 3) ls (.inl x :: stk) sh C2 r sh' C') : WP y d 0 0 pc ls stk0 sh C r sh' C' :=
  zw_invSN (k3 := 0) (n3 := 0) hd hok hlw hR hstk hst rfl rfl rfl hc2 kk
theorem zw_cVv {y : MI} {d pc : Nat} {ls : List (Option AV)} {stk : List AV} {sh sh' : Sh} {C C' : Mem} {r : Option AV} {y2 : MI} {d2 idx : Nat} {args2 : List AV} {stk0 : List AV} {C2 : Mem} {i ci : Nat}  (hd : decode y.2.1 pc = .ok (.invokevirtual idx, 3)) (hc2 : Calls y2 d2 0 0 (.inr (some i) :: args2) sh C none sh C2) (hstk : stk0 = args2.reverse ++ .inr (some i) :: stk) (hok : okV y2 args2.length) (hlw : Cond.methodLink y.1.cls idx y2.1 ∈ zWS) (hi : i < sh.1) (hk : sh.2.1 i = ci) (hci : ci < 6) (hcl : RK ci = y2.1.cls) (hR : d2 + 1 ≤ d) (hst : stk.length ≤ 8) (kk : WP y d 0 0 (pc + 3) ls stk sh C2 r sh' C') : WP y d 0 0 pc ls stk0 sh C r sh' C' :=
  zw_invV (k3 := 0) (n3 := 0) hd hok hlw hi hk hci hcl hR hstk hst rfl rfl rfl hc2 kk
theorem zw_cSv {y : MI} {d pc : Nat} {ls : List (Option AV)} {stk : List AV} {sh sh' : Sh} {C C' : Mem} {r : Option AV} {y2 : MI} {d2 idx : Nat} {args2 : List AV} {stk0 : List AV} {C2 : Mem}  (hd : decode y.2.1 pc = .ok (.invokestatic idx, 3)) (hc2 : Calls y2 d2 0 0 args2 sh C none sh C2) (hstk : stk0 = args2.reverse ++ stk) (hok : okS y2 args2.length) (hlw : Cond.methodLink y.1.cls idx y2.1 ∈ zWS) (hR : d2 + 1 ≤ d) (hst : stk.length ≤ 8) (kk : WP y d 0 0 (pc + 3) ls stk sh C2 r sh' C') : WP y d 0 0 pc ls stk0 sh C r sh' C' :=
  zw_invS (k3 := 0) (n3 := 0) hd hok hlw hR hstk hst rfl rfl rfl hc2 kk
theorem zw_cNv {y : MI} {d pc : Nat} {ls : List (Option AV)} {stk : List AV} {sh sh' : Sh} {C C' : Mem} {r : Option AV} {y2 : MI} {d2 idx : Nat} {args2 : List AV} {stk0 : List AV} {C2 : Mem}  (hd : decode y.2.1 pc = .ok (.invokestatic idx, 3)) (hc2 : Calls y2 d2 0 0 args2 sh C none sh C2) (hstk : stk0 = args2.reverse ++ stk) (hok : okS y2 args2.length) (hlw : Cond.methodLinkNest y.1.cls idx y2.1 "SilenceHours" ∈ nestWs) (hR : d2 + 1 ≤ d) (hst : stk.length ≤ 8) (kk : WP y d 0 0 (pc + 3) ls stk sh C2 r sh' C') : WP y d 0 0 pc ls stk0 sh C r sh' C' :=
  zw_invSN (k3 := 0) (n3 := 0) hd hok hlw hR hstk hst rfl rfl rfl hc2 kk
theorem nl_X4_11 : Cond.methodLinkNest RX4 11 yX3_init "SilenceHours" ∈ nestWs := List.mem_of_getElem? (i := 0) rfl
theorem nl_X0_17 : Cond.methodLinkNest RX0 17 yX3_init "SilenceHours" ∈ nestWs := List.mem_of_getElem? (i := 1) rfl
theorem nl_X2_28 : Cond.methodLinkNest RX2 28 yX1_init "SilenceHours" ∈ nestWs := List.mem_of_getElem? (i := 2) rfl
theorem nl_X3_80 : Cond.methodLinkNest RX3 80 yX4_isWithin "SilenceHours" ∈ nestWs := List.mem_of_getElem? (i := 3) rfl
theorem nl_X3_116 : Cond.methodLinkNest RX3 116 yX4_otherSide "SilenceHours" ∈ nestWs := List.mem_of_getElem? (i := 4) rfl
theorem nl_X3_156 : Cond.methodLinkNest RX3 156 yX4_slotAt "SilenceHours" ∈ nestWs := List.mem_of_getElem? (i := 5) rfl
theorem nl_X2_109 : Cond.methodLinkNest RX2 109 yX4_isWithin "SilenceHours" ∈ nestWs := List.mem_of_getElem? (i := 6) rfl
theorem nl_X2_103 : Cond.methodLinkNest RX2 103 yX4_isStreet "SilenceHours" ∈ nestWs := List.mem_of_getElem? (i := 7) rfl
end
section
/-! ===== the static helpers ===== -/
theorem isW_t {v lo hi : Int32} (h1 : ¬ v < lo) (h2 : ¬ hi < v) : b01 (lo ≤ v ∧ v ≤ hi) = nI 1 := b01_t ⟨Int32.not_lt.mp h1, Int32.not_lt.mp h2⟩
theorem isW_f1 {v lo hi : Int32} (h1 : v < lo) : b01 (lo ≤ v ∧ v ≤ hi) = nI 0 := b01_f (fun z => absurd h1 (Int32.not_lt.mpr z.1))
theorem isW_f2 {v lo hi : Int32} (h1 : hi < v) : b01 (lo ≤ v ∧ v ≤ hi) = nI 0 := b01_f (fun z => absurd h1 (Int32.not_lt.mpr z.2))
set_option maxRecDepth 100000 in
set_option maxHeartbeats 4000000 in
theorem c_X4_isWithin {sh : Sh} {C : Mem} (v lo hi : Int32) : Calls mX4_isWithin 0 0 0 [.inl (v), .inl (lo), .inl (hi)] sh C (some (.inl (b01 (lo ≤ v ∧ v ≤ hi)))) sh (C) := by
  refine Calls.of plX4 (Nat.le_of_ble_eq_true rfl) ?_
  show WP mX4_isWithin 0 0 0 0 [some (.inl (v)), some (.inl (lo)), some (.inl (hi))] [] sh (C) (some (.inl (b01 (lo ≤ v ∧ v ≤ hi)))) sh (C)
  refine zw_iload_n dX4_isWithin_0 rfl ?_
  refine zw_iload_n dX4_isWithin_1 rfl ?_
  refine zw_icmp_lt (tgt := 14) dX4_isWithin_2 (by decide) (fun c2 => ?_) (fun c2 => ?_)
  · refine zw_iconst (v := nI 0) dX4_isWithin_14 (by decide) ?_
    exact zw_zretE dX4_isWithin_15 rfl (Or.inl rfl) (by rw [isW_f1 c2]) rfl (rfl)
  · refine zw_iload_n dX4_isWithin_5 rfl ?_
    refine zw_iload_n dX4_isWithin_6 rfl ?_
    refine zw_icmp_gt (tgt := 14) dX4_isWithin_7 (by decide) (fun c7 => ?_) (fun c7 => ?_)
    · refine zw_iconst (v := nI 0) dX4_isWithin_14 (by decide) ?_
      exact zw_zretE dX4_isWithin_15 rfl (Or.inl rfl) (by rw [isW_f2 c7]) rfl (rfl)
    · refine zw_iconst (v := nI 1) dX4_isWithin_10 (by decide) ?_
      refine zw_goto (tgt := 15) dX4_isWithin_11 (by decide) ?_
      exact zw_zretE dX4_isWithin_15 rfl (Or.inr rfl) (by rw [isW_t c2 c7]) rfl (rfl)
set_option maxRecDepth 100000 in
set_option maxHeartbeats 4000000 in
theorem c_X4_isStreet {sh : Sh} {C : Mem} (v : Int32) : Calls mX4_isStreet 1 0 0 [.inl (v)] sh C (some (.inl (b01 (nI 0 ≤ v ∧ v ≤ nI 3)))) sh (C) := by
  refine Calls.of plX4 (Nat.le_of_ble_eq_true rfl) ?_
  show WP mX4_isStreet 1 0 0 0 [some (.inl (v))] [] sh (C) (some (.inl (b01 (nI 0 ≤ v ∧ v ≤ nI 3)))) sh (C)
  refine zw_iload_n dX4_isStreet_0 rfl ?_
  refine zw_iconst (v := nI 0) dX4_isStreet_1 (by decide) ?_
  refine zw_iconst (v := nI 3) dX4_isStreet_2 (by decide) ?_
  refine zw_cSi dX4_isStreet_3 (c_X4_isWithin _ _ _) rfl okX4_isWithin ml_X4_38 (Nat.le_of_ble_eq_true rfl) (Nat.le_of_ble_eq_true rfl) ?_
  exact zw_zretE dX4_isStreet_6 rfl b01_01 (rfl) rfl (rfl)
def inS (a b : Int32) : Prop := (nI 0 ≤ a ∧ a ≤ nI 3) ∧ (nI 0 ≤ b ∧ b ≤ nI 23)
set_option maxRecDepth 100000 in
set_option maxHeartbeats 4000000 in
theorem c_X4_isSlot {sh : Sh} {C : Mem} (a b : Int32) : Calls mX4_isSlot 2 0 0 [.inl (a), .inl (b)] sh C (some (.inl (b01c (inS a b)))) sh (C) := by
  refine Calls.of plX4 (Nat.le_of_ble_eq_true rfl) ?_
  show WP mX4_isSlot 2 0 0 0 [some (.inl (a)), some (.inl (b))] [] sh (C) (some (.inl (b01c (inS a b)))) sh (C)
  refine zw_iload_n dX4_isSlot_0 rfl ?_
  refine zw_cSi dX4_isSlot_1 (c_X4_isStreet _) rfl okX4_isStreet ml_X4_209 (Nat.le_of_ble_eq_true rfl) (Nat.le_of_ble_eq_true rfl) ?_
  refine zw_if_eq_b (tgt := 21) dX4_isSlot_4 (by decide) (fun c4 => ?_) (fun c4 => ?_)
  · refine zw_iconst (v := nI 0) dX4_isSlot_21 (by decide) ?_
    exact zw_zretE dX4_isSlot_22 rfl (Or.inl rfl) (by rw [b01c_f (fun z => c4 z.1)]) rfl (rfl)
  · refine zw_iload_n dX4_isSlot_7 rfl ?_
    refine zw_iconst (v := nI 0) dX4_isSlot_8 (by decide) ?_
    refine zw_bipush (v := nI 23) dX4_isSlot_9 (by decide) ?_
    refine zw_cSi dX4_isSlot_11 (c_X4_isWithin _ _ _) rfl okX4_isWithin ml_X4_38 (Nat.le_of_ble_eq_true rfl) (Nat.le_of_ble_eq_true rfl) ?_
    refine zw_if_eq_b (tgt := 21) dX4_isSlot_14 (by decide) (fun c14 => ?_) (fun c14 => ?_)
    · refine zw_iconst (v := nI 0) dX4_isSlot_21 (by decide) ?_
      exact zw_zretE dX4_isSlot_22 rfl (Or.inl rfl) (by rw [b01c_f (fun z => c14 z.2)]) rfl (rfl)
    · refine zw_iconst (v := nI 1) dX4_isSlot_17 (by decide) ?_
      refine zw_goto (tgt := 22) dX4_isSlot_18 (by decide) ?_
      exact zw_zretE dX4_isSlot_22 rfl (Or.inr rfl) (by rw [b01c_t ⟨c4, c14⟩]) rfl (rfl)
set_option maxRecDepth 100000 in
set_option maxHeartbeats 4000000 in
theorem c_X4_isSide {sh : Sh} {C : Mem} (v : Int32) : Calls mX4_isSide 0 0 0 [.inl (v)] sh C (some (.inl (b01c (v = 0 ∨ v = nI 1)))) sh (C) := by
  refine Calls.of plX4 (Nat.le_of_ble_eq_true rfl) ?_
  show WP mX4_isSide 0 0 0 0 [some (.inl (v))] [] sh (C) (some (.inl (b01c (v = 0 ∨ v = nI 1)))) sh (C)
  refine zw_iload_n dX4_isSide_0 rfl ?_
  refine zw_if_eq (tgt := 9) dX4_isSide_1 (by decide) (fun c1 => ?_) (fun c1 => ?_)
  · refine zw_iconst (v := nI 1) dX4_isSide_9 (by decide) ?_
    refine zw_goto (tgt := 14) dX4_isSide_10 (by decide) ?_
    exact zw_zretE dX4_isSide_14 rfl (Or.inr rfl) (by rw [b01c_t (Or.inl c1)]) rfl (rfl)
  · refine zw_iload_n dX4_isSide_4 rfl ?_
    refine zw_iconst (v := nI 1) dX4_isSide_5 (by decide) ?_
    refine zw_icmp_ne (tgt := 13) dX4_isSide_6 (by decide) (fun c6 => ?_) (fun c6 => ?_)
    · refine zw_iconst (v := nI 0) dX4_isSide_13 (by decide) ?_
      exact zw_zretE dX4_isSide_14 rfl (Or.inl rfl) (by rw [b01c_f (fun z => z.elim c1 c6)]) rfl (rfl)
    · refine zw_iconst (v := nI 1) dX4_isSide_9 (by decide) ?_
      refine zw_goto (tgt := 14) dX4_isSide_10 (by decide) ?_
      exact zw_zretE dX4_isSide_14 rfl (Or.inr rfl) (by rw [b01c_t (Or.inr c6)]) rfl (rfl)
set_option maxRecDepth 100000 in
set_option maxHeartbeats 4000000 in
theorem c_X4_slotAt {sh : Sh} {C : Mem} (a b : Nat) : Calls mX4_slotAt 0 0 0 [.inl (nI (a)), .inl (nI (b))] sh C (some (.inl (nI (a * 24 + b)))) sh (C) := by
  refine Calls.of plX4 (Nat.le_of_ble_eq_true rfl) ?_
  show WP mX4_slotAt 0 0 0 0 [some (.inl (nI (a))), some (.inl (nI (b)))] [] sh (C) (some (.inl (nI (a * 24 + b)))) sh (C)
  refine zw_iload_n dX4_slotAt_0 rfl ?_
  refine zw_bipush (v := nI 24) dX4_slotAt_1 (by decide) ?_
  refine zw_imuln dX4_slotAt_3 ?_
  refine zw_iload_n dX4_slotAt_4 rfl ?_
  refine zw_iaddn dX4_slotAt_5 ?_
  exact zw_iretE dX4_slotAt_6 rfl (rfl) rfl (rfl)
def oS (x : Int32) : Int32 := if x = 0 then nI 1 else nI 0
set_option maxRecDepth 100000 in
set_option maxHeartbeats 4000000 in
theorem c_X4_otherSide {sh : Sh} {C : Mem} (v : Int32) : Calls mX4_otherSide 0 0 0 [.inl (v)] sh C (some (.inl (oS v))) sh (C) := by
  refine Calls.of plX4 (Nat.le_of_ble_eq_true rfl) ?_
  show WP mX4_otherSide 0 0 0 0 [some (.inl (v))] [] sh (C) (some (.inl (oS v))) sh (C)
  refine zw_iload_n dX4_otherSide_0 rfl ?_
  refine zw_if_ne (tgt := 8) dX4_otherSide_1 (by decide) (fun c1 => ?_) (fun c1 => ?_)
  · refine zw_iconst (v := nI 0) dX4_otherSide_8 (by decide) ?_
    exact zw_iretE dX4_otherSide_9 rfl (by simp [oS, c1]) rfl (rfl)
  · refine zw_iconst (v := nI 1) dX4_otherSide_4 (by decide) ?_
    refine zw_goto (tgt := 9) dX4_otherSide_5 (by decide) ?_
    exact zw_iretE dX4_otherSide_9 rfl (by simp [oS, c1]) rfl (rfl)
def fillM (C : Mem) (a : Nat) (v : Int32) (n : Nat) : Mem := fun b => if b = a then (fun j => if j < n then v else C a j) else C b
theorem fillM_0 {C : Mem} {a : Nat} {v : Int32} : fillM C a v 0 = C := by
  funext b j
  by_cases h : b = a <;> simp [fillM, h]
theorem fillM_s {C : Mem} {a n : Nat} {v : Int32} : up (fillM C a v n) a n v = fillM C a v (n + 1) := by
  funext b j
  by_cases h : b = a
  · subst h
    by_cases hj : j = n
    · simp [up, upd, fillM, hj]
    · have e : j < n + 1 ↔ j < n := by omega
      simp [up, upd, fillM, hj, e]
  · simp [up, fillM, h]
set_option maxRecDepth 100000 in
set_option maxHeartbeats 4000000 in
theorem c_J7_fill_53178 {sh : Sh} {C : Mem} {a N : Nat} (hi : a < sh.1) (hk : sh.2.1 a = 6) (hn : sh.2.2.1 a = N) (hL : N < 2 ^ 31) (v : Int32) : Calls mJ7_fill_53178 0 0 0 [.inr (some (a)), .inl (v)] sh C (none) sh (fillM C a v N) := by
  refine Calls.of plJ7 (Nat.le_of_ble_eq_true rfl) ?_
  show WP mJ7_fill_53178 0 0 0 0 [some (.inr (some (a))), some (.inl (v)), none, none] [] sh (C) (none) sh (fillM C a v N)
  refine zw_iconst (v := nI 0) dJ7_fill_53178_0 (by decide) ?_
  refine zw_istore_n dJ7_fill_53178_1 (by decide) ?_
  refine zw_aload_n dJ7_fill_53178_2 rfl ?_
  refine zw_alen dJ7_fill_53178_3 hi hk ?_
  rw [hn]
  refine zw_istore_n dJ7_fill_53178_4 (by decide) ?_
  refine zw_mem (C2 := fillM C a v 0) fillM_0.symm ?_
  have L5 : ∀ (n_5 k : Nat), k + n_5 = N → WP mJ7_fill_53178 0 0 0 5 [some (.inr (some (a))), some (.inl (v)), some (.inl (nI (k))), some (.inl (nI (N)))] [] sh (fillM C a v (k)) (none) sh (fillM C a v N) := by
    intro n_5
    induction n_5 with
    | zero =>
      intro k hk5
      have ek5 : N = k := by omega
      subst ek5
      refine zw_iload_n dJ7_fill_53178_5 rfl ?_
      refine zw_iload_n dJ7_fill_53178_6 rfl ?_
      refine zw_icmp_ge_n (tgt := 20) dJ7_fill_53178_7 (by decide) (by omega) (by omega) (fun c7 => ?_) (fun c7 => by omega)
      exact zw_vretE dJ7_fill_53178_20 rfl rfl rfl (rfl)
    | succ n_5 ih5 =>
      intro k hk5
      have hlt5 : k < N := by omega
      refine zw_iload_n dJ7_fill_53178_5 rfl ?_
      refine zw_iload_n dJ7_fill_53178_6 rfl ?_
      refine zw_icmp_ge_n (tgt := 20) dJ7_fill_53178_7 (by decide) (by omega) (by omega) (fun c7 => by omega) (fun c7 => ?_)
      refine zw_aload_n dJ7_fill_53178_10 rfl ?_
      refine zw_iload_n dJ7_fill_53178_11 rfl ?_
      refine zw_iload_n dJ7_fill_53178_12 rfl ?_
      refine zw_iast dJ7_fill_53178_13 hi hk (by rw [hn]; exact hL) rfl (by rw [hn]; omega) ?_
      refine zw_iincn dJ7_fill_53178_14 rfl (by decide) ?_
      refine zw_goto (tgt := 5) dJ7_fill_53178_17 (by decide) ?_
      refine zw_mem (C2 := fillM C a v (k + 1)) (fillM_s) ?_
      exact WP.sub (ih5 (k + 1) (by omega)) ⟨rfl, rfl, rfl, rfl, trivial⟩
  exact WP.sub (L5 (N) 0 (by omega)) ⟨rfl, rfl, rfl, rfl, trivial⟩
/-! ===== State ===== -/
def Wf (C : Mem) (q P : Nat) : Prop := C q 3 = nI P ∧ P ≤ 12 ∧ ∀ p, p < 12 → vp_in (C (q + 4) p) 4
theorem Wf.of {C C' : Mem} {q P : Nat} (h : Wf C q P) (h1 : C' q 3 = C q 3) (h2 : C' (q + 4) = C (q + 4)) : Wf C' q P := ⟨by rw [h1]; exact h.1, h.2.1, by rw [h2]; exact h.2.2⟩
theorem Wf.wr {C : Mem} {q P a j : Nat} {x : Int32} (h : Wf C q P) (h1 : q ≠ a) (h2 : q + 4 ≠ a) : Wf (up C a j x) q P := h.of (by rw [up_ne h1]) (up_ne h2)
theorem Wf.wrf {C : Mem} {q P j : Nat} {x : Int32} (h : Wf C q P) (h1 : j ≠ 3) : Wf (up C q j x) q P := h.of (up_ne2 (Ne.symm h1)) (up_ne (by omega))
def mn (x z : Int32) : Int32 := if z < x then z else x
def mx (x z : Int32) : Int32 := if x < z then z else x
def n01 (x : Int32) : Int32 := if x = 0 then nI 0 else nI 1
def bF (m sd : Int32) : Int32 := if sd = nI 1 then (if nI 1000 < m then m - nI 1000 else nI 0) else (if nI 1000 < m then nI 0 else m)
/-- the mark of the bid of p for s -/
abbrev bm (C : Mem) (q p s : Nat) : Int32 := C (q + 9) (p * 96 + s)
abbrev bA (C : Mem) (q p s : Nat) : Int32 := bF (bm C q p s) (nI 0) + bF (bm C q p s) (nI 1)
abbrev fM (C : Mem) (q p : Nat) : Int32 := C (q + 1) p - C (q + 2) p
set_option maxRecDepth 100000 in
set_option maxHeartbeats 4000000 in
theorem c_X3_markedBid {sh : Sh} {C : Mem} {q p s : Nat} (hq : IsSt sh q) (hp : p < 12) (hs : s < 96) : Calls mX3_markedBid 0 0 0 [.inr (some (q)), .inl (nI (p)), .inl (nI (s))] sh C (some (.inl (bm C q p s))) sh (C) := by
  refine Calls.of plX3 (Nat.le_of_ble_eq_true rfl) ?_
  show WP mX3_markedBid 0 0 0 0 [some (.inr (some (q))), some (.inl (nI (p))), some (.inl (nI (s)))] [] sh (C) (some (.inl (bm C q p s))) sh (C)
  refine zw_aload_n dX3_markedBid_0 rfl ?_
  refine zw_getR (j := 12) (kd := 3) dX3_markedBid_1 hq.i hq.k (by decide) (by decide) fl_X3_40 rfl hq.r8 ?_
  refine zw_iload_n dX3_markedBid_4 rfl ?_
  refine zw_bipush (v := nI 96) dX3_markedBid_5 (by decide) ?_
  refine zw_imuln dX3_markedBid_7 ?_
  refine zw_iload_n dX3_markedBid_8 rfl ?_
  refine zw_iaddn dX3_markedBid_9 ?_
  refine zw_iald dX3_markedBid_10 hq.i8 hq.k8 hq.L8 rfl (by rw [hq.n8]; omega) ?_
  exact zw_iretE dX3_markedBid_11 rfl (rfl) rfl (rfl)
set_option maxRecDepth 100000 in
set_option maxHeartbeats 4000000 in
theorem c_X3_bidFor {sh : Sh} {C : Mem} {q p s : Nat} (hq : IsSt sh q) (hp : p < 12) (hs : s < 96) (sd : Int32) : Calls mX3_bidFor 0 0 0 [.inr (some (q)), .inl (nI (p)), .inl (nI (s)), .inl (sd)] sh C (some (.inl (bF (bm C q p s) sd))) sh (C) := by
  refine Calls.of plX3 (Nat.le_of_ble_eq_true rfl) ?_
  show WP mX3_bidFor 0 0 0 0 [some (.inr (some (q))), some (.inl (nI (p))), some (.inl (nI (s))), some (.inl (sd)), none, none] [] sh (C) (some (.inl (bF (bm C q p s) sd))) sh (C)
  refine zw_aload_n dX3_bidFor_0 rfl ?_
  refine zw_getR (j := 12) (kd := 3) dX3_bidFor_1 hq.i hq.k (by decide) (by decide) fl_X3_40 rfl hq.r8 ?_
  refine zw_iload_n dX3_bidFor_4 rfl ?_
  refine zw_bipush (v := nI 96) dX3_bidFor_5 (by decide) ?_
  refine zw_imuln dX3_bidFor_7 ?_
  refine zw_iload_n dX3_bidFor_8 rfl ?_
  refine zw_iaddn dX3_bidFor_9 ?_
  refine zw_iald dX3_bidFor_10 hq.i8 hq.k8 hq.L8 rfl (by rw [hq.n8]; omega) ?_
  refine zw_istore dX3_bidFor_11 (by decide) ?_
  refine zw_iload dX3_bidFor_13 rfl ?_
  refine zw_sipush (v := nI 1000) dX3_bidFor_15 (by decide) ?_
  refine zw_icmp_le (tgt := 25) dX3_bidFor_18 (by decide) (fun c18 => ?_) (fun c18 => ?_)
  · refine zw_iconst (v := nI 0) dX3_bidFor_25 (by decide) ?_
    refine zw_istore dX3_bidFor_26 (by decide) ?_
    refine zw_iload_n dX3_bidFor_28 rfl ?_
    refine zw_iconst (v := nI 1) dX3_bidFor_29 (by decide) ?_
    refine zw_icmp_ne (tgt := 49) dX3_bidFor_30 (by decide) (fun c30 => ?_) (fun c30 => ?_)
    · refine zw_iload dX3_bidFor_49 rfl ?_
      refine zw_if_eq_n (tgt := 58) dX3_bidFor_51 (by decide) (by omega) (fun c51 => ?_) (fun c51 => by omega)
      refine zw_iload dX3_bidFor_58 rfl ?_
      exact zw_iretE dX3_bidFor_60 rfl (by simp [bF, bm, *]) rfl (rfl)
    · refine zw_iload dX3_bidFor_33 rfl ?_
      refine zw_if_eq_n (tgt := 47) dX3_bidFor_35 (by decide) (by omega) (fun c35 => ?_) (fun c35 => by omega)
      refine zw_iconst (v := nI 0) dX3_bidFor_47 (by decide) ?_
      exact zw_iretE dX3_bidFor_48 rfl (by simp [bF, bm, *]) rfl (rfl)
  · refine zw_iconst (v := nI 1) dX3_bidFor_21 (by decide) ?_
    refine zw_goto (tgt := 26) dX3_bidFor_22 (by decide) ?_
    refine zw_istore dX3_bidFor_26 (by decide) ?_
    refine zw_iload_n dX3_bidFor_28 rfl ?_
    refine zw_iconst (v := nI 1) dX3_bidFor_29 (by decide) ?_
    refine zw_icmp_ne (tgt := 49) dX3_bidFor_30 (by decide) (fun c30 => ?_) (fun c30 => ?_)
    · refine zw_iload dX3_bidFor_49 rfl ?_
      refine zw_if_eq_n (tgt := 58) dX3_bidFor_51 (by decide) (by omega) (fun c51 => by omega) (fun c51 => ?_)
      refine zw_iconst (v := nI 0) dX3_bidFor_54 (by decide) ?_
      refine zw_goto (tgt := 60) dX3_bidFor_55 (by decide) ?_
      exact zw_iretE dX3_bidFor_60 rfl (by simp [bF, bm, *]) rfl (rfl)
    · refine zw_iload dX3_bidFor_33 rfl ?_
      refine zw_if_eq_n (tgt := 47) dX3_bidFor_35 (by decide) (by omega) (fun c35 => by omega) (fun c35 => ?_)
      refine zw_iload dX3_bidFor_38 rfl ?_
      refine zw_sipush (v := nI 1000) dX3_bidFor_40 (by decide) ?_
      refine zw_isub dX3_bidFor_43 ?_
      refine zw_goto (tgt := 48) dX3_bidFor_44 (by decide) ?_
      exact zw_iretE dX3_bidFor_48 rfl (by simp [bF, bm, *]) rfl (rfl)
set_option maxRecDepth 100000 in
set_option maxHeartbeats 4000000 in
theorem c_X3_bidAmount {sh : Sh} {C : Mem} {q p s : Nat} (hq : IsSt sh q) (hp : p < 12) (hs : s < 96) : Calls mX3_bidAmount 1 0 0 [.inr (some (q)), .inl (nI (p)), .inl (nI (s))] sh C (some (.inl (bA C q p s))) sh (C) := by
  refine Calls.of plX3 (Nat.le_of_ble_eq_true rfl) ?_
  show WP mX3_bidAmount 1 0 0 0 [some (.inr (some (q))), some (.inl (nI (p))), some (.inl (nI (s)))] [] sh (C) (some (.inl (bA C q p s))) sh (C)
  refine zw_aload_n dX3_bidAmount_0 rfl ?_
  refine zw_iload_n dX3_bidAmount_1 rfl ?_
  refine zw_iload_n dX3_bidAmount_2 rfl ?_
  refine zw_iconst (v := nI 0) dX3_bidAmount_3 (by decide) ?_
  refine zw_cVi dX3_bidAmount_4 (c_X3_bidFor hq (by omega) (by omega) _) rfl okX3_bidFor ml_X3_76 hq.i hq.k (by decide) rfl (Nat.le_of_ble_eq_true rfl) (Nat.le_of_ble_eq_true rfl) ?_
  refine zw_aload_n dX3_bidAmount_7 rfl ?_
  refine zw_iload_n dX3_bidAmount_8 rfl ?_
  refine zw_iload_n dX3_bidAmount_9 rfl ?_
  refine zw_iconst (v := nI 1) dX3_bidAmount_10 (by decide) ?_
  refine zw_cVi dX3_bidAmount_11 (c_X3_bidFor hq (by omega) (by omega) _) rfl okX3_bidFor ml_X3_76 hq.i hq.k (by decide) rfl (Nat.le_of_ble_eq_true rfl) (Nat.le_of_ble_eq_true rfl) ?_
  refine zw_iadd dX3_bidAmount_14 ?_
  exact zw_iretE dX3_bidAmount_15 rfl (rfl) rfl (rfl)
set_option maxRecDepth 100000 in
set_option maxHeartbeats 4000000 in
theorem c_X3_freeMoney {sh : Sh} {C : Mem} {q p : Nat} (hq : IsSt sh q) (hp : p < 12) : Calls mX3_freeMoney 0 0 0 [.inr (some (q)), .inl (nI (p))] sh C (some (.inl (fM C q p))) sh (C) := by
  refine Calls.of plX3 (Nat.le_of_ble_eq_true rfl) ?_
  show WP mX3_freeMoney 0 0 0 0 [some (.inr (some (q))), some (.inl (nI (p)))] [] sh (C) (some (.inl (fM C q p))) sh (C)
  refine zw_aload_n dX3_freeMoney_0 rfl ?_
  refine zw_getR (j := 4) (kd := 3) dX3_freeMoney_1 hq.i hq.k (by decide) (by decide) fl_X3_15 rfl hq.r0 ?_
  refine zw_iload_n dX3_freeMoney_4 rfl ?_
  refine zw_iald dX3_freeMoney_5 hq.i0 hq.k0 hq.L0 rfl (by rw [hq.n0]; omega) ?_
  refine zw_aload_n dX3_freeMoney_6 rfl ?_
  refine zw_getR (j := 5) (kd := 3) dX3_freeMoney_7 hq.i hq.k (by decide) (by decide) fl_X3_19 rfl hq.r1 ?_
  refine zw_iload_n dX3_freeMoney_10 rfl ?_
  refine zw_iald dX3_freeMoney_11 hq.i1 hq.k1 hq.L1 rfl (by rw [hq.n1]; omega) ?_
  refine zw_isub dX3_freeMoney_12 ?_
  exact zw_iretE dX3_freeMoney_13 rfl (rfl) rfl (rfl)
def bE (C : Mem) (q p s : Nat) (am : Int32) : Int32 := if nI 0 ≤ am ∧ am ≤ nI 999 then (if 0 < C (q + 3) p ∨ fM C q p + bA C q p s < am then (-2) else nI 0) else (-1)
set_option maxRecDepth 100000 in
set_option maxHeartbeats 4000000 in
theorem c_X3_bidError {sh : Sh} {C : Mem} {q p s : Nat} (hq : IsSt sh q) (hp : p < 12) (hs : s < 96) (am : Int32) : Calls mX3_bidError 2 0 0 [.inr (some (q)), .inl (nI (p)), .inl (nI (s)), .inl (am)] sh C (some (.inl (bE C q p s am))) sh (C) := by
  refine Calls.of plX3 (Nat.le_of_ble_eq_true rfl) ?_
  show WP mX3_bidError 2 0 0 0 [some (.inr (some (q))), some (.inl (nI (p))), some (.inl (nI (s))), some (.inl (am)), none] [] sh (C) (some (.inl (bE C q p s am))) sh (C)
  refine zw_iload_n dX3_bidError_0 rfl ?_
  refine zw_iconst (v := nI 0) dX3_bidError_1 (by decide) ?_
  refine zw_sipush (v := nI 999) dX3_bidError_2 (by decide) ?_
  refine zw_cNi dX3_bidError_5 (c_X4_isWithin _ _ _) rfl okX4_isWithin nl_X3_80 (Nat.le_of_ble_eq_true rfl) (Nat.le_of_ble_eq_true rfl) ?_
  refine zw_if_ne_b (tgt := 13) dX3_bidError_8 (by decide) (fun c8 => ?_) (fun c8 => ?_)
  · refine zw_aload_n dX3_bidError_13 rfl ?_
    refine zw_iload_n dX3_bidError_14 rfl ?_
    refine zw_cVi dX3_bidError_15 (c_X3_freeMoney hq (by omega)) rfl okX3_freeMoney ml_X3_84 hq.i hq.k (by decide) rfl (Nat.le_of_ble_eq_true rfl) (Nat.le_of_ble_eq_true rfl) ?_
    refine zw_aload_n dX3_bidError_18 rfl ?_
    refine zw_iload_n dX3_bidError_19 rfl ?_
    refine zw_iload_n dX3_bidError_20 rfl ?_
    refine zw_cVi dX3_bidError_21 (c_X3_bidAmount hq (by omega) (by omega)) rfl okX3_bidAmount ml_X3_88 hq.i hq.k (by decide) rfl (Nat.le_of_ble_eq_true rfl) (Nat.le_of_ble_eq_true rfl) ?_
    refine zw_iadd dX3_bidError_24 ?_
    refine zw_iload_n dX3_bidError_25 rfl ?_
    refine zw_icmp_ge (tgt := 33) dX3_bidError_26 (by decide) (fun c26 => ?_) (fun c26 => ?_)
    · refine zw_iconst (v := nI 0) dX3_bidError_33 (by decide) ?_
      refine zw_istore dX3_bidError_34 (by decide) ?_
      refine zw_aload_n dX3_bidError_36 rfl ?_
      refine zw_getR (j := 6) (kd := 3) dX3_bidError_37 hq.i hq.k (by decide) (by decide) fl_X3_22 rfl hq.r2 ?_
      refine zw_iload_n dX3_bidError_40 rfl ?_
      refine zw_iald dX3_bidError_41 hq.i2 hq.k2 hq.L2 rfl (by rw [hq.n2]; omega) ?_
      refine zw_if_gt (tgt := 50) dX3_bidError_42 (by decide) (fun c42 => ?_) (fun c42 => ?_)
      · refine zw_bipush (v := (-2)) dX3_bidError_50 (by decide) ?_
        refine zw_goto (tgt := 56) dX3_bidError_52 (by decide) ?_
        exact zw_iretE dX3_bidError_56 rfl (by simp [bE, *]) rfl (rfl)
      · refine zw_iload dX3_bidError_45 rfl ?_
        refine zw_if_eq_n (tgt := 55) dX3_bidError_47 (by decide) (by omega) (fun c47 => ?_) (fun c47 => by omega)
        refine zw_iconst (v := nI 0) dX3_bidError_55 (by decide) ?_
        exact zw_iretE dX3_bidError_56 rfl (by simp [bE, *]) rfl (rfl)
    · refine zw_iconst (v := nI 1) dX3_bidError_29 (by decide) ?_
      refine zw_goto (tgt := 34) dX3_bidError_30 (by decide) ?_
      refine zw_istore dX3_bidError_34 (by decide) ?_
      refine zw_aload_n dX3_bidError_36 rfl ?_
      refine zw_getR (j := 6) (kd := 3) dX3_bidError_37 hq.i hq.k (by decide) (by decide) fl_X3_22 rfl hq.r2 ?_
      refine zw_iload_n dX3_bidError_40 rfl ?_
      refine zw_iald dX3_bidError_41 hq.i2 hq.k2 hq.L2 rfl (by rw [hq.n2]; omega) ?_
      refine zw_if_gt (tgt := 50) dX3_bidError_42 (by decide) (fun c42 => ?_) (fun c42 => ?_)
      · refine zw_bipush (v := (-2)) dX3_bidError_50 (by decide) ?_
        refine zw_goto (tgt := 56) dX3_bidError_52 (by decide) ?_
        exact zw_iretE dX3_bidError_56 rfl (by simp [bE, *]) rfl (rfl)
      · refine zw_iload dX3_bidError_45 rfl ?_
        refine zw_if_eq_n (tgt := 55) dX3_bidError_47 (by decide) (by omega) (fun c47 => by omega) (fun c47 => ?_)
        refine zw_bipush (v := (-2)) dX3_bidError_50 (by decide) ?_
        refine zw_goto (tgt := 56) dX3_bidError_52 (by decide) ?_
        exact zw_iretE dX3_bidError_56 rfl (by simp [bE, *]) rfl (rfl)
  · refine zw_iconst (v := (-1)) dX3_bidError_11 (by decide) ?_
    exact zw_iretE dX3_bidError_12 rfl (by simp [bE, *]) rfl (rfl)
def mkB (sd am : Int32) : Int32 := if sd = nI 1 ∧ 0 < am then nI 1000 + am else am
def pB (C : Mem) (q p s : Nat) (sd am : Int32) : Mem := up (up C (q + 2) p (C (q + 2) p + (am - bA C q p s))) (q + 9) (p * 96 + s) (mkB sd am)
set_option maxRecDepth 100000 in
set_option maxHeartbeats 4000000 in
theorem c_X3_placeBid {sh : Sh} {C : Mem} {q p s : Nat} (hq : IsSt sh q) (hp : p < 12) (hs : s < 96) (sd am : Int32) : Calls mX3_placeBid 2 0 0 [.inr (some (q)), .inl (nI (p)), .inl (nI (s)), .inl (sd), .inl (am)] sh C (some (.inl (fM (pB C q p s sd am) q p))) sh (pB C q p s sd am) := by
  refine Calls.of plX3 (Nat.le_of_ble_eq_true rfl) ?_
  show WP mX3_placeBid 2 0 0 0 [some (.inr (some (q))), some (.inl (nI (p))), some (.inl (nI (s))), some (.inl (sd)), some (.inl (am)), none] [] sh (C) (some (.inl (fM (pB C q p s sd am) q p))) sh (pB C q p s sd am)
  refine zw_aload_n dX3_placeBid_0 rfl ?_
  refine zw_getR (j := 5) (kd := 3) dX3_placeBid_1 hq.i hq.k (by decide) (by decide) fl_X3_19 rfl hq.r1 ?_
  refine zw_iload_n dX3_placeBid_4 rfl ?_
  refine zw_dup2 dX3_placeBid_5 ?_
  refine zw_iald dX3_placeBid_6 hq.i1 hq.k1 hq.L1 rfl (by rw [hq.n1]; omega) ?_
  refine zw_iload dX3_placeBid_7 rfl ?_
  refine zw_aload_n dX3_placeBid_9 rfl ?_
  refine zw_iload_n dX3_placeBid_10 rfl ?_
  refine zw_iload_n dX3_placeBid_11 rfl ?_
  refine zw_cVi dX3_placeBid_12 (c_X3_bidAmount hq (by omega) (by omega)) rfl okX3_bidAmount ml_X3_88 hq.i hq.k (by decide) rfl (Nat.le_of_ble_eq_true rfl) (Nat.le_of_ble_eq_true rfl) ?_
  refine zw_isub dX3_placeBid_15 ?_
  refine zw_iadd dX3_placeBid_16 ?_
  refine zw_iast dX3_placeBid_17 hq.i1 hq.k1 hq.L1 rfl (by rw [hq.n1]; omega) ?_
  refine zw_iload_n dX3_placeBid_18 rfl ?_
  refine zw_iconst (v := nI 1) dX3_placeBid_19 (by decide) ?_
  refine zw_icmp_ne (tgt := 32) dX3_placeBid_20 (by decide) (fun c20 => ?_) (fun c20 => ?_)
  · refine zw_iconst (v := nI 0) dX3_placeBid_32 (by decide) ?_
    refine zw_istore dX3_placeBid_33 (by decide) ?_
    refine zw_aload_n dX3_placeBid_35 rfl ?_
    refine zw_getR (j := 12) (kd := 3) dX3_placeBid_36 hq.i hq.k (by decide) (by decide) fl_X3_40 rfl hq.r8 ?_
    refine zw_iload_n dX3_placeBid_39 rfl ?_
    refine zw_bipush (v := nI 96) dX3_placeBid_40 (by decide) ?_
    refine zw_imuln dX3_placeBid_42 ?_
    refine zw_iload_n dX3_placeBid_43 rfl ?_
    refine zw_iaddn dX3_placeBid_44 ?_
    refine zw_iload dX3_placeBid_45 rfl ?_
    refine zw_if_eq_n (tgt := 59) dX3_placeBid_47 (by decide) (by omega) (fun c47 => ?_) (fun c47 => by omega)
    refine zw_iload dX3_placeBid_59 rfl ?_
    refine zw_iast dX3_placeBid_61 hq.i8 hq.k8 hq.L8 rfl (by rw [hq.n8]; omega) ?_
    refine zw_aload_n dX3_placeBid_62 rfl ?_
    refine zw_iload_n dX3_placeBid_63 rfl ?_
    refine zw_cVi dX3_placeBid_64 (c_X3_freeMoney hq (by omega)) rfl okX3_freeMoney ml_X3_84 hq.i hq.k (by decide) rfl (Nat.le_of_ble_eq_true rfl) (Nat.le_of_ble_eq_true rfl) ?_
    exact zw_iretE dX3_placeBid_67 rfl (by simp [pB, mkB, *]) rfl (by simp [pB, mkB, *])
  · refine zw_iload dX3_placeBid_23 rfl ?_
    refine zw_if_le (tgt := 32) dX3_placeBid_25 (by decide) (fun c25 => ?_) (fun c25 => ?_)
    · refine zw_iconst (v := nI 0) dX3_placeBid_32 (by decide) ?_
      refine zw_istore dX3_placeBid_33 (by decide) ?_
      refine zw_aload_n dX3_placeBid_35 rfl ?_
      refine zw_getR (j := 12) (kd := 3) dX3_placeBid_36 hq.i hq.k (by decide) (by decide) fl_X3_40 rfl hq.r8 ?_
      refine zw_iload_n dX3_placeBid_39 rfl ?_
      refine zw_bipush (v := nI 96) dX3_placeBid_40 (by decide) ?_
      refine zw_imuln dX3_placeBid_42 ?_
      refine zw_iload_n dX3_placeBid_43 rfl ?_
      refine zw_iaddn dX3_placeBid_44 ?_
      refine zw_iload dX3_placeBid_45 rfl ?_
      refine zw_if_eq_n (tgt := 59) dX3_placeBid_47 (by decide) (by omega) (fun c47 => ?_) (fun c47 => by omega)
      refine zw_iload dX3_placeBid_59 rfl ?_
      refine zw_iast dX3_placeBid_61 hq.i8 hq.k8 hq.L8 rfl (by rw [hq.n8]; omega) ?_
      refine zw_aload_n dX3_placeBid_62 rfl ?_
      refine zw_iload_n dX3_placeBid_63 rfl ?_
      refine zw_cVi dX3_placeBid_64 (c_X3_freeMoney hq (by omega)) rfl okX3_freeMoney ml_X3_84 hq.i hq.k (by decide) rfl (Nat.le_of_ble_eq_true rfl) (Nat.le_of_ble_eq_true rfl) ?_
      exact zw_iretE dX3_placeBid_67 rfl (by simp [pB, mkB, *]) rfl (by simp [pB, mkB, *])
    · refine zw_iconst (v := nI 1) dX3_placeBid_28 (by decide) ?_
      refine zw_goto (tgt := 33) dX3_placeBid_29 (by decide) ?_
      refine zw_istore dX3_placeBid_33 (by decide) ?_
      refine zw_aload_n dX3_placeBid_35 rfl ?_
      refine zw_getR (j := 12) (kd := 3) dX3_placeBid_36 hq.i hq.k (by decide) (by decide) fl_X3_40 rfl hq.r8 ?_
      refine zw_iload_n dX3_placeBid_39 rfl ?_
      refine zw_bipush (v := nI 96) dX3_placeBid_40 (by decide) ?_
      refine zw_imuln dX3_placeBid_42 ?_
      refine zw_iload_n dX3_placeBid_43 rfl ?_
      refine zw_iaddn dX3_placeBid_44 ?_
      refine zw_iload dX3_placeBid_45 rfl ?_
      refine zw_if_eq_n (tgt := 59) dX3_placeBid_47 (by decide) (by omega) (fun c47 => by omega) (fun c47 => ?_)
      refine zw_sipush (v := nI 1000) dX3_placeBid_50 (by decide) ?_
      refine zw_iload dX3_placeBid_53 rfl ?_
      refine zw_iadd dX3_placeBid_55 ?_
      refine zw_goto (tgt := 61) dX3_placeBid_56 (by decide) ?_
      refine zw_iast dX3_placeBid_61 hq.i8 hq.k8 hq.L8 rfl (by rw [hq.n8]; omega) ?_
      refine zw_aload_n dX3_placeBid_62 rfl ?_
      refine zw_iload_n dX3_placeBid_63 rfl ?_
      refine zw_cVi dX3_placeBid_64 (c_X3_freeMoney hq (by omega)) rfl okX3_freeMoney ml_X3_84 hq.i hq.k (by decide) rfl (Nat.le_of_ble_eq_true rfl) (Nat.le_of_ble_eq_true rfl) ?_
      exact zw_iretE dX3_placeBid_67 rfl (by simp [pB, mkB, *]) rfl (by simp [pB, mkB, *])
set_option maxRecDepth 100000 in
set_option maxHeartbeats 4000000 in
theorem c_X3_bidsBy {sh : Sh} {C : Mem} {q p : Nat} (hq : IsSt sh q) (hp : p < 12) : Calls mX3_bidsBy 1 0 0 [.inr (some (q)), .inl (nI (p))] sh C (some (.inl (sm (fun s => n01 (bm C q p s)) 96))) sh (C) := by
  refine Calls.of plX3 (Nat.le_of_ble_eq_true rfl) ?_
  show WP mX3_bidsBy 1 0 0 0 [some (.inr (some (q))), some (.inl (nI (p))), none, none] [] sh (C) (some (.inl (sm (fun s => n01 (bm C q p s)) 96))) sh (C)
  refine zw_iconst (v := nI 0) dX3_bidsBy_0 (by decide) ?_
  refine zw_istore_n dX3_bidsBy_1 (by decide) ?_
  refine zw_iconst (v := nI 0) dX3_bidsBy_2 (by decide) ?_
  refine zw_istore_n dX3_bidsBy_3 (by decide) ?_
  have L4 : ∀ (n_4 k : Nat), k + n_4 = 96 → WP mX3_bidsBy 1 0 0 4 [some (.inr (some (q))), some (.inl (nI (p))), some (.inl (sm (fun s => n01 (bm C q p s)) (k))), some (.inl (nI (k)))] [] sh (C) (some (.inl (sm (fun s => n01 (bm C q p s)) 96))) sh (C) := by
    intro n_4
    induction n_4 with
    | zero =>
      intro k hk4
      have ek4 : 96 = k := by omega
      subst ek4
      refine zw_iload_n dX3_bidsBy_4 rfl ?_
      refine zw_bipush (v := nI 96) dX3_bidsBy_5 (by decide) ?_
      refine zw_icmp_ge_n (tgt := 33) dX3_bidsBy_7 (by decide) (by omega) (by omega) (fun c7 => ?_) (fun c7 => by omega)
      refine zw_iload_n dX3_bidsBy_33 rfl ?_
      exact zw_iretE dX3_bidsBy_34 rfl (rfl) rfl (rfl)
    | succ n_4 ih4 =>
      intro k hk4
      have hlt4 : k < 96 := by omega
      refine zw_iload_n dX3_bidsBy_4 rfl ?_
      refine zw_bipush (v := nI 96) dX3_bidsBy_5 (by decide) ?_
      refine zw_icmp_ge_n (tgt := 33) dX3_bidsBy_7 (by decide) (by omega) (by omega) (fun c7 => by omega) (fun c7 => ?_)
      refine zw_iload_n dX3_bidsBy_10 rfl ?_
      refine zw_aload_n dX3_bidsBy_11 rfl ?_
      refine zw_iload_n dX3_bidsBy_12 rfl ?_
      refine zw_iload_n dX3_bidsBy_13 rfl ?_
      refine zw_cVi dX3_bidsBy_14 (c_X3_markedBid hq (by omega) (by omega)) rfl okX3_markedBid ml_X3_92 hq.i hq.k (by decide) rfl (Nat.le_of_ble_eq_true rfl) (Nat.le_of_ble_eq_true rfl) ?_
      refine zw_if_ne (tgt := 24) dX3_bidsBy_17 (by decide) (fun c17 => ?_) (fun c17 => ?_)
      · refine zw_iconst (v := nI 1) dX3_bidsBy_24 (by decide) ?_
        refine zw_iadd dX3_bidsBy_25 ?_
        refine zw_istore_n dX3_bidsBy_26 (by decide) ?_
        refine zw_iincn dX3_bidsBy_27 rfl (by decide) ?_
        refine zw_goto (tgt := 4) dX3_bidsBy_30 (by decide) ?_
        exact WP.sub (ih4 (k + 1) (by omega)) ⟨rfl, rfl, (hd_eq (by simp [sm, n01, *])), rfl, trivial⟩
      · refine zw_iconst (v := nI 0) dX3_bidsBy_20 (by decide) ?_
        refine zw_goto (tgt := 25) dX3_bidsBy_21 (by decide) ?_
        refine zw_iadd dX3_bidsBy_25 ?_
        refine zw_istore_n dX3_bidsBy_26 (by decide) ?_
        refine zw_iincn dX3_bidsBy_27 rfl (by decide) ?_
        refine zw_goto (tgt := 4) dX3_bidsBy_30 (by decide) ?_
        exact WP.sub (ih4 (k + 1) (by omega)) ⟨rfl, rfl, (hd_eq (by simp [sm, n01, *])), rfl, trivial⟩
  exact WP.sub (L4 (96) 0 (by omega)) ⟨rfl, rfl, rfl, rfl, trivial⟩
set_option maxRecDepth 100000 in
set_option maxHeartbeats 4000000 in
theorem c_X3_bidsFor {sh : Sh} {C : Mem} {q P : Nat} (hq : IsSt sh q) (hw : Wf C q P) {s : Nat} (hs : s < 96) : Calls mX3_bidsFor 1 0 0 [.inr (some (q)), .inl (nI (s))] sh C (some (.inl (sm (fun p => n01 (bm C q p s)) P))) sh (C) := by
  refine Calls.of plX3 (Nat.le_of_ble_eq_true rfl) ?_
  show WP mX3_bidsFor 1 0 0 0 [some (.inr (some (q))), some (.inl (nI (s))), none, none] [] sh (C) (some (.inl (sm (fun p => n01 (bm C q p s)) P))) sh (C)
  have hP12 := hw.2.1
  refine zw_iconst (v := nI 0) dX3_bidsFor_0 (by decide) ?_
  refine zw_istore_n dX3_bidsFor_1 (by decide) ?_
  refine zw_iconst (v := nI 0) dX3_bidsFor_2 (by decide) ?_
  refine zw_istore_n dX3_bidsFor_3 (by decide) ?_
  have L4 : ∀ (n_4 k : Nat), k + n_4 = P → WP mX3_bidsFor 1 0 0 4 [some (.inr (some (q))), some (.inl (nI (s))), some (.inl (sm (fun p => n01 (bm C q p s)) (k))), some (.inl (nI (k)))] [] sh (C) (some (.inl (sm (fun p => n01 (bm C q p s)) P))) sh (C) := by
    intro n_4
    induction n_4 with
    | zero =>
      intro k hk4
      have ek4 : P = k := by omega
      subst ek4
      refine zw_iload_n dX3_bidsFor_4 rfl ?_
      refine zw_aload_n dX3_bidsFor_5 rfl ?_
      refine zw_getIv (j := 3) (kd := 3) (v := (nI (P))) dX3_bidsFor_6 hq.i hq.k (by decide) (by decide) fl_X3_67 rfl hw.1 ?_
      refine zw_icmp_ge_n (tgt := 35) dX3_bidsFor_9 (by decide) (by omega) (by omega) (fun c9 => ?_) (fun c9 => by omega)
      refine zw_iload_n dX3_bidsFor_35 rfl ?_
      exact zw_iretE dX3_bidsFor_36 rfl (rfl) rfl (rfl)
    | succ n_4 ih4 =>
      intro k hk4
      have hlt4 : k < P := by omega
      refine zw_iload_n dX3_bidsFor_4 rfl ?_
      refine zw_aload_n dX3_bidsFor_5 rfl ?_
      refine zw_getIv (j := 3) (kd := 3) (v := (nI (P))) dX3_bidsFor_6 hq.i hq.k (by decide) (by decide) fl_X3_67 rfl hw.1 ?_
      refine zw_icmp_ge_n (tgt := 35) dX3_bidsFor_9 (by decide) (by omega) (by omega) (fun c9 => by omega) (fun c9 => ?_)
      refine zw_iload_n dX3_bidsFor_12 rfl ?_
      refine zw_aload_n dX3_bidsFor_13 rfl ?_
      refine zw_iload_n dX3_bidsFor_14 rfl ?_
      refine zw_iload_n dX3_bidsFor_15 rfl ?_
      refine zw_cVi dX3_bidsFor_16 (c_X3_markedBid hq (by omega) (by omega)) rfl okX3_markedBid ml_X3_92 hq.i hq.k (by decide) rfl (Nat.le_of_ble_eq_true rfl) (Nat.le_of_ble_eq_true rfl) ?_
      refine zw_if_ne (tgt := 26) dX3_bidsFor_19 (by decide) (fun c19 => ?_) (fun c19 => ?_)
      · refine zw_iconst (v := nI 1) dX3_bidsFor_26 (by decide) ?_
        refine zw_iadd dX3_bidsFor_27 ?_
        refine zw_istore_n dX3_bidsFor_28 (by decide) ?_
        refine zw_iincn dX3_bidsFor_29 rfl (by decide) ?_
        refine zw_goto (tgt := 4) dX3_bidsFor_32 (by decide) ?_
        exact WP.sub (ih4 (k + 1) (by omega)) ⟨rfl, rfl, (hd_eq (by simp [sm, n01, *])), rfl, trivial⟩
      · refine zw_iconst (v := nI 0) dX3_bidsFor_22 (by decide) ?_
        refine zw_goto (tgt := 27) dX3_bidsFor_23 (by decide) ?_
        refine zw_iadd dX3_bidsFor_27 ?_
        refine zw_istore_n dX3_bidsFor_28 (by decide) ?_
        refine zw_iincn dX3_bidsFor_29 rfl (by decide) ?_
        refine zw_goto (tgt := 4) dX3_bidsFor_32 (by decide) ?_
        exact WP.sub (ih4 (k + 1) (by omega)) ⟨rfl, rfl, (hd_eq (by simp [sm, n01, *])), rfl, trivial⟩
  exact WP.sub (L4 (P) 0 (by omega)) ⟨rfl, rfl, rfl, rfl, trivial⟩
abbrev sB (C : Mem) (q P s : Nat) (sd : Int32) : Int32 := sm (fun p => bF (bm C q p s) sd) P
abbrev nB (C : Mem) (q P s : Nat) : Int32 := sm (fun p => n01 (bm C q p s)) P
set_option maxRecDepth 100000 in
set_option maxHeartbeats 4000000 in
theorem c_X3_sumOfBids {sh : Sh} {C : Mem} {q P : Nat} (hq : IsSt sh q) (hw : Wf C q P) {s : Nat} (hs : s < 96) (sd : Int32) : Calls mX3_sumOfBids 1 0 0 [.inr (some (q)), .inl (nI (s)), .inl (sd)] sh C (some (.inl (sB C q P s sd))) sh (C) := by
  refine Calls.of plX3 (Nat.le_of_ble_eq_true rfl) ?_
  show WP mX3_sumOfBids 1 0 0 0 [some (.inr (some (q))), some (.inl (nI (s))), some (.inl (sd)), none, none] [] sh (C) (some (.inl (sB C q P s sd))) sh (C)
  have hP12 := hw.2.1
  refine zw_iconst (v := nI 0) dX3_sumOfBids_0 (by decide) ?_
  refine zw_istore_n dX3_sumOfBids_1 (by decide) ?_
  refine zw_iconst (v := nI 0) dX3_sumOfBids_2 (by decide) ?_
  refine zw_istore dX3_sumOfBids_3 (by decide) ?_
  have L5 : ∀ (n_5 k : Nat), k + n_5 = P → WP mX3_sumOfBids 1 0 0 5 [some (.inr (some (q))), some (.inl (nI (s))), some (.inl (sd)), some (.inl (sm (fun p => bF (bm C q p s) sd) (k))), some (.inl (nI (k)))] [] sh (C) (some (.inl (sB C q P s sd))) sh (C) := by
    intro n_5
    induction n_5 with
    | zero =>
      intro k hk5
      have ek5 : P = k := by omega
      subst ek5
      refine zw_iload dX3_sumOfBids_5 rfl ?_
      refine zw_aload_n dX3_sumOfBids_7 rfl ?_
      refine zw_getIv (j := 3) (kd := 3) (v := (nI (P))) dX3_sumOfBids_8 hq.i hq.k (by decide) (by decide) fl_X3_67 rfl hw.1 ?_
      refine zw_icmp_ge_n (tgt := 31) dX3_sumOfBids_11 (by decide) (by omega) (by omega) (fun c11 => ?_) (fun c11 => by omega)
      refine zw_iload_n dX3_sumOfBids_31 rfl ?_
      exact zw_iretE dX3_sumOfBids_32 rfl (rfl) rfl (rfl)
    | succ n_5 ih5 =>
      intro k hk5
      have hlt5 : k < P := by omega
      refine zw_iload dX3_sumOfBids_5 rfl ?_
      refine zw_aload_n dX3_sumOfBids_7 rfl ?_
      refine zw_getIv (j := 3) (kd := 3) (v := (nI (P))) dX3_sumOfBids_8 hq.i hq.k (by decide) (by decide) fl_X3_67 rfl hw.1 ?_
      refine zw_icmp_ge_n (tgt := 31) dX3_sumOfBids_11 (by decide) (by omega) (by omega) (fun c11 => by omega) (fun c11 => ?_)
      refine zw_iload_n dX3_sumOfBids_14 rfl ?_
      refine zw_aload_n dX3_sumOfBids_15 rfl ?_
      refine zw_iload dX3_sumOfBids_16 rfl ?_
      refine zw_iload_n dX3_sumOfBids_18 rfl ?_
      refine zw_iload_n dX3_sumOfBids_19 rfl ?_
      refine zw_cVi dX3_sumOfBids_20 (c_X3_bidFor hq (by omega) (by omega) _) rfl okX3_bidFor ml_X3_76 hq.i hq.k (by decide) rfl (Nat.le_of_ble_eq_true rfl) (Nat.le_of_ble_eq_true rfl) ?_
      refine zw_iadd dX3_sumOfBids_23 ?_
      refine zw_istore_n dX3_sumOfBids_24 (by decide) ?_
      refine zw_iincn dX3_sumOfBids_25 rfl (by decide) ?_
      refine zw_goto (tgt := 5) dX3_sumOfBids_28 (by decide) ?_
      exact WP.sub (ih5 (k + 1) (by omega)) ⟨rfl, rfl, rfl, rfl, rfl, trivial⟩
  exact WP.sub (L5 (P) 0 (by omega)) ⟨rfl, rfl, rfl, rfl, rfl, trivial⟩
def rcv (C : Mem) (q p : Nat) (m : Int32) : Mem :=
  let t := mn (C (q + 3) p) m
  let C1 := up C (q + 3) p (C (q + 3) p - t)
  let C2 := up C1 (q + 15) (ixN (C1 (q + 4) p)) (C1 (q + 15) (ixN (C1 (q + 4) p)) + t)
  up C2 (q + 1) p (C2 (q + 1) p + (m - t))
theorem rcv_ne {C : Mem} {q p : Nat} {m : Int32} {b : Nat} (h1 : b ≠ q + 1) (h2 : b ≠ q + 3) (h3 : b ≠ q + 15) : rcv C q p m b = C b := by
  show up (up (up C _ _ _) _ _ _) _ _ _ b = _
  rw [up_ne h1, up_ne h3, up_ne h2]
theorem Wf.rc {C : Mem} {q P p : Nat} {m : Int32} (h : Wf C q P) : Wf (rcv C q p m) q P := h.of (by rw [rcv_ne (by omega) (by omega) (by omega)]) (rcv_ne (by omega) (by omega) (by omega))
set_option maxRecDepth 100000 in
set_option maxHeartbeats 4000000 in
theorem c_X3_receive {sh : Sh} {C : Mem} {q P : Nat} (hq : IsSt sh q) (hw : Wf C q P) {p : Nat} (hp : p < 12) (m : Int32) : Calls mX3_receive 1 0 0 [.inr (some (q)), .inl (nI (p)), .inl (m)] sh C (none) sh (rcv C q p m) := by
  refine Calls.of plX3 (Nat.le_of_ble_eq_true rfl) ?_
  show WP mX3_receive 1 0 0 0 [some (.inr (some (q))), some (.inl (nI (p))), some (.inl (m)), none] [] sh (C) (none) sh (rcv C q p m)
  refine zw_aload_n dX3_receive_0 rfl ?_
  refine zw_getR (j := 6) (kd := 3) dX3_receive_1 hq.i hq.k (by decide) (by decide) fl_X3_22 rfl hq.r2 ?_
  refine zw_iload_n dX3_receive_4 rfl ?_
  refine zw_iald dX3_receive_5 hq.i2 hq.k2 hq.L2 rfl (by rw [hq.n2]; omega) ?_
  refine zw_iload_n dX3_receive_6 rfl ?_
  refine zw_mmin dX3_receive_7 ml_X3_95 (by decide) (Nat.le_of_ble_eq_true rfl) ?_
  refine zw_istore_n dX3_receive_10 (by decide) ?_
  refine zw_aload_n dX3_receive_11 rfl ?_
  refine zw_getR (j := 6) (kd := 3) dX3_receive_12 hq.i hq.k (by decide) (by decide) fl_X3_22 rfl hq.r2 ?_
  refine zw_iload_n dX3_receive_15 rfl ?_
  refine zw_dup2 dX3_receive_16 ?_
  refine zw_iald dX3_receive_17 hq.i2 hq.k2 hq.L2 rfl (by rw [hq.n2]; omega) ?_
  refine zw_iload_n dX3_receive_18 rfl ?_
  refine zw_isub dX3_receive_19 ?_
  refine zw_iast dX3_receive_20 hq.i2 hq.k2 hq.L2 rfl (by rw [hq.n2]; omega) ?_
  refine zw_aload_n dX3_receive_21 rfl ?_
  refine zw_getR (j := 18) (kd := 3) dX3_receive_22 hq.i hq.k (by decide) (by decide) fl_X3_58 rfl hq.r14 ?_
  refine zw_aload_n dX3_receive_25 rfl ?_
  refine zw_getR (j := 7) (kd := 3) dX3_receive_26 hq.i hq.k (by decide) (by decide) fl_X3_25 rfl hq.r3 ?_
  refine zw_iload_n dX3_receive_29 rfl ?_
  refine zw_iald dX3_receive_30 hq.i3 hq.k3 hq.L3 rfl (by rw [hq.n3]; omega) ?_
  refine zw_dup2 dX3_receive_31 ?_
  refine zw_ialdx dX3_receive_32 hq.i14 hq.k14 hq.L14 (by rw [hq.n14]; exact (Wf.wr hw (by omega) (by omega)).2.2 _ hp) ?_
  refine zw_iload_n dX3_receive_33 rfl ?_
  refine zw_iadd dX3_receive_34 ?_
  refine zw_iastx dX3_receive_35 hq.i14 hq.k14 hq.L14 (by rw [hq.n14]; exact (Wf.wr hw (by omega) (by omega)).2.2 _ hp) ?_
  refine zw_aload_n dX3_receive_36 rfl ?_
  refine zw_getR (j := 4) (kd := 3) dX3_receive_37 hq.i hq.k (by decide) (by decide) fl_X3_15 rfl hq.r0 ?_
  refine zw_iload_n dX3_receive_40 rfl ?_
  refine zw_dup2 dX3_receive_41 ?_
  refine zw_iald dX3_receive_42 hq.i0 hq.k0 hq.L0 rfl (by rw [hq.n0]; omega) ?_
  refine zw_iload_n dX3_receive_43 rfl ?_
  refine zw_iload_n dX3_receive_44 rfl ?_
  refine zw_isub dX3_receive_45 ?_
  refine zw_iadd dX3_receive_46 ?_
  refine zw_iast dX3_receive_47 hq.i0 hq.k0 hq.L0 rfl (by rw [hq.n0]; omega) ?_
  exact zw_vretE dX3_receive_48 rfl rfl rfl (rfl)
def cbp (C : Mem) (q p : Nat) (am : Int32) : Prop := ¬ (am < 0 ∧ (0 < C (q + 3) p ∨ fM C q p < -am)) ∧ C (q + 1) p + am - (if 0 < am then mn (C (q + 3) p) am else nI 0) ≤ nI 10000000
set_option maxRecDepth 100000 in
set_option maxHeartbeats 4000000 in
theorem c_X3_canBePaid {sh : Sh} {C : Mem} {q p : Nat} (hq : IsSt sh q) (hp : p < 12) (am : Int32) : Calls mX3_canBePaid 1 0 0 [.inr (some (q)), .inl (nI (p)), .inl (am)] sh C (some (.inl (b01c (cbp C q p am)))) sh (C) := by
  refine Calls.of plX3 (Nat.le_of_ble_eq_true rfl) ?_
  show WP mX3_canBePaid 1 0 0 0 [some (.inr (some (q))), some (.inl (nI (p))), some (.inl (am)), none] [] sh (C) (some (.inl (b01c (cbp C q p am)))) sh (C)
  refine zw_iload_n dX3_canBePaid_0 rfl ?_
  refine zw_if_ge (tgt := 25) dX3_canBePaid_1 (by decide) (fun c1 => ?_) (fun c1 => ?_)
  · refine zw_iload_n dX3_canBePaid_25 rfl ?_
    refine zw_if_le (tgt := 42) dX3_canBePaid_26 (by decide) (fun c26 => ?_) (fun c26 => ?_)
    · refine zw_iconst (v := nI 0) dX3_canBePaid_42 (by decide) ?_
      refine zw_istore_n dX3_canBePaid_43 (by decide) ?_
      refine zw_aload_n dX3_canBePaid_44 rfl ?_
      refine zw_getR (j := 4) (kd := 3) dX3_canBePaid_45 hq.i hq.k (by decide) (by decide) fl_X3_15 rfl hq.r0 ?_
      refine zw_iload_n dX3_canBePaid_48 rfl ?_
      refine zw_iald dX3_canBePaid_49 hq.i0 hq.k0 hq.L0 rfl (by rw [hq.n0]; omega) ?_
      refine zw_iload_n dX3_canBePaid_50 rfl ?_
      refine zw_iadd dX3_canBePaid_51 ?_
      refine zw_iload_n dX3_canBePaid_52 rfl ?_
      refine zw_isub dX3_canBePaid_53 ?_
      refine zw_ldc (v := nI 10000000) dX3_canBePaid_54 cs_X3_100 ?_
      refine zw_icmp_gt (tgt := 63) dX3_canBePaid_56 (by decide) (fun c56 => ?_) (fun c56 => ?_)
      · refine zw_iconst (v := nI 0) dX3_canBePaid_63 (by decide) ?_
        exact zw_zretE dX3_canBePaid_64 rfl (Or.inl rfl) (by rw [b01c_f (fun z => by have z2 := z.2; rw [(if_neg c26)] at z2; exact absurd c56 (Int32.not_lt.mpr z2))]) rfl (rfl)
      · refine zw_iconst (v := nI 1) dX3_canBePaid_59 (by decide) ?_
        refine zw_goto (tgt := 64) dX3_canBePaid_60 (by decide) ?_
        exact zw_zretE dX3_canBePaid_64 rfl (Or.inr rfl) (by rw [b01c_t ⟨(fun z => c1 z.1), by rw [(if_neg c26)]; exact Int32.not_lt.mp c56⟩]) rfl (rfl)
    · refine zw_aload_n dX3_canBePaid_29 rfl ?_
      refine zw_getR (j := 6) (kd := 3) dX3_canBePaid_30 hq.i hq.k (by decide) (by decide) fl_X3_22 rfl hq.r2 ?_
      refine zw_iload_n dX3_canBePaid_33 rfl ?_
      refine zw_iald dX3_canBePaid_34 hq.i2 hq.k2 hq.L2 rfl (by rw [hq.n2]; omega) ?_
      refine zw_iload_n dX3_canBePaid_35 rfl ?_
      refine zw_mmin dX3_canBePaid_36 ml_X3_95 (by decide) (Nat.le_of_ble_eq_true rfl) ?_
      refine zw_goto (tgt := 43) dX3_canBePaid_39 (by decide) ?_
      refine zw_istore_n dX3_canBePaid_43 (by decide) ?_
      refine zw_aload_n dX3_canBePaid_44 rfl ?_
      refine zw_getR (j := 4) (kd := 3) dX3_canBePaid_45 hq.i hq.k (by decide) (by decide) fl_X3_15 rfl hq.r0 ?_
      refine zw_iload_n dX3_canBePaid_48 rfl ?_
      refine zw_iald dX3_canBePaid_49 hq.i0 hq.k0 hq.L0 rfl (by rw [hq.n0]; omega) ?_
      refine zw_iload_n dX3_canBePaid_50 rfl ?_
      refine zw_iadd dX3_canBePaid_51 ?_
      refine zw_iload_n dX3_canBePaid_52 rfl ?_
      refine zw_isub dX3_canBePaid_53 ?_
      refine zw_ldc (v := nI 10000000) dX3_canBePaid_54 cs_X3_100 ?_
      refine zw_icmp_gt (tgt := 63) dX3_canBePaid_56 (by decide) (fun c56 => ?_) (fun c56 => ?_)
      · refine zw_iconst (v := nI 0) dX3_canBePaid_63 (by decide) ?_
        exact zw_zretE dX3_canBePaid_64 rfl (Or.inl rfl) (by rw [b01c_f (fun z => by have z2 := z.2; rw [(if_pos c26)] at z2; exact absurd c56 (Int32.not_lt.mpr z2))]) rfl (rfl)
      · refine zw_iconst (v := nI 1) dX3_canBePaid_59 (by decide) ?_
        refine zw_goto (tgt := 64) dX3_canBePaid_60 (by decide) ?_
        exact zw_zretE dX3_canBePaid_64 rfl (Or.inr rfl) (by rw [b01c_t ⟨(fun z => c1 z.1), by rw [(if_pos c26)]; exact Int32.not_lt.mp c56⟩]) rfl (rfl)
  · refine zw_aload_n dX3_canBePaid_4 rfl ?_
    refine zw_getR (j := 6) (kd := 3) dX3_canBePaid_5 hq.i hq.k (by decide) (by decide) fl_X3_22 rfl hq.r2 ?_
    refine zw_iload_n dX3_canBePaid_8 rfl ?_
    refine zw_iald dX3_canBePaid_9 hq.i2 hq.k2 hq.L2 rfl (by rw [hq.n2]; omega) ?_
    refine zw_if_gt (tgt := 23) dX3_canBePaid_10 (by decide) (fun c10 => ?_) (fun c10 => ?_)
    · refine zw_iconst (v := nI 0) dX3_canBePaid_23 (by decide) ?_
      exact zw_zretE dX3_canBePaid_24 rfl (Or.inl rfl) (by rw [b01c_f (fun z => z.1 ⟨c1, Or.inl c10⟩)]) rfl (rfl)
    · refine zw_iload_n dX3_canBePaid_13 rfl ?_
      refine zw_ineg dX3_canBePaid_14 ?_
      refine zw_aload_n dX3_canBePaid_15 rfl ?_
      refine zw_iload_n dX3_canBePaid_16 rfl ?_
      refine zw_cVi dX3_canBePaid_17 (c_X3_freeMoney hq (by omega)) rfl okX3_freeMoney ml_X3_84 hq.i hq.k (by decide) rfl (Nat.le_of_ble_eq_true rfl) (Nat.le_of_ble_eq_true rfl) ?_
      refine zw_icmp_le (tgt := 25) dX3_canBePaid_20 (by decide) (fun c20 => ?_) (fun c20 => ?_)
      · refine zw_iload_n dX3_canBePaid_25 rfl ?_
        refine zw_if_le (tgt := 42) dX3_canBePaid_26 (by decide) (fun c26 => ?_) (fun c26 => ?_)
        · refine zw_iconst (v := nI 0) dX3_canBePaid_42 (by decide) ?_
          refine zw_istore_n dX3_canBePaid_43 (by decide) ?_
          refine zw_aload_n dX3_canBePaid_44 rfl ?_
          refine zw_getR (j := 4) (kd := 3) dX3_canBePaid_45 hq.i hq.k (by decide) (by decide) fl_X3_15 rfl hq.r0 ?_
          refine zw_iload_n dX3_canBePaid_48 rfl ?_
          refine zw_iald dX3_canBePaid_49 hq.i0 hq.k0 hq.L0 rfl (by rw [hq.n0]; omega) ?_
          refine zw_iload_n dX3_canBePaid_50 rfl ?_
          refine zw_iadd dX3_canBePaid_51 ?_
          refine zw_iload_n dX3_canBePaid_52 rfl ?_
          refine zw_isub dX3_canBePaid_53 ?_
          refine zw_ldc (v := nI 10000000) dX3_canBePaid_54 cs_X3_100 ?_
          refine zw_icmp_gt (tgt := 63) dX3_canBePaid_56 (by decide) (fun c56 => ?_) (fun c56 => ?_)
          · refine zw_iconst (v := nI 0) dX3_canBePaid_63 (by decide) ?_
            exact zw_zretE dX3_canBePaid_64 rfl (Or.inl rfl) (by rw [b01c_f (fun z => by have z2 := z.2; rw [(if_neg c26)] at z2; exact absurd c56 (Int32.not_lt.mpr z2))]) rfl (rfl)
          · refine zw_iconst (v := nI 1) dX3_canBePaid_59 (by decide) ?_
            refine zw_goto (tgt := 64) dX3_canBePaid_60 (by decide) ?_
            exact zw_zretE dX3_canBePaid_64 rfl (Or.inr rfl) (by rw [b01c_t ⟨(fun z => z.2.elim c10 c20), by rw [(if_neg c26)]; exact Int32.not_lt.mp c56⟩]) rfl (rfl)
        · refine zw_aload_n dX3_canBePaid_29 rfl ?_
          refine zw_getR (j := 6) (kd := 3) dX3_canBePaid_30 hq.i hq.k (by decide) (by decide) fl_X3_22 rfl hq.r2 ?_
          refine zw_iload_n dX3_canBePaid_33 rfl ?_
          refine zw_iald dX3_canBePaid_34 hq.i2 hq.k2 hq.L2 rfl (by rw [hq.n2]; omega) ?_
          refine zw_iload_n dX3_canBePaid_35 rfl ?_
          refine zw_mmin dX3_canBePaid_36 ml_X3_95 (by decide) (Nat.le_of_ble_eq_true rfl) ?_
          refine zw_goto (tgt := 43) dX3_canBePaid_39 (by decide) ?_
          refine zw_istore_n dX3_canBePaid_43 (by decide) ?_
          refine zw_aload_n dX3_canBePaid_44 rfl ?_
          refine zw_getR (j := 4) (kd := 3) dX3_canBePaid_45 hq.i hq.k (by decide) (by decide) fl_X3_15 rfl hq.r0 ?_
          refine zw_iload_n dX3_canBePaid_48 rfl ?_
          refine zw_iald dX3_canBePaid_49 hq.i0 hq.k0 hq.L0 rfl (by rw [hq.n0]; omega) ?_
          refine zw_iload_n dX3_canBePaid_50 rfl ?_
          refine zw_iadd dX3_canBePaid_51 ?_
          refine zw_iload_n dX3_canBePaid_52 rfl ?_
          refine zw_isub dX3_canBePaid_53 ?_
          refine zw_ldc (v := nI 10000000) dX3_canBePaid_54 cs_X3_100 ?_
          refine zw_icmp_gt (tgt := 63) dX3_canBePaid_56 (by decide) (fun c56 => ?_) (fun c56 => ?_)
          · refine zw_iconst (v := nI 0) dX3_canBePaid_63 (by decide) ?_
            exact zw_zretE dX3_canBePaid_64 rfl (Or.inl rfl) (by rw [b01c_f (fun z => by have z2 := z.2; rw [(if_pos c26)] at z2; exact absurd c56 (Int32.not_lt.mpr z2))]) rfl (rfl)
          · refine zw_iconst (v := nI 1) dX3_canBePaid_59 (by decide) ?_
            refine zw_goto (tgt := 64) dX3_canBePaid_60 (by decide) ?_
            exact zw_zretE dX3_canBePaid_64 rfl (Or.inr rfl) (by rw [b01c_t ⟨(fun z => z.2.elim c10 c20), by rw [(if_pos c26)]; exact Int32.not_lt.mp c56⟩]) rfl (rfl)
      · refine zw_iconst (v := nI 0) dX3_canBePaid_23 (by decide) ?_
        exact zw_zretE dX3_canBePaid_24 rfl (Or.inl rfl) (by rw [b01c_f (fun z => z.1 ⟨c1, Or.inr c20⟩)]) rfl (rfl)
def sm2 (a : Int32) (f : Nat → Int32) : Nat → Int32
  | 0 => a
  | n + 1 => sm2 a f n + f n
set_option maxRecDepth 100000 in
set_option maxHeartbeats 4000000 in
theorem c_X3_allMoney {sh : Sh} {C : Mem} {q P : Nat} (hq : IsSt sh q) (hw : Wf C q P)  : Calls mX3_allMoney 0 0 0 [.inr (some (q))] sh C (some (.inl (sm2 (sm (fun p => C (q + 1) p) P) (fun j => C (q + 15) j) 4))) sh (C) := by
  refine Calls.of plX3 (Nat.le_of_ble_eq_true rfl) ?_
  show WP mX3_allMoney 0 0 0 0 [some (.inr (some (q))), none, none] [] sh (C) (some (.inl (sm2 (sm (fun p => C (q + 1) p) P) (fun j => C (q + 15) j) 4))) sh (C)
  have hP12 := hw.2.1
  refine zw_iconst (v := nI 0) dX3_allMoney_0 (by decide) ?_
  refine zw_istore_n dX3_allMoney_1 (by decide) ?_
  refine zw_iconst (v := nI 0) dX3_allMoney_2 (by decide) ?_
  refine zw_istore_n dX3_allMoney_3 (by decide) ?_
  have L4 : ∀ (n_4 k : Nat), k + n_4 = P → WP mX3_allMoney 0 0 0 4 [some (.inr (some (q))), some (.inl (sm (fun p => C (q + 1) p) (k))), some (.inl (nI (k)))] [] sh (C) (some (.inl (sm2 (sm (fun p => C (q + 1) p) P) (fun j => C (q + 15) j) 4))) sh (C) := by
    intro n_4
    induction n_4 with
    | zero =>
      intro k hk4
      have ek4 : P = k := by omega
      subst ek4
      refine zw_iload_n dX3_allMoney_4 rfl ?_
      refine zw_aload_n dX3_allMoney_5 rfl ?_
      refine zw_getIv (j := 3) (kd := 3) (v := (nI (P))) dX3_allMoney_6 hq.i hq.k (by decide) (by decide) fl_X3_67 rfl hw.1 ?_
      refine zw_icmp_ge_n (tgt := 27) dX3_allMoney_9 (by decide) (by omega) (by omega) (fun c9 => ?_) (fun c9 => by omega)
      refine zw_iconst (v := nI 0) dX3_allMoney_27 (by decide) ?_
      refine zw_istore_n dX3_allMoney_28 (by decide) ?_
      have L29 : ∀ (n_29 k : Nat), k + n_29 = 4 → WP mX3_allMoney 0 0 0 29 [some (.inr (some (q))), some (.inl (sm2 (sm (fun p => C (q + 1) p) P) (fun j => C (q + 15) j) (k))), some (.inl (nI (k)))] [] sh (C) (some (.inl (sm2 (sm (fun p => C (q + 1) p) P) (fun j => C (q + 15) j) 4))) sh (C) := by
        intro n_29
        induction n_29 with
        | zero =>
          intro k hk29
          have ek29 : 4 = k := by omega
          subst ek29
          refine zw_iload_n dX3_allMoney_29 rfl ?_
          refine zw_iconst (v := nI 4) dX3_allMoney_30 (by decide) ?_
          refine zw_icmp_ge_n (tgt := 49) dX3_allMoney_31 (by decide) (by omega) (by omega) (fun c31 => ?_) (fun c31 => by omega)
          refine zw_iload_n dX3_allMoney_49 rfl ?_
          exact zw_iretE dX3_allMoney_50 rfl (rfl) rfl (rfl)
        | succ n_29 ih29 =>
          intro k hk29
          have hlt29 : k < 4 := by omega
          refine zw_iload_n dX3_allMoney_29 rfl ?_
          refine zw_iconst (v := nI 4) dX3_allMoney_30 (by decide) ?_
          refine zw_icmp_ge_n (tgt := 49) dX3_allMoney_31 (by decide) (by omega) (by omega) (fun c31 => by omega) (fun c31 => ?_)
          refine zw_iload_n dX3_allMoney_34 rfl ?_
          refine zw_aload_n dX3_allMoney_35 rfl ?_
          refine zw_getR (j := 18) (kd := 3) dX3_allMoney_36 hq.i hq.k (by decide) (by decide) fl_X3_58 rfl hq.r14 ?_
          refine zw_iload_n dX3_allMoney_39 rfl ?_
          refine zw_iald dX3_allMoney_40 hq.i14 hq.k14 hq.L14 rfl (by rw [hq.n14]; omega) ?_
          refine zw_iadd dX3_allMoney_41 ?_
          refine zw_istore_n dX3_allMoney_42 (by decide) ?_
          refine zw_iincn dX3_allMoney_43 rfl (by decide) ?_
          refine zw_goto (tgt := 29) dX3_allMoney_46 (by decide) ?_
          exact WP.sub (ih29 (k + 1) (by omega)) ⟨rfl, rfl, rfl, trivial⟩
      exact WP.sub (L29 (4) 0 (by omega)) ⟨rfl, rfl, rfl, trivial⟩
    | succ n_4 ih4 =>
      intro k hk4
      have hlt4 : k < P := by omega
      refine zw_iload_n dX3_allMoney_4 rfl ?_
      refine zw_aload_n dX3_allMoney_5 rfl ?_
      refine zw_getIv (j := 3) (kd := 3) (v := (nI (P))) dX3_allMoney_6 hq.i hq.k (by decide) (by decide) fl_X3_67 rfl hw.1 ?_
      refine zw_icmp_ge_n (tgt := 27) dX3_allMoney_9 (by decide) (by omega) (by omega) (fun c9 => by omega) (fun c9 => ?_)
      refine zw_iload_n dX3_allMoney_12 rfl ?_
      refine zw_aload_n dX3_allMoney_13 rfl ?_
      refine zw_getR (j := 4) (kd := 3) dX3_allMoney_14 hq.i hq.k (by decide) (by decide) fl_X3_15 rfl hq.r0 ?_
      refine zw_iload_n dX3_allMoney_17 rfl ?_
      refine zw_iald dX3_allMoney_18 hq.i0 hq.k0 hq.L0 rfl (by rw [hq.n0]; omega) ?_
      refine zw_iadd dX3_allMoney_19 ?_
      refine zw_istore_n dX3_allMoney_20 (by decide) ?_
      refine zw_iincn dX3_allMoney_21 rfl (by decide) ?_
      refine zw_goto (tgt := 4) dX3_allMoney_24 (by decide) ?_
      exact WP.sub (ih4 (k + 1) (by omega)) ⟨rfl, rfl, rfl, trivial⟩
  exact WP.sub (L4 (P) 0 (by omega)) ⟨rfl, rfl, rfl, trivial⟩
set_option maxRecDepth 100000 in
set_option maxHeartbeats 4000000 in
theorem c_X3_allDebts {sh : Sh} {C : Mem} {q P : Nat} (hq : IsSt sh q) (hw : Wf C q P)  : Calls mX3_allDebts 0 0 0 [.inr (some (q))] sh C (some (.inl (sm (fun p => C (q + 3) p) P))) sh (C) := by
  refine Calls.of plX3 (Nat.le_of_ble_eq_true rfl) ?_
  show WP mX3_allDebts 0 0 0 0 [some (.inr (some (q))), none, none] [] sh (C) (some (.inl (sm (fun p => C (q + 3) p) P))) sh (C)
  have hP12 := hw.2.1
  refine zw_iconst (v := nI 0) dX3_allDebts_0 (by decide) ?_
  refine zw_istore_n dX3_allDebts_1 (by decide) ?_
  refine zw_iconst (v := nI 0) dX3_allDebts_2 (by decide) ?_
  refine zw_istore_n dX3_allDebts_3 (by decide) ?_
  have L4 : ∀ (n_4 k : Nat), k + n_4 = P → WP mX3_allDebts 0 0 0 4 [some (.inr (some (q))), some (.inl (sm (fun p => C (q + 3) p) (k))), some (.inl (nI (k)))] [] sh (C) (some (.inl (sm (fun p => C (q + 3) p) P))) sh (C) := by
    intro n_4
    induction n_4 with
    | zero =>
      intro k hk4
      have ek4 : P = k := by omega
      subst ek4
      refine zw_iload_n dX3_allDebts_4 rfl ?_
      refine zw_aload_n dX3_allDebts_5 rfl ?_
      refine zw_getIv (j := 3) (kd := 3) (v := (nI (P))) dX3_allDebts_6 hq.i hq.k (by decide) (by decide) fl_X3_67 rfl hw.1 ?_
      refine zw_icmp_ge_n (tgt := 27) dX3_allDebts_9 (by decide) (by omega) (by omega) (fun c9 => ?_) (fun c9 => by omega)
      refine zw_iload_n dX3_allDebts_27 rfl ?_
      exact zw_iretE dX3_allDebts_28 rfl (rfl) rfl (rfl)
    | succ n_4 ih4 =>
      intro k hk4
      have hlt4 : k < P := by omega
      refine zw_iload_n dX3_allDebts_4 rfl ?_
      refine zw_aload_n dX3_allDebts_5 rfl ?_
      refine zw_getIv (j := 3) (kd := 3) (v := (nI (P))) dX3_allDebts_6 hq.i hq.k (by decide) (by decide) fl_X3_67 rfl hw.1 ?_
      refine zw_icmp_ge_n (tgt := 27) dX3_allDebts_9 (by decide) (by omega) (by omega) (fun c9 => by omega) (fun c9 => ?_)
      refine zw_iload_n dX3_allDebts_12 rfl ?_
      refine zw_aload_n dX3_allDebts_13 rfl ?_
      refine zw_getR (j := 6) (kd := 3) dX3_allDebts_14 hq.i hq.k (by decide) (by decide) fl_X3_22 rfl hq.r2 ?_
      refine zw_iload_n dX3_allDebts_17 rfl ?_
      refine zw_iald dX3_allDebts_18 hq.i2 hq.k2 hq.L2 rfl (by rw [hq.n2]; omega) ?_
      refine zw_iadd dX3_allDebts_19 ?_
      refine zw_istore_n dX3_allDebts_20 (by decide) ?_
      refine zw_iincn dX3_allDebts_21 rfl (by decide) ?_
      refine zw_goto (tgt := 4) dX3_allDebts_24 (by decide) ?_
      exact WP.sub (ih4 (k + 1) (by omega)) ⟨rfl, rfl, rfl, trivial⟩
  exact WP.sub (L4 (P) 0 (by omega)) ⟨rfl, rfl, rfl, trivial⟩
set_option maxRecDepth 100000 in
set_option maxHeartbeats 4000000 in
theorem c_X3_allBids {sh : Sh} {C : Mem} {q P : Nat} (hq : IsSt sh q) (hw : Wf C q P)  : Calls mX3_allBids 2 0 0 [.inr (some (q))] sh C (some (.inl (sm (fun p => sm (fun s => n01 (bm C q p s)) 96) P))) sh (C) := by
  refine Calls.of plX3 (Nat.le_of_ble_eq_true rfl) ?_
  show WP mX3_allBids 2 0 0 0 [some (.inr (some (q))), none, none] [] sh (C) (some (.inl (sm (fun p => sm (fun s => n01 (bm C q p s)) 96) P))) sh (C)
  have hP12 := hw.2.1
  refine zw_iconst (v := nI 0) dX3_allBids_0 (by decide) ?_
  refine zw_istore_n dX3_allBids_1 (by decide) ?_
  refine zw_iconst (v := nI 0) dX3_allBids_2 (by decide) ?_
  refine zw_istore_n dX3_allBids_3 (by decide) ?_
  have L4 : ∀ (n_4 k : Nat), k + n_4 = P → WP mX3_allBids 2 0 0 4 [some (.inr (some (q))), some (.inl (sm (fun p => sm (fun s => n01 (bm C q p s)) 96) (k))), some (.inl (nI (k)))] [] sh (C) (some (.inl (sm (fun p => sm (fun s => n01 (bm C q p s)) 96) P))) sh (C) := by
    intro n_4
    induction n_4 with
    | zero =>
      intro k hk4
      have ek4 : P = k := by omega
      subst ek4
      refine zw_iload_n dX3_allBids_4 rfl ?_
      refine zw_aload_n dX3_allBids_5 rfl ?_
      refine zw_getIv (j := 3) (kd := 3) (v := (nI (P))) dX3_allBids_6 hq.i hq.k (by decide) (by decide) fl_X3_67 rfl hw.1 ?_
      refine zw_icmp_ge_n (tgt := 26) dX3_allBids_9 (by decide) (by omega) (by omega) (fun c9 => ?_) (fun c9 => by omega)
      refine zw_iload_n dX3_allBids_26 rfl ?_
      exact zw_iretE dX3_allBids_27 rfl (rfl) rfl (rfl)
    | succ n_4 ih4 =>
      intro k hk4
      have hlt4 : k < P := by omega
      refine zw_iload_n dX3_allBids_4 rfl ?_
      refine zw_aload_n dX3_allBids_5 rfl ?_
      refine zw_getIv (j := 3) (kd := 3) (v := (nI (P))) dX3_allBids_6 hq.i hq.k (by decide) (by decide) fl_X3_67 rfl hw.1 ?_
      refine zw_icmp_ge_n (tgt := 26) dX3_allBids_9 (by decide) (by omega) (by omega) (fun c9 => by omega) (fun c9 => ?_)
      refine zw_iload_n dX3_allBids_12 rfl ?_
      refine zw_aload_n dX3_allBids_13 rfl ?_
      refine zw_iload_n dX3_allBids_14 rfl ?_
      refine zw_cVi dX3_allBids_15 (c_X3_bidsBy hq (by omega)) rfl okX3_bidsBy ml_X3_101 hq.i hq.k (by decide) rfl (Nat.le_of_ble_eq_true rfl) (Nat.le_of_ble_eq_true rfl) ?_
      refine zw_iadd dX3_allBids_18 ?_
      refine zw_istore_n dX3_allBids_19 (by decide) ?_
      refine zw_iincn dX3_allBids_20 rfl (by decide) ?_
      refine zw_goto (tgt := 4) dX3_allBids_23 (by decide) ?_
      exact WP.sub (ih4 (k + 1) (by omega)) ⟨rfl, rfl, rfl, trivial⟩
  exact WP.sub (L4 (P) 0 (by omega)) ⟨rfl, rfl, rfl, trivial⟩
def stg (C : Mem) (q P s : Nat) (sd : Int32) : Int32 := sB C q P s sd + (if sd = 0 then C (q + 11) s else nI 0)
set_option maxRecDepth 100000 in
set_option maxHeartbeats 4000000 in
theorem c_X3_strength {sh : Sh} {C : Mem} {q P : Nat} (hq : IsSt sh q) (hw : Wf C q P) {s : Nat} (hs : s < 96) (sd : Int32) : Calls mX3_strength 2 0 0 [.inr (some (q)), .inl (nI (s)), .inl (sd)] sh C (some (.inl (stg C q P s sd))) sh (C) := by
  refine Calls.of plX3 (Nat.le_of_ble_eq_true rfl) ?_
  show WP mX3_strength 2 0 0 0 [some (.inr (some (q))), some (.inl (nI (s))), some (.inl (sd))] [] sh (C) (some (.inl (stg C q P s sd))) sh (C)
  refine zw_aload_n dX3_strength_0 rfl ?_
  refine zw_iload_n dX3_strength_1 rfl ?_
  refine zw_iload_n dX3_strength_2 rfl ?_
  refine zw_cVi dX3_strength_3 (c_X3_sumOfBids hq hw (by omega) _) rfl okX3_sumOfBids ml_X3_104 hq.i hq.k (by decide) rfl (Nat.le_of_ble_eq_true rfl) (Nat.le_of_ble_eq_true rfl) ?_
  refine zw_iload_n dX3_strength_6 rfl ?_
  refine zw_if_ne (tgt := 19) dX3_strength_7 (by decide) (fun c7 => ?_) (fun c7 => ?_)
  · refine zw_iconst (v := nI 0) dX3_strength_19 (by decide) ?_
    refine zw_iadd dX3_strength_20 ?_
    exact zw_iretE dX3_strength_21 rfl (by simp [stg, *]) rfl (rfl)
  · refine zw_aload_n dX3_strength_10 rfl ?_
    refine zw_getR (j := 14) (kd := 3) dX3_strength_11 hq.i hq.k (by decide) (by decide) fl_X3_46 rfl hq.r10 ?_
    refine zw_iload_n dX3_strength_14 rfl ?_
    refine zw_iald dX3_strength_15 hq.i10 hq.k10 hq.L10 rfl (by rw [hq.n10]; omega) ?_
    refine zw_goto (tgt := 20) dX3_strength_16 (by decide) ?_
    refine zw_iadd dX3_strength_20 ?_
    exact zw_iretE dX3_strength_21 rfl (by simp [stg, *]) rfl (rfl)
def oT (C : Mem) (q P s : Nat) : Int32 := if nB C q P s = 0 then C (q + 10) s else if stg C q P s (nI 0) = stg C q P s (nI 1) then C (q + 12) s else if stg C q P s (nI 1) < stg C q P s (nI 0) then nI 0 else nI 1
set_option maxRecDepth 100000 in
set_option maxHeartbeats 4000000 in
theorem c_X3_ownerThen {sh : Sh} {C : Mem} {q P : Nat} (hq : IsSt sh q) (hw : Wf C q P) {s : Nat} (hs : s < 96) : Calls mX3_ownerThen 3 0 0 [.inr (some (q)), .inl (nI (s))] sh C (some (.inl (oT C q P s))) sh (C) := by
  refine Calls.of plX3 (Nat.le_of_ble_eq_true rfl) ?_
  show WP mX3_ownerThen 3 0 0 0 [some (.inr (some (q))), some (.inl (nI (s))), none, none] [] sh (C) (some (.inl (oT C q P s))) sh (C)
  refine zw_aload_n dX3_ownerThen_0 rfl ?_
  refine zw_iload_n dX3_ownerThen_1 rfl ?_
  refine zw_cVi dX3_ownerThen_2 (c_X3_bidsFor hq hw (by omega)) rfl okX3_bidsFor ml_X3_107 hq.i hq.k (by decide) rfl (Nat.le_of_ble_eq_true rfl) (Nat.le_of_ble_eq_true rfl) ?_
  refine zw_if_ne (tgt := 15) dX3_ownerThen_5 (by decide) (fun c5 => ?_) (fun c5 => ?_)
  · refine zw_aload_n dX3_ownerThen_15 rfl ?_
    refine zw_iload_n dX3_ownerThen_16 rfl ?_
    refine zw_iconst (v := nI 0) dX3_ownerThen_17 (by decide) ?_
    refine zw_cVi dX3_ownerThen_18 (c_X3_strength hq hw (by omega) _) rfl okX3_strength ml_X3_110 hq.i hq.k (by decide) rfl (Nat.le_of_ble_eq_true rfl) (Nat.le_of_ble_eq_true rfl) ?_
    refine zw_istore_n dX3_ownerThen_21 (by decide) ?_
    refine zw_aload_n dX3_ownerThen_22 rfl ?_
    refine zw_iload_n dX3_ownerThen_23 rfl ?_
    refine zw_iconst (v := nI 1) dX3_ownerThen_24 (by decide) ?_
    refine zw_cVi dX3_ownerThen_25 (c_X3_strength hq hw (by omega) _) rfl okX3_strength ml_X3_110 hq.i hq.k (by decide) rfl (Nat.le_of_ble_eq_true rfl) (Nat.le_of_ble_eq_true rfl) ?_
    refine zw_istore_n dX3_ownerThen_28 (by decide) ?_
    refine zw_iload_n dX3_ownerThen_29 rfl ?_
    refine zw_iload_n dX3_ownerThen_30 rfl ?_
    refine zw_icmp_ne (tgt := 41) dX3_ownerThen_31 (by decide) (fun c31 => ?_) (fun c31 => ?_)
    · refine zw_iload_n dX3_ownerThen_41 rfl ?_
      refine zw_iload_n dX3_ownerThen_42 rfl ?_
      refine zw_icmp_le (tgt := 50) dX3_ownerThen_43 (by decide) (fun c43 => ?_) (fun c43 => ?_)
      · refine zw_iconst (v := nI 1) dX3_ownerThen_50 (by decide) ?_
        exact zw_iretE dX3_ownerThen_51 rfl (by simp [oT, *]) rfl (rfl)
      · refine zw_iconst (v := nI 0) dX3_ownerThen_46 (by decide) ?_
        refine zw_goto (tgt := 51) dX3_ownerThen_47 (by decide) ?_
        exact zw_iretE dX3_ownerThen_51 rfl (by simp [oT, *]) rfl (rfl)
    · refine zw_aload_n dX3_ownerThen_34 rfl ?_
      refine zw_getR (j := 15) (kd := 3) dX3_ownerThen_35 hq.i hq.k (by decide) (by decide) fl_X3_49 rfl hq.r11 ?_
      refine zw_iload_n dX3_ownerThen_38 rfl ?_
      refine zw_iald dX3_ownerThen_39 hq.i11 hq.k11 hq.L11 rfl (by rw [hq.n11]; omega) ?_
      exact zw_iretE dX3_ownerThen_40 rfl (by simp [oT, *]) rfl (rfl)
  · refine zw_aload_n dX3_ownerThen_8 rfl ?_
    refine zw_getR (j := 13) (kd := 3) dX3_ownerThen_9 hq.i hq.k (by decide) (by decide) fl_X3_43 rfl hq.r9 ?_
    refine zw_iload_n dX3_ownerThen_12 rfl ?_
    refine zw_iald dX3_ownerThen_13 hq.i9 hq.k9 hq.L9 rfl (by rw [hq.n9]; omega) ?_
    exact zw_iretE dX3_ownerThen_14 rfl (by simp [oT, *]) rfl (rfl)
def mF (C : Mem) (q P s : Nat) (sd : Int32) : Int32 := if oT C q P s = sd then nI 0 else mx (nI 1) (if C (q + 12) s = sd then stg C q P s (oS sd) - stg C q P s sd else stg C q P s (oS sd) - stg C q P s sd + nI 1)
set_option maxRecDepth 100000 in
set_option maxHeartbeats 4000000 in
theorem c_X3_missingFor {sh : Sh} {C : Mem} {q P : Nat} (hq : IsSt sh q) (hw : Wf C q P) {s : Nat} (hs : s < 96) (sd : Int32) : Calls mX3_missingFor 4 0 0 [.inr (some (q)), .inl (nI (s)), .inl (sd)] sh C (some (.inl (mF C q P s sd))) sh (C) := by
  refine Calls.of plX3 (Nat.le_of_ble_eq_true rfl) ?_
  show WP mX3_missingFor 4 0 0 0 [some (.inr (some (q))), some (.inl (nI (s))), some (.inl (sd)), none, none] [] sh (C) (some (.inl (mF C q P s sd))) sh (C)
  refine zw_aload_n dX3_missingFor_0 rfl ?_
  refine zw_iload_n dX3_missingFor_1 rfl ?_
  refine zw_cVi dX3_missingFor_2 (c_X3_ownerThen hq hw (by omega)) rfl okX3_ownerThen ml_X3_113 hq.i hq.k (by decide) rfl (Nat.le_of_ble_eq_true rfl) (Nat.le_of_ble_eq_true rfl) ?_
  refine zw_iload_n dX3_missingFor_5 rfl ?_
  refine zw_icmp_ne (tgt := 11) dX3_missingFor_6 (by decide) (fun c6 => ?_) (fun c6 => ?_)
  · refine zw_aload_n dX3_missingFor_11 rfl ?_
    refine zw_iload_n dX3_missingFor_12 rfl ?_
    refine zw_iload_n dX3_missingFor_13 rfl ?_
    refine zw_cNi dX3_missingFor_14 (c_X4_otherSide _) rfl okX4_otherSide nl_X3_116 (Nat.le_of_ble_eq_true rfl) (Nat.le_of_ble_eq_true rfl) ?_
    refine zw_cVi dX3_missingFor_17 (c_X3_strength hq hw (by omega) _) rfl okX3_strength ml_X3_110 hq.i hq.k (by decide) rfl (Nat.le_of_ble_eq_true rfl) (Nat.le_of_ble_eq_true rfl) ?_
    refine zw_aload_n dX3_missingFor_20 rfl ?_
    refine zw_iload_n dX3_missingFor_21 rfl ?_
    refine zw_iload_n dX3_missingFor_22 rfl ?_
    refine zw_cVi dX3_missingFor_23 (c_X3_strength hq hw (by omega) _) rfl okX3_strength ml_X3_110 hq.i hq.k (by decide) rfl (Nat.le_of_ble_eq_true rfl) (Nat.le_of_ble_eq_true rfl) ?_
    refine zw_isub dX3_missingFor_26 ?_
    refine zw_istore_n dX3_missingFor_27 (by decide) ?_
    refine zw_aload_n dX3_missingFor_28 rfl ?_
    refine zw_getR (j := 15) (kd := 3) dX3_missingFor_29 hq.i hq.k (by decide) (by decide) fl_X3_49 rfl hq.r11 ?_
    refine zw_iload_n dX3_missingFor_32 rfl ?_
    refine zw_iald dX3_missingFor_33 hq.i11 hq.k11 hq.L11 rfl (by rw [hq.n11]; omega) ?_
    refine zw_iload_n dX3_missingFor_34 rfl ?_
    refine zw_icmp_ne (tgt := 42) dX3_missingFor_35 (by decide) (fun c35 => ?_) (fun c35 => ?_)
    · refine zw_iload_n dX3_missingFor_42 rfl ?_
      refine zw_iconst (v := nI 1) dX3_missingFor_43 (by decide) ?_
      refine zw_iadd dX3_missingFor_44 ?_
      refine zw_istore dX3_missingFor_45 (by decide) ?_
      refine zw_iconst (v := nI 1) dX3_missingFor_47 (by decide) ?_
      refine zw_iload dX3_missingFor_48 rfl ?_
      refine zw_mmax dX3_missingFor_50 ml_X3_119 (by decide) (Nat.le_of_ble_eq_true rfl) ?_
      exact zw_iretE dX3_missingFor_53 rfl (by simp [mF, mx, *]) rfl (rfl)
    · refine zw_iload_n dX3_missingFor_38 rfl ?_
      refine zw_goto (tgt := 45) dX3_missingFor_39 (by decide) ?_
      refine zw_istore dX3_missingFor_45 (by decide) ?_
      refine zw_iconst (v := nI 1) dX3_missingFor_47 (by decide) ?_
      refine zw_iload dX3_missingFor_48 rfl ?_
      refine zw_mmax dX3_missingFor_50 ml_X3_119 (by decide) (Nat.le_of_ble_eq_true rfl) ?_
      exact zw_iretE dX3_missingFor_53 rfl (by simp [mF, mx, *]) rfl (rfl)
  · refine zw_iconst (v := nI 0) dX3_missingFor_9 (by decide) ?_
    exact zw_iretE dX3_missingFor_10 rfl (by simp [mF, mx, *]) rfl (rfl)
end
section
/-! ===== State: what changes ===== -/
def cpM (C : Mem) (f q : Nat) : Mem :=
  let C1 := up C q 0 (C f 0)
  let C2 := up C1 q 1 (C1 f 1)
  let C3 := up C2 q 2 (C2 f 2)
  let C4 := up C3 q 3 (C3 f 3)
  let C5 := cpy C4 (f + 1) (q + 1) 0 0 12
  let C6 := cpy C5 (f + 2) (q + 2) 0 0 12
  let C7 := cpy C6 (f + 3) (q + 3) 0 0 12
  let C8 := cpy C7 (f + 4) (q + 4) 0 0 12
  let C9 := cpy C8 (f + 5) (q + 5) 0 0 12
  let C10 := cpy C9 (f + 6) (q + 6) 0 0 12
  let C11 := cpy C10 (f + 7) (q + 7) 0 0 12
  let C12 := cpy C11 (f + 8) (q + 8) 0 0 12
  let C13 := cpy C12 (f + 9) (q + 9) 0 0 1152
  let C14 := cpy C13 (f + 10) (q + 10) 0 0 96
  let C15 := cpy C14 (f + 11) (q + 11) 0 0 96
  let C16 := cpy C15 (f + 12) (q + 12) 0 0 96
  let C17 := cpy C16 (f + 13) (q + 13) 0 0 96
  let C18 := cpy C17 (f + 14) (q + 14) 0 0 96
  let C19 := cpy C18 (f + 15) (q + 15) 0 0 4
  C19
theorem cpy_ne {C : Mem} {a b u v w c : Nat} (h : c ≠ b) : cpy C a b u v w c = C c := by simp [cpy, h]
theorem cpM_ne {C : Mem} {f q c : Nat} (h : c < q ∨ q + 16 ≤ c) : cpM C f q c = C c := by
  show cpy (cpy (cpy (cpy (cpy (cpy (cpy (cpy (cpy (cpy (cpy (cpy (cpy (cpy (cpy (up (up (up (up C q 0 _) q 1 _) q 2 _) q 3 _) _ _ _ _ _) _ _ _ _ _) _ _ _ _ _) _ _ _ _ _) _ _ _ _ _) _ _ _ _ _) _ _ _ _ _) _ _ _ _ _) _ _ _ _ _) _ _ _ _ _) _ _ _ _ _) _ _ _ _ _) _ _ _ _ _) _ _ _ _ _) _ _ _ _ _ c = C c
  rw [cpy_ne (by omega), cpy_ne (by omega), cpy_ne (by omega), cpy_ne (by omega), cpy_ne (by omega), cpy_ne (by omega), cpy_ne (by omega), cpy_ne (by omega), cpy_ne (by omega), cpy_ne (by omega), cpy_ne (by omega), cpy_ne (by omega), cpy_ne (by omega), cpy_ne (by omega), cpy_ne (by omega), up_ne (by omega), up_ne (by omega), up_ne (by omega), up_ne (by omega)]
set_option maxRecDepth 100000 in
set_option maxHeartbeats 4000000 in
theorem c_X3_copyFrom {sh : Sh} {C : Mem} {q f : Nat} (hq : IsSt sh q) (hf : IsSt sh f) : Calls mX3_copyFrom 1 0 0 [.inr (some (q)), .inr (some (f))] sh C (none) sh (cpM C f q) := by
  refine Calls.of plX3 (Nat.le_of_ble_eq_true rfl) ?_
  show WP mX3_copyFrom 1 0 0 0 [some (.inr (some (q))), some (.inr (some (f)))] [] sh (C) (none) sh (cpM C f q)
  refine zw_aload_n dX3_copyFrom_0 rfl ?_
  refine zw_aload_n dX3_copyFrom_1 rfl ?_
  refine zw_getI (j := 0) (kd := 3) dX3_copyFrom_2 hf.i hf.k (by decide) (by decide) fl_X3_61 rfl ?_
  refine zw_putI (j := 0) (kd := 3) dX3_copyFrom_5 hq.i hq.k (by decide) (by decide) fl_X3_61 rfl rfl rfl ?_
  refine zw_aload_n dX3_copyFrom_8 rfl ?_
  refine zw_aload_n dX3_copyFrom_9 rfl ?_
  refine zw_getI (j := 1) (kd := 3) dX3_copyFrom_10 hf.i hf.k (by decide) (by decide) fl_X3_9 rfl ?_
  refine zw_putI (j := 1) (kd := 3) dX3_copyFrom_13 hq.i hq.k (by decide) (by decide) fl_X3_9 rfl rfl rfl ?_
  refine zw_aload_n dX3_copyFrom_16 rfl ?_
  refine zw_aload_n dX3_copyFrom_17 rfl ?_
  refine zw_getI (j := 2) (kd := 3) dX3_copyFrom_18 hf.i hf.k (by decide) (by decide) fl_X3_64 rfl ?_
  refine zw_putI (j := 2) (kd := 3) dX3_copyFrom_21 hq.i hq.k (by decide) (by decide) fl_X3_64 rfl rfl rfl ?_
  refine zw_aload_n dX3_copyFrom_24 rfl ?_
  refine zw_aload_n dX3_copyFrom_25 rfl ?_
  refine zw_getI (j := 3) (kd := 3) dX3_copyFrom_26 hf.i hf.k (by decide) (by decide) fl_X3_67 rfl ?_
  refine zw_putI (j := 3) (kd := 3) dX3_copyFrom_29 hq.i hq.k (by decide) (by decide) fl_X3_67 rfl rfl rfl ?_
  refine zw_aload_n dX3_copyFrom_32 rfl ?_
  refine zw_getR (j := 4) (kd := 3) dX3_copyFrom_33 hf.i hf.k (by decide) (by decide) fl_X3_15 rfl hf.r0 ?_
  refine zw_iconst (v := nI 0) dX3_copyFrom_36 (by decide) ?_
  refine zw_aload_n dX3_copyFrom_37 rfl ?_
  refine zw_getR (j := 4) (kd := 3) dX3_copyFrom_38 hq.i hq.k (by decide) (by decide) fl_X3_15 rfl hq.r0 ?_
  refine zw_iconst (v := nI 0) dX3_copyFrom_41 (by decide) ?_
  refine zw_bipush (v := nI 12) dX3_copyFrom_42 (by decide) ?_
  refine zw_copy dX3_copyFrom_44 ml_X3_70 (by decide) (Nat.le_of_ble_eq_true rfl) hf.i0 hf.k0 hq.i0 hq.k0 rfl rfl rfl ⟨by decide, by decide, by decide⟩ (by rw [hf.n0]; decide) (by rw [hq.n0]; decide) ?_
  refine zw_aload_n dX3_copyFrom_47 rfl ?_
  refine zw_getR (j := 5) (kd := 3) dX3_copyFrom_48 hf.i hf.k (by decide) (by decide) fl_X3_19 rfl hf.r1 ?_
  refine zw_iconst (v := nI 0) dX3_copyFrom_51 (by decide) ?_
  refine zw_aload_n dX3_copyFrom_52 rfl ?_
  refine zw_getR (j := 5) (kd := 3) dX3_copyFrom_53 hq.i hq.k (by decide) (by decide) fl_X3_19 rfl hq.r1 ?_
  refine zw_iconst (v := nI 0) dX3_copyFrom_56 (by decide) ?_
  refine zw_bipush (v := nI 12) dX3_copyFrom_57 (by decide) ?_
  refine zw_copy dX3_copyFrom_59 ml_X3_70 (by decide) (Nat.le_of_ble_eq_true rfl) hf.i1 hf.k1 hq.i1 hq.k1 rfl rfl rfl ⟨by decide, by decide, by decide⟩ (by rw [hf.n1]; decide) (by rw [hq.n1]; decide) ?_
  refine zw_aload_n dX3_copyFrom_62 rfl ?_
  refine zw_getR (j := 6) (kd := 3) dX3_copyFrom_63 hf.i hf.k (by decide) (by decide) fl_X3_22 rfl hf.r2 ?_
  refine zw_iconst (v := nI 0) dX3_copyFrom_66 (by decide) ?_
  refine zw_aload_n dX3_copyFrom_67 rfl ?_
  refine zw_getR (j := 6) (kd := 3) dX3_copyFrom_68 hq.i hq.k (by decide) (by decide) fl_X3_22 rfl hq.r2 ?_
  refine zw_iconst (v := nI 0) dX3_copyFrom_71 (by decide) ?_
  refine zw_bipush (v := nI 12) dX3_copyFrom_72 (by decide) ?_
  refine zw_copy dX3_copyFrom_74 ml_X3_70 (by decide) (Nat.le_of_ble_eq_true rfl) hf.i2 hf.k2 hq.i2 hq.k2 rfl rfl rfl ⟨by decide, by decide, by decide⟩ (by rw [hf.n2]; decide) (by rw [hq.n2]; decide) ?_
  refine zw_aload_n dX3_copyFrom_77 rfl ?_
  refine zw_getR (j := 7) (kd := 3) dX3_copyFrom_78 hf.i hf.k (by decide) (by decide) fl_X3_25 rfl hf.r3 ?_
  refine zw_iconst (v := nI 0) dX3_copyFrom_81 (by decide) ?_
  refine zw_aload_n dX3_copyFrom_82 rfl ?_
  refine zw_getR (j := 7) (kd := 3) dX3_copyFrom_83 hq.i hq.k (by decide) (by decide) fl_X3_25 rfl hq.r3 ?_
  refine zw_iconst (v := nI 0) dX3_copyFrom_86 (by decide) ?_
  refine zw_bipush (v := nI 12) dX3_copyFrom_87 (by decide) ?_
  refine zw_copy dX3_copyFrom_89 ml_X3_70 (by decide) (Nat.le_of_ble_eq_true rfl) hf.i3 hf.k3 hq.i3 hq.k3 rfl rfl rfl ⟨by decide, by decide, by decide⟩ (by rw [hf.n3]; decide) (by rw [hq.n3]; decide) ?_
  refine zw_aload_n dX3_copyFrom_92 rfl ?_
  refine zw_getR (j := 8) (kd := 3) dX3_copyFrom_93 hf.i hf.k (by decide) (by decide) fl_X3_28 rfl hf.r4 ?_
  refine zw_iconst (v := nI 0) dX3_copyFrom_96 (by decide) ?_
  refine zw_aload_n dX3_copyFrom_97 rfl ?_
  refine zw_getR (j := 8) (kd := 3) dX3_copyFrom_98 hq.i hq.k (by decide) (by decide) fl_X3_28 rfl hq.r4 ?_
  refine zw_iconst (v := nI 0) dX3_copyFrom_101 (by decide) ?_
  refine zw_bipush (v := nI 12) dX3_copyFrom_102 (by decide) ?_
  refine zw_copy dX3_copyFrom_104 ml_X3_70 (by decide) (Nat.le_of_ble_eq_true rfl) hf.i4 hf.k4 hq.i4 hq.k4 rfl rfl rfl ⟨by decide, by decide, by decide⟩ (by rw [hf.n4]; decide) (by rw [hq.n4]; decide) ?_
  refine zw_aload_n dX3_copyFrom_107 rfl ?_
  refine zw_getR (j := 9) (kd := 3) dX3_copyFrom_108 hf.i hf.k (by decide) (by decide) fl_X3_31 rfl hf.r5 ?_
  refine zw_iconst (v := nI 0) dX3_copyFrom_111 (by decide) ?_
  refine zw_aload_n dX3_copyFrom_112 rfl ?_
  refine zw_getR (j := 9) (kd := 3) dX3_copyFrom_113 hq.i hq.k (by decide) (by decide) fl_X3_31 rfl hq.r5 ?_
  refine zw_iconst (v := nI 0) dX3_copyFrom_116 (by decide) ?_
  refine zw_bipush (v := nI 12) dX3_copyFrom_117 (by decide) ?_
  refine zw_copy dX3_copyFrom_119 ml_X3_70 (by decide) (Nat.le_of_ble_eq_true rfl) hf.i5 hf.k5 hq.i5 hq.k5 rfl rfl rfl ⟨by decide, by decide, by decide⟩ (by rw [hf.n5]; decide) (by rw [hq.n5]; decide) ?_
  refine zw_aload_n dX3_copyFrom_122 rfl ?_
  refine zw_getR (j := 10) (kd := 3) dX3_copyFrom_123 hf.i hf.k (by decide) (by decide) fl_X3_34 rfl hf.r6 ?_
  refine zw_iconst (v := nI 0) dX3_copyFrom_126 (by decide) ?_
  refine zw_aload_n dX3_copyFrom_127 rfl ?_
  refine zw_getR (j := 10) (kd := 3) dX3_copyFrom_128 hq.i hq.k (by decide) (by decide) fl_X3_34 rfl hq.r6 ?_
  refine zw_iconst (v := nI 0) dX3_copyFrom_131 (by decide) ?_
  refine zw_bipush (v := nI 12) dX3_copyFrom_132 (by decide) ?_
  refine zw_copy dX3_copyFrom_134 ml_X3_70 (by decide) (Nat.le_of_ble_eq_true rfl) hf.i6 hf.k6 hq.i6 hq.k6 rfl rfl rfl ⟨by decide, by decide, by decide⟩ (by rw [hf.n6]; decide) (by rw [hq.n6]; decide) ?_
  refine zw_aload_n dX3_copyFrom_137 rfl ?_
  refine zw_getR (j := 11) (kd := 3) dX3_copyFrom_138 hf.i hf.k (by decide) (by decide) fl_X3_37 rfl hf.r7 ?_
  refine zw_iconst (v := nI 0) dX3_copyFrom_141 (by decide) ?_
  refine zw_aload_n dX3_copyFrom_142 rfl ?_
  refine zw_getR (j := 11) (kd := 3) dX3_copyFrom_143 hq.i hq.k (by decide) (by decide) fl_X3_37 rfl hq.r7 ?_
  refine zw_iconst (v := nI 0) dX3_copyFrom_146 (by decide) ?_
  refine zw_bipush (v := nI 12) dX3_copyFrom_147 (by decide) ?_
  refine zw_copy dX3_copyFrom_149 ml_X3_70 (by decide) (Nat.le_of_ble_eq_true rfl) hf.i7 hf.k7 hq.i7 hq.k7 rfl rfl rfl ⟨by decide, by decide, by decide⟩ (by rw [hf.n7]; decide) (by rw [hq.n7]; decide) ?_
  refine zw_aload_n dX3_copyFrom_152 rfl ?_
  refine zw_getR (j := 12) (kd := 3) dX3_copyFrom_153 hf.i hf.k (by decide) (by decide) fl_X3_40 rfl hf.r8 ?_
  refine zw_iconst (v := nI 0) dX3_copyFrom_156 (by decide) ?_
  refine zw_aload_n dX3_copyFrom_157 rfl ?_
  refine zw_getR (j := 12) (kd := 3) dX3_copyFrom_158 hq.i hq.k (by decide) (by decide) fl_X3_40 rfl hq.r8 ?_
  refine zw_iconst (v := nI 0) dX3_copyFrom_161 (by decide) ?_
  refine zw_sipush (v := nI 1152) dX3_copyFrom_162 (by decide) ?_
  refine zw_copy dX3_copyFrom_165 ml_X3_70 (by decide) (Nat.le_of_ble_eq_true rfl) hf.i8 hf.k8 hq.i8 hq.k8 rfl rfl rfl ⟨by decide, by decide, by decide⟩ (by rw [hf.n8]; decide) (by rw [hq.n8]; decide) ?_
  refine zw_aload_n dX3_copyFrom_168 rfl ?_
  refine zw_getR (j := 13) (kd := 3) dX3_copyFrom_169 hf.i hf.k (by decide) (by decide) fl_X3_43 rfl hf.r9 ?_
  refine zw_iconst (v := nI 0) dX3_copyFrom_172 (by decide) ?_
  refine zw_aload_n dX3_copyFrom_173 rfl ?_
  refine zw_getR (j := 13) (kd := 3) dX3_copyFrom_174 hq.i hq.k (by decide) (by decide) fl_X3_43 rfl hq.r9 ?_
  refine zw_iconst (v := nI 0) dX3_copyFrom_177 (by decide) ?_
  refine zw_bipush (v := nI 96) dX3_copyFrom_178 (by decide) ?_
  refine zw_copy dX3_copyFrom_180 ml_X3_70 (by decide) (Nat.le_of_ble_eq_true rfl) hf.i9 hf.k9 hq.i9 hq.k9 rfl rfl rfl ⟨by decide, by decide, by decide⟩ (by rw [hf.n9]; decide) (by rw [hq.n9]; decide) ?_
  refine zw_aload_n dX3_copyFrom_183 rfl ?_
  refine zw_getR (j := 14) (kd := 3) dX3_copyFrom_184 hf.i hf.k (by decide) (by decide) fl_X3_46 rfl hf.r10 ?_
  refine zw_iconst (v := nI 0) dX3_copyFrom_187 (by decide) ?_
  refine zw_aload_n dX3_copyFrom_188 rfl ?_
  refine zw_getR (j := 14) (kd := 3) dX3_copyFrom_189 hq.i hq.k (by decide) (by decide) fl_X3_46 rfl hq.r10 ?_
  refine zw_iconst (v := nI 0) dX3_copyFrom_192 (by decide) ?_
  refine zw_bipush (v := nI 96) dX3_copyFrom_193 (by decide) ?_
  refine zw_copy dX3_copyFrom_195 ml_X3_70 (by decide) (Nat.le_of_ble_eq_true rfl) hf.i10 hf.k10 hq.i10 hq.k10 rfl rfl rfl ⟨by decide, by decide, by decide⟩ (by rw [hf.n10]; decide) (by rw [hq.n10]; decide) ?_
  refine zw_aload_n dX3_copyFrom_198 rfl ?_
  refine zw_getR (j := 15) (kd := 3) dX3_copyFrom_199 hf.i hf.k (by decide) (by decide) fl_X3_49 rfl hf.r11 ?_
  refine zw_iconst (v := nI 0) dX3_copyFrom_202 (by decide) ?_
  refine zw_aload_n dX3_copyFrom_203 rfl ?_
  refine zw_getR (j := 15) (kd := 3) dX3_copyFrom_204 hq.i hq.k (by decide) (by decide) fl_X3_49 rfl hq.r11 ?_
  refine zw_iconst (v := nI 0) dX3_copyFrom_207 (by decide) ?_
  refine zw_bipush (v := nI 96) dX3_copyFrom_208 (by decide) ?_
  refine zw_copy dX3_copyFrom_210 ml_X3_70 (by decide) (Nat.le_of_ble_eq_true rfl) hf.i11 hf.k11 hq.i11 hq.k11 rfl rfl rfl ⟨by decide, by decide, by decide⟩ (by rw [hf.n11]; decide) (by rw [hq.n11]; decide) ?_
  refine zw_aload_n dX3_copyFrom_213 rfl ?_
  refine zw_getR (j := 16) (kd := 3) dX3_copyFrom_214 hf.i hf.k (by decide) (by decide) fl_X3_52 rfl hf.r12 ?_
  refine zw_iconst (v := nI 0) dX3_copyFrom_217 (by decide) ?_
  refine zw_aload_n dX3_copyFrom_218 rfl ?_
  refine zw_getR (j := 16) (kd := 3) dX3_copyFrom_219 hq.i hq.k (by decide) (by decide) fl_X3_52 rfl hq.r12 ?_
  refine zw_iconst (v := nI 0) dX3_copyFrom_222 (by decide) ?_
  refine zw_bipush (v := nI 96) dX3_copyFrom_223 (by decide) ?_
  refine zw_copy dX3_copyFrom_225 ml_X3_70 (by decide) (Nat.le_of_ble_eq_true rfl) hf.i12 hf.k12 hq.i12 hq.k12 rfl rfl rfl ⟨by decide, by decide, by decide⟩ (by rw [hf.n12]; decide) (by rw [hq.n12]; decide) ?_
  refine zw_aload_n dX3_copyFrom_228 rfl ?_
  refine zw_getR (j := 17) (kd := 3) dX3_copyFrom_229 hf.i hf.k (by decide) (by decide) fl_X3_55 rfl hf.r13 ?_
  refine zw_iconst (v := nI 0) dX3_copyFrom_232 (by decide) ?_
  refine zw_aload_n dX3_copyFrom_233 rfl ?_
  refine zw_getR (j := 17) (kd := 3) dX3_copyFrom_234 hq.i hq.k (by decide) (by decide) fl_X3_55 rfl hq.r13 ?_
  refine zw_iconst (v := nI 0) dX3_copyFrom_237 (by decide) ?_
  refine zw_bipush (v := nI 96) dX3_copyFrom_238 (by decide) ?_
  refine zw_copy dX3_copyFrom_240 ml_X3_70 (by decide) (Nat.le_of_ble_eq_true rfl) hf.i13 hf.k13 hq.i13 hq.k13 rfl rfl rfl ⟨by decide, by decide, by decide⟩ (by rw [hf.n13]; decide) (by rw [hq.n13]; decide) ?_
  refine zw_aload_n dX3_copyFrom_243 rfl ?_
  refine zw_getR (j := 18) (kd := 3) dX3_copyFrom_244 hf.i hf.k (by decide) (by decide) fl_X3_58 rfl hf.r14 ?_
  refine zw_iconst (v := nI 0) dX3_copyFrom_247 (by decide) ?_
  refine zw_aload_n dX3_copyFrom_248 rfl ?_
  refine zw_getR (j := 18) (kd := 3) dX3_copyFrom_249 hq.i hq.k (by decide) (by decide) fl_X3_58 rfl hq.r14 ?_
  refine zw_iconst (v := nI 0) dX3_copyFrom_252 (by decide) ?_
  refine zw_iconst (v := nI 4) dX3_copyFrom_253 (by decide) ?_
  refine zw_copy dX3_copyFrom_254 ml_X3_70 (by decide) (Nat.le_of_ble_eq_true rfl) hf.i14 hf.k14 hq.i14 hq.k14 rfl rfl rfl ⟨by decide, by decide, by decide⟩ (by rw [hf.n14]; decide) (by rw [hq.n14]; decide) ?_
  exact zw_vretE dX3_copyFrom_257 rfl rfl rfl (rfl)
def cSt (C : Mem) (q s : Nat) (sd : Int32) (p : Nat) : Mem :=
  let am := bF (bm C q p s) sd
  if 0 < am then
    let C1 := up C (q + 1) p (C (q + 1) p - am)
    let C2 := up C1 (q + 5) p (C1 (q + 5) p + nI 1)
    up C2 (q + 6) p (C2 (q + 6) p + am)
  else C
def cM (C : Mem) (q s : Nat) (sd : Int32) : Nat → Mem
  | 0 => C
  | k + 1 => cSt (cM C q s sd k) q s sd k
def cP (C : Mem) (q s : Nat) (sd : Int32) : Nat → Int32
  | 0 => nI 0
  | k + 1 => if 0 < bF (bm (cM C q s sd k) q k s) sd then cP C q s sd k + bF (bm (cM C q s sd k) q k s) sd else cP C q s sd k
theorem cSt_ne {C : Mem} {q s p b : Nat} {sd : Int32} (h1 : b ≠ q + 1) (h2 : b ≠ q + 5) (h3 : b ≠ q + 6) : cSt C q s sd p b = C b := by
  unfold cSt
  by_cases h : 0 < bF (bm C q p s) sd
  · simp only [h, if_true]
    rw [up_ne h3, up_ne h2, up_ne h1]
  · simp only [h, if_false]
theorem cM_ne {C : Mem} {q s b : Nat} {sd : Int32} (h1 : b ≠ q + 1) (h2 : b ≠ q + 5) (h3 : b ≠ q + 6) : ∀ k, cM C q s sd k b = C b
  | 0 => rfl
  | k + 1 => (cSt_ne h1 h2 h3).trans (cM_ne h1 h2 h3 k)
theorem Wf.cM {C : Mem} {q P s : Nat} {sd : Int32} (h : Wf C q P) (k : Nat) : Wf (cM C q s sd k) q P := h.of (by rw [cM_ne (by omega) (by omega) (by omega)]) (cM_ne (by omega) (by omega) (by omega) k)
set_option maxRecDepth 100000 in
set_option maxHeartbeats 4000000 in
theorem c_X3_collectFrom {sh : Sh} {C : Mem} {q P : Nat} (hq : IsSt sh q) (hw : Wf C q P) {s : Nat} (hs : s < 96) (sd : Int32) : Calls mX3_collectFrom 1 0 0 [.inr (some (q)), .inl (nI (s)), .inl (sd)] sh C (some (.inl (cP C q s sd P))) sh (cM C q s sd P) := by
  refine Calls.of plX3 (Nat.le_of_ble_eq_true rfl) ?_
  show WP mX3_collectFrom 1 0 0 0 [some (.inr (some (q))), some (.inl (nI (s))), some (.inl (sd)), none, none, none] [] sh (C) (some (.inl (cP C q s sd P))) sh (cM C q s sd P)
  have hP12 := hw.2.1
  refine zw_iconst (v := nI 0) dX3_collectFrom_0 (by decide) ?_
  refine zw_istore_n dX3_collectFrom_1 (by decide) ?_
  refine zw_iconst (v := nI 0) dX3_collectFrom_2 (by decide) ?_
  refine zw_istore dX3_collectFrom_3 (by decide) ?_
  have L5 : ∀ (n_5 k : Nat), k + n_5 = P → WP mX3_collectFrom 1 0 0 5 [some (.inr (some (q))), some (.inl (nI (s))), some (.inl (sd)), some (.inl (cP C q s sd (k))), some (.inl (nI (k))), none] [] sh (cM C q s sd (k)) (some (.inl (cP C q s sd P))) sh (cM C q s sd P) := by
    intro n_5
    induction n_5 with
    | zero =>
      intro k hk5
      have ek5 : P = k := by omega
      subst ek5
      refine zw_iload dX3_collectFrom_5 rfl ?_
      refine zw_aload_n dX3_collectFrom_7 rfl ?_
      refine zw_getIv (j := 3) (kd := 3) (v := (nI (P))) dX3_collectFrom_8 hq.i hq.k (by decide) (by decide) fl_X3_67 rfl (hw.cM (P)).1 ?_
      refine zw_icmp_ge_n (tgt := 75) dX3_collectFrom_11 (by decide) (by omega) (by omega) (fun c11 => ?_) (fun c11 => by omega)
      refine zw_iload_n dX3_collectFrom_75 rfl ?_
      exact zw_iretE dX3_collectFrom_76 rfl (rfl) rfl (rfl)
    | succ n_5 ih5 =>
      intro k hk5
      have hlt5 : k < P := by omega
      refine zw_iload dX3_collectFrom_5 rfl ?_
      refine zw_aload_n dX3_collectFrom_7 rfl ?_
      refine zw_getIv (j := 3) (kd := 3) (v := (nI (P))) dX3_collectFrom_8 hq.i hq.k (by decide) (by decide) fl_X3_67 rfl (hw.cM (k)).1 ?_
      refine zw_icmp_ge_n (tgt := 75) dX3_collectFrom_11 (by decide) (by omega) (by omega) (fun c11 => by omega) (fun c11 => ?_)
      refine zw_aload_n dX3_collectFrom_14 rfl ?_
      refine zw_iload dX3_collectFrom_15 rfl ?_
      refine zw_iload_n dX3_collectFrom_17 rfl ?_
      refine zw_iload_n dX3_collectFrom_18 rfl ?_
      refine zw_cVi dX3_collectFrom_19 (c_X3_bidFor hq (by omega) (by omega) _) rfl okX3_bidFor ml_X3_76 hq.i hq.k (by decide) rfl (Nat.le_of_ble_eq_true rfl) (Nat.le_of_ble_eq_true rfl) ?_
      refine zw_istore dX3_collectFrom_22 (by decide) ?_
      refine zw_iload dX3_collectFrom_24 rfl ?_
      refine zw_if_le (tgt := 69) dX3_collectFrom_26 (by decide) (fun c26 => ?_) (fun c26 => ?_)
      · refine zw_iincn dX3_collectFrom_69 rfl (by decide) ?_
        refine zw_goto (tgt := 5) dX3_collectFrom_72 (by decide) ?_
        refine zw_mem (C2 := cM C q s sd (k + 1)) (by simp [cM, cSt, bm, *]) ?_
        exact WP.sub (ih5 (k + 1) (by omega)) ⟨rfl, rfl, rfl, (hd_eq (by simp [cP, bm, *])), rfl, trivial⟩
      · refine zw_aload_n dX3_collectFrom_29 rfl ?_
        refine zw_getR (j := 4) (kd := 3) dX3_collectFrom_30 hq.i hq.k (by decide) (by decide) fl_X3_15 rfl hq.r0 ?_
        refine zw_iload dX3_collectFrom_33 rfl ?_
        refine zw_dup2 dX3_collectFrom_35 ?_
        refine zw_iald dX3_collectFrom_36 hq.i0 hq.k0 hq.L0 rfl (by rw [hq.n0]; omega) ?_
        refine zw_iload dX3_collectFrom_37 rfl ?_
        refine zw_isub dX3_collectFrom_39 ?_
        refine zw_iast dX3_collectFrom_40 hq.i0 hq.k0 hq.L0 rfl (by rw [hq.n0]; omega) ?_
        refine zw_aload_n dX3_collectFrom_41 rfl ?_
        refine zw_getR (j := 8) (kd := 3) dX3_collectFrom_42 hq.i hq.k (by decide) (by decide) fl_X3_28 rfl hq.r4 ?_
        refine zw_iload dX3_collectFrom_45 rfl ?_
        refine zw_dup2 dX3_collectFrom_47 ?_
        refine zw_iald dX3_collectFrom_48 hq.i4 hq.k4 hq.L4 rfl (by rw [hq.n4]; omega) ?_
        refine zw_iconst (v := nI 1) dX3_collectFrom_49 (by decide) ?_
        refine zw_iadd dX3_collectFrom_50 ?_
        refine zw_iast dX3_collectFrom_51 hq.i4 hq.k4 hq.L4 rfl (by rw [hq.n4]; omega) ?_
        refine zw_aload_n dX3_collectFrom_52 rfl ?_
        refine zw_getR (j := 9) (kd := 3) dX3_collectFrom_53 hq.i hq.k (by decide) (by decide) fl_X3_31 rfl hq.r5 ?_
        refine zw_iload dX3_collectFrom_56 rfl ?_
        refine zw_dup2 dX3_collectFrom_58 ?_
        refine zw_iald dX3_collectFrom_59 hq.i5 hq.k5 hq.L5 rfl (by rw [hq.n5]; omega) ?_
        refine zw_iload dX3_collectFrom_60 rfl ?_
        refine zw_iadd dX3_collectFrom_62 ?_
        refine zw_iast dX3_collectFrom_63 hq.i5 hq.k5 hq.L5 rfl (by rw [hq.n5]; omega) ?_
        refine zw_iload_n dX3_collectFrom_64 rfl ?_
        refine zw_iload dX3_collectFrom_65 rfl ?_
        refine zw_iadd dX3_collectFrom_67 ?_
        refine zw_istore_n dX3_collectFrom_68 (by decide) ?_
        refine zw_iincn dX3_collectFrom_69 rfl (by decide) ?_
        refine zw_goto (tgt := 5) dX3_collectFrom_72 (by decide) ?_
        refine zw_mem (C2 := cM C q s sd (k + 1)) (by simp [cM, cSt, bm, *]) ?_
        exact WP.sub (ih5 (k + 1) (by omega)) ⟨rfl, rfl, rfl, (hd_eq (by simp [cP, bm, *])), rfl, trivial⟩
  exact WP.sub (L5 (P) 0 (by omega)) ⟨rfl, rfl, rfl, rfl, rfl, trivial⟩
def shSt (C : Mem) (q s : Nat) (sd m sum : Int32) (p : Nat) : Mem :=
  let x := m * bF (bm C q p s) sd / sum
  let C1 := rcv C q p x
  up C1 (q + 7) p (C1 (q + 7) p + x)
def shM (C : Mem) (q s : Nat) (sd m sum : Int32) : Nat → Mem
  | 0 => C
  | k + 1 => shSt (shM C q s sd m sum k) q s sd m sum k
def shP (C : Mem) (q s : Nat) (sd m sum : Int32) : Nat → Int32
  | 0 => nI 0
  | k + 1 => shP C q s sd m sum k + m * bF (bm (shM C q s sd m sum k) q k s) sd / sum
theorem shM_ne {C : Mem} {q s b : Nat} {sd m sum : Int32} (h1 : b ≠ q + 1) (h2 : b ≠ q + 3) (h3 : b ≠ q + 7) (h4 : b ≠ q + 15) : ∀ k, shM C q s sd m sum k b = C b
  | 0 => rfl
  | k + 1 => by
    show up (rcv _ _ _ _) _ _ _ b = _
    rw [up_ne h3, rcv_ne h1 h2 h4]
    exact shM_ne h1 h2 h3 h4 k
theorem Wf.shM {C : Mem} {q P s : Nat} {sd m sum : Int32} (h : Wf C q P) (k : Nat) : Wf (shM C q s sd m sum k) q P := h.of (by rw [shM_ne (by omega) (by omega) (by omega) (by omega)]) (shM_ne (by omega) (by omega) (by omega) (by omega) k)
def shRes (C : Mem) (q P s : Nat) (sd m : Int32) : Int32 := if 0 < sB C q P s sd then shP C q s sd m (sB C q P s sd) P else nI 0
def shMem (C : Mem) (q P s : Nat) (sd m : Int32) : Mem := if 0 < sB C q P s sd then shM C q s sd m (sB C q P s sd) P else C
theorem shMem_ne {C : Mem} {q P s b : Nat} {sd m : Int32} (h1 : b ≠ q + 1) (h2 : b ≠ q + 3) (h3 : b ≠ q + 7) (h4 : b ≠ q + 15) : shMem C q P s sd m b = C b := by
  unfold shMem
  split
  · exact shM_ne h1 h2 h3 h4 P
  · rfl
theorem Wf.shMem {C : Mem} {q P s : Nat} {sd m : Int32} (h : Wf C q P) : Wf (shMem C q P s sd m) q P := h.of (by rw [shMem_ne (by omega) (by omega) (by omega) (by omega)]) (shMem_ne (by omega) (by omega) (by omega) (by omega))
set_option maxRecDepth 100000 in
set_option maxHeartbeats 4000000 in
theorem c_X3_shareOut {sh : Sh} {C : Mem} {q P : Nat} (hq : IsSt sh q) (hw : Wf C q P) {s : Nat} (hs : s < 96) (sd m : Int32) : Calls mX3_shareOut 2 0 0 [.inr (some (q)), .inl (nI (s)), .inl (sd), .inl (m)] sh C (some (.inl (shRes C q P s sd m))) sh (shMem C q P s sd m) := by
  refine Calls.of plX3 (Nat.le_of_ble_eq_true rfl) ?_
  show WP mX3_shareOut 2 0 0 0 [some (.inr (some (q))), some (.inl (nI (s))), some (.inl (sd)), some (.inl (m)), none, none, none, none] [] sh (C) (some (.inl (shRes C q P s sd m))) sh (shMem C q P s sd m)
  have hP12 := hw.2.1
  refine zw_aload_n dX3_shareOut_0 rfl ?_
  refine zw_iload_n dX3_shareOut_1 rfl ?_
  refine zw_iload_n dX3_shareOut_2 rfl ?_
  refine zw_cVi dX3_shareOut_3 (c_X3_sumOfBids hq hw (by omega) _) rfl okX3_sumOfBids ml_X3_104 hq.i hq.k (by decide) rfl (Nat.le_of_ble_eq_true rfl) (Nat.le_of_ble_eq_true rfl) ?_
  refine zw_istore dX3_shareOut_6 (by decide) ?_
  refine zw_iload dX3_shareOut_8 rfl ?_
  refine zw_if_gt (tgt := 15) dX3_shareOut_10 (by decide) (fun c10 => ?_) (fun c10 => ?_)
  · refine zw_iconst (v := nI 0) dX3_shareOut_15 (by decide) ?_
    refine zw_istore dX3_shareOut_16 (by decide) ?_
    refine zw_iconst (v := nI 0) dX3_shareOut_18 (by decide) ?_
    refine zw_istore dX3_shareOut_19 (by decide) ?_
    have L21 : ∀ (n_21 k : Nat), k + n_21 = P → WP mX3_shareOut 2 0 0 21 [some (.inr (some (q))), some (.inl (nI (s))), some (.inl (sd)), some (.inl (m)), some (.inl ((sB C q P s sd))), some (.inl (shP C q s sd m (sB C q P s sd) (k))), some (.inl (nI (k))), none] [] sh (shM C q s sd m (sB C q P s sd) (k)) (some (.inl (shRes C q P s sd m))) sh (shMem C q P s sd m) := by
      intro n_21
      induction n_21 with
      | zero =>
        intro k hk21
        have ek21 : P = k := by omega
        subst ek21
        refine zw_iload dX3_shareOut_21 rfl ?_
        refine zw_aload_n dX3_shareOut_23 rfl ?_
        refine zw_getIv (j := 3) (kd := 3) (v := (nI (P))) dX3_shareOut_24 hq.i hq.k (by decide) (by decide) fl_X3_67 rfl (hw.shM (P)).1 ?_
        refine zw_icmp_ge_n (tgt := 78) dX3_shareOut_27 (by decide) (by omega) (by omega) (fun c27 => ?_) (fun c27 => by omega)
        refine zw_iload dX3_shareOut_78 rfl ?_
        exact zw_iretE dX3_shareOut_80 rfl (by simp [shRes, *]) rfl (by simp [shMem, *])
      | succ n_21 ih21 =>
        intro k hk21
        have hlt21 : k < P := by omega
        refine zw_iload dX3_shareOut_21 rfl ?_
        refine zw_aload_n dX3_shareOut_23 rfl ?_
        refine zw_getIv (j := 3) (kd := 3) (v := (nI (P))) dX3_shareOut_24 hq.i hq.k (by decide) (by decide) fl_X3_67 rfl (hw.shM (k)).1 ?_
        refine zw_icmp_ge_n (tgt := 78) dX3_shareOut_27 (by decide) (by omega) (by omega) (fun c27 => by omega) (fun c27 => ?_)
        refine zw_iload_n dX3_shareOut_30 rfl ?_
        refine zw_aload_n dX3_shareOut_31 rfl ?_
        refine zw_iload dX3_shareOut_32 rfl ?_
        refine zw_iload_n dX3_shareOut_34 rfl ?_
        refine zw_iload_n dX3_shareOut_35 rfl ?_
        refine zw_cVi dX3_shareOut_36 (c_X3_bidFor hq (by omega) (by omega) _) rfl okX3_bidFor ml_X3_76 hq.i hq.k (by decide) rfl (Nat.le_of_ble_eq_true rfl) (Nat.le_of_ble_eq_true rfl) ?_
        refine zw_imul dX3_shareOut_39 ?_
        refine zw_iload dX3_shareOut_40 rfl ?_
        refine zw_idiv dX3_shareOut_42 (fun z => absurd c10 (by rw [z]; decide)) ?_
        refine zw_istore dX3_shareOut_43 (by decide) ?_
        refine zw_aload_n dX3_shareOut_45 rfl ?_
        refine zw_iload dX3_shareOut_46 rfl ?_
        refine zw_iload dX3_shareOut_48 rfl ?_
        refine zw_cVv dX3_shareOut_50 (c_X3_receive hq (hw.shM (k)) (by omega) _) rfl okX3_receive ml_X3_141 hq.i hq.k (by decide) rfl (Nat.le_of_ble_eq_true rfl) (Nat.le_of_ble_eq_true rfl) ?_
        refine zw_aload_n dX3_shareOut_53 rfl ?_
        refine zw_getR (j := 10) (kd := 3) dX3_shareOut_54 hq.i hq.k (by decide) (by decide) fl_X3_34 rfl hq.r6 ?_
        refine zw_iload dX3_shareOut_57 rfl ?_
        refine zw_dup2 dX3_shareOut_59 ?_
        refine zw_iald dX3_shareOut_60 hq.i6 hq.k6 hq.L6 rfl (by rw [hq.n6]; omega) ?_
        refine zw_iload dX3_shareOut_61 rfl ?_
        refine zw_iadd dX3_shareOut_63 ?_
        refine zw_iast dX3_shareOut_64 hq.i6 hq.k6 hq.L6 rfl (by rw [hq.n6]; omega) ?_
        refine zw_iload dX3_shareOut_65 rfl ?_
        refine zw_iload dX3_shareOut_67 rfl ?_
        refine zw_iadd dX3_shareOut_69 ?_
        refine zw_istore dX3_shareOut_70 (by decide) ?_
        refine zw_iincn dX3_shareOut_72 rfl (by decide) ?_
        refine zw_goto (tgt := 21) dX3_shareOut_75 (by decide) ?_
        exact WP.sub (ih21 (k + 1) (by omega)) ⟨rfl, rfl, rfl, rfl, rfl, rfl, rfl, trivial⟩
    exact WP.sub (L21 (P) 0 (by omega)) ⟨rfl, rfl, rfl, rfl, rfl, rfl, rfl, trivial⟩
  · refine zw_iconst (v := nI 0) dX3_shareOut_13 (by decide) ?_
    exact zw_iretE dX3_shareOut_14 rfl (by simp [shRes, *]) rfl (by simp [shMem, *])
def bq (C : Mem) (q s : Nat) : Nat → Int32
  | 0 => nI 0
  | k + 1 => if 0 < bF (bm C q k s) (nI 0) then bq C q s k ||| (nI 1 <<< (nI k &&& 31)) else bq C q s k
set_option maxRecDepth 100000 in
set_option maxHeartbeats 4000000 in
theorem c_X3_biddersForQuiet {sh : Sh} {C : Mem} {q P : Nat} (hq : IsSt sh q) (hw : Wf C q P) {s : Nat} (hs : s < 96) : Calls mX3_biddersForQuiet 1 0 0 [.inr (some (q)), .inl (nI (s))] sh C (some (.inl (bq C q s P))) sh (C) := by
  refine Calls.of plX3 (Nat.le_of_ble_eq_true rfl) ?_
  show WP mX3_biddersForQuiet 1 0 0 0 [some (.inr (some (q))), some (.inl (nI (s))), none, none] [] sh (C) (some (.inl (bq C q s P))) sh (C)
  have hP12 := hw.2.1
  refine zw_iconst (v := nI 0) dX3_biddersForQuiet_0 (by decide) ?_
  refine zw_istore_n dX3_biddersForQuiet_1 (by decide) ?_
  refine zw_iconst (v := nI 0) dX3_biddersForQuiet_2 (by decide) ?_
  refine zw_istore_n dX3_biddersForQuiet_3 (by decide) ?_
  have L4 : ∀ (n_4 k : Nat), k + n_4 = P → WP mX3_biddersForQuiet 1 0 0 4 [some (.inr (some (q))), some (.inl (nI (s))), some (.inl (bq C q s (k))), some (.inl (nI (k)))] [] sh (C) (some (.inl (bq C q s P))) sh (C) := by
    intro n_4
    induction n_4 with
    | zero =>
      intro k hk4
      have ek4 : P = k := by omega
      subst ek4
      refine zw_iload_n dX3_biddersForQuiet_4 rfl ?_
      refine zw_aload_n dX3_biddersForQuiet_5 rfl ?_
      refine zw_getIv (j := 3) (kd := 3) (v := (nI (P))) dX3_biddersForQuiet_6 hq.i hq.k (by decide) (by decide) fl_X3_67 rfl hw.1 ?_
      refine zw_icmp_ge_n (tgt := 34) dX3_biddersForQuiet_9 (by decide) (by omega) (by omega) (fun c9 => ?_) (fun c9 => by omega)
      refine zw_iload_n dX3_biddersForQuiet_34 rfl ?_
      exact zw_iretE dX3_biddersForQuiet_35 rfl (rfl) rfl (rfl)
    | succ n_4 ih4 =>
      intro k hk4
      have hlt4 : k < P := by omega
      refine zw_iload_n dX3_biddersForQuiet_4 rfl ?_
      refine zw_aload_n dX3_biddersForQuiet_5 rfl ?_
      refine zw_getIv (j := 3) (kd := 3) (v := (nI (P))) dX3_biddersForQuiet_6 hq.i hq.k (by decide) (by decide) fl_X3_67 rfl hw.1 ?_
      refine zw_icmp_ge_n (tgt := 34) dX3_biddersForQuiet_9 (by decide) (by omega) (by omega) (fun c9 => by omega) (fun c9 => ?_)
      refine zw_aload_n dX3_biddersForQuiet_12 rfl ?_
      refine zw_iload_n dX3_biddersForQuiet_13 rfl ?_
      refine zw_iload_n dX3_biddersForQuiet_14 rfl ?_
      refine zw_iconst (v := nI 0) dX3_biddersForQuiet_15 (by decide) ?_
      refine zw_cVi dX3_biddersForQuiet_16 (c_X3_bidFor hq (by omega) (by omega) _) rfl okX3_bidFor ml_X3_76 hq.i hq.k (by decide) rfl (Nat.le_of_ble_eq_true rfl) (Nat.le_of_ble_eq_true rfl) ?_
      refine zw_if_le (tgt := 28) dX3_biddersForQuiet_19 (by decide) (fun c19 => ?_) (fun c19 => ?_)
      · refine zw_iincn dX3_biddersForQuiet_28 rfl (by decide) ?_
        refine zw_goto (tgt := 4) dX3_biddersForQuiet_31 (by decide) ?_
        exact WP.sub (ih4 (k + 1) (by omega)) ⟨rfl, rfl, (hd_eq (by simp [bq, bm, *])), rfl, trivial⟩
      · refine zw_iload_n dX3_biddersForQuiet_22 rfl ?_
        refine zw_iconst (v := nI 1) dX3_biddersForQuiet_23 (by decide) ?_
        refine zw_iload_n dX3_biddersForQuiet_24 rfl ?_
        refine zw_ishl dX3_biddersForQuiet_25 ?_
        refine zw_ior dX3_biddersForQuiet_26 ?_
        refine zw_istore_n dX3_biddersForQuiet_27 (by decide) ?_
        refine zw_iincn dX3_biddersForQuiet_28 rfl (by decide) ?_
        refine zw_goto (tgt := 4) dX3_biddersForQuiet_31 (by decide) ?_
        exact WP.sub (ih4 (k + 1) (by omega)) ⟨rfl, rfl, (hd_eq (by simp [bq, bm, *])), rfl, trivial⟩
  exact WP.sub (L4 (P) 0 (by omega)) ⟨rfl, rfl, rfl, rfl, trivial⟩
def sBM (C : Mem) (q P s : Nat) : Mem :=
  let sd := oT C q P s
  let ct := if sd = nI 1 then stg C q P s (nI 0) / nI 2 else nI 0
  let C1 := cM C q s sd P
  let C2 := shMem C1 q P s (oS sd) (cP C q s sd P)
  let C3 := up C2 (q + 15) (s / 24) (C2 (q + 15) (s / 24) + (cP C q s sd P - shRes C1 q P s (oS sd) (cP C q s sd P)))
  let C4 := up C3 (q + 10) s sd
  let C5 := up C4 (q + 11) s ct
  let C6 := up C5 (q + 12) s (oS sd)
  let C7 := up C6 (q + 13) s (if sd = 0 then bq C6 q s P else nI 0)
  up C7 (q + 14) s (cP C q s sd P)
theorem sBM_ne {C : Mem} {q P s b : Nat} (h0 : b ≠ q + 1) (h1 : b ≠ q + 3) (h2 : b ≠ q + 5) (h3 : b ≠ q + 6) (h4 : b ≠ q + 7) (h5 : b < q + 10 ∨ q + 16 ≤ b) : sBM C q P s b = C b := by
  unfold sBM
  rw [up_ne (by omega), up_ne (by omega), up_ne (by omega), up_ne (by omega), up_ne (by omega), up_ne (by omega), shMem_ne h0 h1 h4 (by omega), cM_ne h0 h2 h3]
theorem Wf.sBM {C : Mem} {q P s : Nat} (h : Wf C q P) : Wf (sBM C q P s) q P := h.of (by rw [sBM_ne (by omega) (by omega) (by omega) (by omega) (by omega) (by omega)]) (sBM_ne (by omega) (by omega) (by omega) (by omega) (by omega) (by omega))
set_option maxRecDepth 100000 in
set_option maxHeartbeats 4000000 in
theorem c_X3_settleBids {sh : Sh} {C : Mem} {q P : Nat} (hq : IsSt sh q) (hw : Wf C q P) {s : Nat} (hs : s < 96) : Calls mX3_settleBids 4 0 0 [.inr (some (q)), .inl (nI (s))] sh C (none) sh (sBM C q P s) := by
  refine Calls.of plX3 (Nat.le_of_ble_eq_true rfl) ?_
  show WP mX3_settleBids 4 0 0 0 [some (.inr (some (q))), some (.inl (nI (s))), none, none, none, none] [] sh (C) (none) sh (sBM C q P s)
  refine zw_aload_n dX3_settleBids_0 rfl ?_
  refine zw_iload_n dX3_settleBids_1 rfl ?_
  refine zw_cVi dX3_settleBids_2 (c_X3_ownerThen hq hw (by omega)) rfl okX3_ownerThen ml_X3_113 hq.i hq.k (by decide) rfl (Nat.le_of_ble_eq_true rfl) (Nat.le_of_ble_eq_true rfl) ?_
  refine zw_istore_n dX3_settleBids_5 (by decide) ?_
  refine zw_iload_n dX3_settleBids_6 rfl ?_
  refine zw_iconst (v := nI 1) dX3_settleBids_7 (by decide) ?_
  refine zw_icmp_ne (tgt := 22) dX3_settleBids_8 (by decide) (fun c8 => ?_) (fun c8 => ?_)
  · refine zw_iconst (v := nI 0) dX3_settleBids_22 (by decide) ?_
    refine zw_istore_n dX3_settleBids_23 (by decide) ?_
    refine zw_aload_n dX3_settleBids_24 rfl ?_
    refine zw_iload_n dX3_settleBids_25 rfl ?_
    refine zw_iload_n dX3_settleBids_26 rfl ?_
    refine zw_cVi dX3_settleBids_27 (c_X3_collectFrom hq hw (by omega) _) rfl okX3_collectFrom ml_X3_132 hq.i hq.k (by decide) rfl (Nat.le_of_ble_eq_true rfl) (Nat.le_of_ble_eq_true rfl) ?_
    refine zw_istore dX3_settleBids_30 (by decide) ?_
    refine zw_aload_n dX3_settleBids_32 rfl ?_
    refine zw_iload_n dX3_settleBids_33 rfl ?_
    refine zw_iload_n dX3_settleBids_34 rfl ?_
    refine zw_cNi dX3_settleBids_35 (c_X4_otherSide _) rfl okX4_otherSide nl_X3_116 (Nat.le_of_ble_eq_true rfl) (Nat.le_of_ble_eq_true rfl) ?_
    refine zw_iload dX3_settleBids_38 rfl ?_
    refine zw_cVi dX3_settleBids_40 (c_X3_shareOut hq (hw.cM _) (by omega) _ _) rfl okX3_shareOut ml_X3_135 hq.i hq.k (by decide) rfl (Nat.le_of_ble_eq_true rfl) (Nat.le_of_ble_eq_true rfl) ?_
    refine zw_istore dX3_settleBids_43 (by decide) ?_
    refine zw_aload_n dX3_settleBids_45 rfl ?_
    refine zw_getR (j := 18) (kd := 3) dX3_settleBids_46 hq.i hq.k (by decide) (by decide) fl_X3_58 rfl hq.r14 ?_
    refine zw_iload_n dX3_settleBids_49 rfl ?_
    refine zw_bipush (v := nI 24) dX3_settleBids_50 (by decide) ?_
    refine zw_idivn dX3_settleBids_52 (by omega) (by omega) (by omega) ?_
    refine zw_dup2 dX3_settleBids_53 ?_
    refine zw_iald dX3_settleBids_54 hq.i14 hq.k14 hq.L14 rfl (by rw [hq.n14]; omega) ?_
    refine zw_iload dX3_settleBids_55 rfl ?_
    refine zw_iload dX3_settleBids_57 rfl ?_
    refine zw_isub dX3_settleBids_59 ?_
    refine zw_iadd dX3_settleBids_60 ?_
    refine zw_iast dX3_settleBids_61 hq.i14 hq.k14 hq.L14 rfl (by rw [hq.n14]; omega) ?_
    refine zw_aload_n dX3_settleBids_62 rfl ?_
    refine zw_getR (j := 13) (kd := 3) dX3_settleBids_63 hq.i hq.k (by decide) (by decide) fl_X3_43 rfl hq.r9 ?_
    refine zw_iload_n dX3_settleBids_66 rfl ?_
    refine zw_iload_n dX3_settleBids_67 rfl ?_
    refine zw_iast dX3_settleBids_68 hq.i9 hq.k9 hq.L9 rfl (by rw [hq.n9]; omega) ?_
    refine zw_aload_n dX3_settleBids_69 rfl ?_
    refine zw_getR (j := 14) (kd := 3) dX3_settleBids_70 hq.i hq.k (by decide) (by decide) fl_X3_46 rfl hq.r10 ?_
    refine zw_iload_n dX3_settleBids_73 rfl ?_
    refine zw_iload_n dX3_settleBids_74 rfl ?_
    refine zw_iast dX3_settleBids_75 hq.i10 hq.k10 hq.L10 rfl (by rw [hq.n10]; omega) ?_
    refine zw_aload_n dX3_settleBids_76 rfl ?_
    refine zw_getR (j := 15) (kd := 3) dX3_settleBids_77 hq.i hq.k (by decide) (by decide) fl_X3_49 rfl hq.r11 ?_
    refine zw_iload_n dX3_settleBids_80 rfl ?_
    refine zw_iload_n dX3_settleBids_81 rfl ?_
    refine zw_cNi dX3_settleBids_82 (c_X4_otherSide _) rfl okX4_otherSide nl_X3_116 (Nat.le_of_ble_eq_true rfl) (Nat.le_of_ble_eq_true rfl) ?_
    refine zw_iast dX3_settleBids_85 hq.i11 hq.k11 hq.L11 rfl (by rw [hq.n11]; omega) ?_
    refine zw_aload_n dX3_settleBids_86 rfl ?_
    refine zw_getR (j := 16) (kd := 3) dX3_settleBids_87 hq.i hq.k (by decide) (by decide) fl_X3_52 rfl hq.r12 ?_
    refine zw_iload_n dX3_settleBids_90 rfl ?_
    refine zw_iload_n dX3_settleBids_91 rfl ?_
    refine zw_if_ne (tgt := 103) dX3_settleBids_92 (by decide) (fun c92 => ?_) (fun c92 => ?_)
    · refine zw_iconst (v := nI 0) dX3_settleBids_103 (by decide) ?_
      refine zw_iast dX3_settleBids_104 hq.i12 hq.k12 hq.L12 rfl (by rw [hq.n12]; omega) ?_
      refine zw_aload_n dX3_settleBids_105 rfl ?_
      refine zw_getR (j := 17) (kd := 3) dX3_settleBids_106 hq.i hq.k (by decide) (by decide) fl_X3_55 rfl hq.r13 ?_
      refine zw_iload_n dX3_settleBids_109 rfl ?_
      refine zw_iload dX3_settleBids_110 rfl ?_
      refine zw_iast dX3_settleBids_112 hq.i13 hq.k13 hq.L13 rfl (by rw [hq.n13]; omega) ?_
      exact zw_vretE dX3_settleBids_113 rfl rfl rfl (by simp only [sBM]; rw [if_neg c8, if_neg c92])
    · refine zw_aload_n dX3_settleBids_95 rfl ?_
      refine zw_iload_n dX3_settleBids_96 rfl ?_
      refine zw_cVi dX3_settleBids_97 (c_X3_biddersForQuiet hq (Wf.wr (Wf.wr (Wf.wr (Wf.wr (Wf.shMem (hw.cM _)) (by omega) (by omega)) (by omega) (by omega)) (by omega) (by omega)) (by omega) (by omega)) (by omega)) rfl okX3_biddersForQuiet ml_X3_138 hq.i hq.k (by decide) rfl (Nat.le_of_ble_eq_true rfl) (Nat.le_of_ble_eq_true rfl) ?_
      refine zw_goto (tgt := 104) dX3_settleBids_100 (by decide) ?_
      refine zw_iast dX3_settleBids_104 hq.i12 hq.k12 hq.L12 rfl (by rw [hq.n12]; omega) ?_
      refine zw_aload_n dX3_settleBids_105 rfl ?_
      refine zw_getR (j := 17) (kd := 3) dX3_settleBids_106 hq.i hq.k (by decide) (by decide) fl_X3_55 rfl hq.r13 ?_
      refine zw_iload_n dX3_settleBids_109 rfl ?_
      refine zw_iload dX3_settleBids_110 rfl ?_
      refine zw_iast dX3_settleBids_112 hq.i13 hq.k13 hq.L13 rfl (by rw [hq.n13]; omega) ?_
      exact zw_vretE dX3_settleBids_113 rfl rfl rfl (by simp only [sBM]; rw [if_neg c8, if_pos c92])
  · refine zw_aload_n dX3_settleBids_11 rfl ?_
    refine zw_iload_n dX3_settleBids_12 rfl ?_
    refine zw_iconst (v := nI 0) dX3_settleBids_13 (by decide) ?_
    refine zw_cVi dX3_settleBids_14 (c_X3_strength hq hw (by omega) _) rfl okX3_strength ml_X3_110 hq.i hq.k (by decide) rfl (Nat.le_of_ble_eq_true rfl) (Nat.le_of_ble_eq_true rfl) ?_
    refine zw_iconst (v := nI 2) dX3_settleBids_17 (by decide) ?_
    refine zw_idiv dX3_settleBids_18 (nI_ne0 (by decide) (by decide)) ?_
    refine zw_goto (tgt := 23) dX3_settleBids_19 (by decide) ?_
    refine zw_istore_n dX3_settleBids_23 (by decide) ?_
    refine zw_aload_n dX3_settleBids_24 rfl ?_
    refine zw_iload_n dX3_settleBids_25 rfl ?_
    refine zw_iload_n dX3_settleBids_26 rfl ?_
    refine zw_cVi dX3_settleBids_27 (c_X3_collectFrom hq hw (by omega) _) rfl okX3_collectFrom ml_X3_132 hq.i hq.k (by decide) rfl (Nat.le_of_ble_eq_true rfl) (Nat.le_of_ble_eq_true rfl) ?_
    refine zw_istore dX3_settleBids_30 (by decide) ?_
    refine zw_aload_n dX3_settleBids_32 rfl ?_
    refine zw_iload_n dX3_settleBids_33 rfl ?_
    refine zw_iload_n dX3_settleBids_34 rfl ?_
    refine zw_cNi dX3_settleBids_35 (c_X4_otherSide _) rfl okX4_otherSide nl_X3_116 (Nat.le_of_ble_eq_true rfl) (Nat.le_of_ble_eq_true rfl) ?_
    refine zw_iload dX3_settleBids_38 rfl ?_
    refine zw_cVi dX3_settleBids_40 (c_X3_shareOut hq (hw.cM _) (by omega) _ _) rfl okX3_shareOut ml_X3_135 hq.i hq.k (by decide) rfl (Nat.le_of_ble_eq_true rfl) (Nat.le_of_ble_eq_true rfl) ?_
    refine zw_istore dX3_settleBids_43 (by decide) ?_
    refine zw_aload_n dX3_settleBids_45 rfl ?_
    refine zw_getR (j := 18) (kd := 3) dX3_settleBids_46 hq.i hq.k (by decide) (by decide) fl_X3_58 rfl hq.r14 ?_
    refine zw_iload_n dX3_settleBids_49 rfl ?_
    refine zw_bipush (v := nI 24) dX3_settleBids_50 (by decide) ?_
    refine zw_idivn dX3_settleBids_52 (by omega) (by omega) (by omega) ?_
    refine zw_dup2 dX3_settleBids_53 ?_
    refine zw_iald dX3_settleBids_54 hq.i14 hq.k14 hq.L14 rfl (by rw [hq.n14]; omega) ?_
    refine zw_iload dX3_settleBids_55 rfl ?_
    refine zw_iload dX3_settleBids_57 rfl ?_
    refine zw_isub dX3_settleBids_59 ?_
    refine zw_iadd dX3_settleBids_60 ?_
    refine zw_iast dX3_settleBids_61 hq.i14 hq.k14 hq.L14 rfl (by rw [hq.n14]; omega) ?_
    refine zw_aload_n dX3_settleBids_62 rfl ?_
    refine zw_getR (j := 13) (kd := 3) dX3_settleBids_63 hq.i hq.k (by decide) (by decide) fl_X3_43 rfl hq.r9 ?_
    refine zw_iload_n dX3_settleBids_66 rfl ?_
    refine zw_iload_n dX3_settleBids_67 rfl ?_
    refine zw_iast dX3_settleBids_68 hq.i9 hq.k9 hq.L9 rfl (by rw [hq.n9]; omega) ?_
    refine zw_aload_n dX3_settleBids_69 rfl ?_
    refine zw_getR (j := 14) (kd := 3) dX3_settleBids_70 hq.i hq.k (by decide) (by decide) fl_X3_46 rfl hq.r10 ?_
    refine zw_iload_n dX3_settleBids_73 rfl ?_
    refine zw_iload_n dX3_settleBids_74 rfl ?_
    refine zw_iast dX3_settleBids_75 hq.i10 hq.k10 hq.L10 rfl (by rw [hq.n10]; omega) ?_
    refine zw_aload_n dX3_settleBids_76 rfl ?_
    refine zw_getR (j := 15) (kd := 3) dX3_settleBids_77 hq.i hq.k (by decide) (by decide) fl_X3_49 rfl hq.r11 ?_
    refine zw_iload_n dX3_settleBids_80 rfl ?_
    refine zw_iload_n dX3_settleBids_81 rfl ?_
    refine zw_cNi dX3_settleBids_82 (c_X4_otherSide _) rfl okX4_otherSide nl_X3_116 (Nat.le_of_ble_eq_true rfl) (Nat.le_of_ble_eq_true rfl) ?_
    refine zw_iast dX3_settleBids_85 hq.i11 hq.k11 hq.L11 rfl (by rw [hq.n11]; omega) ?_
    refine zw_aload_n dX3_settleBids_86 rfl ?_
    refine zw_getR (j := 16) (kd := 3) dX3_settleBids_87 hq.i hq.k (by decide) (by decide) fl_X3_52 rfl hq.r12 ?_
    refine zw_iload_n dX3_settleBids_90 rfl ?_
    refine zw_iload_n dX3_settleBids_91 rfl ?_
    refine zw_if_ne (tgt := 103) dX3_settleBids_92 (by decide) (fun c92 => ?_) (fun c92 => ?_)
    · refine zw_iconst (v := nI 0) dX3_settleBids_103 (by decide) ?_
      refine zw_iast dX3_settleBids_104 hq.i12 hq.k12 hq.L12 rfl (by rw [hq.n12]; omega) ?_
      refine zw_aload_n dX3_settleBids_105 rfl ?_
      refine zw_getR (j := 17) (kd := 3) dX3_settleBids_106 hq.i hq.k (by decide) (by decide) fl_X3_55 rfl hq.r13 ?_
      refine zw_iload_n dX3_settleBids_109 rfl ?_
      refine zw_iload dX3_settleBids_110 rfl ?_
      refine zw_iast dX3_settleBids_112 hq.i13 hq.k13 hq.L13 rfl (by rw [hq.n13]; omega) ?_
      exact zw_vretE dX3_settleBids_113 rfl rfl rfl (by simp only [sBM]; rw [if_pos c8, if_neg c92])
    · refine zw_aload_n dX3_settleBids_95 rfl ?_
      refine zw_iload_n dX3_settleBids_96 rfl ?_
      refine zw_cVi dX3_settleBids_97 (c_X3_biddersForQuiet hq (Wf.wr (Wf.wr (Wf.wr (Wf.wr (Wf.shMem (hw.cM _)) (by omega) (by omega)) (by omega) (by omega)) (by omega) (by omega)) (by omega) (by omega)) (by omega)) rfl okX3_biddersForQuiet ml_X3_138 hq.i hq.k (by decide) rfl (Nat.le_of_ble_eq_true rfl) (Nat.le_of_ble_eq_true rfl) ?_
      refine zw_goto (tgt := 104) dX3_settleBids_100 (by decide) ?_
      refine zw_iast dX3_settleBids_104 hq.i12 hq.k12 hq.L12 rfl (by rw [hq.n12]; omega) ?_
      refine zw_aload_n dX3_settleBids_105 rfl ?_
      refine zw_getR (j := 17) (kd := 3) dX3_settleBids_106 hq.i hq.k (by decide) (by decide) fl_X3_55 rfl hq.r13 ?_
      refine zw_iload_n dX3_settleBids_109 rfl ?_
      refine zw_iload dX3_settleBids_110 rfl ?_
      refine zw_iast dX3_settleBids_112 hq.i13 hq.k13 hq.L13 rfl (by rw [hq.n13]; omega) ?_
      exact zw_vretE dX3_settleBids_113 rfl rfl rfl (by simp only [sBM]; rw [if_pos c8, if_pos c92])
def sdSt (C : Mem) (q P s : Nat) : Mem := if nB C q P s = 0 then
    let C1 := up C (q + 11) s (C (q + 11) s / nI 2)
    up C1 (q + 14) s (nI 0)
  else sBM C q P s
def sdM (C : Mem) (q P : Nat) : Nat → Mem
  | 0 => C
  | s + 1 => sdSt (sdM C q P s) q P s
theorem sdM_ne {C : Mem} {q P b : Nat} (h0 : b ≠ q + 1) (h1 : b ≠ q + 3) (h2 : b ≠ q + 5) (h3 : b ≠ q + 6) (h4 : b ≠ q + 7) (h5 : b < q + 10 ∨ q + 16 ≤ b) : ∀ s, sdM C q P s b = C b
  | 0 => rfl
  | s + 1 => by
    show sdSt _ _ _ _ b = _
    unfold sdSt
    split
    · rw [up_ne (by omega), up_ne (by omega)]
      exact sdM_ne h0 h1 h2 h3 h4 h5 s
    · rw [sBM_ne h0 h1 h2 h3 h4 h5]
      exact sdM_ne h0 h1 h2 h3 h4 h5 s
theorem Wf.sdM {C : Mem} {q P : Nat} (h : Wf C q P) (s : Nat) : Wf (sdM C q P s) q P := h.of (by rw [sdM_ne (by omega) (by omega) (by omega) (by omega) (by omega) (by omega)]) (sdM_ne (by omega) (by omega) (by omega) (by omega) (by omega) (by omega) s)
def sdD (C : Mem) (q P : Nat) : Mem :=
  let C1 := sdM C q P 96
  let C2 := fillM C1 (q + 9) (nI 0) 1152
  let C3 := fillM C2 (q + 2) (nI 0) 12
  up C3 q 0 (C3 q 0 + nI 1)
set_option maxRecDepth 100000 in
set_option maxHeartbeats 4000000 in
theorem c_X3_settleDay {sh : Sh} {C : Mem} {q P : Nat} (hq : IsSt sh q) (hw : Wf C q P)  : Calls mX3_settleDay 5 0 0 [.inr (some (q))] sh C (none) sh (sdD C q P) := by
  refine Calls.of plX3 (Nat.le_of_ble_eq_true rfl) ?_
  show WP mX3_settleDay 5 0 0 0 [some (.inr (some (q))), none] [] sh (C) (none) sh (sdD C q P)
  refine zw_iconst (v := nI 0) dX3_settleDay_0 (by decide) ?_
  refine zw_istore_n dX3_settleDay_1 (by decide) ?_
  have L2 : ∀ (n_2 k : Nat), k + n_2 = 96 → WP mX3_settleDay 5 0 0 2 [some (.inr (some (q))), some (.inl (nI (k)))] [] sh (sdM C q P (k)) (none) sh (sdD C q P) := by
    intro n_2
    induction n_2 with
    | zero =>
      intro k hk2
      have ek2 : 96 = k := by omega
      subst ek2
      refine zw_iload_n dX3_settleDay_2 rfl ?_
      refine zw_bipush (v := nI 96) dX3_settleDay_3 (by decide) ?_
      refine zw_icmp_ge_n (tgt := 47) dX3_settleDay_5 (by decide) (by omega) (by omega) (fun c5 => ?_) (fun c5 => by omega)
      refine zw_aload_n dX3_settleDay_47 rfl ?_
      refine zw_getR (j := 12) (kd := 3) dX3_settleDay_48 hq.i hq.k (by decide) (by decide) fl_X3_40 rfl hq.r8 ?_
      refine zw_iconst (v := nI 0) dX3_settleDay_51 (by decide) ?_
      refine zw_cSv dX3_settleDay_52 (c_J7_fill_53178 hq.i8 hq.k8 hq.n8 (by decide) _) rfl okJ7_fill_53178 ml_X3_126 (Nat.le_of_ble_eq_true rfl) (Nat.le_of_ble_eq_true rfl) ?_
      refine zw_aload_n dX3_settleDay_55 rfl ?_
      refine zw_getR (j := 5) (kd := 3) dX3_settleDay_56 hq.i hq.k (by decide) (by decide) fl_X3_19 rfl hq.r1 ?_
      refine zw_iconst (v := nI 0) dX3_settleDay_59 (by decide) ?_
      refine zw_cSv dX3_settleDay_60 (c_J7_fill_53178 hq.i1 hq.k1 hq.n1 (by decide) _) rfl okJ7_fill_53178 ml_X3_126 (Nat.le_of_ble_eq_true rfl) (Nat.le_of_ble_eq_true rfl) ?_
      refine zw_aload_n dX3_settleDay_63 rfl ?_
      refine zw_dup dX3_settleDay_64 ?_
      refine zw_getI (j := 0) (kd := 3) dX3_settleDay_65 hq.i hq.k (by decide) (by decide) fl_X3_61 rfl ?_
      refine zw_iconst (v := nI 1) dX3_settleDay_68 (by decide) ?_
      refine zw_iadd dX3_settleDay_69 ?_
      refine zw_putI (j := 0) (kd := 3) dX3_settleDay_70 hq.i hq.k (by decide) (by decide) fl_X3_61 rfl rfl rfl ?_
      exact zw_vretE dX3_settleDay_73 rfl rfl rfl (rfl)
    | succ n_2 ih2 =>
      intro k hk2
      have hlt2 : k < 96 := by omega
      refine zw_iload_n dX3_settleDay_2 rfl ?_
      refine zw_bipush (v := nI 96) dX3_settleDay_3 (by decide) ?_
      refine zw_icmp_ge_n (tgt := 47) dX3_settleDay_5 (by decide) (by omega) (by omega) (fun c5 => by omega) (fun c5 => ?_)
      refine zw_aload_n dX3_settleDay_8 rfl ?_
      refine zw_iload_n dX3_settleDay_9 rfl ?_
      refine zw_cVi dX3_settleDay_10 (c_X3_bidsFor hq (hw.sdM (k)) (by omega)) rfl okX3_bidsFor ml_X3_107 hq.i hq.k (by decide) rfl (Nat.le_of_ble_eq_true rfl) (Nat.le_of_ble_eq_true rfl) ?_
      refine zw_if_ne (tgt := 36) dX3_settleDay_13 (by decide) (fun c13 => ?_) (fun c13 => ?_)
      · refine zw_aload_n dX3_settleDay_36 rfl ?_
        refine zw_iload_n dX3_settleDay_37 rfl ?_
        refine zw_cVv dX3_settleDay_38 (c_X3_settleBids hq (hw.sdM (k)) (by omega)) rfl okX3_settleBids ml_X3_122 hq.i hq.k (by decide) rfl (Nat.le_of_ble_eq_true rfl) (Nat.le_of_ble_eq_true rfl) ?_
        refine zw_iincn dX3_settleDay_41 rfl (by decide) ?_
        refine zw_goto (tgt := 2) dX3_settleDay_44 (by decide) ?_
        refine zw_mem (C2 := sdM C q P (k + 1)) (by simp [sdM, sdSt, *]) ?_
        exact WP.sub (ih2 (k + 1) (by omega)) ⟨rfl, rfl, trivial⟩
      · refine zw_aload_n dX3_settleDay_16 rfl ?_
        refine zw_getR (j := 14) (kd := 3) dX3_settleDay_17 hq.i hq.k (by decide) (by decide) fl_X3_46 rfl hq.r10 ?_
        refine zw_iload_n dX3_settleDay_20 rfl ?_
        refine zw_dup2 dX3_settleDay_21 ?_
        refine zw_iald dX3_settleDay_22 hq.i10 hq.k10 hq.L10 rfl (by rw [hq.n10]; omega) ?_
        refine zw_iconst (v := nI 2) dX3_settleDay_23 (by decide) ?_
        refine zw_idiv dX3_settleDay_24 (nI_ne0 (by decide) (by decide)) ?_
        refine zw_iast dX3_settleDay_25 hq.i10 hq.k10 hq.L10 rfl (by rw [hq.n10]; omega) ?_
        refine zw_aload_n dX3_settleDay_26 rfl ?_
        refine zw_getR (j := 17) (kd := 3) dX3_settleDay_27 hq.i hq.k (by decide) (by decide) fl_X3_55 rfl hq.r13 ?_
        refine zw_iload_n dX3_settleDay_30 rfl ?_
        refine zw_iconst (v := nI 0) dX3_settleDay_31 (by decide) ?_
        refine zw_iast dX3_settleDay_32 hq.i13 hq.k13 hq.L13 rfl (by rw [hq.n13]; omega) ?_
        refine zw_goto (tgt := 41) dX3_settleDay_33 (by decide) ?_
        refine zw_iincn dX3_settleDay_41 rfl (by decide) ?_
        refine zw_goto (tgt := 2) dX3_settleDay_44 (by decide) ?_
        refine zw_mem (C2 := sdM C q P (k + 1)) (by simp [sdM, sdSt, *]) ?_
        exact WP.sub (ih2 (k + 1) (by omega)) ⟨rfl, rfl, trivial⟩
  exact WP.sub (L2 (96) 0 (by omega)) ⟨rfl, rfl, trivial⟩
theorem Wf.bs {C : Mem} {q P p j : Nat} (h : Wf C q P) (hj : j < 4) : Wf (up C (q + 4) p (nI j)) q P := by
  refine ⟨by rw [up_ne (by omega)]; exact h.1, h.2.1, fun i hi => ?_⟩
  by_cases hip : i = p
  · subst hip
    rw [up_eq]
    exact vp_in_nI hj (by decide)
  · rw [up_ne2 hip]
    exact h.2.2 i hi
def bcF (x0 : Int32) : Int32 :=
  let us := fun (x y : Int32) => (x.toUInt32 >>> (y.toUInt32 &&& Int32.toUInt32 31)).toInt32
  let x1 := x0 - (us x0 (nI 1) &&& nI 1431655765)
  let x2 := (x1 &&& nI 858993459) + (us x1 (nI 2) &&& nI 858993459)
  let x3 := (x2 + us x2 (nI 4)) &&& nI 252645135
  let x4 := x3 + us x3 (nI 8)
  let x5 := x4 + us x4 (nI 16)
  x5 &&& nI 63
set_option maxRecDepth 100000 in
set_option maxHeartbeats 4000000 in
theorem c_J6_bitCount_0f7a4 {sh : Sh} {C : Mem} (x : Int32) : Calls mJ6_bitCount_0f7a4 0 0 0 [.inl (x)] sh C (some (.inl (bcF x))) sh (C) := by
  refine Calls.of plJ6 (Nat.le_of_ble_eq_true rfl) ?_
  show WP mJ6_bitCount_0f7a4 0 0 0 0 [some (.inl (x))] [] sh (C) (some (.inl (bcF x))) sh (C)
  refine zw_iload_n dJ6_bitCount_0f7a4_0 rfl ?_
  refine zw_iload_n dJ6_bitCount_0f7a4_1 rfl ?_
  refine zw_iconst (v := nI 1) dJ6_bitCount_0f7a4_2 (by decide) ?_
  refine zw_iushr dJ6_bitCount_0f7a4_3 ?_
  refine zw_ldc_w (v := nI 1431655765) dJ6_bitCount_0f7a4_4 cs_J6_265 ?_
  refine zw_iand dJ6_bitCount_0f7a4_7 ?_
  refine zw_isub dJ6_bitCount_0f7a4_8 ?_
  refine zw_istore_n dJ6_bitCount_0f7a4_9 (by decide) ?_
  refine zw_iload_n dJ6_bitCount_0f7a4_10 rfl ?_
  refine zw_ldc_w (v := nI 858993459) dJ6_bitCount_0f7a4_11 cs_J6_266 ?_
  refine zw_iand dJ6_bitCount_0f7a4_14 ?_
  refine zw_iload_n dJ6_bitCount_0f7a4_15 rfl ?_
  refine zw_iconst (v := nI 2) dJ6_bitCount_0f7a4_16 (by decide) ?_
  refine zw_iushr dJ6_bitCount_0f7a4_17 ?_
  refine zw_ldc_w (v := nI 858993459) dJ6_bitCount_0f7a4_18 cs_J6_266 ?_
  refine zw_iand dJ6_bitCount_0f7a4_21 ?_
  refine zw_iadd dJ6_bitCount_0f7a4_22 ?_
  refine zw_istore_n dJ6_bitCount_0f7a4_23 (by decide) ?_
  refine zw_iload_n dJ6_bitCount_0f7a4_24 rfl ?_
  refine zw_iload_n dJ6_bitCount_0f7a4_25 rfl ?_
  refine zw_iconst (v := nI 4) dJ6_bitCount_0f7a4_26 (by decide) ?_
  refine zw_iushr dJ6_bitCount_0f7a4_27 ?_
  refine zw_iadd dJ6_bitCount_0f7a4_28 ?_
  refine zw_ldc_w (v := nI 252645135) dJ6_bitCount_0f7a4_29 cs_J6_267 ?_
  refine zw_iand dJ6_bitCount_0f7a4_32 ?_
  refine zw_istore_n dJ6_bitCount_0f7a4_33 (by decide) ?_
  refine zw_iload_n dJ6_bitCount_0f7a4_34 rfl ?_
  refine zw_iload_n dJ6_bitCount_0f7a4_35 rfl ?_
  refine zw_bipush (v := nI 8) dJ6_bitCount_0f7a4_36 (by decide) ?_
  refine zw_iushr dJ6_bitCount_0f7a4_38 ?_
  refine zw_iadd dJ6_bitCount_0f7a4_39 ?_
  refine zw_istore_n dJ6_bitCount_0f7a4_40 (by decide) ?_
  refine zw_iload_n dJ6_bitCount_0f7a4_41 rfl ?_
  refine zw_iload_n dJ6_bitCount_0f7a4_42 rfl ?_
  refine zw_bipush (v := nI 16) dJ6_bitCount_0f7a4_43 (by decide) ?_
  refine zw_iushr dJ6_bitCount_0f7a4_45 ?_
  refine zw_iadd dJ6_bitCount_0f7a4_46 ?_
  refine zw_istore_n dJ6_bitCount_0f7a4_47 (by decide) ?_
  refine zw_iload_n dJ6_bitCount_0f7a4_48 rfl ?_
  refine zw_bipush (v := nI 63) dJ6_bitCount_0f7a4_49 (by decide) ?_
  refine zw_iand dJ6_bitCount_0f7a4_51 ?_
  exact zw_iretE dJ6_bitCount_0f7a4_52 rfl (rfl) rfl (rfl)
def sfM (C : Mem) (q s : Nat) (part : Int32) : Nat → Mem
  | 0 => C
  | k + 1 => if (sfM C q s part k (q + 13) s >>> (nI k &&& 31)) &&& nI 1 = nI 1 then rcv (sfM C q s part k) q k part else sfM C q s part k
theorem sfM_ne {C : Mem} {q s b : Nat} {part : Int32} (h1 : b ≠ q + 1) (h2 : b ≠ q + 3) (h4 : b ≠ q + 15) : ∀ k, sfM C q s part k b = C b
  | 0 => rfl
  | k + 1 => by
    unfold sfM
    split
    · rw [rcv_ne h1 h2 h4]
      exact sfM_ne h1 h2 h4 k
    · exact sfM_ne h1 h2 h4 k
theorem Wf.sfM {C : Mem} {q P s : Nat} {part : Int32} (h : Wf C q P) (k : Nat) : Wf (sfM C q s part k) q P := h.of (by rw [sfM_ne (by omega) (by omega) (by omega)]) (sfM_ne (by omega) (by omega) (by omega) k)
def sfRes (C : Mem) (q s : Nat) (m : Int32) : Int32 := if 0 < bcF (C (q + 13) s) then m / bcF (C (q + 13) s) * bcF (C (q + 13) s) else nI 0
def sfMem (C : Mem) (q P s : Nat) (m : Int32) : Mem := if 0 < bcF (C (q + 13) s) then sfM C q s (m / bcF (C (q + 13) s)) P else C
set_option maxRecDepth 100000 in
set_option maxHeartbeats 4000000 in
theorem c_X3_shareFine {sh : Sh} {C : Mem} {q P : Nat} (hq : IsSt sh q) (hw : Wf C q P) {s : Nat} (hs : s < 96) (m : Int32) : Calls mX3_shareFine 2 0 0 [.inr (some (q)), .inl (nI (s)), .inl (m)] sh C (some (.inl (sfRes C q s m))) sh (sfMem C q P s m) := by
  refine Calls.of plX3 (Nat.le_of_ble_eq_true rfl) ?_
  show WP mX3_shareFine 2 0 0 0 [some (.inr (some (q))), some (.inl (nI (s))), some (.inl (m)), none, none, none] [] sh (C) (some (.inl (sfRes C q s m))) sh (sfMem C q P s m)
  have hP12 := hw.2.1
  refine zw_aload_n dX3_shareFine_0 rfl ?_
  refine zw_getR (j := 16) (kd := 3) dX3_shareFine_1 hq.i hq.k (by decide) (by decide) fl_X3_52 rfl hq.r12 ?_
  refine zw_iload_n dX3_shareFine_4 rfl ?_
  refine zw_iald dX3_shareFine_5 hq.i12 hq.k12 hq.L12 rfl (by rw [hq.n12]; omega) ?_
  refine zw_cSi dX3_shareFine_6 (c_J6_bitCount_0f7a4 _) rfl okJ6_bitCount_0f7a4 ml_X3_148 (Nat.le_of_ble_eq_true rfl) (Nat.le_of_ble_eq_true rfl) ?_
  refine zw_istore_n dX3_shareFine_9 (by decide) ?_
  refine zw_iload_n dX3_shareFine_10 rfl ?_
  refine zw_if_gt (tgt := 16) dX3_shareFine_11 (by decide) (fun c11 => ?_) (fun c11 => ?_)
  · refine zw_iload_n dX3_shareFine_16 rfl ?_
    refine zw_iload_n dX3_shareFine_17 rfl ?_
    refine zw_idiv dX3_shareFine_18 (fun z => absurd c11 (by rw [z]; decide)) ?_
    refine zw_istore dX3_shareFine_19 (by decide) ?_
    refine zw_iconst (v := nI 0) dX3_shareFine_21 (by decide) ?_
    refine zw_istore dX3_shareFine_22 (by decide) ?_
    have L24 : ∀ (n_24 k : Nat), k + n_24 = P → WP mX3_shareFine 2 0 0 24 [some (.inr (some (q))), some (.inl (nI (s))), some (.inl (m)), some (.inl (bcF (C (q + 13) s))), some (.inl ((m / bcF (C (q + 13) s)))), some (.inl (nI (k)))] [] sh (sfM C q s (m / bcF (C (q + 13) s)) (k)) (some (.inl (sfRes C q s m))) sh (sfMem C q P s m) := by
      intro n_24
      induction n_24 with
      | zero =>
        intro k hk24
        have ek24 : P = k := by omega
        subst ek24
        refine zw_iload dX3_shareFine_24 rfl ?_
        refine zw_aload_n dX3_shareFine_26 rfl ?_
        refine zw_getIv (j := 3) (kd := 3) (v := (nI (P))) dX3_shareFine_27 hq.i hq.k (by decide) (by decide) fl_X3_67 rfl (hw.sfM (P)).1 ?_
        refine zw_icmp_ge_n (tgt := 62) dX3_shareFine_30 (by decide) (by omega) (by omega) (fun c30 => ?_) (fun c30 => by omega)
        refine zw_iload dX3_shareFine_62 rfl ?_
        refine zw_iload_n dX3_shareFine_64 rfl ?_
        refine zw_imul dX3_shareFine_65 ?_
        exact zw_iretE dX3_shareFine_66 rfl (by simp [sfRes, *]) rfl (by simp [sfMem, *])
      | succ n_24 ih24 =>
        intro k hk24
        have hlt24 : k < P := by omega
        refine zw_iload dX3_shareFine_24 rfl ?_
        refine zw_aload_n dX3_shareFine_26 rfl ?_
        refine zw_getIv (j := 3) (kd := 3) (v := (nI (P))) dX3_shareFine_27 hq.i hq.k (by decide) (by decide) fl_X3_67 rfl (hw.sfM (k)).1 ?_
        refine zw_icmp_ge_n (tgt := 62) dX3_shareFine_30 (by decide) (by omega) (by omega) (fun c30 => by omega) (fun c30 => ?_)
        refine zw_aload_n dX3_shareFine_33 rfl ?_
        refine zw_getR (j := 16) (kd := 3) dX3_shareFine_34 hq.i hq.k (by decide) (by decide) fl_X3_52 rfl hq.r12 ?_
        refine zw_iload_n dX3_shareFine_37 rfl ?_
        refine zw_iald dX3_shareFine_38 hq.i12 hq.k12 hq.L12 rfl (by rw [hq.n12]; omega) ?_
        refine zw_iload dX3_shareFine_39 rfl ?_
        refine zw_ishr dX3_shareFine_41 ?_
        refine zw_iconst (v := nI 1) dX3_shareFine_42 (by decide) ?_
        refine zw_iand dX3_shareFine_43 ?_
        refine zw_iconst (v := nI 1) dX3_shareFine_44 (by decide) ?_
        refine zw_icmp_ne (tgt := 56) dX3_shareFine_45 (by decide) (fun c45 => ?_) (fun c45 => ?_)
        · refine zw_iincn dX3_shareFine_56 rfl (by decide) ?_
          refine zw_goto (tgt := 24) dX3_shareFine_59 (by decide) ?_
          refine zw_mem (C2 := sfM C q s (m / bcF (C (q + 13) s)) (k + 1)) (by simp [sfM, *]) ?_
          exact WP.sub (ih24 (k + 1) (by omega)) ⟨rfl, rfl, rfl, rfl, rfl, rfl, trivial⟩
        · refine zw_aload_n dX3_shareFine_48 rfl ?_
          refine zw_iload dX3_shareFine_49 rfl ?_
          refine zw_iload dX3_shareFine_51 rfl ?_
          refine zw_cVv dX3_shareFine_53 (c_X3_receive hq (hw.sfM (k)) (by omega) _) rfl okX3_receive ml_X3_141 hq.i hq.k (by decide) rfl (Nat.le_of_ble_eq_true rfl) (Nat.le_of_ble_eq_true rfl) ?_
          refine zw_iincn dX3_shareFine_56 rfl (by decide) ?_
          refine zw_goto (tgt := 24) dX3_shareFine_59 (by decide) ?_
          refine zw_mem (C2 := sfM C q s (m / bcF (C (q + 13) s)) (k + 1)) (by simp [sfM, *]) ?_
          exact WP.sub (ih24 (k + 1) (by omega)) ⟨rfl, rfl, rfl, rfl, rfl, rfl, trivial⟩
    exact WP.sub (L24 (P) 0 (by omega)) ⟨rfl, rfl, rfl, rfl, rfl, rfl, trivial⟩
  · refine zw_iconst (v := nI 0) dX3_shareFine_14 (by decide) ?_
    exact zw_iretE dX3_shareFine_15 rfl (by simp [sfRes, *]) rfl (by simp [sfMem, *])
def nbM (C : Mem) (q P p s : Nat) : Mem :=
  let C1 := up C q 2 (C q 2 + nI 1)
  let C2 := up C1 (q + 8) p (C1 (q + 8) p + nI 1)
  let C3 := up C2 (q + 4) p (nI (s / 24))
  let paid := mn (C3 q 1) (fM C3 q p)
  let C4 := up C3 (q + 1) p (C3 (q + 1) p - paid)
  let C5 := up C4 (q + 3) p (C4 (q + 3) p + (C4 q 1 - paid))
  let C6 := sfMem C5 q P s paid
  up C6 (q + 15) (s / 24) (C6 (q + 15) (s / 24) + (paid - sfRes C5 q s paid))
def nbR (C : Mem) (q p s : Nat) : Int32 :=
  let C1 := up C q 2 (C q 2 + nI 1)
  let C2 := up C1 (q + 8) p (C1 (q + 8) p + nI 1)
  let C3 := up C2 (q + 4) p (nI (s / 24))
  mn (C3 q 1) (fM C3 q p)
set_option maxRecDepth 100000 in
set_option maxHeartbeats 4000000 in
theorem c_X3_noteBreach {sh : Sh} {C : Mem} {q P : Nat} (hq : IsSt sh q) (hw : Wf C q P) {p s : Nat} (hp : p < 12) (hs : s < 96) : Calls mX3_noteBreach 3 0 0 [.inr (some (q)), .inl (nI (p)), .inl (nI (s))] sh C (some (.inl (nbR C q p s))) sh (nbM C q P p s) := by
  refine Calls.of plX3 (Nat.le_of_ble_eq_true rfl) ?_
  show WP mX3_noteBreach 3 0 0 0 [some (.inr (some (q))), some (.inl (nI (p))), some (.inl (nI (s))), none, none, none] [] sh (C) (some (.inl (nbR C q p s))) sh (nbM C q P p s)
  refine zw_iload_n dX3_noteBreach_0 rfl ?_
  refine zw_bipush (v := nI 24) dX3_noteBreach_1 (by decide) ?_
  refine zw_idivn dX3_noteBreach_3 (by omega) (by omega) (by omega) ?_
  refine zw_istore_n dX3_noteBreach_4 (by decide) ?_
  refine zw_aload_n dX3_noteBreach_5 rfl ?_
  refine zw_dup dX3_noteBreach_6 ?_
  refine zw_getI (j := 2) (kd := 3) dX3_noteBreach_7 hq.i hq.k (by decide) (by decide) fl_X3_64 rfl ?_
  refine zw_iconst (v := nI 1) dX3_noteBreach_10 (by decide) ?_
  refine zw_iadd dX3_noteBreach_11 ?_
  refine zw_putI (j := 2) (kd := 3) dX3_noteBreach_12 hq.i hq.k (by decide) (by decide) fl_X3_64 rfl rfl rfl ?_
  refine zw_aload_n dX3_noteBreach_15 rfl ?_
  refine zw_getR (j := 11) (kd := 3) dX3_noteBreach_16 hq.i hq.k (by decide) (by decide) fl_X3_37 rfl hq.r7 ?_
  refine zw_iload_n dX3_noteBreach_19 rfl ?_
  refine zw_dup2 dX3_noteBreach_20 ?_
  refine zw_iald dX3_noteBreach_21 hq.i7 hq.k7 hq.L7 rfl (by rw [hq.n7]; omega) ?_
  refine zw_iconst (v := nI 1) dX3_noteBreach_22 (by decide) ?_
  refine zw_iadd dX3_noteBreach_23 ?_
  refine zw_iast dX3_noteBreach_24 hq.i7 hq.k7 hq.L7 rfl (by rw [hq.n7]; omega) ?_
  refine zw_aload_n dX3_noteBreach_25 rfl ?_
  refine zw_getR (j := 7) (kd := 3) dX3_noteBreach_26 hq.i hq.k (by decide) (by decide) fl_X3_25 rfl hq.r3 ?_
  refine zw_iload_n dX3_noteBreach_29 rfl ?_
  refine zw_iload_n dX3_noteBreach_30 rfl ?_
  refine zw_iast dX3_noteBreach_31 hq.i3 hq.k3 hq.L3 rfl (by rw [hq.n3]; omega) ?_
  refine zw_aload_n dX3_noteBreach_32 rfl ?_
  refine zw_getI (j := 1) (kd := 3) dX3_noteBreach_33 hq.i hq.k (by decide) (by decide) fl_X3_9 rfl ?_
  refine zw_aload_n dX3_noteBreach_36 rfl ?_
  refine zw_iload_n dX3_noteBreach_37 rfl ?_
  refine zw_cVi dX3_noteBreach_38 (c_X3_freeMoney hq (by omega)) rfl okX3_freeMoney ml_X3_84 hq.i hq.k (by decide) rfl (Nat.le_of_ble_eq_true rfl) (Nat.le_of_ble_eq_true rfl) ?_
  refine zw_mmin dX3_noteBreach_41 ml_X3_95 (by decide) (Nat.le_of_ble_eq_true rfl) ?_
  refine zw_istore dX3_noteBreach_44 (by decide) ?_
  refine zw_aload_n dX3_noteBreach_46 rfl ?_
  refine zw_getR (j := 4) (kd := 3) dX3_noteBreach_47 hq.i hq.k (by decide) (by decide) fl_X3_15 rfl hq.r0 ?_
  refine zw_iload_n dX3_noteBreach_50 rfl ?_
  refine zw_dup2 dX3_noteBreach_51 ?_
  refine zw_iald dX3_noteBreach_52 hq.i0 hq.k0 hq.L0 rfl (by rw [hq.n0]; omega) ?_
  refine zw_iload dX3_noteBreach_53 rfl ?_
  refine zw_isub dX3_noteBreach_55 ?_
  refine zw_iast dX3_noteBreach_56 hq.i0 hq.k0 hq.L0 rfl (by rw [hq.n0]; omega) ?_
  refine zw_aload_n dX3_noteBreach_57 rfl ?_
  refine zw_getR (j := 6) (kd := 3) dX3_noteBreach_58 hq.i hq.k (by decide) (by decide) fl_X3_22 rfl hq.r2 ?_
  refine zw_iload_n dX3_noteBreach_61 rfl ?_
  refine zw_dup2 dX3_noteBreach_62 ?_
  refine zw_iald dX3_noteBreach_63 hq.i2 hq.k2 hq.L2 rfl (by rw [hq.n2]; omega) ?_
  refine zw_aload_n dX3_noteBreach_64 rfl ?_
  refine zw_getI (j := 1) (kd := 3) dX3_noteBreach_65 hq.i hq.k (by decide) (by decide) fl_X3_9 rfl ?_
  refine zw_iload dX3_noteBreach_68 rfl ?_
  refine zw_isub dX3_noteBreach_70 ?_
  refine zw_iadd dX3_noteBreach_71 ?_
  refine zw_iast dX3_noteBreach_72 hq.i2 hq.k2 hq.L2 rfl (by rw [hq.n2]; omega) ?_
  refine zw_aload_n dX3_noteBreach_73 rfl ?_
  refine zw_iload_n dX3_noteBreach_74 rfl ?_
  refine zw_iload dX3_noteBreach_75 rfl ?_
  refine zw_cVi dX3_noteBreach_77 (c_X3_shareFine hq (Wf.wr (Wf.wr (Wf.bs (Wf.wr (Wf.wrf hw (by decide)) (by omega) (by omega)) (by omega)) (by omega) (by omega)) (by omega) (by omega)) (by omega) _) rfl okX3_shareFine ml_X3_145 hq.i hq.k (by decide) rfl (Nat.le_of_ble_eq_true rfl) (Nat.le_of_ble_eq_true rfl) ?_
  refine zw_istore dX3_noteBreach_80 (by decide) ?_
  refine zw_aload_n dX3_noteBreach_82 rfl ?_
  refine zw_getR (j := 18) (kd := 3) dX3_noteBreach_83 hq.i hq.k (by decide) (by decide) fl_X3_58 rfl hq.r14 ?_
  refine zw_iload_n dX3_noteBreach_86 rfl ?_
  refine zw_dup2 dX3_noteBreach_87 ?_
  refine zw_iald dX3_noteBreach_88 hq.i14 hq.k14 hq.L14 rfl (by rw [hq.n14]; omega) ?_
  refine zw_iload dX3_noteBreach_89 rfl ?_
  refine zw_iload dX3_noteBreach_91 rfl ?_
  refine zw_isub dX3_noteBreach_93 ?_
  refine zw_iadd dX3_noteBreach_94 ?_
  refine zw_iast dX3_noteBreach_95 hq.i14 hq.k14 hq.L14 rfl (by rw [hq.n14]; omega) ?_
  refine zw_iload dX3_noteBreach_96 rfl ?_
  exact zw_iretE dX3_noteBreach_98 rfl (rfl) rfl (rfl)
def qh (C : Mem) (q st : Nat) : Int32 := sm (fun h => if C (q + 10) (st * 24 + h) = 0 then nI 1 else nI 0) 24
set_option maxRecDepth 100000 in
set_option maxHeartbeats 4000000 in
theorem c_X3_quietHours {sh : Sh} {C : Mem} {q st : Nat} (hq : IsSt sh q) (hst : st < 4) : Calls mX3_quietHours 1 0 0 [.inr (some (q)), .inl (nI (st))] sh C (some (.inl (qh C q st))) sh (C) := by
  refine Calls.of plX3 (Nat.le_of_ble_eq_true rfl) ?_
  show WP mX3_quietHours 1 0 0 0 [some (.inr (some (q))), some (.inl (nI (st))), none, none] [] sh (C) (some (.inl (qh C q st))) sh (C)
  refine zw_iconst (v := nI 0) dX3_quietHours_0 (by decide) ?_
  refine zw_istore_n dX3_quietHours_1 (by decide) ?_
  refine zw_iconst (v := nI 0) dX3_quietHours_2 (by decide) ?_
  refine zw_istore_n dX3_quietHours_3 (by decide) ?_
  have L4 : ∀ (n_4 k : Nat), k + n_4 = 24 → WP mX3_quietHours 1 0 0 4 [some (.inr (some (q))), some (.inl (nI (st))), some (.inl (sm (fun h => if C (q + 10) (st * 24 + h) = 0 then nI 1 else nI 0) (k))), some (.inl (nI (k)))] [] sh (C) (some (.inl (qh C q st))) sh (C) := by
    intro n_4
    induction n_4 with
    | zero =>
      intro k hk4
      have ek4 : 24 = k := by omega
      subst ek4
      refine zw_iload_n dX3_quietHours_4 rfl ?_
      refine zw_bipush (v := nI 24) dX3_quietHours_5 (by decide) ?_
      refine zw_icmp_ge_n (tgt := 37) dX3_quietHours_7 (by decide) (by omega) (by omega) (fun c7 => ?_) (fun c7 => by omega)
      refine zw_iload_n dX3_quietHours_37 rfl ?_
      exact zw_iretE dX3_quietHours_38 rfl (rfl) rfl (rfl)
    | succ n_4 ih4 =>
      intro k hk4
      have hlt4 : k < 24 := by omega
      refine zw_iload_n dX3_quietHours_4 rfl ?_
      refine zw_bipush (v := nI 24) dX3_quietHours_5 (by decide) ?_
      refine zw_icmp_ge_n (tgt := 37) dX3_quietHours_7 (by decide) (by omega) (by omega) (fun c7 => by omega) (fun c7 => ?_)
      refine zw_iload_n dX3_quietHours_10 rfl ?_
      refine zw_aload_n dX3_quietHours_11 rfl ?_
      refine zw_getR (j := 13) (kd := 3) dX3_quietHours_12 hq.i hq.k (by decide) (by decide) fl_X3_43 rfl hq.r9 ?_
      refine zw_iload_n dX3_quietHours_15 rfl ?_
      refine zw_iload_n dX3_quietHours_16 rfl ?_
      refine zw_cNi dX3_quietHours_17 (c_X4_slotAt _ _) rfl okX4_slotAt nl_X3_156 (Nat.le_of_ble_eq_true rfl) (Nat.le_of_ble_eq_true rfl) ?_
      refine zw_iald dX3_quietHours_20 hq.i9 hq.k9 hq.L9 rfl (by rw [hq.n9]; omega) ?_
      refine zw_if_ne (tgt := 28) dX3_quietHours_21 (by decide) (fun c21 => ?_) (fun c21 => ?_)
      · refine zw_iconst (v := nI 0) dX3_quietHours_28 (by decide) ?_
        refine zw_iadd dX3_quietHours_29 ?_
        refine zw_istore_n dX3_quietHours_30 (by decide) ?_
        refine zw_iincn dX3_quietHours_31 rfl (by decide) ?_
        refine zw_goto (tgt := 4) dX3_quietHours_34 (by decide) ?_
        exact WP.sub (ih4 (k + 1) (by omega)) ⟨rfl, rfl, (hd_eq (by simp [sm, *])), rfl, trivial⟩
      · refine zw_iconst (v := nI 1) dX3_quietHours_24 (by decide) ?_
        refine zw_goto (tgt := 29) dX3_quietHours_25 (by decide) ?_
        refine zw_iadd dX3_quietHours_29 ?_
        refine zw_istore_n dX3_quietHours_30 (by decide) ?_
        refine zw_iincn dX3_quietHours_31 rfl (by decide) ?_
        refine zw_goto (tgt := 4) dX3_quietHours_34 (by decide) ?_
        exact WP.sub (ih4 (k + 1) (by omega)) ⟨rfl, rfl, (hd_eq (by simp [sm, *])), rfl, trivial⟩
  exact WP.sub (L4 (24) 0 (by omega)) ⟨rfl, rfl, rfl, rfl, trivial⟩
set_option maxRecDepth 100000 in
set_option maxHeartbeats 4000000 in
theorem c_X3_noisySlots {sh : Sh} {C : Mem} {q : Nat} (hq : IsSt sh q) : Calls mX3_noisySlots 2 0 0 [.inr (some (q))] sh C (some (.inl (sm (fun st => nI 24 - qh C q st) 4))) sh (C) := by
  refine Calls.of plX3 (Nat.le_of_ble_eq_true rfl) ?_
  show WP mX3_noisySlots 2 0 0 0 [some (.inr (some (q))), none, none] [] sh (C) (some (.inl (sm (fun st => nI 24 - qh C q st) 4))) sh (C)
  refine zw_iconst (v := nI 0) dX3_noisySlots_0 (by decide) ?_
  refine zw_istore_n dX3_noisySlots_1 (by decide) ?_
  refine zw_iconst (v := nI 0) dX3_noisySlots_2 (by decide) ?_
  refine zw_istore_n dX3_noisySlots_3 (by decide) ?_
  have L4 : ∀ (n_4 k : Nat), k + n_4 = 4 → WP mX3_noisySlots 2 0 0 4 [some (.inr (some (q))), some (.inl (sm (fun st => nI 24 - qh C q st) (k))), some (.inl (nI (k)))] [] sh (C) (some (.inl (sm (fun st => nI 24 - qh C q st) 4))) sh (C) := by
    intro n_4
    induction n_4 with
    | zero =>
      intro k hk4
      have ek4 : 4 = k := by omega
      subst ek4
      refine zw_iload_n dX3_noisySlots_4 rfl ?_
      refine zw_iconst (v := nI 4) dX3_noisySlots_5 (by decide) ?_
      refine zw_icmp_ge_n (tgt := 26) dX3_noisySlots_6 (by decide) (by omega) (by omega) (fun c6 => ?_) (fun c6 => by omega)
      refine zw_iload_n dX3_noisySlots_26 rfl ?_
      exact zw_iretE dX3_noisySlots_27 rfl (rfl) rfl (rfl)
    | succ n_4 ih4 =>
      intro k hk4
      have hlt4 : k < 4 := by omega
      refine zw_iload_n dX3_noisySlots_4 rfl ?_
      refine zw_iconst (v := nI 4) dX3_noisySlots_5 (by decide) ?_
      refine zw_icmp_ge_n (tgt := 26) dX3_noisySlots_6 (by decide) (by omega) (by omega) (fun c6 => by omega) (fun c6 => ?_)
      refine zw_iload_n dX3_noisySlots_9 rfl ?_
      refine zw_bipush (v := nI 24) dX3_noisySlots_10 (by decide) ?_
      refine zw_aload_n dX3_noisySlots_12 rfl ?_
      refine zw_iload_n dX3_noisySlots_13 rfl ?_
      refine zw_cVi dX3_noisySlots_14 (c_X3_quietHours hq (by omega)) rfl okX3_quietHours ml_X3_153 hq.i hq.k (by decide) rfl (Nat.le_of_ble_eq_true rfl) (Nat.le_of_ble_eq_true rfl) ?_
      refine zw_isub dX3_noisySlots_17 ?_
      refine zw_iadd dX3_noisySlots_18 ?_
      refine zw_istore_n dX3_noisySlots_19 (by decide) ?_
      refine zw_iincn dX3_noisySlots_20 rfl (by decide) ?_
      refine zw_goto (tgt := 4) dX3_noisySlots_23 (by decide) ?_
      exact WP.sub (ih4 (k + 1) (by omega)) ⟨rfl, rfl, rfl, trivial⟩
  exact WP.sub (L4 (4) 0 (by omega)) ⟨rfl, rfl, rfl, trivial⟩
def qrun (f : Nat → Int32) : Nat → Nat → Nat
  | 0, _ => 0
  | n + 1, h => if f h = 0 then qrun f n (h + 1) + 1 else 0
theorem qrun_le (f : Nat → Int32) : ∀ n h, qrun f n h ≤ n
  | 0, _ => Nat.le_refl 0
  | n + 1, h => by
    unfold qrun
    have := qrun_le f n (h + 1)
    split <;> omega
abbrev owr (C : Mem) (q st : Nat) : Nat → Int32 := fun h => C (q + 10) (st * 24 + h)
theorem nI_mx {a b : Nat} (ha : a < 2 ^ 31) (hb : b < 2 ^ 31) : (if nI a < nI b then nI b else nI a) = nI (max a b) := by
  by_cases h : a < b
  · rw [if_pos ((nI_ltI ha hb).mpr h), Nat.max_eq_right (by omega)]
  · rw [if_neg (fun z => h ((nI_ltI ha hb).mp z)), Nat.max_eq_left (by omega)]
def lqn (f : Nat → Int32) : Nat → Nat
  | 0 => 0
  | k + 1 => max (lqn f k) (qrun f (24 - k) k)
theorem lqn_le (f : Nat → Int32) : ∀ k, lqn f k ≤ 24
  | 0 => Nat.zero_le _
  | k + 1 => by
    have h1 := lqn_le f k
    have h2 := qrun_le f (24 - k) k
    show max _ _ ≤ 24
    omega
def lqs (f : Nat → Int32) : Nat → Int32
  | 0 => (-9)
  | k + 1 => if lqn f k < qrun f (24 - k) k then nI k else lqs f k
set_option maxRecDepth 100000 in
set_option maxHeartbeats 4000000 in
theorem c_X3_quietFrom {sh : Sh} {C : Mem} {q st h : Nat} (hq : IsSt sh q) (hst : st < 4) (hh : h < 24) : Calls mX3_quietFrom 1 0 0 [.inr (some (q)), .inl (nI (st)), .inl (nI (h))] sh C (some (.inl (nI (qrun (owr C q st) (24 - h) h)))) sh (C) := by
  refine Calls.of plX3 (Nat.le_of_ble_eq_true rfl) ?_
  show WP mX3_quietFrom 1 0 0 0 [some (.inr (some (q))), some (.inl (nI (st))), some (.inl (nI (h))), none] [] sh (C) (some (.inl (nI (qrun (owr C q st) (24 - h) h)))) sh (C)
  refine zw_iload_n dX3_quietFrom_0 rfl ?_
  refine zw_istore_n dX3_quietFrom_1 (by decide) ?_
  have L2 : ∀ (n_2 k : Nat), k + n_2 = 24 → h ≤ k → qrun (owr C q st) (24 - h) h = (k - h) + qrun (owr C q st) (24 - k) k → WP mX3_quietFrom 1 0 0 2 [some (.inr (some (q))), some (.inl (nI (st))), some (.inl (nI (h))), some (.inl (nI (k)))] [] sh (C) (some (.inl (nI (qrun (owr C q st) (24 - h) h)))) sh (C) := by
    intro n_2
    induction n_2 with
    | zero =>
      intro k hk2 hle hx
      have ek2 : 24 = k := by omega
      subst ek2
      refine zw_iload_n dX3_quietFrom_2 rfl ?_
      refine zw_bipush (v := nI 24) dX3_quietFrom_3 (by decide) ?_
      refine zw_icmp_ge_n (tgt := 27) dX3_quietFrom_5 (by decide) (by omega) (by omega) (fun c5 => ?_) (fun c5 => by omega)
      refine zw_iload_n dX3_quietFrom_27 rfl ?_
      refine zw_iload_n dX3_quietFrom_28 rfl ?_
      refine zw_isubn dX3_quietFrom_29 (by omega) ?_
      exact zw_iretE dX3_quietFrom_30 rfl (by rw [hx]; simp [qrun]) rfl (rfl)
    | succ n_2 ih2 =>
      intro k hk2 hle hx
      have hlt2 : k < 24 := by omega
      refine zw_iload_n dX3_quietFrom_2 rfl ?_
      refine zw_bipush (v := nI 24) dX3_quietFrom_3 (by decide) ?_
      refine zw_icmp_ge_n (tgt := 27) dX3_quietFrom_5 (by decide) (by omega) (by omega) (fun c5 => by omega) (fun c5 => ?_)
      refine zw_aload_n dX3_quietFrom_8 rfl ?_
      refine zw_getR (j := 13) (kd := 3) dX3_quietFrom_9 hq.i hq.k (by decide) (by decide) fl_X3_43 rfl hq.r9 ?_
      refine zw_iload_n dX3_quietFrom_12 rfl ?_
      refine zw_iload_n dX3_quietFrom_13 rfl ?_
      refine zw_cNi dX3_quietFrom_14 (c_X4_slotAt _ _) rfl okX4_slotAt nl_X3_156 (Nat.le_of_ble_eq_true rfl) (Nat.le_of_ble_eq_true rfl) ?_
      refine zw_iald dX3_quietFrom_17 hq.i9 hq.k9 hq.L9 rfl (by rw [hq.n9]; omega) ?_
      refine zw_if_ne (tgt := 27) dX3_quietFrom_18 (by decide) (fun c18 => ?_) (fun c18 => ?_)
      · refine zw_iload_n dX3_quietFrom_27 rfl ?_
        refine zw_iload_n dX3_quietFrom_28 rfl ?_
        refine zw_isubn dX3_quietFrom_29 (by omega) ?_
        exact zw_iretE dX3_quietFrom_30 rfl (by congr 3; have hz := hx; rw [show 24 - k = n_2 + 1 by omega] at hz; simp only [qrun] at hz; rw [if_neg c18] at hz; omega) rfl (rfl)
      · refine zw_iincn dX3_quietFrom_21 rfl (by decide) ?_
        refine zw_goto (tgt := 2) dX3_quietFrom_24 (by decide) ?_
        exact WP.sub (ih2 (k + 1) (by omega) (by omega) (by have hz := hx; rw [show 24 - k = n_2 + 1 by omega] at hz; simp only [qrun] at hz; rw [if_pos c18] at hz; rw [show 24 - (k + 1) = n_2 by omega]; omega)) ⟨rfl, rfl, rfl, rfl, trivial⟩
  exact WP.sub (L2 (24 - h) h (by omega) (Nat.le_refl h) (by rw [Nat.sub_self, Nat.zero_add])) ⟨rfl, rfl, rfl, rfl, trivial⟩
set_option maxRecDepth 100000 in
set_option maxHeartbeats 4000000 in
theorem c_X3_longestQuiet {sh : Sh} {C : Mem} {q st : Nat} (hq : IsSt sh q) (hst : st < 4) : Calls mX3_longestQuiet 2 0 0 [.inr (some (q)), .inl (nI (st))] sh C (some (.inl (nI (lqn (owr C q st) 24)))) sh (C) := by
  refine Calls.of plX3 (Nat.le_of_ble_eq_true rfl) ?_
  show WP mX3_longestQuiet 2 0 0 0 [some (.inr (some (q))), some (.inl (nI (st))), none, none] [] sh (C) (some (.inl (nI (lqn (owr C q st) 24)))) sh (C)
  refine zw_iconst (v := nI 0) dX3_longestQuiet_0 (by decide) ?_
  refine zw_istore_n dX3_longestQuiet_1 (by decide) ?_
  refine zw_iconst (v := nI 0) dX3_longestQuiet_2 (by decide) ?_
  refine zw_istore_n dX3_longestQuiet_3 (by decide) ?_
  have L4 : ∀ (n_4 k : Nat), k + n_4 = 24 → WP mX3_longestQuiet 2 0 0 4 [some (.inr (some (q))), some (.inl (nI (st))), some (.inl (nI (lqn (owr C q st) (k)))), some (.inl (nI (k)))] [] sh (C) (some (.inl (nI (lqn (owr C q st) 24)))) sh (C) := by
    intro n_4
    induction n_4 with
    | zero =>
      intro k hk4
      have ek4 : 24 = k := by omega
      subst ek4
      refine zw_iload_n dX3_longestQuiet_4 rfl ?_
      refine zw_bipush (v := nI 24) dX3_longestQuiet_5 (by decide) ?_
      refine zw_icmp_ge_n (tgt := 27) dX3_longestQuiet_7 (by decide) (by omega) (by omega) (fun c7 => ?_) (fun c7 => by omega)
      refine zw_iload_n dX3_longestQuiet_27 rfl ?_
      exact zw_iretE dX3_longestQuiet_28 rfl (rfl) rfl (rfl)
    | succ n_4 ih4 =>
      intro k hk4
      have hlt4 : k < 24 := by omega
      refine zw_iload_n dX3_longestQuiet_4 rfl ?_
      refine zw_bipush (v := nI 24) dX3_longestQuiet_5 (by decide) ?_
      refine zw_icmp_ge_n (tgt := 27) dX3_longestQuiet_7 (by decide) (by omega) (by omega) (fun c7 => by omega) (fun c7 => ?_)
      refine zw_iload_n dX3_longestQuiet_10 rfl ?_
      refine zw_aload_n dX3_longestQuiet_11 rfl ?_
      refine zw_iload_n dX3_longestQuiet_12 rfl ?_
      refine zw_iload_n dX3_longestQuiet_13 rfl ?_
      refine zw_cVi dX3_longestQuiet_14 (c_X3_quietFrom hq (by omega) (by omega)) rfl okX3_quietFrom ml_X3_159 hq.i hq.k (by decide) rfl (Nat.le_of_ble_eq_true rfl) (Nat.le_of_ble_eq_true rfl) ?_
      refine zw_mmax dX3_longestQuiet_17 ml_X3_119 (by decide) (Nat.le_of_ble_eq_true rfl) ?_
      refine zw_top (x2 := (nI (max (lqn (owr C q st) k) (qrun (owr C q st) (24 - k) k)))) (nI_mx (by have := lqn_le (owr C q st) k; omega) (by have := qrun_le (owr C q st) (24 - k) k; omega)) ?_
      refine zw_istore_n dX3_longestQuiet_20 (by decide) ?_
      refine zw_iincn dX3_longestQuiet_21 rfl (by decide) ?_
      refine zw_goto (tgt := 4) dX3_longestQuiet_24 (by decide) ?_
      exact WP.sub (ih4 (k + 1) (by omega)) ⟨rfl, rfl, rfl, rfl, trivial⟩
  exact WP.sub (L4 (24) 0 (by omega)) ⟨rfl, rfl, rfl, rfl, trivial⟩
set_option maxRecDepth 100000 in
set_option maxHeartbeats 4000000 in
theorem c_X3_longestQuietStart {sh : Sh} {C : Mem} {q st : Nat} (hq : IsSt sh q) (hst : st < 4) : Calls mX3_longestQuietStart 2 0 0 [.inr (some (q)), .inl (nI (st))] sh C (some (.inl (lqs (owr C q st) 24))) sh (C) := by
  refine Calls.of plX3 (Nat.le_of_ble_eq_true rfl) ?_
  show WP mX3_longestQuietStart 2 0 0 0 [some (.inr (some (q))), some (.inl (nI (st))), none, none, none, none] [] sh (C) (some (.inl (lqs (owr C q st) 24))) sh (C)
  refine zw_bipush (v := (-9)) dX3_longestQuietStart_0 (by decide) ?_
  refine zw_istore_n dX3_longestQuietStart_2 (by decide) ?_
  refine zw_iconst (v := nI 0) dX3_longestQuietStart_3 (by decide) ?_
  refine zw_istore_n dX3_longestQuietStart_4 (by decide) ?_
  refine zw_iconst (v := nI 0) dX3_longestQuietStart_5 (by decide) ?_
  refine zw_istore dX3_longestQuietStart_6 (by decide) ?_
  have L8 : ∀ (n_8 k : Nat), k + n_8 = 24 → WP mX3_longestQuietStart 2 0 0 8 [some (.inr (some (q))), some (.inl (nI (st))), some (.inl (lqs (owr C q st) (k))), some (.inl (nI (lqn (owr C q st) (k)))), some (.inl (nI (k))), none] [] sh (C) (some (.inl (lqs (owr C q st) 24))) sh (C) := by
    intro n_8
    induction n_8 with
    | zero =>
      intro k hk8
      have ek8 : 24 = k := by omega
      subst ek8
      refine zw_iload dX3_longestQuietStart_8 rfl ?_
      refine zw_bipush (v := nI 24) dX3_longestQuietStart_10 (by decide) ?_
      refine zw_icmp_ge_n (tgt := 42) dX3_longestQuietStart_12 (by decide) (by omega) (by omega) (fun c12 => ?_) (fun c12 => by omega)
      refine zw_iload_n dX3_longestQuietStart_42 rfl ?_
      exact zw_iretE dX3_longestQuietStart_43 rfl (rfl) rfl (rfl)
    | succ n_8 ih8 =>
      intro k hk8
      have hlt8 : k < 24 := by omega
      refine zw_iload dX3_longestQuietStart_8 rfl ?_
      refine zw_bipush (v := nI 24) dX3_longestQuietStart_10 (by decide) ?_
      refine zw_icmp_ge_n (tgt := 42) dX3_longestQuietStart_12 (by decide) (by omega) (by omega) (fun c12 => by omega) (fun c12 => ?_)
      refine zw_aload_n dX3_longestQuietStart_15 rfl ?_
      refine zw_iload_n dX3_longestQuietStart_16 rfl ?_
      refine zw_iload dX3_longestQuietStart_17 rfl ?_
      refine zw_cVi dX3_longestQuietStart_19 (c_X3_quietFrom hq (by omega) (by omega)) rfl okX3_quietFrom ml_X3_159 hq.i hq.k (by decide) rfl (Nat.le_of_ble_eq_true rfl) (Nat.le_of_ble_eq_true rfl) ?_
      refine zw_istore dX3_longestQuietStart_22 (by decide) ?_
      refine zw_iload dX3_longestQuietStart_24 rfl ?_
      refine zw_iload_n dX3_longestQuietStart_26 rfl ?_
      have hl1 := lqn_le (owr C q st) k
      have hl2 := qrun_le (owr C q st) (24 - k) k
      refine zw_icmp_le_n (tgt := 36) dX3_longestQuietStart_27 (by decide) (by omega) (by omega) (fun c27 => ?_) (fun c27 => ?_)
      · refine zw_iincn dX3_longestQuietStart_36 rfl (by decide) ?_
        refine zw_goto (tgt := 8) dX3_longestQuietStart_39 (by decide) ?_
        exact WP.sub (ih8 (k + 1) (by omega)) ⟨rfl, rfl, (hd_eq (by simp [lqs, c27] <;> (intro; omega))), (hd_eq (by simp only [lqn]; congr 4; omega)), rfl, trivial⟩
      · refine zw_iload dX3_longestQuietStart_30 rfl ?_
        refine zw_istore_n dX3_longestQuietStart_32 (by decide) ?_
        refine zw_iload dX3_longestQuietStart_33 rfl ?_
        refine zw_istore_n dX3_longestQuietStart_35 (by decide) ?_
        refine zw_iincn dX3_longestQuietStart_36 rfl (by decide) ?_
        refine zw_goto (tgt := 8) dX3_longestQuietStart_39 (by decide) ?_
        exact WP.sub (ih8 (k + 1) (by omega)) ⟨rfl, rfl, (hd_eq (by simp [lqs, c27] <;> (intro; omega))), (hd_eq (by simp only [lqn]; congr 4; omega)), rfl, trivial⟩
  exact WP.sub (L8 (24) 0 (by omega)) ⟨rfl, rfl, rfl, rfl, rfl, trivial⟩
/-! ===== History ===== -/
def recM (C : Mem) (h o z f : Nat) : Mem :=
  let C1 := cpM C f (h + 2 + 16 * ((o + z) % 5))
  if z < 5 then up C1 h 2 (nI (z + 1)) else up C1 h 1 (nI ((o + 1) % 5))
set_option maxRecDepth 100000 in
set_option maxHeartbeats 4000000 in
theorem c_X0_record {sh : Sh} {C : Mem} {h f o z : Nat} (hh : IsHi sh h) (hf : IsSt sh f) (ho : C h 1 = nI o) (hz : C h 2 = nI z) (ho5 : o < 5) (hz5 : z ≤ 5) : Calls mX0_record 2 0 0 [.inr (some (h)), .inr (some (f))] sh C (none) sh (recM C h o z f) := by
  refine Calls.of plX0 (Nat.le_of_ble_eq_true rfl) ?_
  show WP mX0_record 2 0 0 0 [some (.inr (some (h))), some (.inr (some (f)))] [] sh (C) (none) sh (recM C h o z f)
  refine zw_aload_n dX0_record_0 rfl ?_
  refine zw_getR (j := 0) (kd := 0) dX0_record_1 hh.i hh.k (by decide) (by decide) fl_X0_11 rfl hh.r0 ?_
  refine zw_aload_n dX0_record_4 rfl ?_
  refine zw_getIv (j := 1) (kd := 0) (v := (nI (o))) dX0_record_5 hh.i hh.k (by decide) (by decide) fl_X0_18 rfl (by first | exact ho | (rw [cpM_ne (by omega)]; exact ho)) ?_
  refine zw_aload_n dX0_record_8 rfl ?_
  refine zw_getIv (j := 2) (kd := 0) (v := (nI (z))) dX0_record_9 hh.i hh.k (by decide) (by decide) fl_X0_22 rfl (by first | exact hz | (rw [cpM_ne (by omega)]; exact hz)) ?_
  refine zw_iaddn dX0_record_12 ?_
  refine zw_iconst (v := nI 5) dX0_record_13 (by decide) ?_
  refine zw_iremn dX0_record_14 (by omega) (by omega) (by omega) ?_
  refine zw_aaldS dX0_record_15 hh.i0 hh.k0 hh.L0 rfl (by rw [hh.n0]; exact (by omega)) (hh.row (by omega)) ?_
  refine zw_aload_n dX0_record_16 rfl ?_
  refine zw_cVv dX0_record_17 (c_X3_copyFrom (hh.st (by omega)) hf) rfl okX3_copyFrom ml_X0_25 (hh.st (by omega)).i (hh.st (by omega)).k (by decide) rfl (Nat.le_of_ble_eq_true rfl) (Nat.le_of_ble_eq_true rfl) ?_
  refine zw_aload_n dX0_record_20 rfl ?_
  refine zw_getIv (j := 2) (kd := 0) (v := (nI (z))) dX0_record_21 hh.i hh.k (by decide) (by decide) fl_X0_22 rfl (by first | exact hz | (rw [cpM_ne (by omega)]; exact hz)) ?_
  refine zw_iconst (v := nI 5) dX0_record_24 (by decide) ?_
  refine zw_icmp_ge_n (tgt := 41) dX0_record_25 (by decide) (by omega) (by omega) (fun c25 => ?_) (fun c25 => ?_)
  · refine zw_aload_n dX0_record_41 rfl ?_
    refine zw_aload_n dX0_record_42 rfl ?_
    refine zw_getIv (j := 1) (kd := 0) (v := (nI (o))) dX0_record_43 hh.i hh.k (by decide) (by decide) fl_X0_18 rfl (by first | exact ho | (rw [cpM_ne (by omega)]; exact ho)) ?_
    refine zw_iconst (v := nI 1) dX0_record_46 (by decide) ?_
    refine zw_iaddn dX0_record_47 ?_
    refine zw_iconst (v := nI 5) dX0_record_48 (by decide) ?_
    refine zw_iremn dX0_record_49 (by omega) (by omega) (by omega) ?_
    refine zw_putI (j := 1) (kd := 0) dX0_record_50 hh.i hh.k (by decide) (by decide) fl_X0_18 rfl rfl rfl ?_
    exact zw_vretE dX0_record_53 rfl rfl rfl (by simp only [recM]; rw [if_neg (by omega)])
  · refine zw_aload_n dX0_record_28 rfl ?_
    refine zw_dup dX0_record_29 ?_
    refine zw_getIv (j := 2) (kd := 0) (v := (nI (z))) dX0_record_30 hh.i hh.k (by decide) (by decide) fl_X0_22 rfl (by first | exact hz | (rw [cpM_ne (by omega)]; exact hz)) ?_
    refine zw_iconst (v := nI 1) dX0_record_33 (by decide) ?_
    refine zw_iaddn dX0_record_34 ?_
    refine zw_putI (j := 2) (kd := 0) dX0_record_35 hh.i hh.k (by decide) (by decide) fl_X0_22 rfl rfl rfl ?_
    refine zw_goto (tgt := 53) dX0_record_38 (by decide) ?_
    exact zw_vretE dX0_record_53 rfl rfl rfl (by simp only [recM]; rw [if_pos (by omega)])
def resM (C : Mem) (h o z f : Nat) : Mem := if 0 < z then cpM (up C h 2 (nI (z - 1))) (h + 2 + 16 * ((o + (z - 1)) % 5)) f else C
set_option maxRecDepth 100000 in
set_option maxHeartbeats 4000000 in
theorem c_X0_restoreLatest {sh : Sh} {C : Mem} {h f o z : Nat} (hh : IsHi sh h) (hf : IsSt sh f) (ho : C h 1 = nI o) (hz : C h 2 = nI z) (ho5 : o < 5) (hz5 : z ≤ 5) : Calls mX0_restoreLatest 2 0 0 [.inr (some (h)), .inr (some (f))] sh C (none) sh (resM C h o z f) := by
  refine Calls.of plX0 (Nat.le_of_ble_eq_true rfl) ?_
  show WP mX0_restoreLatest 2 0 0 0 [some (.inr (some (h))), some (.inr (some (f)))] [] sh (C) (none) sh (resM C h o z f)
  refine zw_aload_n dX0_restoreLatest_0 rfl ?_
  refine zw_getIv (j := 2) (kd := 0) (v := (nI (z))) dX0_restoreLatest_1 hh.i hh.k (by decide) (by decide) fl_X0_22 rfl hz ?_
  refine zw_if_le_n (tgt := 37) dX0_restoreLatest_4 (by decide) (by omega) (fun c4 => ?_) (fun c4 => ?_)
  · exact zw_vretE dX0_restoreLatest_37 rfl rfl rfl (by simp only [resM]; rw [if_neg (by omega)])
  · refine zw_aload_n dX0_restoreLatest_7 rfl ?_
    refine zw_dup dX0_restoreLatest_8 ?_
    refine zw_getIv (j := 2) (kd := 0) (v := (nI (z))) dX0_restoreLatest_9 hh.i hh.k (by decide) (by decide) fl_X0_22 rfl hz ?_
    refine zw_iconst (v := nI 1) dX0_restoreLatest_12 (by decide) ?_
    refine zw_isubn dX0_restoreLatest_13 (by omega) ?_
    refine zw_putI (j := 2) (kd := 0) dX0_restoreLatest_14 hh.i hh.k (by decide) (by decide) fl_X0_22 rfl rfl rfl ?_
    refine zw_aload_n dX0_restoreLatest_17 rfl ?_
    refine zw_aload_n dX0_restoreLatest_18 rfl ?_
    refine zw_getR (j := 0) (kd := 0) dX0_restoreLatest_19 hh.i hh.k (by decide) (by decide) fl_X0_11 rfl hh.r0 ?_
    refine zw_aload_n dX0_restoreLatest_22 rfl ?_
    refine zw_getIv (j := 1) (kd := 0) (v := (nI (o))) dX0_restoreLatest_23 hh.i hh.k (by decide) (by decide) fl_X0_18 rfl (by rw [up_ne2 (by decide)]; exact ho) ?_
    refine zw_aload_n dX0_restoreLatest_26 rfl ?_
    refine zw_getIv (j := 2) (kd := 0) (v := (nI (z - 1))) dX0_restoreLatest_27 hh.i hh.k (by decide) (by decide) fl_X0_22 rfl up_eq ?_
    refine zw_iaddn dX0_restoreLatest_30 ?_
    refine zw_iconst (v := nI 5) dX0_restoreLatest_31 (by decide) ?_
    refine zw_iremn dX0_restoreLatest_32 (by omega) (by omega) (by omega) ?_
    refine zw_aaldS dX0_restoreLatest_33 hh.i0 hh.k0 hh.L0 rfl (by rw [hh.n0]; exact (by omega)) (hh.row (by omega)) ?_
    refine zw_cVv dX0_restoreLatest_34 (c_X3_copyFrom hf (hh.st (by omega))) rfl okX3_copyFrom ml_X0_25 hf.i hf.k (by decide) rfl (Nat.le_of_ble_eq_true rfl) (Nat.le_of_ble_eq_true rfl) ?_
    exact zw_vretE dX0_restoreLatest_37 rfl rfl rfl (by simp only [resM]; rw [if_pos (by omega)])
end
section
/-! ===== Plan: the text and its reading ===== -/
abbrev LxS : Type := Nat × Int32
/-- a base memory, with place, failure, depth and number of parts of the plan at q -/
def PL (C : Mem) (q : Nat) (l : LxS) (de np : Nat) : Mem := fun a => if a = q then (fun j => if j = 6 then nI l.1 else if j = 4 then l.2 else if j = 5 then nI de else if j = 3 then nI np else C q j) else C a
theorem PL_po {C : Mem} {q : Nat} {l : LxS} {de np : Nat} : PL C q l de np q 6 = nI l.1 := by simp [PL]
theorem PL_fa {C : Mem} {q : Nat} {l : LxS} {de np : Nat} : PL C q l de np q 4 = l.2 := by simp [PL]
theorem PL_de {C : Mem} {q : Nat} {l : LxS} {de np : Nat} : PL C q l de np q 5 = nI de := by simp [PL]
theorem PL_np {C : Mem} {q : Nat} {l : LxS} {de np : Nat} : PL C q l de np q 3 = nI np := by simp [PL]
theorem PL_f {C : Mem} {q : Nat} {l : LxS} {de np : Nat} {j : Nat} (h : j < 3 ∨ 6 < j) : PL C q l de np q j = C q j := by
  have h1 : j ≠ 6 := by omega
  have h2 : j ≠ 4 := by omega
  have h3 : j ≠ 5 := by omega
  have h4 : j ≠ 3 := by omega
  simp [PL, h1, h2, h3, h4]
theorem PL_ne {C : Mem} {q : Nat} {l : LxS} {de np a : Nat} (h : a ≠ q) : PL C q l de np a = C a := by simp [PL, h]
theorem PL_upo {C : Mem} {q : Nat} {l : LxS} {de np x : Nat} : up (PL C q l de np) q 6 (nI x) = PL C q (x, l.2) de np := by
  funext a j
  by_cases h : a = q
  · subst h
    by_cases hj : j = 6 <;> simp [up, upd, PL, hj]
  · simp [up, PL, h]
theorem PL_ufa {C : Mem} {q : Nat} {l : LxS} {de np : Nat} {x : Int32} : up (PL C q l de np) q 4 x = PL C q (l.1, x) de np := by
  funext a j
  by_cases h : a = q
  · subst h
    by_cases hj : j = 4
    · simp [up, upd, PL, hj]
    · simp [up, upd, PL, hj]
  · simp [up, PL, h]
theorem PL_ude {C : Mem} {q : Nat} {l : LxS} {de np x : Nat} : up (PL C q l de np) q 5 (nI x) = PL C q l x np := by
  funext a j
  by_cases h : a = q
  · subst h
    by_cases hj : j = 5
    · simp [up, upd, PL, hj]
    · simp [up, upd, PL, hj]
  · simp [up, PL, h]
theorem PL_unp {C : Mem} {q : Nat} {l : LxS} {de np x : Nat} : up (PL C q l de np) q 3 (nI x) = PL C q l de x := by
  funext a j
  by_cases h : a = q
  · subst h
    by_cases hj : j = 3
    · simp [up, upd, PL, hj]
    · simp [up, upd, PL, hj]
  · simp [up, PL, h]
theorem PL_up {C : Mem} {q : Nat} {l : LxS} {de np a j : Nat} {x : Int32} (h : a ≠ q) : up (PL C q l de np) a j x = PL (up C a j x) q l de np := by
  funext b i
  by_cases hb : b = a
  · subst hb
    simp [up, upd, PL, h]
  · by_cases hq : b = q
    · subst hq
      simp [up, PL, hb]
    · simp [up, PL, hb, hq]
/-- the text: its length, its signs -/
def PlOk (C : Mem) (q len : Nat) (tx : Nat → Int32) : Prop := C q 1 = nI len ∧ len ≤ 100 ∧ ∀ p, p < len → C (q + 1) p = tx p
theorem PlOk.wr {C : Mem} {q len a j : Nat} {tx : Nat → Int32} {x : Int32} (h : PlOk C q len tx) (h1 : q ≠ a) (h2 : q + 1 ≠ a) : PlOk (up C a j x) q len tx := ⟨by rw [up_ne h1]; exact h.1, h.2.1, by rw [up_ne h2]; exact h.2.2⟩
def gF (len : Nat) (tx : Nat → Int32) (p : Nat) : Int32 := if p < len then tx p else nI 0
theorem gF_lt {len : Nat} {tx : Nat → Int32} {p : Nat} {w : Int32} (h : gF len tx p = w) (hw : w ≠ nI 0) : p < len := by
  unfold gF at h
  by_cases hp : p < len
  · exact hp
  · rw [if_neg hp] at h
    exact absurd h.symm hw
abbrev isD (x : Int32) : Prop := nI 48 ≤ x ∧ x ≤ nI 57
abbrev lTI (g : Nat → Int32) (w : Int32) (l : LxS) : Prop := l.2 = (-1) ∧ g l.1 = w
def lTIs (g : Nat → Int32) (w : Int32) (l : LxS) : LxS := (if lTI g w l then l.1 + 1 else l.1, l.2)
def lFA (x : Int32) (l : LxS) : LxS := (l.1, if l.2 = (-1) then x else l.2)
def lTK (g : Nat → Int32) (w : Int32) (l : LxS) : LxS := (if lTI g w l then l.1 + 1 else l.1, if lTI g w l then l.2 else if l.2 = (-1) then nI l.1 else l.2)
def lSK (l : LxS) : LxS := (if l.2 = (-1) then l.1 + 1 else l.1, l.2)
abbrev isSt (x : Int32) : Prop := nI 0 ≤ x ∧ x ≤ nI 3
def lTS (g : Nat → Int32) (l : LxS) : LxS := lSK (if isSt (g l.1 - nI 48) then l else lFA (nI l.1) l)
theorem lTIs_le {len : Nat} {tx : Nat → Int32} {w : Int32} {l : LxS} (hl : l.1 ≤ 100) (hlen : len ≤ 100) (hw : w ≠ nI 0) : (lTIs (gF len tx) w l).1 ≤ 100 := by
  show (if lTI _ _ _ then _ else _) ≤ 100
  split
  · rename_i h
    have := gF_lt h.2 hw
    omega
  · exact hl
theorem lTK_le {len : Nat} {tx : Nat → Int32} {w : Int32} {l : LxS} (hl : l.1 ≤ 100) (hlen : len ≤ 100) (hw : w ≠ nI 0) : (lTK (gF len tx) w l).1 ≤ 100 := by
  show (if lTI _ _ _ then _ else _) ≤ 100
  split
  · rename_i h
    have := gF_lt h.2 hw
    omega
  · exact hl
theorem nI_ne_m1 {n : Nat} (h : n < 2 ^ 31) : nI n ≠ (-1) := fun z => by
  have h1 := nI_pos (n := n) h
  rw [z] at h1
  exact h1 (by decide)
theorem chn {n : Nat} (h : (Nat.ble 1 n && Nat.ble n 1000) = true) : nI n ≠ nI 0 := by
  simp only [Bool.and_eq_true, Nat.ble_eq] at h
  exact fun z => absurd ((nI_eq (by omega) (by decide)).mp z) (by omega)
theorem lFA_ok {n : Nat} {l : LxS} (h : n < 2 ^ 31) : (lFA (nI n) l).2 ≠ (-1) := by
  show (if l.2 = (-1) then nI n else l.2) ≠ _
  split
  · exact nI_ne_m1 h
  · assumption
theorem gF_st {len : Nat} {tx : Nat → Int32} {p : Nat} (h : isSt (gF len tx p - nI 48)) : p < len := by
  by_cases hp : p < len
  · exact hp
  · unfold gF at h
    rw [if_neg hp] at h
    exact absurd h.1 (by decide)
theorem lTS_le {len : Nat} {tx : Nat → Int32} {l : LxS} (hl : l.1 ≤ 100) (hlen : len ≤ 100) : (lTS (gF len tx) l).1 ≤ 100 := by
  unfold lTS
  by_cases h : isSt (gF len tx l.1 - nI 48)
  · rw [if_pos h]
    have := gF_st h
    show (if l.2 = (-1) then l.1 + 1 else l.1) ≤ 100
    split <;> omega
  · rw [if_neg h]
    show (if (lFA (nI l.1) l).2 = (-1) then _ else _) ≤ 100
    rw [if_neg (lFA_ok (by omega))]
    exact hl
def bI (b : Bool) : Int32 := if b = true then nI 1 else nI 0
theorem bI_0 {b : Bool} : bI b = 0 ↔ ¬ b = true := by cases b <;> decide
def tnL (g : Nat → Int32) (fa : Int32) : Nat → Nat → Int32 → Bool → Nat × Int32
  | 0, po, num, _ => (po, num)
  | n + 1, po, num, go => if go = true ∧ isD (g po) then tnL g fa n (if fa = (-1) then po + 1 else po) (num * nI 10 + g po - nI 48) (decide (0 < num * nI 10 + g po - nI 48)) else (po, num)
def tnF (g : Nat → Int32) (lo hi : Int32) (l : LxS) : LxS × Int32 :=
  let r := tnL g l.2 3 l.1 (nI 0) true
  let f1 := if r.1 = l.1 ∨ isD (g r.1) then (if l.2 = (-1) then nI r.1 else l.2) else l.2
  let f2 := if lo ≤ r.2 ∧ r.2 ≤ hi then f1 else (if f1 = (-1) then nI l.1 else f1)
  ((r.1, f2), r.2)
theorem gF_isD {len : Nat} {tx : Nat → Int32} {p : Nat} (h : isD (gF len tx p)) : p < len := by
  by_cases hp : p < len
  · exact hp
  · unfold gF at h
    rw [if_neg hp] at h
    exact absurd h.1 (by decide)
theorem tnL_le {len : Nat} {tx : Nat → Int32} {fa : Int32} (hlen : len ≤ 100) : ∀ (n po : Nat) (num : Int32) (go : Bool), po ≤ 100 → (tnL (gF len tx) fa n po num go).1 ≤ 100
  | 0, po, num, go, h => h
  | n + 1, po, num, go, h => by
    unfold tnL
    split
    · rename_i h1
      have := gF_isD h1.2
      exact tnL_le hlen n _ _ _ (by split <;> omega)
    · exact h
theorem tnF_le {len : Nat} {tx : Nat → Int32} {lo hi : Int32} {l : LxS} (hl : l.1 ≤ 100) (hlen : len ≤ 100) : (tnF (gF len tx) lo hi l).1.1 ≤ 100 := tnL_le hlen 3 l.1 (nI 0) true hl
set_option maxRecDepth 100000 in
set_option maxHeartbeats 4000000 in
theorem c_X2_hasFailed {sh : Sh} {C : Mem} {q len : Nat} {tx : Nat → Int32} {l : LxS} {de np : Nat} (hq : IsPl sh q) (hC : PlOk C q len tx) (hl : l.1 ≤ 100)  : Calls mX2_hasFailed 0 0 0 [.inr (some (q))] sh (PL C q l de np) (some (.inl (b01c (¬ l.2 = (-1))))) sh (PL (C) q (l) (de) (np)) := by
  refine Calls.of plX2 (Nat.le_of_ble_eq_true rfl) ?_
  have h100 := hC.2.1
  show WP mX2_hasFailed 0 0 0 0 [some (.inr (some (q)))] [] sh (PL C q l de np) (some (.inl (b01c (¬ l.2 = (-1))))) sh (PL (C) q (l) (de) (np))
  refine zw_aload_n dX2_hasFailed_0 rfl ?_
  refine zw_getIv (j := 4) (kd := 2) (v := ((l).2)) dX2_hasFailed_1 hq.i hq.k (by decide) (by decide) fl_X2_21 rfl PL_fa ?_
  refine zw_iconst (v := (-1)) dX2_hasFailed_4 (by decide) ?_
  refine zw_icmp_eq (tgt := 12) dX2_hasFailed_5 (by decide) (fun c5 => ?_) (fun c5 => ?_)
  · refine zw_iconst (v := nI 0) dX2_hasFailed_12 (by decide) ?_
    exact zw_zretE dX2_hasFailed_13 rfl (Or.inl rfl) (by rw [b01c_f (fun z => z c5)]) rfl (rfl)
  · refine zw_iconst (v := nI 1) dX2_hasFailed_8 (by decide) ?_
    refine zw_goto (tgt := 13) dX2_hasFailed_9 (by decide) ?_
    exact zw_zretE dX2_hasFailed_13 rfl (Or.inr rfl) (by rw [b01c_t c5]) rfl (rfl)
set_option maxRecDepth 100000 in
set_option maxHeartbeats 4000000 in
theorem c_X2_sign {sh : Sh} {C : Mem} {q len : Nat} {tx : Nat → Int32} {l : LxS} {de np : Nat} (hq : IsPl sh q) (hC : PlOk C q len tx) (hl : l.1 ≤ 100)  : Calls mX2_sign 0 0 0 [.inr (some (q))] sh (PL C q l de np) (some (.inl ((gF len tx) l.1))) sh (PL (C) q (l) (de) (np)) := by
  refine Calls.of plX2 (Nat.le_of_ble_eq_true rfl) ?_
  have h100 := hC.2.1
  show WP mX2_sign 0 0 0 0 [some (.inr (some (q)))] [] sh (PL C q l de np) (some (.inl ((gF len tx) l.1))) sh (PL (C) q (l) (de) (np))
  refine zw_aload_n dX2_sign_0 rfl ?_
  refine zw_getIv (j := 6) (kd := 2) (v := (nI ((l).1))) dX2_sign_1 hq.i hq.k (by decide) (by decide) fl_X2_29 rfl PL_po ?_
  refine zw_aload_n dX2_sign_4 rfl ?_
  refine zw_getIv (j := 1) (kd := 2) (v := (nI (len))) dX2_sign_5 hq.i hq.k (by decide) (by decide) fl_X2_38 rfl ((PL_f (by decide)).trans hC.1) ?_
  refine zw_icmp_ge_n (tgt := 23) dX2_sign_8 (by decide) (by omega) (by omega) (fun c8 => ?_) (fun c8 => ?_)
  · refine zw_iconst (v := nI 0) dX2_sign_23 (by decide) ?_
    exact zw_iretE dX2_sign_24 rfl (by simp only [gF]; rw [if_neg (by omega)]) rfl (rfl)
  · refine zw_aload_n dX2_sign_11 rfl ?_
    refine zw_getR (j := 0) (kd := 2) dX2_sign_12 hq.i hq.k (by decide) (by decide) fl_X2_9 rfl hq.r0 ?_
    refine zw_aload_n dX2_sign_15 rfl ?_
    refine zw_getIv (j := 6) (kd := 2) (v := (nI ((l).1))) dX2_sign_16 hq.i hq.k (by decide) (by decide) fl_X2_29 rfl PL_po ?_
    refine zw_iald dX2_sign_19 hq.i0 hq.k0 hq.L0 rfl (by rw [hq.n0]; omega) ?_
    refine zw_goto (tgt := 24) dX2_sign_20 (by decide) ?_
    exact zw_iretE dX2_sign_24 rfl (by simp only [gF]; rw [if_pos c8, ← hC.2.2 _ c8, PL_ne (by omega)]) rfl (rfl)
set_option maxRecDepth 100000 in
set_option maxHeartbeats 4000000 in
theorem c_X2_isDigit {sh : Sh} {C : Mem} (v : Int32) : Calls mX2_isDigit 1 0 0 [.inl (v)] sh C (some (.inl (b01 (isD v)))) sh (C) := by
  refine Calls.of plX2 (Nat.le_of_ble_eq_true rfl) ?_
  show WP mX2_isDigit 1 0 0 0 [some (.inl (v))] [] sh (C) (some (.inl (b01 (isD v)))) sh (C)
  refine zw_iload_n dX2_isDigit_0 rfl ?_
  refine zw_bipush (v := nI 48) dX2_isDigit_1 (by decide) ?_
  refine zw_bipush (v := nI 57) dX2_isDigit_3 (by decide) ?_
  refine zw_cNi dX2_isDigit_5 (c_X4_isWithin _ _ _) rfl okX4_isWithin nl_X2_109 (Nat.le_of_ble_eq_true rfl) (Nat.le_of_ble_eq_true rfl) ?_
  exact zw_zretE dX2_isDigit_8 rfl b01_01 (rfl) rfl (rfl)
set_option maxRecDepth 100000 in
set_option maxHeartbeats 4000000 in
theorem c_X2_failAt {sh : Sh} {C : Mem} {q len : Nat} {tx : Nat → Int32} {l : LxS} {de np : Nat} (hq : IsPl sh q) (hC : PlOk C q len tx) (hl : l.1 ≤ 100) (x : Int32) : Calls mX2_failAt 1 0 0 [.inr (some (q)), .inl (x)] sh (PL C q l de np) (none) sh (PL (C) q (lFA x l) (de) (np)) := by
  refine Calls.of plX2 (Nat.le_of_ble_eq_true rfl) ?_
  have h100 := hC.2.1
  show WP mX2_failAt 1 0 0 0 [some (.inr (some (q))), some (.inl (x))] [] sh (PL C q l de np) (none) sh (PL (C) q (lFA x l) (de) (np))
  refine zw_aload_n dX2_failAt_0 rfl ?_
  refine zw_cVi dX2_failAt_1 (c_X2_hasFailed hq hC hl) rfl okX2_hasFailed ml_X2_41 hq.i hq.k (by decide) rfl (Nat.le_of_ble_eq_true rfl) (Nat.le_of_ble_eq_true rfl) ?_
  refine zw_if_ne_c (tgt := 12) dX2_failAt_4 (by decide) (fun c4 => ?_) (fun c4 => ?_)
  · exact zw_vretE dX2_failAt_12 rfl rfl rfl (by simp only [lFA]; rw [if_neg c4])
  · refine zw_aload_n dX2_failAt_7 rfl ?_
    refine zw_iload_n dX2_failAt_8 rfl ?_
    refine zw_putI (j := 4) (kd := 2) dX2_failAt_9 hq.i hq.k (by decide) (by decide) fl_X2_21 rfl rfl rfl ?_
    exact zw_vretE dX2_failAt_12 rfl rfl rfl (by rw [PL_ufa]; simp only [lFA]; rw [if_pos (Classical.not_not.mp c4)])
set_option maxRecDepth 100000 in
set_option maxHeartbeats 4000000 in
theorem c_X2_skip {sh : Sh} {C : Mem} {q len : Nat} {tx : Nat → Int32} {l : LxS} {de np : Nat} (hq : IsPl sh q) (hC : PlOk C q len tx) (hl : l.1 ≤ 100)  : Calls mX2_skip 1 0 0 [.inr (some (q))] sh (PL C q l de np) (none) sh (PL (C) q (lSK l) (de) (np)) := by
  refine Calls.of plX2 (Nat.le_of_ble_eq_true rfl) ?_
  have h100 := hC.2.1
  show WP mX2_skip 1 0 0 0 [some (.inr (some (q)))] [] sh (PL C q l de np) (none) sh (PL (C) q (lSK l) (de) (np))
  refine zw_aload_n dX2_skip_0 rfl ?_
  refine zw_cVi dX2_skip_1 (c_X2_hasFailed hq hC hl) rfl okX2_hasFailed ml_X2_41 hq.i hq.k (by decide) rfl (Nat.le_of_ble_eq_true rfl) (Nat.le_of_ble_eq_true rfl) ?_
  refine zw_if_ne_c (tgt := 17) dX2_skip_4 (by decide) (fun c4 => ?_) (fun c4 => ?_)
  · exact zw_vretE dX2_skip_17 rfl rfl rfl (by simp only [lSK]; rw [if_neg c4])
  · refine zw_aload_n dX2_skip_7 rfl ?_
    refine zw_dup dX2_skip_8 ?_
    refine zw_getIv (j := 6) (kd := 2) (v := (nI ((l).1))) dX2_skip_9 hq.i hq.k (by decide) (by decide) fl_X2_29 rfl PL_po ?_
    refine zw_iconst (v := nI 1) dX2_skip_12 (by decide) ?_
    refine zw_iaddn dX2_skip_13 ?_
    refine zw_putI (j := 6) (kd := 2) dX2_skip_14 hq.i hq.k (by decide) (by decide) fl_X2_29 rfl rfl rfl ?_
    exact zw_vretE dX2_skip_17 rfl rfl rfl (by rw [PL_upo]; simp only [lSK]; rw [if_pos (Classical.not_not.mp c4)])
set_option maxRecDepth 100000 in
set_option maxHeartbeats 4000000 in
theorem c_X2_takeIf {sh : Sh} {C : Mem} {q len : Nat} {tx : Nat → Int32} {l : LxS} {de np : Nat} (hq : IsPl sh q) (hC : PlOk C q len tx) (hl : l.1 ≤ 100) (c : Int32) : Calls mX2_takeIf 1 0 0 [.inr (some (q)), .inl (c)] sh (PL C q l de np) (some (.inl (b01c (lTI (gF len tx) c l)))) sh (PL (C) q (lTIs (gF len tx) c l) (de) (np)) := by
  refine Calls.of plX2 (Nat.le_of_ble_eq_true rfl) ?_
  have h100 := hC.2.1
  show WP mX2_takeIf 1 0 0 0 [some (.inr (some (q))), some (.inl (c)), none] [] sh (PL C q l de np) (some (.inl (b01c (lTI (gF len tx) c l)))) sh (PL (C) q (lTIs (gF len tx) c l) (de) (np))
  refine zw_aload_n dX2_takeIf_0 rfl ?_
  refine zw_cVi dX2_takeIf_1 (c_X2_hasFailed hq hC hl) rfl okX2_hasFailed ml_X2_41 hq.i hq.k (by decide) rfl (Nat.le_of_ble_eq_true rfl) (Nat.le_of_ble_eq_true rfl) ?_
  refine zw_if_ne_c (tgt := 19) dX2_takeIf_4 (by decide) (fun c4 => ?_) (fun c4 => ?_)
  · refine zw_iconst (v := nI 0) dX2_takeIf_19 (by decide) ?_
    refine zw_istore_n dX2_takeIf_20 (by decide) ?_
    refine zw_iload_n dX2_takeIf_21 rfl ?_
    refine zw_if_eq_n (tgt := 35) dX2_takeIf_22 (by decide) (by omega) (fun c22 => ?_) (fun c22 => by omega)
    refine zw_iload_n dX2_takeIf_35 rfl ?_
    exact zw_zretE dX2_takeIf_36 rfl (Or.inl rfl) (by rw [b01c_f (fun z => c4 z.1)]) rfl (by simp only [lTIs]; rw [if_neg (fun z => c4 z.1)])
  · refine zw_aload_n dX2_takeIf_7 rfl ?_
    refine zw_cVi dX2_takeIf_8 (c_X2_sign hq hC hl) rfl okX2_sign ml_X2_52 hq.i hq.k (by decide) rfl (Nat.le_of_ble_eq_true rfl) (Nat.le_of_ble_eq_true rfl) ?_
    refine zw_iload_n dX2_takeIf_11 rfl ?_
    refine zw_icmp_ne (tgt := 19) dX2_takeIf_12 (by decide) (fun c12 => ?_) (fun c12 => ?_)
    · refine zw_iconst (v := nI 0) dX2_takeIf_19 (by decide) ?_
      refine zw_istore_n dX2_takeIf_20 (by decide) ?_
      refine zw_iload_n dX2_takeIf_21 rfl ?_
      refine zw_if_eq_n (tgt := 35) dX2_takeIf_22 (by decide) (by omega) (fun c22 => ?_) (fun c22 => by omega)
      refine zw_iload_n dX2_takeIf_35 rfl ?_
      exact zw_zretE dX2_takeIf_36 rfl (Or.inl rfl) (by rw [b01c_f (fun z => c12 z.2)]) rfl (by simp only [lTIs]; rw [if_neg (fun z => c12 z.2)])
    · refine zw_iconst (v := nI 1) dX2_takeIf_15 (by decide) ?_
      refine zw_goto (tgt := 20) dX2_takeIf_16 (by decide) ?_
      refine zw_istore_n dX2_takeIf_20 (by decide) ?_
      refine zw_iload_n dX2_takeIf_21 rfl ?_
      refine zw_if_eq_n (tgt := 35) dX2_takeIf_22 (by decide) (by omega) (fun c22 => by omega) (fun c22 => ?_)
      refine zw_aload_n dX2_takeIf_25 rfl ?_
      refine zw_dup dX2_takeIf_26 ?_
      refine zw_getIv (j := 6) (kd := 2) (v := (nI ((l).1))) dX2_takeIf_27 hq.i hq.k (by decide) (by decide) fl_X2_29 rfl PL_po ?_
      refine zw_iconst (v := nI 1) dX2_takeIf_30 (by decide) ?_
      refine zw_iaddn dX2_takeIf_31 ?_
      refine zw_putI (j := 6) (kd := 2) dX2_takeIf_32 hq.i hq.k (by decide) (by decide) fl_X2_29 rfl rfl rfl ?_
      refine zw_iload_n dX2_takeIf_35 rfl ?_
      exact zw_zretE dX2_takeIf_36 rfl (Or.inr rfl) (by rw [b01c_t ⟨Classical.not_not.mp c4, c12⟩]) rfl (by rw [PL_upo]; simp only [lTIs]; rw [if_pos ⟨Classical.not_not.mp c4, c12⟩])
set_option maxRecDepth 100000 in
set_option maxHeartbeats 4000000 in
theorem c_X2_take {sh : Sh} {C : Mem} {q len : Nat} {tx : Nat → Int32} {l : LxS} {de np : Nat} (hq : IsPl sh q) (hC : PlOk C q len tx) (hl : l.1 ≤ 100) (c : Int32) (hc0 : c ≠ nI 0) : Calls mX2_take 2 0 0 [.inr (some (q)), .inl (c)] sh (PL C q l de np) (none) sh (PL (C) q (lTK (gF len tx) c l) (de) (np)) := by
  refine Calls.of plX2 (Nat.le_of_ble_eq_true rfl) ?_
  have h100 := hC.2.1
  show WP mX2_take 2 0 0 0 [some (.inr (some (q))), some (.inl (c))] [] sh (PL C q l de np) (none) sh (PL (C) q (lTK (gF len tx) c l) (de) (np))
  refine zw_aload_n dX2_take_0 rfl ?_
  refine zw_iload_n dX2_take_1 rfl ?_
  refine zw_cVi dX2_take_2 (c_X2_takeIf hq hC hl _) rfl okX2_takeIf ml_X2_77 hq.i hq.k (by decide) rfl (Nat.le_of_ble_eq_true rfl) (Nat.le_of_ble_eq_true rfl) ?_
  refine zw_if_ne_c (tgt := 16) dX2_take_5 (by decide) (fun c5 => ?_) (fun c5 => ?_)
  · exact zw_vretE dX2_take_16 rfl rfl rfl (by simp only [lTK, lTIs, lFA]; rw [if_pos c5, if_pos c5] <;> rfl)
  · refine zw_aload_n dX2_take_8 rfl ?_
    refine zw_aload_n dX2_take_9 rfl ?_
    refine zw_getIv (j := 6) (kd := 2) (v := (nI ((lTIs (gF len tx) ((c)) (l)).1))) dX2_take_10 hq.i hq.k (by decide) (by decide) fl_X2_29 rfl PL_po ?_
    refine zw_cVv dX2_take_13 (c_X2_failAt hq hC (lTIs_le hl h100 hc0) _) rfl okX2_failAt ml_X2_48 hq.i hq.k (by decide) rfl (Nat.le_of_ble_eq_true rfl) (Nat.le_of_ble_eq_true rfl) ?_
    exact zw_vretE dX2_take_16 rfl rfl rfl (by simp only [lTK, lTIs, lFA]; rw [if_neg c5, if_neg c5] <;> rfl)
set_option maxRecDepth 100000 in
set_option maxHeartbeats 4000000 in
theorem c_X2_takeStreet {sh : Sh} {C : Mem} {q len : Nat} {tx : Nat → Int32} {l : LxS} {de np : Nat} (hq : IsPl sh q) (hC : PlOk C q len tx) (hl : l.1 ≤ 100)  : Calls mX2_takeStreet 2 0 0 [.inr (some (q))] sh (PL C q l de np) (some (.inl ((gF len tx) l.1 - nI 48))) sh (PL (C) q (lTS (gF len tx) l) (de) (np)) := by
  refine Calls.of plX2 (Nat.le_of_ble_eq_true rfl) ?_
  have h100 := hC.2.1
  show WP mX2_takeStreet 2 0 0 0 [some (.inr (some (q))), none] [] sh (PL C q l de np) (some (.inl ((gF len tx) l.1 - nI 48))) sh (PL (C) q (lTS (gF len tx) l) (de) (np))
  refine zw_aload_n dX2_takeStreet_0 rfl ?_
  refine zw_cVi dX2_takeStreet_1 (c_X2_sign hq hC hl) rfl okX2_sign ml_X2_52 hq.i hq.k (by decide) rfl (Nat.le_of_ble_eq_true rfl) (Nat.le_of_ble_eq_true rfl) ?_
  refine zw_bipush (v := nI 48) dX2_takeStreet_4 (by decide) ?_
  refine zw_isub dX2_takeStreet_6 ?_
  refine zw_istore_n dX2_takeStreet_7 (by decide) ?_
  refine zw_iload_n dX2_takeStreet_8 rfl ?_
  refine zw_cNi dX2_takeStreet_9 (c_X4_isStreet _) rfl okX4_isStreet nl_X2_103 (Nat.le_of_ble_eq_true rfl) (Nat.le_of_ble_eq_true rfl) ?_
  refine zw_if_ne_b (tgt := 23) dX2_takeStreet_12 (by decide) (fun c12 => ?_) (fun c12 => ?_)
  · refine zw_aload_n dX2_takeStreet_23 rfl ?_
    refine zw_cVv dX2_takeStreet_24 (c_X2_skip hq hC hl) rfl okX2_skip ml_X2_106 hq.i hq.k (by decide) rfl (Nat.le_of_ble_eq_true rfl) (Nat.le_of_ble_eq_true rfl) ?_
    refine zw_iload_n dX2_takeStreet_27 rfl ?_
    exact zw_iretE dX2_takeStreet_28 rfl (rfl) rfl (by simp only [lTS]; rw [if_pos c12])
  · refine zw_aload_n dX2_takeStreet_15 rfl ?_
    refine zw_aload_n dX2_takeStreet_16 rfl ?_
    refine zw_getIv (j := 6) (kd := 2) (v := (nI ((l).1))) dX2_takeStreet_17 hq.i hq.k (by decide) (by decide) fl_X2_29 rfl PL_po ?_
    refine zw_cVv dX2_takeStreet_20 (c_X2_failAt hq hC hl _) rfl okX2_failAt ml_X2_48 hq.i hq.k (by decide) rfl (Nat.le_of_ble_eq_true rfl) (Nat.le_of_ble_eq_true rfl) ?_
    refine zw_aload_n dX2_takeStreet_23 rfl ?_
    refine zw_cVv dX2_takeStreet_24 (c_X2_skip hq hC (show (lFA ((nI ((l).1))) (l)).1 ≤ 100 from hl)) rfl okX2_skip ml_X2_106 hq.i hq.k (by decide) rfl (Nat.le_of_ble_eq_true rfl) (Nat.le_of_ble_eq_true rfl) ?_
    refine zw_iload_n dX2_takeStreet_27 rfl ?_
    exact zw_iretE dX2_takeStreet_28 rfl (rfl) rfl (by simp only [lTS]; rw [if_neg c12])
set_option maxRecDepth 100000 in
set_option maxHeartbeats 4000000 in
theorem c_X2_takeNumber {sh : Sh} {C : Mem} {q len : Nat} {tx : Nat → Int32} {l : LxS} {de np : Nat} (hq : IsPl sh q) (hC : PlOk C q len tx) (hl : l.1 ≤ 100) (lo hi : Int32) : Calls mX2_takeNumber 2 0 0 [.inr (some (q)), .inl (lo), .inl (hi)] sh (PL C q l de np) (some (.inl (tnF (gF len tx) lo hi l).2)) sh (PL (C) q ((tnF (gF len tx) lo hi l).1) (de) (np)) := by
  refine Calls.of plX2 (Nat.le_of_ble_eq_true rfl) ?_
  have h100 := hC.2.1
  show WP mX2_takeNumber 2 0 0 0 [some (.inr (some (q))), some (.inl (lo)), some (.inl (hi)), none, none, none, none, none] [] sh (PL C q l de np) (some (.inl (tnF (gF len tx) lo hi l).2)) sh (PL (C) q ((tnF (gF len tx) lo hi l).1) (de) (np))
  refine zw_aload_n dX2_takeNumber_0 rfl ?_
  refine zw_getIv (j := 6) (kd := 2) (v := (nI ((l).1))) dX2_takeNumber_1 hq.i hq.k (by decide) (by decide) fl_X2_29 rfl PL_po ?_
  refine zw_istore_n dX2_takeNumber_4 (by decide) ?_
  refine zw_iconst (v := nI 0) dX2_takeNumber_5 (by decide) ?_
  refine zw_istore dX2_takeNumber_6 (by decide) ?_
  refine zw_iconst (v := nI 1) dX2_takeNumber_8 (by decide) ?_
  refine zw_istore dX2_takeNumber_9 (by decide) ?_
  refine zw_iconst (v := nI 0) dX2_takeNumber_11 (by decide) ?_
  refine zw_istore dX2_takeNumber_12 (by decide) ?_
  have J72 : ∀ (po : Nat) (num : Int32), po ≤ 100 → (tnL (gF len tx) l.2 3 l.1 (nI 0) true) = (po, num) → WP mX2_takeNumber 2 0 0 72 [some (.inr (some (q))), some (.inl (lo)), some (.inl (hi)), some (.inl (nI (l.1))), some (.inl (num)), none, none, none] [] sh (PL C q (po, l.2) de np) (some (.inl (tnF (gF len tx) lo hi l).2)) sh (PL (C) q ((tnF (gF len tx) lo hi l).1) (de) (np)) := by
    intro po num hp hx
    refine zw_aload_n dX2_takeNumber_72 rfl ?_
    refine zw_getIv (j := 6) (kd := 2) (v := (nI (((po, l.2)).1))) dX2_takeNumber_73 hq.i hq.k (by decide) (by decide) fl_X2_29 rfl PL_po ?_
    refine zw_iload_n dX2_takeNumber_76 rfl ?_
    refine zw_icmp_ne_n (tgt := 84) dX2_takeNumber_77 (by decide) (by omega) (by omega) (fun c77 => ?_) (fun c77 => ?_)
    · refine zw_iconst (v := nI 0) dX2_takeNumber_84 (by decide) ?_
      refine zw_istore dX2_takeNumber_85 (by decide) ?_
      refine zw_aload_n dX2_takeNumber_87 rfl ?_
      refine zw_cVi dX2_takeNumber_88 (c_X2_sign hq hC hp) rfl okX2_sign ml_X2_52 hq.i hq.k (by decide) rfl (Nat.le_of_ble_eq_true rfl) (Nat.le_of_ble_eq_true rfl) ?_
      refine zw_cSi dX2_takeNumber_91 (c_X2_isDigit _) rfl okX2_isDigit ml_X2_62 (Nat.le_of_ble_eq_true rfl) (Nat.le_of_ble_eq_true rfl) ?_
      refine zw_istore dX2_takeNumber_94 (by decide) ?_
      refine zw_iload dX2_takeNumber_96 rfl ?_
      refine zw_if_ne_n (tgt := 106) dX2_takeNumber_98 (by decide) (by omega) (fun c98 => by omega) (fun c98 => ?_)
      refine zw_iload dX2_takeNumber_101 rfl ?_
      refine zw_if_eq_b (tgt := 114) dX2_takeNumber_103 (by decide) (fun c103 => ?_) (fun c103 => ?_)
      · refine zw_iload dX2_takeNumber_114 rfl ?_
        refine zw_iload_n dX2_takeNumber_116 rfl ?_
        refine zw_iload_n dX2_takeNumber_117 rfl ?_
        refine zw_cNi dX2_takeNumber_118 (c_X4_isWithin _ _ _) rfl okX4_isWithin nl_X2_109 (Nat.le_of_ble_eq_true rfl) (Nat.le_of_ble_eq_true rfl) ?_
        refine zw_if_ne_b (tgt := 129) dX2_takeNumber_121 (by decide) (fun c121 => ?_) (fun c121 => ?_)
        · refine zw_iload dX2_takeNumber_129 rfl ?_
          exact zw_iretE dX2_takeNumber_131 rfl (by simp only [tnF, hx]) rfl (by simp only [tnF, hx, lFA]; rw [if_neg (show ¬ (po = l.1 ∨ isD (gF len tx po)) from (fun z => z.elim c77 c103)), if_pos (show (lo ≤ num ∧ num ≤ hi) from c121)] <;> rfl)
        · refine zw_aload_n dX2_takeNumber_124 rfl ?_
          refine zw_iload_n dX2_takeNumber_125 rfl ?_
          refine zw_cVv dX2_takeNumber_126 (c_X2_failAt hq hC hp _) rfl okX2_failAt ml_X2_48 hq.i hq.k (by decide) rfl (Nat.le_of_ble_eq_true rfl) (Nat.le_of_ble_eq_true rfl) ?_
          refine zw_iload dX2_takeNumber_129 rfl ?_
          exact zw_iretE dX2_takeNumber_131 rfl (by simp only [tnF, hx]) rfl (by simp only [tnF, hx, lFA]; rw [if_neg (show ¬ (po = l.1 ∨ isD (gF len tx po)) from (fun z => z.elim c77 c103)), if_neg (show ¬ (lo ≤ num ∧ num ≤ hi) from c121)] <;> rfl)
      · refine zw_aload_n dX2_takeNumber_106 rfl ?_
        refine zw_aload_n dX2_takeNumber_107 rfl ?_
        refine zw_getIv (j := 6) (kd := 2) (v := (nI (((po, l.2)).1))) dX2_takeNumber_108 hq.i hq.k (by decide) (by decide) fl_X2_29 rfl PL_po ?_
        refine zw_cVv dX2_takeNumber_111 (c_X2_failAt hq hC hp _) rfl okX2_failAt ml_X2_48 hq.i hq.k (by decide) rfl (Nat.le_of_ble_eq_true rfl) (Nat.le_of_ble_eq_true rfl) ?_
        refine zw_iload dX2_takeNumber_114 rfl ?_
        refine zw_iload_n dX2_takeNumber_116 rfl ?_
        refine zw_iload_n dX2_takeNumber_117 rfl ?_
        refine zw_cNi dX2_takeNumber_118 (c_X4_isWithin _ _ _) rfl okX4_isWithin nl_X2_109 (Nat.le_of_ble_eq_true rfl) (Nat.le_of_ble_eq_true rfl) ?_
        refine zw_if_ne_b (tgt := 129) dX2_takeNumber_121 (by decide) (fun c121 => ?_) (fun c121 => ?_)
        · refine zw_iload dX2_takeNumber_129 rfl ?_
          exact zw_iretE dX2_takeNumber_131 rfl (by simp only [tnF, hx]) rfl (by simp only [tnF, hx, lFA]; rw [if_pos (show po = l.1 ∨ isD (gF len tx po) from (Or.inr c103)), if_pos (show (lo ≤ num ∧ num ≤ hi) from c121)] <;> rfl)
        · refine zw_aload_n dX2_takeNumber_124 rfl ?_
          refine zw_iload_n dX2_takeNumber_125 rfl ?_
          refine zw_cVv dX2_takeNumber_126 (c_X2_failAt hq hC (show (lFA ((nI (((po, l.2)).1))) ((po, l.2))).1 ≤ 100 from hp) _) rfl okX2_failAt ml_X2_48 hq.i hq.k (by decide) rfl (Nat.le_of_ble_eq_true rfl) (Nat.le_of_ble_eq_true rfl) ?_
          refine zw_iload dX2_takeNumber_129 rfl ?_
          exact zw_iretE dX2_takeNumber_131 rfl (by simp only [tnF, hx]) rfl (by simp only [tnF, hx, lFA]; rw [if_pos (show po = l.1 ∨ isD (gF len tx po) from (Or.inr c103)), if_neg (show ¬ (lo ≤ num ∧ num ≤ hi) from c121)] <;> rfl)
    · refine zw_iconst (v := nI 1) dX2_takeNumber_80 (by decide) ?_
      refine zw_goto (tgt := 85) dX2_takeNumber_81 (by decide) ?_
      refine zw_istore dX2_takeNumber_85 (by decide) ?_
      refine zw_aload_n dX2_takeNumber_87 rfl ?_
      refine zw_cVi dX2_takeNumber_88 (c_X2_sign hq hC hp) rfl okX2_sign ml_X2_52 hq.i hq.k (by decide) rfl (Nat.le_of_ble_eq_true rfl) (Nat.le_of_ble_eq_true rfl) ?_
      refine zw_cSi dX2_takeNumber_91 (c_X2_isDigit _) rfl okX2_isDigit ml_X2_62 (Nat.le_of_ble_eq_true rfl) (Nat.le_of_ble_eq_true rfl) ?_
      refine zw_istore dX2_takeNumber_94 (by decide) ?_
      refine zw_iload dX2_takeNumber_96 rfl ?_
      refine zw_if_ne_n (tgt := 106) dX2_takeNumber_98 (by decide) (by omega) (fun c98 => ?_) (fun c98 => by omega)
      refine zw_aload_n dX2_takeNumber_106 rfl ?_
      refine zw_aload_n dX2_takeNumber_107 rfl ?_
      refine zw_getIv (j := 6) (kd := 2) (v := (nI (((po, l.2)).1))) dX2_takeNumber_108 hq.i hq.k (by decide) (by decide) fl_X2_29 rfl PL_po ?_
      refine zw_cVv dX2_takeNumber_111 (c_X2_failAt hq hC hp _) rfl okX2_failAt ml_X2_48 hq.i hq.k (by decide) rfl (Nat.le_of_ble_eq_true rfl) (Nat.le_of_ble_eq_true rfl) ?_
      refine zw_iload dX2_takeNumber_114 rfl ?_
      refine zw_iload_n dX2_takeNumber_116 rfl ?_
      refine zw_iload_n dX2_takeNumber_117 rfl ?_
      refine zw_cNi dX2_takeNumber_118 (c_X4_isWithin _ _ _) rfl okX4_isWithin nl_X2_109 (Nat.le_of_ble_eq_true rfl) (Nat.le_of_ble_eq_true rfl) ?_
      refine zw_if_ne_b (tgt := 129) dX2_takeNumber_121 (by decide) (fun c121 => ?_) (fun c121 => ?_)
      · refine zw_iload dX2_takeNumber_129 rfl ?_
        exact zw_iretE dX2_takeNumber_131 rfl (by simp only [tnF, hx]) rfl (by simp only [tnF, hx, lFA]; rw [if_pos (show po = l.1 ∨ isD (gF len tx po) from (Or.inl c77)), if_pos (show (lo ≤ num ∧ num ≤ hi) from c121)] <;> rfl)
      · refine zw_aload_n dX2_takeNumber_124 rfl ?_
        refine zw_iload_n dX2_takeNumber_125 rfl ?_
        refine zw_cVv dX2_takeNumber_126 (c_X2_failAt hq hC (show (lFA ((nI (((po, l.2)).1))) ((po, l.2))).1 ≤ 100 from hp) _) rfl okX2_failAt ml_X2_48 hq.i hq.k (by decide) rfl (Nat.le_of_ble_eq_true rfl) (Nat.le_of_ble_eq_true rfl) ?_
        refine zw_iload dX2_takeNumber_129 rfl ?_
        exact zw_iretE dX2_takeNumber_131 rfl (by simp only [tnF, hx]) rfl (by simp only [tnF, hx, lFA]; rw [if_pos (show po = l.1 ∨ isD (gF len tx po) from (Or.inl c77)), if_neg (show ¬ (lo ≤ num ∧ num ≤ hi) from c121)] <;> rfl)
  have L14 : ∀ (n_14 k : Nat), k + n_14 = 3 → ∀ (po : Nat) (num : Int32) (go : Bool), po ≤ 100 → (tnL (gF len tx) l.2 3 l.1 (nI 0) true) = tnL (gF len tx) l.2 n_14 po num go → WP mX2_takeNumber 2 0 0 14 [some (.inr (some (q))), some (.inl (lo)), some (.inl (hi)), some (.inl (nI (l.1))), some (.inl (num)), some (.inl ((bI go))), some (.inl (nI (k))), none] [] sh (PL C q (po, l.2) de np) (some (.inl (tnF (gF len tx) lo hi l).2)) sh (PL (C) q ((tnF (gF len tx) lo hi l).1) (de) (np)) := by
    intro n_14
    induction n_14 with
    | zero =>
      intro k hk14 po num go hp hx
      have ek14 : 3 = k := by omega
      subst ek14
      have J72 : ∀ (po : Nat) (num : Int32), po ≤ 100 → (tnL (gF len tx) l.2 3 l.1 (nI 0) true) = (po, num) → WP mX2_takeNumber 2 0 0 72 [some (.inr (some (q))), some (.inl (lo)), some (.inl (hi)), some (.inl (nI (l.1))), some (.inl (num)), none, none, none] [] sh (PL C q (po, l.2) de np) (some (.inl (tnF (gF len tx) lo hi l).2)) sh (PL (C) q ((tnF (gF len tx) lo hi l).1) (de) (np)) := by
        intro po num hp hx
        refine zw_aload_n dX2_takeNumber_72 rfl ?_
        refine zw_getIv (j := 6) (kd := 2) (v := (nI (((po, l.2)).1))) dX2_takeNumber_73 hq.i hq.k (by decide) (by decide) fl_X2_29 rfl PL_po ?_
        refine zw_iload_n dX2_takeNumber_76 rfl ?_
        refine zw_icmp_ne_n (tgt := 84) dX2_takeNumber_77 (by decide) (by omega) (by omega) (fun c77 => ?_) (fun c77 => ?_)
        · refine zw_iconst (v := nI 0) dX2_takeNumber_84 (by decide) ?_
          refine zw_istore dX2_takeNumber_85 (by decide) ?_
          refine zw_aload_n dX2_takeNumber_87 rfl ?_
          refine zw_cVi dX2_takeNumber_88 (c_X2_sign hq hC hp) rfl okX2_sign ml_X2_52 hq.i hq.k (by decide) rfl (Nat.le_of_ble_eq_true rfl) (Nat.le_of_ble_eq_true rfl) ?_
          refine zw_cSi dX2_takeNumber_91 (c_X2_isDigit _) rfl okX2_isDigit ml_X2_62 (Nat.le_of_ble_eq_true rfl) (Nat.le_of_ble_eq_true rfl) ?_
          refine zw_istore dX2_takeNumber_94 (by decide) ?_
          refine zw_iload dX2_takeNumber_96 rfl ?_
          refine zw_if_ne_n (tgt := 106) dX2_takeNumber_98 (by decide) (by omega) (fun c98 => by omega) (fun c98 => ?_)
          refine zw_iload dX2_takeNumber_101 rfl ?_
          refine zw_if_eq_b (tgt := 114) dX2_takeNumber_103 (by decide) (fun c103 => ?_) (fun c103 => ?_)
          · refine zw_iload dX2_takeNumber_114 rfl ?_
            refine zw_iload_n dX2_takeNumber_116 rfl ?_
            refine zw_iload_n dX2_takeNumber_117 rfl ?_
            refine zw_cNi dX2_takeNumber_118 (c_X4_isWithin _ _ _) rfl okX4_isWithin nl_X2_109 (Nat.le_of_ble_eq_true rfl) (Nat.le_of_ble_eq_true rfl) ?_
            refine zw_if_ne_b (tgt := 129) dX2_takeNumber_121 (by decide) (fun c121 => ?_) (fun c121 => ?_)
            · refine zw_iload dX2_takeNumber_129 rfl ?_
              exact zw_iretE dX2_takeNumber_131 rfl (by simp only [tnF, hx]) rfl (by simp only [tnF, hx, lFA]; rw [if_neg (show ¬ (po = l.1 ∨ isD (gF len tx po)) from (fun z => z.elim c77 c103)), if_pos (show (lo ≤ num ∧ num ≤ hi) from c121)] <;> rfl)
            · refine zw_aload_n dX2_takeNumber_124 rfl ?_
              refine zw_iload_n dX2_takeNumber_125 rfl ?_
              refine zw_cVv dX2_takeNumber_126 (c_X2_failAt hq hC hp _) rfl okX2_failAt ml_X2_48 hq.i hq.k (by decide) rfl (Nat.le_of_ble_eq_true rfl) (Nat.le_of_ble_eq_true rfl) ?_
              refine zw_iload dX2_takeNumber_129 rfl ?_
              exact zw_iretE dX2_takeNumber_131 rfl (by simp only [tnF, hx]) rfl (by simp only [tnF, hx, lFA]; rw [if_neg (show ¬ (po = l.1 ∨ isD (gF len tx po)) from (fun z => z.elim c77 c103)), if_neg (show ¬ (lo ≤ num ∧ num ≤ hi) from c121)] <;> rfl)
          · refine zw_aload_n dX2_takeNumber_106 rfl ?_
            refine zw_aload_n dX2_takeNumber_107 rfl ?_
            refine zw_getIv (j := 6) (kd := 2) (v := (nI (((po, l.2)).1))) dX2_takeNumber_108 hq.i hq.k (by decide) (by decide) fl_X2_29 rfl PL_po ?_
            refine zw_cVv dX2_takeNumber_111 (c_X2_failAt hq hC hp _) rfl okX2_failAt ml_X2_48 hq.i hq.k (by decide) rfl (Nat.le_of_ble_eq_true rfl) (Nat.le_of_ble_eq_true rfl) ?_
            refine zw_iload dX2_takeNumber_114 rfl ?_
            refine zw_iload_n dX2_takeNumber_116 rfl ?_
            refine zw_iload_n dX2_takeNumber_117 rfl ?_
            refine zw_cNi dX2_takeNumber_118 (c_X4_isWithin _ _ _) rfl okX4_isWithin nl_X2_109 (Nat.le_of_ble_eq_true rfl) (Nat.le_of_ble_eq_true rfl) ?_
            refine zw_if_ne_b (tgt := 129) dX2_takeNumber_121 (by decide) (fun c121 => ?_) (fun c121 => ?_)
            · refine zw_iload dX2_takeNumber_129 rfl ?_
              exact zw_iretE dX2_takeNumber_131 rfl (by simp only [tnF, hx]) rfl (by simp only [tnF, hx, lFA]; rw [if_pos (show po = l.1 ∨ isD (gF len tx po) from (Or.inr c103)), if_pos (show (lo ≤ num ∧ num ≤ hi) from c121)] <;> rfl)
            · refine zw_aload_n dX2_takeNumber_124 rfl ?_
              refine zw_iload_n dX2_takeNumber_125 rfl ?_
              refine zw_cVv dX2_takeNumber_126 (c_X2_failAt hq hC (show (lFA ((nI (((po, l.2)).1))) ((po, l.2))).1 ≤ 100 from hp) _) rfl okX2_failAt ml_X2_48 hq.i hq.k (by decide) rfl (Nat.le_of_ble_eq_true rfl) (Nat.le_of_ble_eq_true rfl) ?_
              refine zw_iload dX2_takeNumber_129 rfl ?_
              exact zw_iretE dX2_takeNumber_131 rfl (by simp only [tnF, hx]) rfl (by simp only [tnF, hx, lFA]; rw [if_pos (show po = l.1 ∨ isD (gF len tx po) from (Or.inr c103)), if_neg (show ¬ (lo ≤ num ∧ num ≤ hi) from c121)] <;> rfl)
        · refine zw_iconst (v := nI 1) dX2_takeNumber_80 (by decide) ?_
          refine zw_goto (tgt := 85) dX2_takeNumber_81 (by decide) ?_
          refine zw_istore dX2_takeNumber_85 (by decide) ?_
          refine zw_aload_n dX2_takeNumber_87 rfl ?_
          refine zw_cVi dX2_takeNumber_88 (c_X2_sign hq hC hp) rfl okX2_sign ml_X2_52 hq.i hq.k (by decide) rfl (Nat.le_of_ble_eq_true rfl) (Nat.le_of_ble_eq_true rfl) ?_
          refine zw_cSi dX2_takeNumber_91 (c_X2_isDigit _) rfl okX2_isDigit ml_X2_62 (Nat.le_of_ble_eq_true rfl) (Nat.le_of_ble_eq_true rfl) ?_
          refine zw_istore dX2_takeNumber_94 (by decide) ?_
          refine zw_iload dX2_takeNumber_96 rfl ?_
          refine zw_if_ne_n (tgt := 106) dX2_takeNumber_98 (by decide) (by omega) (fun c98 => ?_) (fun c98 => by omega)
          refine zw_aload_n dX2_takeNumber_106 rfl ?_
          refine zw_aload_n dX2_takeNumber_107 rfl ?_
          refine zw_getIv (j := 6) (kd := 2) (v := (nI (((po, l.2)).1))) dX2_takeNumber_108 hq.i hq.k (by decide) (by decide) fl_X2_29 rfl PL_po ?_
          refine zw_cVv dX2_takeNumber_111 (c_X2_failAt hq hC hp _) rfl okX2_failAt ml_X2_48 hq.i hq.k (by decide) rfl (Nat.le_of_ble_eq_true rfl) (Nat.le_of_ble_eq_true rfl) ?_
          refine zw_iload dX2_takeNumber_114 rfl ?_
          refine zw_iload_n dX2_takeNumber_116 rfl ?_
          refine zw_iload_n dX2_takeNumber_117 rfl ?_
          refine zw_cNi dX2_takeNumber_118 (c_X4_isWithin _ _ _) rfl okX4_isWithin nl_X2_109 (Nat.le_of_ble_eq_true rfl) (Nat.le_of_ble_eq_true rfl) ?_
          refine zw_if_ne_b (tgt := 129) dX2_takeNumber_121 (by decide) (fun c121 => ?_) (fun c121 => ?_)
          · refine zw_iload dX2_takeNumber_129 rfl ?_
            exact zw_iretE dX2_takeNumber_131 rfl (by simp only [tnF, hx]) rfl (by simp only [tnF, hx, lFA]; rw [if_pos (show po = l.1 ∨ isD (gF len tx po) from (Or.inl c77)), if_pos (show (lo ≤ num ∧ num ≤ hi) from c121)] <;> rfl)
          · refine zw_aload_n dX2_takeNumber_124 rfl ?_
            refine zw_iload_n dX2_takeNumber_125 rfl ?_
            refine zw_cVv dX2_takeNumber_126 (c_X2_failAt hq hC (show (lFA ((nI (((po, l.2)).1))) ((po, l.2))).1 ≤ 100 from hp) _) rfl okX2_failAt ml_X2_48 hq.i hq.k (by decide) rfl (Nat.le_of_ble_eq_true rfl) (Nat.le_of_ble_eq_true rfl) ?_
            refine zw_iload dX2_takeNumber_129 rfl ?_
            exact zw_iretE dX2_takeNumber_131 rfl (by simp only [tnF, hx]) rfl (by simp only [tnF, hx, lFA]; rw [if_pos (show po = l.1 ∨ isD (gF len tx po) from (Or.inl c77)), if_neg (show ¬ (lo ≤ num ∧ num ≤ hi) from c121)] <;> rfl)
      refine zw_iload dX2_takeNumber_14 rfl ?_
      refine zw_iconst (v := nI 3) dX2_takeNumber_16 (by decide) ?_
      refine zw_icmp_ge_n (tgt := 72) dX2_takeNumber_17 (by decide) (by omega) (by omega) (fun c17 => ?_) (fun c17 => by omega)
      exact WP.sub (J72 po num hp (hx.trans (by simp only [tnL] <;> rw [if_neg (fun z => c32 z.2)]))) ⟨rfl, rfl, rfl, rfl, rfl, trivial⟩
    | succ n_14 ih14 =>
      intro k hk14 po num go hp hx
      have hlt14 : k < 3 := by omega
      have J72 : ∀ (po : Nat) (num : Int32), po ≤ 100 → (tnL (gF len tx) l.2 3 l.1 (nI 0) true) = (po, num) → WP mX2_takeNumber 2 0 0 72 [some (.inr (some (q))), some (.inl (lo)), some (.inl (hi)), some (.inl (nI (l.1))), some (.inl (num)), none, none, none] [] sh (PL C q (po, l.2) de np) (some (.inl (tnF (gF len tx) lo hi l).2)) sh (PL (C) q ((tnF (gF len tx) lo hi l).1) (de) (np)) := by
        intro po num hp hx
        refine zw_aload_n dX2_takeNumber_72 rfl ?_
        refine zw_getIv (j := 6) (kd := 2) (v := (nI (((po, l.2)).1))) dX2_takeNumber_73 hq.i hq.k (by decide) (by decide) fl_X2_29 rfl PL_po ?_
        refine zw_iload_n dX2_takeNumber_76 rfl ?_
        refine zw_icmp_ne_n (tgt := 84) dX2_takeNumber_77 (by decide) (by omega) (by omega) (fun c77 => ?_) (fun c77 => ?_)
        · refine zw_iconst (v := nI 0) dX2_takeNumber_84 (by decide) ?_
          refine zw_istore dX2_takeNumber_85 (by decide) ?_
          refine zw_aload_n dX2_takeNumber_87 rfl ?_
          refine zw_cVi dX2_takeNumber_88 (c_X2_sign hq hC hp) rfl okX2_sign ml_X2_52 hq.i hq.k (by decide) rfl (Nat.le_of_ble_eq_true rfl) (Nat.le_of_ble_eq_true rfl) ?_
          refine zw_cSi dX2_takeNumber_91 (c_X2_isDigit _) rfl okX2_isDigit ml_X2_62 (Nat.le_of_ble_eq_true rfl) (Nat.le_of_ble_eq_true rfl) ?_
          refine zw_istore dX2_takeNumber_94 (by decide) ?_
          refine zw_iload dX2_takeNumber_96 rfl ?_
          refine zw_if_ne_n (tgt := 106) dX2_takeNumber_98 (by decide) (by omega) (fun c98 => by omega) (fun c98 => ?_)
          refine zw_iload dX2_takeNumber_101 rfl ?_
          refine zw_if_eq_b (tgt := 114) dX2_takeNumber_103 (by decide) (fun c103 => ?_) (fun c103 => ?_)
          · refine zw_iload dX2_takeNumber_114 rfl ?_
            refine zw_iload_n dX2_takeNumber_116 rfl ?_
            refine zw_iload_n dX2_takeNumber_117 rfl ?_
            refine zw_cNi dX2_takeNumber_118 (c_X4_isWithin _ _ _) rfl okX4_isWithin nl_X2_109 (Nat.le_of_ble_eq_true rfl) (Nat.le_of_ble_eq_true rfl) ?_
            refine zw_if_ne_b (tgt := 129) dX2_takeNumber_121 (by decide) (fun c121 => ?_) (fun c121 => ?_)
            · refine zw_iload dX2_takeNumber_129 rfl ?_
              exact zw_iretE dX2_takeNumber_131 rfl (by simp only [tnF, hx]) rfl (by simp only [tnF, hx, lFA]; rw [if_neg (show ¬ (po = l.1 ∨ isD (gF len tx po)) from (fun z => z.elim c77 c103)), if_pos (show (lo ≤ num ∧ num ≤ hi) from c121)] <;> rfl)
            · refine zw_aload_n dX2_takeNumber_124 rfl ?_
              refine zw_iload_n dX2_takeNumber_125 rfl ?_
              refine zw_cVv dX2_takeNumber_126 (c_X2_failAt hq hC hp _) rfl okX2_failAt ml_X2_48 hq.i hq.k (by decide) rfl (Nat.le_of_ble_eq_true rfl) (Nat.le_of_ble_eq_true rfl) ?_
              refine zw_iload dX2_takeNumber_129 rfl ?_
              exact zw_iretE dX2_takeNumber_131 rfl (by simp only [tnF, hx]) rfl (by simp only [tnF, hx, lFA]; rw [if_neg (show ¬ (po = l.1 ∨ isD (gF len tx po)) from (fun z => z.elim c77 c103)), if_neg (show ¬ (lo ≤ num ∧ num ≤ hi) from c121)] <;> rfl)
          · refine zw_aload_n dX2_takeNumber_106 rfl ?_
            refine zw_aload_n dX2_takeNumber_107 rfl ?_
            refine zw_getIv (j := 6) (kd := 2) (v := (nI (((po, l.2)).1))) dX2_takeNumber_108 hq.i hq.k (by decide) (by decide) fl_X2_29 rfl PL_po ?_
            refine zw_cVv dX2_takeNumber_111 (c_X2_failAt hq hC hp _) rfl okX2_failAt ml_X2_48 hq.i hq.k (by decide) rfl (Nat.le_of_ble_eq_true rfl) (Nat.le_of_ble_eq_true rfl) ?_
            refine zw_iload dX2_takeNumber_114 rfl ?_
            refine zw_iload_n dX2_takeNumber_116 rfl ?_
            refine zw_iload_n dX2_takeNumber_117 rfl ?_
            refine zw_cNi dX2_takeNumber_118 (c_X4_isWithin _ _ _) rfl okX4_isWithin nl_X2_109 (Nat.le_of_ble_eq_true rfl) (Nat.le_of_ble_eq_true rfl) ?_
            refine zw_if_ne_b (tgt := 129) dX2_takeNumber_121 (by decide) (fun c121 => ?_) (fun c121 => ?_)
            · refine zw_iload dX2_takeNumber_129 rfl ?_
              exact zw_iretE dX2_takeNumber_131 rfl (by simp only [tnF, hx]) rfl (by simp only [tnF, hx, lFA]; rw [if_pos (show po = l.1 ∨ isD (gF len tx po) from (Or.inr c103)), if_pos (show (lo ≤ num ∧ num ≤ hi) from c121)] <;> rfl)
            · refine zw_aload_n dX2_takeNumber_124 rfl ?_
              refine zw_iload_n dX2_takeNumber_125 rfl ?_
              refine zw_cVv dX2_takeNumber_126 (c_X2_failAt hq hC (show (lFA ((nI (((po, l.2)).1))) ((po, l.2))).1 ≤ 100 from hp) _) rfl okX2_failAt ml_X2_48 hq.i hq.k (by decide) rfl (Nat.le_of_ble_eq_true rfl) (Nat.le_of_ble_eq_true rfl) ?_
              refine zw_iload dX2_takeNumber_129 rfl ?_
              exact zw_iretE dX2_takeNumber_131 rfl (by simp only [tnF, hx]) rfl (by simp only [tnF, hx, lFA]; rw [if_pos (show po = l.1 ∨ isD (gF len tx po) from (Or.inr c103)), if_neg (show ¬ (lo ≤ num ∧ num ≤ hi) from c121)] <;> rfl)
        · refine zw_iconst (v := nI 1) dX2_takeNumber_80 (by decide) ?_
          refine zw_goto (tgt := 85) dX2_takeNumber_81 (by decide) ?_
          refine zw_istore dX2_takeNumber_85 (by decide) ?_
          refine zw_aload_n dX2_takeNumber_87 rfl ?_
          refine zw_cVi dX2_takeNumber_88 (c_X2_sign hq hC hp) rfl okX2_sign ml_X2_52 hq.i hq.k (by decide) rfl (Nat.le_of_ble_eq_true rfl) (Nat.le_of_ble_eq_true rfl) ?_
          refine zw_cSi dX2_takeNumber_91 (c_X2_isDigit _) rfl okX2_isDigit ml_X2_62 (Nat.le_of_ble_eq_true rfl) (Nat.le_of_ble_eq_true rfl) ?_
          refine zw_istore dX2_takeNumber_94 (by decide) ?_
          refine zw_iload dX2_takeNumber_96 rfl ?_
          refine zw_if_ne_n (tgt := 106) dX2_takeNumber_98 (by decide) (by omega) (fun c98 => ?_) (fun c98 => by omega)
          refine zw_aload_n dX2_takeNumber_106 rfl ?_
          refine zw_aload_n dX2_takeNumber_107 rfl ?_
          refine zw_getIv (j := 6) (kd := 2) (v := (nI (((po, l.2)).1))) dX2_takeNumber_108 hq.i hq.k (by decide) (by decide) fl_X2_29 rfl PL_po ?_
          refine zw_cVv dX2_takeNumber_111 (c_X2_failAt hq hC hp _) rfl okX2_failAt ml_X2_48 hq.i hq.k (by decide) rfl (Nat.le_of_ble_eq_true rfl) (Nat.le_of_ble_eq_true rfl) ?_
          refine zw_iload dX2_takeNumber_114 rfl ?_
          refine zw_iload_n dX2_takeNumber_116 rfl ?_
          refine zw_iload_n dX2_takeNumber_117 rfl ?_
          refine zw_cNi dX2_takeNumber_118 (c_X4_isWithin _ _ _) rfl okX4_isWithin nl_X2_109 (Nat.le_of_ble_eq_true rfl) (Nat.le_of_ble_eq_true rfl) ?_
          refine zw_if_ne_b (tgt := 129) dX2_takeNumber_121 (by decide) (fun c121 => ?_) (fun c121 => ?_)
          · refine zw_iload dX2_takeNumber_129 rfl ?_
            exact zw_iretE dX2_takeNumber_131 rfl (by simp only [tnF, hx]) rfl (by simp only [tnF, hx, lFA]; rw [if_pos (show po = l.1 ∨ isD (gF len tx po) from (Or.inl c77)), if_pos (show (lo ≤ num ∧ num ≤ hi) from c121)] <;> rfl)
          · refine zw_aload_n dX2_takeNumber_124 rfl ?_
            refine zw_iload_n dX2_takeNumber_125 rfl ?_
            refine zw_cVv dX2_takeNumber_126 (c_X2_failAt hq hC (show (lFA ((nI (((po, l.2)).1))) ((po, l.2))).1 ≤ 100 from hp) _) rfl okX2_failAt ml_X2_48 hq.i hq.k (by decide) rfl (Nat.le_of_ble_eq_true rfl) (Nat.le_of_ble_eq_true rfl) ?_
            refine zw_iload dX2_takeNumber_129 rfl ?_
            exact zw_iretE dX2_takeNumber_131 rfl (by simp only [tnF, hx]) rfl (by simp only [tnF, hx, lFA]; rw [if_pos (show po = l.1 ∨ isD (gF len tx po) from (Or.inl c77)), if_neg (show ¬ (lo ≤ num ∧ num ≤ hi) from c121)] <;> rfl)
      refine zw_iload dX2_takeNumber_14 rfl ?_
      refine zw_iconst (v := nI 3) dX2_takeNumber_16 (by decide) ?_
      refine zw_icmp_ge_n (tgt := 72) dX2_takeNumber_17 (by decide) (by omega) (by omega) (fun c17 => by omega) (fun c17 => ?_)
      refine zw_iload dX2_takeNumber_20 rfl ?_
      refine zw_if_eq (tgt := 72) dX2_takeNumber_22 (by decide) (fun c22 => ?_) (fun c22 => ?_)
      · exact WP.sub (J72 po num hp (hx.trans (by simp only [tnL] <;> rw [if_neg (fun z => bI_0.mp c22 z.1)]))) ⟨rfl, rfl, rfl, rfl, rfl, trivial⟩
      · refine zw_aload_n dX2_takeNumber_25 rfl ?_
        refine zw_cVi dX2_takeNumber_26 (c_X2_sign hq hC hp) rfl okX2_sign ml_X2_52 hq.i hq.k (by decide) rfl (Nat.le_of_ble_eq_true rfl) (Nat.le_of_ble_eq_true rfl) ?_
        refine zw_cSi dX2_takeNumber_29 (c_X2_isDigit _) rfl okX2_isDigit ml_X2_62 (Nat.le_of_ble_eq_true rfl) (Nat.le_of_ble_eq_true rfl) ?_
        refine zw_if_eq_b (tgt := 72) dX2_takeNumber_32 (by decide) (fun c32 => ?_) (fun c32 => ?_)
        · exact WP.sub (J72 po num hp (hx.trans (by simp only [tnL] <;> rw [if_neg (fun z => c32 z.2)]))) ⟨rfl, rfl, rfl, rfl, rfl, trivial⟩
        · refine zw_iload dX2_takeNumber_35 rfl ?_
          refine zw_bipush (v := nI 10) dX2_takeNumber_37 (by decide) ?_
          refine zw_imul dX2_takeNumber_39 ?_
          refine zw_aload_n dX2_takeNumber_40 rfl ?_
          refine zw_cVi dX2_takeNumber_41 (c_X2_sign hq hC hp) rfl okX2_sign ml_X2_52 hq.i hq.k (by decide) rfl (Nat.le_of_ble_eq_true rfl) (Nat.le_of_ble_eq_true rfl) ?_
          refine zw_iadd dX2_takeNumber_44 ?_
          refine zw_bipush (v := nI 48) dX2_takeNumber_45 (by decide) ?_
          refine zw_isub dX2_takeNumber_47 ?_
          refine zw_istore dX2_takeNumber_48 (by decide) ?_
          refine zw_aload_n dX2_takeNumber_50 rfl ?_
          refine zw_cVv dX2_takeNumber_51 (c_X2_skip hq hC hp) rfl okX2_skip ml_X2_106 hq.i hq.k (by decide) rfl (Nat.le_of_ble_eq_true rfl) (Nat.le_of_ble_eq_true rfl) ?_
          refine zw_iload dX2_takeNumber_54 rfl ?_
          refine zw_if_le (tgt := 63) dX2_takeNumber_56 (by decide) (fun c56 => ?_) (fun c56 => ?_)
          · refine zw_iconst (v := nI 0) dX2_takeNumber_63 (by decide) ?_
            refine zw_istore dX2_takeNumber_64 (by decide) ?_
            refine zw_iincn dX2_takeNumber_66 rfl (by decide) ?_
            refine zw_goto (tgt := 14) dX2_takeNumber_69 (by decide) ?_
            exact WP.sub (ih14 (k + 1) (by omega) (lSK (po, l.2)).1 (num * nI 10 + (gF len tx) po - nI 48) (decide (0 < num * nI 10 + (gF len tx) po - nI 48)) (by have := gF_isD c32; show (if l.2 = (-1) then po + 1 else po) ≤ 100; split <;> omega) (hx.trans (by simp only [tnL]; rw [if_pos ⟨Classical.not_not.mp (fun z => c22 (bI_0.mpr z)), c32⟩]; rfl))) ⟨rfl, rfl, rfl, rfl, rfl, (hd_eq (by simp [bI, c56])), rfl, trivial⟩
          · refine zw_iconst (v := nI 1) dX2_takeNumber_59 (by decide) ?_
            refine zw_goto (tgt := 64) dX2_takeNumber_60 (by decide) ?_
            refine zw_istore dX2_takeNumber_64 (by decide) ?_
            refine zw_iincn dX2_takeNumber_66 rfl (by decide) ?_
            refine zw_goto (tgt := 14) dX2_takeNumber_69 (by decide) ?_
            exact WP.sub (ih14 (k + 1) (by omega) (lSK (po, l.2)).1 (num * nI 10 + (gF len tx) po - nI 48) (decide (0 < num * nI 10 + (gF len tx) po - nI 48)) (by have := gF_isD c32; show (if l.2 = (-1) then po + 1 else po) ≤ 100; split <;> omega) (hx.trans (by simp only [tnL]; rw [if_pos ⟨Classical.not_not.mp (fun z => c22 (bI_0.mpr z)), c32⟩]; rfl))) ⟨rfl, rfl, rfl, rfl, rfl, (hd_eq (by simp [bI, c56])), rfl, trivial⟩
  exact WP.sub (L14 (3) 0 (by omega) l.1 (nI 0) true hl rfl) ⟨rfl, rfl, rfl, rfl, rfl, rfl, rfl, trivial⟩
theorem lTK_bad {g : Nat → Int32} {w : Int32} {l : LxS} (h : l.2 ≠ (-1)) : (lTK g w l).2 ≠ (-1) := by
  show (if lTI g w l then l.2 else if l.2 = (-1) then nI l.1 else l.2) ≠ _
  rw [if_neg (fun z => h z.1), if_neg h]
  exact h
def ogl (g : Nat → Int32) (l : LxS) (de : Nat) : LxS := lTK g (nI 40) (if de < 4 then l else lFA (nI l.1) l)
def ogM (C : Mem) (q : Nat) (g : Nat → Int32) (l : LxS) (de : Nat) (f : Int32) : Mem := if (ogl g l de).2 = (-1) then up C (q + 3) (de + 1) (C (q + 3) de * f) else C
def ogD (g : Nat → Int32) (l : LxS) (de : Nat) : Nat := if (ogl g l de).2 = (-1) then de + 1 else de
set_option maxRecDepth 100000 in
set_option maxHeartbeats 4000000 in
theorem c_X2_openGroup {sh : Sh} {C : Mem} {q len : Nat} {tx : Nat → Int32} {l : LxS} {de np : Nat} (hq : IsPl sh q) (hC : PlOk C q len tx) (hl : l.1 ≤ 100) (hde : de ≤ 4) (f : Int32) : Calls mX2_openGroup 3 0 0 [.inr (some (q)), .inl (f)] sh (PL C q l de np) (none) sh (PL (ogM C q (gF len tx) l de f) q (ogl (gF len tx) l de) (ogD (gF len tx) l de) (np)) := by
  refine Calls.of plX2 (Nat.le_of_ble_eq_true rfl) ?_
  have h100 := hC.2.1
  show WP mX2_openGroup 3 0 0 0 [some (.inr (some (q))), some (.inl (f))] [] sh (PL C q l de np) (none) sh (PL (ogM C q (gF len tx) l de f) q (ogl (gF len tx) l de) (ogD (gF len tx) l de) (np))
  refine zw_aload_n dX2_openGroup_0 rfl ?_
  refine zw_getIv (j := 5) (kd := 2) (v := (nI (de))) dX2_openGroup_1 hq.i hq.k (by decide) (by decide) fl_X2_32 rfl PL_de ?_
  refine zw_iconst (v := nI 4) dX2_openGroup_4 (by decide) ?_
  refine zw_icmp_lt_n (tgt := 16) dX2_openGroup_5 (by decide) (by omega) (by omega) (fun c5 => ?_) (fun c5 => ?_)
  · refine zw_aload_n dX2_openGroup_16 rfl ?_
    refine zw_bipush (v := nI 40) dX2_openGroup_17 (by decide) ?_
    refine zw_cVv dX2_openGroup_19 (c_X2_take hq hC hl _ (chn rfl)) rfl okX2_take ml_X2_70 hq.i hq.k (by decide) rfl (Nat.le_of_ble_eq_true rfl) (Nat.le_of_ble_eq_true rfl) ?_
    refine zw_aload_n dX2_openGroup_22 rfl ?_
    refine zw_cVi dX2_openGroup_23 (c_X2_hasFailed hq hC (lTK_le hl h100 (chn rfl))) rfl okX2_hasFailed ml_X2_41 hq.i hq.k (by decide) rfl (Nat.le_of_ble_eq_true rfl) (Nat.le_of_ble_eq_true rfl) ?_
    refine zw_if_ne_c (tgt := 61) dX2_openGroup_26 (by decide) (fun c26 => ?_) (fun c26 => ?_)
    · exact zw_vretE dX2_openGroup_61 rfl rfl rfl (by unfold ogM ogD; rw [show ogl (gF len tx) l de = lTK (gF len tx) (nI 40) l by unfold ogl; rw [if_pos c5]]; rw [if_neg c26, if_neg c26])
    · refine zw_aload_n dX2_openGroup_29 rfl ?_
      refine zw_getR (j := 7) (kd := 2) dX2_openGroup_30 hq.i hq.k (by decide) (by decide) fl_X2_25 rfl hq.r7 ?_
      refine zw_aload_n dX2_openGroup_33 rfl ?_
      refine zw_getIv (j := 5) (kd := 2) (v := (nI (de))) dX2_openGroup_34 hq.i hq.k (by decide) (by decide) fl_X2_32 rfl PL_de ?_
      refine zw_iconst (v := nI 1) dX2_openGroup_37 (by decide) ?_
      refine zw_iaddn dX2_openGroup_38 ?_
      refine zw_aload_n dX2_openGroup_39 rfl ?_
      refine zw_getR (j := 7) (kd := 2) dX2_openGroup_40 hq.i hq.k (by decide) (by decide) fl_X2_25 rfl hq.r7 ?_
      refine zw_aload_n dX2_openGroup_43 rfl ?_
      refine zw_getIv (j := 5) (kd := 2) (v := (nI (de))) dX2_openGroup_44 hq.i hq.k (by decide) (by decide) fl_X2_32 rfl PL_de ?_
      refine zw_iald dX2_openGroup_47 hq.i7 hq.k7 hq.L7 rfl (by rw [hq.n7]; omega) ?_
      refine zw_iload_n dX2_openGroup_48 rfl ?_
      refine zw_imul dX2_openGroup_49 ?_
      refine zw_iast dX2_openGroup_50 hq.i7 hq.k7 hq.L7 rfl (by rw [hq.n7]; omega) ?_
      refine zw_aload_n dX2_openGroup_51 rfl ?_
      refine zw_dup dX2_openGroup_52 ?_
      refine zw_mem (PL_up (by omega)) ?_
      refine zw_getIv (j := 5) (kd := 2) (v := (nI (de))) dX2_openGroup_53 hq.i hq.k (by decide) (by decide) fl_X2_32 rfl PL_de ?_
      refine zw_iconst (v := nI 1) dX2_openGroup_56 (by decide) ?_
      refine zw_iaddn dX2_openGroup_57 ?_
      refine zw_putI (j := 5) (kd := 2) dX2_openGroup_58 hq.i hq.k (by decide) (by decide) fl_X2_32 rfl rfl rfl ?_
      exact zw_vretE dX2_openGroup_61 rfl rfl rfl (by unfold ogM ogD; rw [show ogl (gF len tx) l de = lTK (gF len tx) (nI 40) l by unfold ogl; rw [if_pos c5]]; rw [if_pos (Classical.not_not.mp c26), if_pos (Classical.not_not.mp c26), PL_ude, PL_ne (by omega)])
  · refine zw_aload_n dX2_openGroup_8 rfl ?_
    refine zw_aload_n dX2_openGroup_9 rfl ?_
    refine zw_getIv (j := 6) (kd := 2) (v := (nI ((l).1))) dX2_openGroup_10 hq.i hq.k (by decide) (by decide) fl_X2_29 rfl PL_po ?_
    refine zw_cVv dX2_openGroup_13 (c_X2_failAt hq hC hl _) rfl okX2_failAt ml_X2_48 hq.i hq.k (by decide) rfl (Nat.le_of_ble_eq_true rfl) (Nat.le_of_ble_eq_true rfl) ?_
    refine zw_aload_n dX2_openGroup_16 rfl ?_
    refine zw_bipush (v := nI 40) dX2_openGroup_17 (by decide) ?_
    refine zw_cVv dX2_openGroup_19 (c_X2_take hq hC (show (lFA ((nI ((l).1))) (l)).1 ≤ 100 from hl) _ (chn rfl)) rfl okX2_take ml_X2_70 hq.i hq.k (by decide) rfl (Nat.le_of_ble_eq_true rfl) (Nat.le_of_ble_eq_true rfl) ?_
    refine zw_aload_n dX2_openGroup_22 rfl ?_
    refine zw_cVi dX2_openGroup_23 (c_X2_hasFailed hq hC (lTK_le (show (lFA ((nI ((l).1))) (l)).1 ≤ 100 from hl) h100 (chn rfl))) rfl okX2_hasFailed ml_X2_41 hq.i hq.k (by decide) rfl (Nat.le_of_ble_eq_true rfl) (Nat.le_of_ble_eq_true rfl) ?_
    refine zw_if_ne_c (tgt := 61) dX2_openGroup_26 (by decide) (fun c26 => ?_) (fun c26 => ?_)
    · exact zw_vretE dX2_openGroup_61 rfl rfl rfl (by unfold ogM ogD; rw [show ogl (gF len tx) l de = lTK (gF len tx) (nI 40) (lFA (nI l.1) l) by unfold ogl; rw [if_neg (by omega)]]; rw [if_neg c26, if_neg c26])
    · exact absurd (Classical.not_not.mp c26) (lTK_bad (lFA_ok (by omega)))
def cgl (g : Nat → Int32) (l : LxS) (de : Nat) : LxS := if 0 < de then lTK g (nI 41) l else lFA (nI l.1) l
set_option maxRecDepth 100000 in
set_option maxHeartbeats 4000000 in
theorem c_X2_closeGroup {sh : Sh} {C : Mem} {q len : Nat} {tx : Nat → Int32} {l : LxS} {de np : Nat} (hq : IsPl sh q) (hC : PlOk C q len tx) (hl : l.1 ≤ 100) (hde : de ≤ 4) : Calls mX2_closeGroup 3 0 0 [.inr (some (q))] sh (PL C q l de np) (none) sh (PL (C) q (cgl (gF len tx) l de) (de - 1) (np)) := by
  refine Calls.of plX2 (Nat.le_of_ble_eq_true rfl) ?_
  have h100 := hC.2.1
  show WP mX2_closeGroup 3 0 0 0 [some (.inr (some (q)))] [] sh (PL C q l de np) (none) sh (PL (C) q (cgl (gF len tx) l de) (de - 1) (np))
  refine zw_aload_n dX2_closeGroup_0 rfl ?_
  refine zw_getIv (j := 5) (kd := 2) (v := (nI (de))) dX2_closeGroup_1 hq.i hq.k (by decide) (by decide) fl_X2_32 rfl PL_de ?_
  refine zw_if_le_n (tgt := 26) dX2_closeGroup_4 (by decide) (by omega) (fun c4 => ?_) (fun c4 => ?_)
  · refine zw_aload_n dX2_closeGroup_26 rfl ?_
    refine zw_aload_n dX2_closeGroup_27 rfl ?_
    refine zw_getIv (j := 6) (kd := 2) (v := (nI ((l).1))) dX2_closeGroup_28 hq.i hq.k (by decide) (by decide) fl_X2_29 rfl PL_po ?_
    refine zw_cVv dX2_closeGroup_31 (c_X2_failAt hq hC hl _) rfl okX2_failAt ml_X2_48 hq.i hq.k (by decide) rfl (Nat.le_of_ble_eq_true rfl) (Nat.le_of_ble_eq_true rfl) ?_
    exact zw_vretE dX2_closeGroup_34 rfl rfl rfl (by simp only [cgl]; rw [if_neg (by omega), show de - 1 = de by omega])
  · refine zw_aload_n dX2_closeGroup_7 rfl ?_
    refine zw_bipush (v := nI 41) dX2_closeGroup_8 (by decide) ?_
    refine zw_cVv dX2_closeGroup_10 (c_X2_take hq hC hl _ (chn rfl)) rfl okX2_take ml_X2_70 hq.i hq.k (by decide) rfl (Nat.le_of_ble_eq_true rfl) (Nat.le_of_ble_eq_true rfl) ?_
    refine zw_aload_n dX2_closeGroup_13 rfl ?_
    refine zw_dup dX2_closeGroup_14 ?_
    refine zw_getIv (j := 5) (kd := 2) (v := (nI (de))) dX2_closeGroup_15 hq.i hq.k (by decide) (by decide) fl_X2_32 rfl PL_de ?_
    refine zw_iconst (v := nI 1) dX2_closeGroup_18 (by decide) ?_
    refine zw_isubn dX2_closeGroup_19 (by omega) ?_
    refine zw_putI (j := 5) (kd := 2) dX2_closeGroup_20 hq.i hq.k (by decide) (by decide) fl_X2_32 rfl rfl rfl ?_
    refine zw_goto (tgt := 34) dX2_closeGroup_23 (by decide) ?_
    exact zw_vretE dX2_closeGroup_34 rfl rfl rfl (by rw [PL_ude]; simp only [cgl]; rw [if_pos (by omega)])
end
section
/-! ===== Plan: parts, pieces, the whole text ===== -/
def rb2 (g : Nat → Int32) (l : LxS) : LxS := if lTI g (nI 113) l then lTIs g (nI 113) l else lTK g (nI 110) (lTIs g (nI 113) l)
def rb4 (g : Nat → Int32) (l : LxS) : LxS := lTK g (nI 58) (lTS g l)
def rb5 (g : Nat → Int32) (l : LxS) : LxS × Int32 := tnF g (nI 0) (nI 23) (rb4 g l)
def rb7 (g : Nat → Int32) (l : LxS) : LxS × Int32 := if lTI g (nI 45) (rb5 g l).1 then tnF g (rb5 g l).2 (nI 23) (lTIs g (nI 45) (rb5 g l).1) else (lTIs g (nI 45) (rb5 g l).1, (rb5 g l).2)
def rb9 (g : Nat → Int32) (l : LxS) : LxS × Int32 := tnF g (nI 1) (nI 999) (lTK g (nI 61) (rb7 g l).1)
def rb10 (g : Nat → Int32) (l : LxS) : LxS := lTK g (nI 59) (rb9 g l).1
def rbW (C : Mem) (q : Nat) (g : Nat → Int32) (l : LxS) (de np : Nat) : Mem :=
  let p := q + 4 + np
  up (up (up (up (up (up (up C p 0 (nI l.1)) p 1 (nI de)) p 2 (if lTI g (nI 113) l then nI 0 else nI 1)) p 3 (g (rb2 g l).1 - nI 48)) p 4 (rb5 g (rb2 g l)).2) p 5 (rb7 g (rb2 g l)).2) p 6 ((rb9 g (rb2 g l)).2 * C (q + 3) de)
def rbM (C : Mem) (q : Nat) (g : Nat → Int32) (l : LxS) (de np : Nat) : Mem := if (rb10 g (rb2 g l)).2 = (-1) ∧ np < 14 then rbW C q g l de np else C
def rbN (g : Nat → Int32) (l : LxS) (np : Nat) : Nat := if (rb10 g (rb2 g l)).2 = (-1) ∧ np < 14 then np + 1 else np
theorem rb2_le {len : Nat} {tx : Nat → Int32} {l : LxS} (hl : l.1 ≤ 100) (hlen : len ≤ 100) : (rb2 (gF len tx) l).1 ≤ 100 := by
  unfold rb2
  split
  · exact lTIs_le hl hlen (chn rfl)
  · exact lTK_le (lTIs_le hl hlen (chn rfl)) hlen (chn rfl)
theorem rb5_le {len : Nat} {tx : Nat → Int32} {l : LxS} (hl : l.1 ≤ 100) (hlen : len ≤ 100) : (rb5 (gF len tx) l).1.1 ≤ 100 := tnF_le (lTK_le (lTS_le hl hlen) hlen (chn rfl)) hlen
theorem rb7_le {len : Nat} {tx : Nat → Int32} {l : LxS} (hl : l.1 ≤ 100) (hlen : len ≤ 100) : (rb7 (gF len tx) l).1.1 ≤ 100 := by
  unfold rb7
  split
  · exact tnF_le (lTIs_le (rb5_le hl hlen) hlen (chn rfl)) hlen
  · exact lTIs_le (rb5_le hl hlen) hlen (chn rfl)
theorem rb10_le {len : Nat} {tx : Nat → Int32} {l : LxS} (hl : l.1 ≤ 100) (hlen : len ≤ 100) : (rb10 (gF len tx) l).1 ≤ 100 := lTK_le (tnF_le (lTK_le (rb7_le hl hlen) hlen (chn rfl)) hlen) hlen (chn rfl)
set_option maxRecDepth 100000 in
set_option maxHeartbeats 4000000 in
theorem c_X2_readBids {sh : Sh} {C : Mem} {q len : Nat} {tx : Nat → Int32} {l : LxS} {de np : Nat} (hq : IsPl sh q) (hC : PlOk C q len tx) (hl : l.1 ≤ 100) (hde : de ≤ 4) (hnp : np ≤ 14) : Calls mX2_readBids 3 0 0 [.inr (some (q))] sh (PL C q l de np) (none) sh (PL (rbM C q (gF len tx) l de np) q (rb10 (gF len tx) (rb2 (gF len tx) l)) (de) (rbN (gF len tx) l np)) := by
  refine Calls.of plX2 (Nat.le_of_ble_eq_true rfl) ?_
  have h100 := hC.2.1
  show WP mX2_readBids 3 0 0 0 [some (.inr (some (q))), none, none, none, none, none, none, none] [] sh (PL C q l de np) (none) sh (PL (rbM C q (gF len tx) l de np) q (rb10 (gF len tx) (rb2 (gF len tx) l)) (de) (rbN (gF len tx) l np))
  refine zw_aload_n dX2_readBids_0 rfl ?_
  refine zw_getIv (j := 6) (kd := 2) (v := (nI ((l).1))) dX2_readBids_1 hq.i hq.k (by decide) (by decide) fl_X2_29 rfl PL_po ?_
  refine zw_istore_n dX2_readBids_4 (by decide) ?_
  refine zw_aload_n dX2_readBids_5 rfl ?_
  refine zw_bipush (v := nI 113) dX2_readBids_6 (by decide) ?_
  refine zw_cVi dX2_readBids_8 (c_X2_takeIf hq hC hl _) rfl okX2_takeIf ml_X2_77 hq.i hq.k (by decide) rfl (Nat.le_of_ble_eq_true rfl) (Nat.le_of_ble_eq_true rfl) ?_
  refine zw_istore_n dX2_readBids_11 (by decide) ?_
  refine zw_iload_n dX2_readBids_12 rfl ?_
  have J22 : ∀ (l2 : LxS), l2.1 ≤ 100 → rb2 (gF len tx) l = l2 → WP mX2_readBids 3 0 0 22 [some (.inr (some (q))), some (.inl (nI (l.1))), some (.inl (b01c (lTI (gF len tx) (nI 113) l))), none, none, none, none, none] [] sh (PL C q l2 de np) (none) sh (PL (rbM C q (gF len tx) l de np) q (rb10 (gF len tx) (rb2 (gF len tx) l)) (de) (rbN (gF len tx) l np)) := by
    intro l2 hl2 hx2
    refine zw_aload_n dX2_readBids_22 rfl ?_
    refine zw_cVi dX2_readBids_23 (c_X2_takeStreet hq hC hl2) rfl okX2_takeStreet ml_X2_81 hq.i hq.k (by decide) rfl (Nat.le_of_ble_eq_true rfl) (Nat.le_of_ble_eq_true rfl) ?_
    refine zw_istore_n dX2_readBids_26 (by decide) ?_
    refine zw_aload_n dX2_readBids_27 rfl ?_
    refine zw_bipush (v := nI 58) dX2_readBids_28 (by decide) ?_
    refine zw_cVv dX2_readBids_30 (c_X2_take hq hC (lTS_le hl2 h100) _ (chn rfl)) rfl okX2_take ml_X2_70 hq.i hq.k (by decide) rfl (Nat.le_of_ble_eq_true rfl) (Nat.le_of_ble_eq_true rfl) ?_
    refine zw_aload_n dX2_readBids_33 rfl ?_
    refine zw_iconst (v := nI 0) dX2_readBids_34 (by decide) ?_
    refine zw_bipush (v := nI 23) dX2_readBids_35 (by decide) ?_
    refine zw_cVi dX2_readBids_37 (c_X2_takeNumber hq hC (lTK_le (lTS_le hl2 h100) h100 (chn rfl)) _ _) rfl okX2_takeNumber ml_X2_66 hq.i hq.k (by decide) rfl (Nat.le_of_ble_eq_true rfl) (Nat.le_of_ble_eq_true rfl) ?_
    refine zw_istore dX2_readBids_40 (by decide) ?_
    refine zw_aload_n dX2_readBids_42 rfl ?_
    refine zw_bipush (v := nI 45) dX2_readBids_43 (by decide) ?_
    refine zw_cVi dX2_readBids_45 (c_X2_takeIf hq hC (tnF_le (lTK_le (lTS_le hl2 h100) h100 (chn rfl)) h100) _) rfl okX2_takeIf ml_X2_77 hq.i hq.k (by decide) rfl (Nat.le_of_ble_eq_true rfl) (Nat.le_of_ble_eq_true rfl) ?_
    have J64 : ∀ (l7 : LxS) (last : Int32), l7.1 ≤ 100 → rb7 (gF len tx) l2 = (l7, last) → WP mX2_readBids 3 0 0 64 [some (.inr (some (q))), some (.inl (nI (l.1))), some (.inl (b01c (lTI (gF len tx) (nI 113) l))), some (.inl ((gF len tx) l2.1 - nI 48)), some (.inl ((rb5 (gF len tx) l2).2)), none, none, none] [.inl (last)] sh (PL C q l7 de np) (none) sh (PL (rbM C q (gF len tx) l de np) q (rb10 (gF len tx) (rb2 (gF len tx) l)) (de) (rbN (gF len tx) l np)) := by
      intro l7 last hl7 hx7
      refine zw_istore dX2_readBids_64 (by decide) ?_
      refine zw_aload_n dX2_readBids_66 rfl ?_
      refine zw_bipush (v := nI 61) dX2_readBids_67 (by decide) ?_
      refine zw_cVv dX2_readBids_69 (c_X2_take hq hC hl7 _ (chn rfl)) rfl okX2_take ml_X2_70 hq.i hq.k (by decide) rfl (Nat.le_of_ble_eq_true rfl) (Nat.le_of_ble_eq_true rfl) ?_
      refine zw_aload_n dX2_readBids_72 rfl ?_
      refine zw_iconst (v := nI 1) dX2_readBids_73 (by decide) ?_
      refine zw_sipush (v := nI 999) dX2_readBids_74 (by decide) ?_
      refine zw_cVi dX2_readBids_77 (c_X2_takeNumber hq hC (lTK_le hl7 h100 (chn rfl)) _ _) rfl okX2_takeNumber ml_X2_66 hq.i hq.k (by decide) rfl (Nat.le_of_ble_eq_true rfl) (Nat.le_of_ble_eq_true rfl) ?_
      refine zw_istore dX2_readBids_80 (by decide) ?_
      refine zw_aload_n dX2_readBids_82 rfl ?_
      refine zw_bipush (v := nI 59) dX2_readBids_83 (by decide) ?_
      refine zw_cVv dX2_readBids_85 (c_X2_take hq hC (tnF_le (lTK_le hl7 h100 (chn rfl)) h100) _ (chn rfl)) rfl okX2_take ml_X2_70 hq.i hq.k (by decide) rfl (Nat.le_of_ble_eq_true rfl) (Nat.le_of_ble_eq_true rfl) ?_
      refine zw_aload_n dX2_readBids_88 rfl ?_
      refine zw_cVi dX2_readBids_89 (c_X2_hasFailed hq hC (lTK_le (tnF_le (lTK_le hl7 h100 (chn rfl)) h100) h100 (chn rfl))) rfl okX2_hasFailed ml_X2_41 hq.i hq.k (by decide) rfl (Nat.le_of_ble_eq_true rfl) (Nat.le_of_ble_eq_true rfl) ?_
      refine zw_if_ne_c (tgt := 191) dX2_readBids_92 (by decide) (fun c92 => ?_) (fun c92 => ?_)
      · exact zw_vretE dX2_readBids_191 rfl rfl rfl (by unfold rbM rbN; rw [hx2, show rb10 (gF len tx) l2 = lTK (gF len tx) (nI 59) (tnF (gF len tx) (nI 1) (nI 999) (lTK (gF len tx) (nI 61) l7)).1 by unfold rb10 rb9; rw [hx7], if_neg (fun z => c92 z.1), if_neg (fun z => c92 z.1)])
      · refine zw_aload_n dX2_readBids_95 rfl ?_
        refine zw_getIv (j := 3) (kd := 2) (v := (nI (np))) dX2_readBids_96 hq.i hq.k (by decide) (by decide) fl_X2_35 rfl PL_np ?_
        refine zw_bipush (v := nI 14) dX2_readBids_99 (by decide) ?_
        refine zw_icmp_ge_n (tgt := 191) dX2_readBids_101 (by decide) (by omega) (by omega) (fun c101 => ?_) (fun c101 => ?_)
        · exact zw_vretE dX2_readBids_191 rfl rfl rfl (by unfold rbM rbN; rw [hx2, show rb10 (gF len tx) l2 = lTK (gF len tx) (nI 59) (tnF (gF len tx) (nI 1) (nI 999) (lTK (gF len tx) (nI 61) l7)).1 by unfold rb10 rb9; rw [hx7], if_neg (fun z => by have := z.2; omega), if_neg (fun z => by have := z.2; omega)])
        · refine zw_aload_n dX2_readBids_104 rfl ?_
          refine zw_getR (j := 2) (kd := 2) dX2_readBids_105 hq.i hq.k (by decide) (by decide) fl_X2_17 rfl hq.r2 ?_
          refine zw_aload_n dX2_readBids_108 rfl ?_
          refine zw_getIv (j := 3) (kd := 2) (v := (nI (np))) dX2_readBids_109 hq.i hq.k (by decide) (by decide) fl_X2_35 rfl PL_np ?_
          refine zw_aaldP dX2_readBids_112 hq.i2 hq.k2 hq.L2 rfl (by rw [hq.n2]; exact c101) (hq.pr c101) ?_
          refine zw_astore dX2_readBids_113 (by decide) ?_
          refine zw_aload dX2_readBids_115 rfl ?_
          refine zw_iload_n dX2_readBids_117 rfl ?_
          refine zw_putI (j := 0) (kd := 1) dX2_readBids_118 (hq.pi c101) (hq.pk c101) (by decide) (by decide) fl_X2_84 rfl rfl rfl ?_
          refine zw_mem (PL_up (by omega)) ?_
          refine zw_aload dX2_readBids_121 rfl ?_
          refine zw_aload_n dX2_readBids_123 rfl ?_
          refine zw_getIv (j := 5) (kd := 2) (v := (nI (de))) dX2_readBids_124 hq.i hq.k (by decide) (by decide) fl_X2_32 rfl PL_de ?_
          refine zw_putI (j := 1) (kd := 1) dX2_readBids_127 (hq.pi c101) (hq.pk c101) (by decide) (by decide) fl_X2_87 rfl rfl rfl ?_
          refine zw_mem (PL_up (by omega)) ?_
          refine zw_aload dX2_readBids_130 rfl ?_
          refine zw_iload_n dX2_readBids_132 rfl ?_
          refine zw_if_eq_c (tgt := 140) dX2_readBids_133 (by decide) (fun c133 => ?_) (fun c133 => ?_)
          · refine zw_iconst (v := nI 1) dX2_readBids_140 (by decide) ?_
            refine zw_putI (j := 2) (kd := 1) dX2_readBids_141 (hq.pi c101) (hq.pk c101) (by decide) (by decide) fl_X2_88 rfl rfl rfl ?_
            refine zw_mem (PL_up (by omega)) ?_
            refine zw_aload dX2_readBids_144 rfl ?_
            refine zw_iload_n dX2_readBids_146 rfl ?_
            refine zw_putI (j := 3) (kd := 1) dX2_readBids_147 (hq.pi c101) (hq.pk c101) (by decide) (by decide) fl_X2_91 rfl rfl rfl ?_
            refine zw_mem (PL_up (by omega)) ?_
            refine zw_aload dX2_readBids_150 rfl ?_
            refine zw_iload dX2_readBids_152 rfl ?_
            refine zw_putI (j := 4) (kd := 1) dX2_readBids_154 (hq.pi c101) (hq.pk c101) (by decide) (by decide) fl_X2_94 rfl rfl rfl ?_
            refine zw_mem (PL_up (by omega)) ?_
            refine zw_aload dX2_readBids_157 rfl ?_
            refine zw_iload dX2_readBids_159 rfl ?_
            refine zw_putI (j := 5) (kd := 1) dX2_readBids_161 (hq.pi c101) (hq.pk c101) (by decide) (by decide) fl_X2_97 rfl rfl rfl ?_
            refine zw_mem (PL_up (by omega)) ?_
            refine zw_aload dX2_readBids_164 rfl ?_
            refine zw_iload dX2_readBids_166 rfl ?_
            refine zw_aload_n dX2_readBids_168 rfl ?_
            refine zw_getR (j := 7) (kd := 2) dX2_readBids_169 hq.i hq.k (by decide) (by decide) fl_X2_25 rfl hq.r7 ?_
            refine zw_aload_n dX2_readBids_172 rfl ?_
            refine zw_getIv (j := 5) (kd := 2) (v := (nI (de))) dX2_readBids_173 hq.i hq.k (by decide) (by decide) fl_X2_32 rfl PL_de ?_
            refine zw_ialdv (v := (C (q + 3) de)) dX2_readBids_176 hq.i7 hq.k7 hq.L7 rfl (by rw [hq.n7]; omega) (by rw [PL_ne (by omega), up_ne (by omega), up_ne (by omega), up_ne (by omega), up_ne (by omega), up_ne (by omega), up_ne (by omega)]) ?_
            refine zw_imul dX2_readBids_177 ?_
            refine zw_putI (j := 6) (kd := 1) dX2_readBids_178 (hq.pi c101) (hq.pk c101) (by decide) (by decide) fl_X2_100 rfl rfl rfl ?_
            refine zw_mem (PL_up (by omega)) ?_
            refine zw_aload_n dX2_readBids_181 rfl ?_
            refine zw_dup dX2_readBids_182 ?_
            refine zw_getIv (j := 3) (kd := 2) (v := (nI (np))) dX2_readBids_183 hq.i hq.k (by decide) (by decide) fl_X2_35 rfl PL_np ?_
            refine zw_iconst (v := nI 1) dX2_readBids_186 (by decide) ?_
            refine zw_iaddn dX2_readBids_187 ?_
            refine zw_putI (j := 3) (kd := 2) dX2_readBids_188 hq.i hq.k (by decide) (by decide) fl_X2_35 rfl rfl rfl ?_
            refine zw_mem PL_unp ?_
            exact zw_vretE dX2_readBids_191 rfl rfl rfl (by unfold rbM rbN; rw [hx2, show rb10 (gF len tx) l2 = lTK (gF len tx) (nI 59) (tnF (gF len tx) (nI 1) (nI 999) (lTK (gF len tx) (nI 61) l7)).1 by unfold rb10 rb9; rw [hx7], if_pos ⟨Classical.not_not.mp c92, c101⟩, if_pos ⟨Classical.not_not.mp c92, c101⟩]; unfold rbW rb9; rw [hx2, hx7, if_neg c133] <;> rfl)
          · refine zw_iconst (v := nI 0) dX2_readBids_136 (by decide) ?_
            refine zw_goto (tgt := 141) dX2_readBids_137 (by decide) ?_
            refine zw_putI (j := 2) (kd := 1) dX2_readBids_141 (hq.pi c101) (hq.pk c101) (by decide) (by decide) fl_X2_88 rfl rfl rfl ?_
            refine zw_mem (PL_up (by omega)) ?_
            refine zw_aload dX2_readBids_144 rfl ?_
            refine zw_iload_n dX2_readBids_146 rfl ?_
            refine zw_putI (j := 3) (kd := 1) dX2_readBids_147 (hq.pi c101) (hq.pk c101) (by decide) (by decide) fl_X2_91 rfl rfl rfl ?_
            refine zw_mem (PL_up (by omega)) ?_
            refine zw_aload dX2_readBids_150 rfl ?_
            refine zw_iload dX2_readBids_152 rfl ?_
            refine zw_putI (j := 4) (kd := 1) dX2_readBids_154 (hq.pi c101) (hq.pk c101) (by decide) (by decide) fl_X2_94 rfl rfl rfl ?_
            refine zw_mem (PL_up (by omega)) ?_
            refine zw_aload dX2_readBids_157 rfl ?_
            refine zw_iload dX2_readBids_159 rfl ?_
            refine zw_putI (j := 5) (kd := 1) dX2_readBids_161 (hq.pi c101) (hq.pk c101) (by decide) (by decide) fl_X2_97 rfl rfl rfl ?_
            refine zw_mem (PL_up (by omega)) ?_
            refine zw_aload dX2_readBids_164 rfl ?_
            refine zw_iload dX2_readBids_166 rfl ?_
            refine zw_aload_n dX2_readBids_168 rfl ?_
            refine zw_getR (j := 7) (kd := 2) dX2_readBids_169 hq.i hq.k (by decide) (by decide) fl_X2_25 rfl hq.r7 ?_
            refine zw_aload_n dX2_readBids_172 rfl ?_
            refine zw_getIv (j := 5) (kd := 2) (v := (nI (de))) dX2_readBids_173 hq.i hq.k (by decide) (by decide) fl_X2_32 rfl PL_de ?_
            refine zw_ialdv (v := (C (q + 3) de)) dX2_readBids_176 hq.i7 hq.k7 hq.L7 rfl (by rw [hq.n7]; omega) (by rw [PL_ne (by omega), up_ne (by omega), up_ne (by omega), up_ne (by omega), up_ne (by omega), up_ne (by omega), up_ne (by omega)]) ?_
            refine zw_imul dX2_readBids_177 ?_
            refine zw_putI (j := 6) (kd := 1) dX2_readBids_178 (hq.pi c101) (hq.pk c101) (by decide) (by decide) fl_X2_100 rfl rfl rfl ?_
            refine zw_mem (PL_up (by omega)) ?_
            refine zw_aload_n dX2_readBids_181 rfl ?_
            refine zw_dup dX2_readBids_182 ?_
            refine zw_getIv (j := 3) (kd := 2) (v := (nI (np))) dX2_readBids_183 hq.i hq.k (by decide) (by decide) fl_X2_35 rfl PL_np ?_
            refine zw_iconst (v := nI 1) dX2_readBids_186 (by decide) ?_
            refine zw_iaddn dX2_readBids_187 ?_
            refine zw_putI (j := 3) (kd := 2) dX2_readBids_188 hq.i hq.k (by decide) (by decide) fl_X2_35 rfl rfl rfl ?_
            refine zw_mem PL_unp ?_
            exact zw_vretE dX2_readBids_191 rfl rfl rfl (by unfold rbM rbN; rw [hx2, show rb10 (gF len tx) l2 = lTK (gF len tx) (nI 59) (tnF (gF len tx) (nI 1) (nI 999) (lTK (gF len tx) (nI 61) l7)).1 by unfold rb10 rb9; rw [hx7], if_pos ⟨Classical.not_not.mp c92, c101⟩, if_pos ⟨Classical.not_not.mp c92, c101⟩]; unfold rbW rb9; rw [hx2, hx7, if_pos c133] <;> rfl)
    refine zw_if_eq_c (tgt := 62) dX2_readBids_48 (by decide) (fun c48 => ?_) (fun c48 => ?_)
    · refine zw_iload dX2_readBids_62 rfl ?_
      exact WP.sub (J64 _ _ (lTIs_le (rb5_le hl2 h100) h100 (chn rfl)) (by unfold rb7; rw [if_neg (show ¬ lTI (gF len tx) (nI 45) (rb5 (gF len tx) l2).1 from c48)] <;> rfl)) ⟨rfl, rfl, rfl, rfl, rfl, trivial⟩
    · refine zw_aload_n dX2_readBids_51 rfl ?_
      refine zw_iload dX2_readBids_52 rfl ?_
      refine zw_bipush (v := nI 23) dX2_readBids_54 (by decide) ?_
      refine zw_cVi dX2_readBids_56 (c_X2_takeNumber hq hC (lTIs_le (tnF_le (lTK_le (lTS_le hl2 h100) h100 (chn rfl)) h100) h100 (chn rfl)) _ _) rfl okX2_takeNumber ml_X2_66 hq.i hq.k (by decide) rfl (Nat.le_of_ble_eq_true rfl) (Nat.le_of_ble_eq_true rfl) ?_
      refine zw_goto (tgt := 64) dX2_readBids_59 (by decide) ?_
      exact WP.sub (J64 _ _ (tnF_le (lTIs_le (rb5_le hl2 h100) h100 (chn rfl)) h100) (by unfold rb7; rw [if_pos (show lTI (gF len tx) (nI 45) (rb5 (gF len tx) l2).1 from c48)] <;> rfl)) ⟨rfl, rfl, rfl, rfl, rfl, trivial⟩
  refine zw_if_ne_c (tgt := 22) dX2_readBids_13 (by decide) (fun c13 => ?_) (fun c13 => ?_)
  · exact WP.sub (J22 _ (lTIs_le hl h100 (chn rfl)) (by unfold rb2; rw [if_pos c13])) ⟨rfl, rfl, rfl, trivial⟩
  · refine zw_aload_n dX2_readBids_16 rfl ?_
    refine zw_bipush (v := nI 110) dX2_readBids_17 (by decide) ?_
    refine zw_cVv dX2_readBids_19 (c_X2_take hq hC (lTIs_le hl h100 (chn rfl)) _ (chn rfl)) rfl okX2_take ml_X2_70 hq.i hq.k (by decide) rfl (Nat.le_of_ble_eq_true rfl) (Nat.le_of_ble_eq_true rfl) ?_
    exact WP.sub (J22 _ (lTK_le (lTIs_le hl h100 (chn rfl)) h100 (chn rfl)) (by unfold rb2; rw [if_neg c13])) ⟨rfl, rfl, rfl, trivial⟩
abbrev PSt : Type := Mem × LxS × Nat × Nat
def rpF (q : Nat) (g : Nat → Int32) (t : PSt) : PSt :=
  if g t.2.1.1 = nI 41 then (t.1, cgl g t.2.1 t.2.2.1, t.2.2.1 - 1, t.2.2.2)
  else if g t.2.1.1 = nI 40 then (ogM t.1 q g t.2.1 t.2.2.1 (nI 1), ogl g t.2.1 t.2.2.1, ogD g t.2.1 t.2.2.1, t.2.2.2)
  else if isD (g t.2.1.1) then (ogM t.1 q g (lTK g (nI 42) (tnF g (nI 2) (nI 9) t.2.1).1) t.2.2.1 (tnF g (nI 2) (nI 9) t.2.1).2, ogl g (lTK g (nI 42) (tnF g (nI 2) (nI 9) t.2.1).1) t.2.2.1, ogD g (lTK g (nI 42) (tnF g (nI 2) (nI 9) t.2.1).1) t.2.2.1, t.2.2.2)
  else (rbM t.1 q g t.2.1 t.2.2.1 t.2.2.2, rb10 g (rb2 g t.2.1), t.2.2.1, rbN g t.2.1 t.2.2.2)
/-- the memory of a state of the reading -/
abbrev PSm (q : Nat) (t : PSt) : Mem := PL t.1 q t.2.1 t.2.2.1 t.2.2.2
def PSok (q len : Nat) (tx : Nat → Int32) (t : PSt) : Prop := PlOk t.1 q len tx ∧ t.2.1.1 ≤ 100 ∧ t.2.2.1 ≤ 4 ∧ t.2.2.2 ≤ 14
theorem lFA_le {x : Int32} {l : LxS} (h : l.1 ≤ 100) : (lFA x l).1 ≤ 100 := h
theorem ogl_le {len de : Nat} {tx : Nat → Int32} {l : LxS} (hl : l.1 ≤ 100) (hlen : len ≤ 100) : (ogl (gF len tx) l de).1 ≤ 100 := by
  unfold ogl
  split
  · exact lTK_le hl hlen (chn rfl)
  · exact lTK_le (lFA_le hl) hlen (chn rfl)
theorem cgl_le {len de : Nat} {tx : Nat → Int32} {l : LxS} (hl : l.1 ≤ 100) (hlen : len ≤ 100) : (cgl (gF len tx) l de).1 ≤ 100 := by
  unfold cgl
  split
  · exact lTK_le hl hlen (chn rfl)
  · exact lFA_le hl
theorem ogl_ok {g : Nat → Int32} {l : LxS} {de : Nat} (hl : l.1 ≤ 100) (h : (ogl g l de).2 = (-1)) : de < 4 := by
  by_cases hd : de < 4
  · exact hd
  · unfold ogl at h
    rw [if_neg hd] at h
    exact absurd h (lTK_bad (lFA_ok (by omega)))
theorem ogD_le {g : Nat → Int32} {l : LxS} {de : Nat} (hl : l.1 ≤ 100) (hd : de ≤ 4) : ogD g l de ≤ 4 := by
  unfold ogD
  split
  · rename_i h
    have := ogl_ok hl h
    omega
  · exact hd
theorem PlOk.og {C : Mem} {q len de : Nat} {tx g : Nat → Int32} {l : LxS} {f : Int32} (h : PlOk C q len tx) : PlOk (ogM C q g l de f) q len tx := by
  unfold ogM
  split
  · exact h.wr (by omega) (by omega)
  · exact h
theorem PlOk.rb {C : Mem} {q len de np : Nat} {tx g : Nat → Int32} {l : LxS} (h : PlOk C q len tx) : PlOk (rbM C q g l de np) q len tx := by
  unfold rbM
  split
  · exact ((((((h.wr (by omega) (by omega)).wr (by omega) (by omega)).wr (by omega) (by omega)).wr (by omega) (by omega)).wr (by omega) (by omega)).wr (by omega) (by omega)).wr (by omega) (by omega)
  · exact h
theorem rpF_ok {q len : Nat} {tx : Nat → Int32} {t : PSt} (h : PSok q len tx t) : PSok q len tx (rpF q (gF len tx) t) := by
  obtain ⟨h1, h2, h3, h4⟩ := h
  have h100 := h1.2.1
  have h5 : (lTK (gF len tx) (nI 42) (tnF (gF len tx) (nI 2) (nI 9) t.2.1).1).1 ≤ 100 := lTK_le (tnF_le h2 h100) h100 (chn rfl)
  unfold rpF
  split
  · exact ⟨h1, cgl_le h2 h100, by show t.2.2.1 - 1 ≤ 4; omega, h4⟩
  · split
    · exact ⟨h1.og, ogl_le h2 h100, ogD_le h2 h3, h4⟩
    · split
      · exact ⟨h1.og, ogl_le h5 h100, ogD_le h5 h3, h4⟩
      · refine ⟨h1.rb, rb10_le (rb2_le h2 h100) h100, h3, ?_⟩
        show rbN _ _ _ ≤ 14
        unfold rbN
        split <;> omega
set_option maxRecDepth 100000 in
set_option maxHeartbeats 4000000 in
theorem c_X2_readPiece {sh : Sh} {C : Mem} {q len : Nat} {tx : Nat → Int32} {l : LxS} {de np : Nat} (hq : IsPl sh q) (hC : PlOk C q len tx) (hl : l.1 ≤ 100) (hde : de ≤ 4) (hnp : np ≤ 14) : Calls mX2_readPiece 4 0 0 [.inr (some (q))] sh (PL C q l de np) (none) sh (PL ((rpF q (gF len tx) (C, l, de, np)).1) q ((rpF q (gF len tx) (C, l, de, np)).2.1) ((rpF q (gF len tx) (C, l, de, np)).2.2.1) ((rpF q (gF len tx) (C, l, de, np)).2.2.2)) := by
  refine Calls.of plX2 (Nat.le_of_ble_eq_true rfl) ?_
  have h100 := hC.2.1
  show WP mX2_readPiece 4 0 0 0 [some (.inr (some (q))), none] [] sh (PL C q l de np) (none) sh (PL ((rpF q (gF len tx) (C, l, de, np)).1) q ((rpF q (gF len tx) (C, l, de, np)).2.1) ((rpF q (gF len tx) (C, l, de, np)).2.2.1) ((rpF q (gF len tx) (C, l, de, np)).2.2.2))
  refine zw_aload_n dX2_readPiece_0 rfl ?_
  refine zw_cVi dX2_readPiece_1 (c_X2_sign hq hC hl) rfl okX2_sign ml_X2_52 hq.i hq.k (by decide) rfl (Nat.le_of_ble_eq_true rfl) (Nat.le_of_ble_eq_true rfl) ?_
  refine zw_bipush (v := nI 41) dX2_readPiece_4 (by decide) ?_
  refine zw_icmp_ne (tgt := 16) dX2_readPiece_6 (by decide) (fun c6 => ?_) (fun c6 => ?_)
  · refine zw_aload_n dX2_readPiece_16 rfl ?_
    refine zw_cVi dX2_readPiece_17 (c_X2_sign hq hC hl) rfl okX2_sign ml_X2_52 hq.i hq.k (by decide) rfl (Nat.le_of_ble_eq_true rfl) (Nat.le_of_ble_eq_true rfl) ?_
    refine zw_bipush (v := nI 40) dX2_readPiece_20 (by decide) ?_
    refine zw_icmp_ne (tgt := 33) dX2_readPiece_22 (by decide) (fun c22 => ?_) (fun c22 => ?_)
    · refine zw_aload_n dX2_readPiece_33 rfl ?_
      refine zw_cVi dX2_readPiece_34 (c_X2_sign hq hC hl) rfl okX2_sign ml_X2_52 hq.i hq.k (by decide) rfl (Nat.le_of_ble_eq_true rfl) (Nat.le_of_ble_eq_true rfl) ?_
      refine zw_cSi dX2_readPiece_37 (c_X2_isDigit _) rfl okX2_isDigit ml_X2_62 (Nat.le_of_ble_eq_true rfl) (Nat.le_of_ble_eq_true rfl) ?_
      refine zw_if_eq_b (tgt := 65) dX2_readPiece_40 (by decide) (fun c40 => ?_) (fun c40 => ?_)
      · refine zw_aload_n dX2_readPiece_65 rfl ?_
        refine zw_cVv dX2_readPiece_66 (c_X2_readBids hq hC hl (by omega) (by omega)) rfl okX2_readBids ml_X2_74 hq.i hq.k (by decide) rfl (Nat.le_of_ble_eq_true rfl) (Nat.le_of_ble_eq_true rfl) ?_
        exact zw_vretE dX2_readPiece_69 rfl rfl rfl (by unfold rpF; rw [if_neg c6, if_neg c22, if_neg c40])
      · refine zw_aload_n dX2_readPiece_43 rfl ?_
        refine zw_iconst (v := nI 2) dX2_readPiece_44 (by decide) ?_
        refine zw_bipush (v := nI 9) dX2_readPiece_45 (by decide) ?_
        refine zw_cVi dX2_readPiece_47 (c_X2_takeNumber hq hC hl _ _) rfl okX2_takeNumber ml_X2_66 hq.i hq.k (by decide) rfl (Nat.le_of_ble_eq_true rfl) (Nat.le_of_ble_eq_true rfl) ?_
        refine zw_istore_n dX2_readPiece_50 (by decide) ?_
        refine zw_aload_n dX2_readPiece_51 rfl ?_
        refine zw_bipush (v := nI 42) dX2_readPiece_52 (by decide) ?_
        refine zw_cVv dX2_readPiece_54 (c_X2_take hq hC (tnF_le hl h100) _ (chn rfl)) rfl okX2_take ml_X2_70 hq.i hq.k (by decide) rfl (Nat.le_of_ble_eq_true rfl) (Nat.le_of_ble_eq_true rfl) ?_
        refine zw_aload_n dX2_readPiece_57 rfl ?_
        refine zw_iload_n dX2_readPiece_58 rfl ?_
        refine zw_cVv dX2_readPiece_59 (c_X2_openGroup hq hC (lTK_le (tnF_le hl h100) h100 (chn rfl)) (by omega) _) rfl okX2_openGroup ml_X2_59 hq.i hq.k (by decide) rfl (Nat.le_of_ble_eq_true rfl) (Nat.le_of_ble_eq_true rfl) ?_
        refine zw_goto (tgt := 69) dX2_readPiece_62 (by decide) ?_
        exact zw_vretE dX2_readPiece_69 rfl rfl rfl (by unfold rpF; rw [if_neg c6, if_neg c22, if_pos c40])
    · refine zw_aload_n dX2_readPiece_25 rfl ?_
      refine zw_iconst (v := nI 1) dX2_readPiece_26 (by decide) ?_
      refine zw_cVv dX2_readPiece_27 (c_X2_openGroup hq hC hl (by omega) _) rfl okX2_openGroup ml_X2_59 hq.i hq.k (by decide) rfl (Nat.le_of_ble_eq_true rfl) (Nat.le_of_ble_eq_true rfl) ?_
      refine zw_goto (tgt := 69) dX2_readPiece_30 (by decide) ?_
      exact zw_vretE dX2_readPiece_69 rfl rfl rfl (by unfold rpF; rw [if_neg c6, if_pos c22])
  · refine zw_aload_n dX2_readPiece_9 rfl ?_
    refine zw_cVv dX2_readPiece_10 (c_X2_closeGroup hq hC hl (by omega)) rfl okX2_closeGroup ml_X2_56 hq.i hq.k (by decide) rfl (Nat.le_of_ble_eq_true rfl) (Nat.le_of_ble_eq_true rfl) ?_
    refine zw_goto (tgt := 69) dX2_readPiece_13 (by decide) ?_
    exact zw_vretE dX2_readPiece_69 rfl rfl rfl (by unfold rpF; rw [if_pos c6])
def rtL (q len : Nat) (g : Nat → Int32) : Nat → PSt → PSt
  | 0, t => t
  | n + 1, t => if t.2.1.1 < len ∧ t.2.1.2 = (-1) then rtL q len g n (rpF q g t) else t
theorem rtL_go {q len n : Nat} {g : Nat → Int32} {t : PSt} (h1 : t.2.1.1 < len) (h2 : t.2.1.2 = (-1)) : rtL q len g (n + 1) t = rtL q len g n (rpF q g t) := if_pos ⟨h1, h2⟩
theorem rtL_stop {q len n : Nat} {g : Nat → Int32} {t : PSt} (h : ¬ (t.2.1.1 < len ∧ t.2.1.2 = (-1))) : rtL q len g (n + 1) t = t := if_neg h
def rtE (t : PSt) : LxS := if 0 < t.2.2.1 then lFA (nI t.2.1.1) t.2.1 else t.2.1
theorem PL_init {C : Mem} {q : Nat} : up (up (up (up C q 6 (nI 0)) q 5 (nI 0)) q 3 (nI 0)) q 4 (-1) = PL C q (0, -1) 0 0 := by
  funext a j
  by_cases h : a = q
  · subst h
    by_cases h6 : j = 6
    · subst h6; simp [up, upd, PL]
    · by_cases h4 : j = 4
      · subst h4; simp [up, upd, PL]
      · by_cases h5 : j = 5
        · subst h5; simp [up, upd, PL]
        · by_cases h3 : j = 3
          · subst h3; simp [up, upd, PL]
          · simp [up, upd, PL, h6, h4, h5, h3]
  · simp [up, PL, h]
def rt0 (C : Mem) : PSt := (C, (0, -1), 0, 0)
def rtR (q len : Nat) (tx : Nat → Int32) (C : Mem) : PSt := rtL q len (gF len tx) 100 (rt0 C)
set_option maxRecDepth 100000 in
set_option maxHeartbeats 4000000 in
theorem c_X2_readText {sh : Sh} {C : Mem} {q len : Nat} {tx : Nat → Int32} (hq : IsPl sh q) (hC : PlOk C q len tx) : Calls mX2_readText 5 0 0 [.inr (some (q))] sh C (some (.inl (b01c ((rtE (rtR q len tx C)).2 = (-1))))) sh (PL ((rtR q len tx C).1) q (rtE (rtR q len tx C)) ((rtR q len tx C).2.2.1) ((rtR q len tx C).2.2.2)) := by
  refine Calls.of plX2 (Nat.le_of_ble_eq_true rfl) ?_
  have h100 := hC.2.1
  show WP mX2_readText 5 0 0 0 [some (.inr (some (q))), none] [] sh (C) (some (.inl (b01c ((rtE (rtR q len tx C)).2 = (-1))))) sh (PL ((rtR q len tx C).1) q (rtE (rtR q len tx C)) ((rtR q len tx C).2.2.1) ((rtR q len tx C).2.2.2))
  refine zw_aload_n dX2_readText_0 rfl ?_
  refine zw_iconst (v := nI 0) dX2_readText_1 (by decide) ?_
  refine zw_putI (j := 6) (kd := 2) dX2_readText_2 hq.i hq.k (by decide) (by decide) fl_X2_29 rfl rfl rfl ?_
  refine zw_aload_n dX2_readText_5 rfl ?_
  refine zw_iconst (v := nI 0) dX2_readText_6 (by decide) ?_
  refine zw_putI (j := 5) (kd := 2) dX2_readText_7 hq.i hq.k (by decide) (by decide) fl_X2_32 rfl rfl rfl ?_
  refine zw_aload_n dX2_readText_10 rfl ?_
  refine zw_iconst (v := nI 0) dX2_readText_11 (by decide) ?_
  refine zw_putI (j := 3) (kd := 2) dX2_readText_12 hq.i hq.k (by decide) (by decide) fl_X2_35 rfl rfl rfl ?_
  refine zw_aload_n dX2_readText_15 rfl ?_
  refine zw_iconst (v := (-1)) dX2_readText_16 (by decide) ?_
  refine zw_putI (j := 4) (kd := 2) dX2_readText_17 hq.i hq.k (by decide) (by decide) fl_X2_21 rfl rfl rfl ?_
  refine zw_mem PL_init ?_
  refine zw_iconst (v := nI 0) dX2_readText_20 (by decide) ?_
  refine zw_istore_n dX2_readText_21 (by decide) ?_
  have J56 : ∀ (C1 : Mem) (l : LxS) (de np : Nat), PlOk C1 q len tx → l.1 ≤ 100 → de ≤ 4 → np ≤ 14 → (rtR q len tx C) = (C1, l, de, np) → WP mX2_readText 5 0 0 56 [some (.inr (some (q))), none] [] sh (PL C1 q l de np) (some (.inl (b01c ((rtE (rtR q len tx C)).2 = (-1))))) sh (PL ((rtR q len tx C).1) q (rtE (rtR q len tx C)) ((rtR q len tx C).2.2.1) ((rtR q len tx C).2.2.2)) := by
    intro C1 l de np hC1 hl hde hnp hx
    refine zw_aload_n dX2_readText_56 rfl ?_
    refine zw_getIv (j := 5) (kd := 2) (v := (nI (de))) dX2_readText_57 hq.i hq.k (by decide) (by decide) fl_X2_32 rfl PL_de ?_
    refine zw_if_le_n (tgt := 71) dX2_readText_60 (by decide) (by omega) (fun c60 => ?_) (fun c60 => ?_)
    · refine zw_aload_n dX2_readText_71 rfl ?_
      refine zw_cVi dX2_readText_72 (c_X2_hasFailed hq hC1 hl) rfl okX2_hasFailed ml_X2_41 hq.i hq.k (by decide) rfl (Nat.le_of_ble_eq_true rfl) (Nat.le_of_ble_eq_true rfl) ?_
      refine zw_if_ne_c (tgt := 82) dX2_readText_75 (by decide) (fun c75 => ?_) (fun c75 => ?_)
      · refine zw_iconst (v := nI 0) dX2_readText_82 (by decide) ?_
        exact zw_zretE dX2_readText_83 rfl (Or.inl rfl) (by rw [hx, show rtE (C1, l, de, np) = l by unfold rtE; rw [if_neg (by show ¬ 0 < de; omega)]]; rw [b01c_f (fun z => c75 z)]) rfl (by rw [hx]; unfold rtE; rw [if_neg (by show ¬ 0 < de; omega)])
      · refine zw_iconst (v := nI 1) dX2_readText_78 (by decide) ?_
        refine zw_goto (tgt := 83) dX2_readText_79 (by decide) ?_
        exact zw_zretE dX2_readText_83 rfl (Or.inr rfl) (by rw [hx, show rtE (C1, l, de, np) = l by unfold rtE; rw [if_neg (by show ¬ 0 < de; omega)]]; rw [b01c_t (Classical.not_not.mp c75)]) rfl (by rw [hx]; unfold rtE; rw [if_neg (by show ¬ 0 < de; omega)])
    · refine zw_aload_n dX2_readText_63 rfl ?_
      refine zw_aload_n dX2_readText_64 rfl ?_
      refine zw_getIv (j := 6) (kd := 2) (v := (nI ((l).1))) dX2_readText_65 hq.i hq.k (by decide) (by decide) fl_X2_29 rfl PL_po ?_
      refine zw_cVv dX2_readText_68 (c_X2_failAt hq hC1 hl _) rfl okX2_failAt ml_X2_48 hq.i hq.k (by decide) rfl (Nat.le_of_ble_eq_true rfl) (Nat.le_of_ble_eq_true rfl) ?_
      refine zw_aload_n dX2_readText_71 rfl ?_
      refine zw_cVi dX2_readText_72 (c_X2_hasFailed hq hC1 (show (lFA ((nI ((l).1))) (l)).1 ≤ 100 from hl)) rfl okX2_hasFailed ml_X2_41 hq.i hq.k (by decide) rfl (Nat.le_of_ble_eq_true rfl) (Nat.le_of_ble_eq_true rfl) ?_
      refine zw_if_ne_c (tgt := 82) dX2_readText_75 (by decide) (fun c75 => ?_) (fun c75 => ?_)
      · refine zw_iconst (v := nI 0) dX2_readText_82 (by decide) ?_
        exact zw_zretE dX2_readText_83 rfl (Or.inl rfl) (by rw [hx, show rtE (C1, l, de, np) = lFA (nI l.1) l by unfold rtE; rw [if_pos (by show 0 < de; omega)]]; rw [b01c_f (fun z => c75 z)]) rfl (by rw [hx]; unfold rtE; rw [if_pos (by show 0 < de; omega)])
      · refine zw_iconst (v := nI 1) dX2_readText_78 (by decide) ?_
        refine zw_goto (tgt := 83) dX2_readText_79 (by decide) ?_
        exact zw_zretE dX2_readText_83 rfl (Or.inr rfl) (by rw [hx, show rtE (C1, l, de, np) = lFA (nI l.1) l by unfold rtE; rw [if_pos (by show 0 < de; omega)]]; rw [b01c_t (Classical.not_not.mp c75)]) rfl (by rw [hx]; unfold rtE; rw [if_pos (by show 0 < de; omega)])
  have L22 : ∀ (n_22 k : Nat), k + n_22 = 100 → ∀ (C1 : Mem) (l : LxS) (de np : Nat), PlOk C1 q len tx → l.1 ≤ 100 → de ≤ 4 → np ≤ 14 → (rtR q len tx C) = rtL q len (gF len tx) n_22 (C1, l, de, np) → WP mX2_readText 5 0 0 22 [some (.inr (some (q))), some (.inl (nI (k)))] [] sh (PL C1 q l de np) (some (.inl (b01c ((rtE (rtR q len tx C)).2 = (-1))))) sh (PL ((rtR q len tx C).1) q (rtE (rtR q len tx C)) ((rtR q len tx C).2.2.1) ((rtR q len tx C).2.2.2)) := by
    intro n_22
    induction n_22 with
    | zero =>
      intro k hk22 C1 l de np hC1 hl hde hnp hx
      have ek22 : 100 = k := by omega
      subst ek22
      have J56 : ∀ (C1 : Mem) (l : LxS) (de np : Nat), PlOk C1 q len tx → l.1 ≤ 100 → de ≤ 4 → np ≤ 14 → (rtR q len tx C) = (C1, l, de, np) → WP mX2_readText 5 0 0 56 [some (.inr (some (q))), none] [] sh (PL C1 q l de np) (some (.inl (b01c ((rtE (rtR q len tx C)).2 = (-1))))) sh (PL ((rtR q len tx C).1) q (rtE (rtR q len tx C)) ((rtR q len tx C).2.2.1) ((rtR q len tx C).2.2.2)) := by
        intro C1 l de np hC1 hl hde hnp hx
        refine zw_aload_n dX2_readText_56 rfl ?_
        refine zw_getIv (j := 5) (kd := 2) (v := (nI (de))) dX2_readText_57 hq.i hq.k (by decide) (by decide) fl_X2_32 rfl PL_de ?_
        refine zw_if_le_n (tgt := 71) dX2_readText_60 (by decide) (by omega) (fun c60 => ?_) (fun c60 => ?_)
        · refine zw_aload_n dX2_readText_71 rfl ?_
          refine zw_cVi dX2_readText_72 (c_X2_hasFailed hq hC1 hl) rfl okX2_hasFailed ml_X2_41 hq.i hq.k (by decide) rfl (Nat.le_of_ble_eq_true rfl) (Nat.le_of_ble_eq_true rfl) ?_
          refine zw_if_ne_c (tgt := 82) dX2_readText_75 (by decide) (fun c75 => ?_) (fun c75 => ?_)
          · refine zw_iconst (v := nI 0) dX2_readText_82 (by decide) ?_
            exact zw_zretE dX2_readText_83 rfl (Or.inl rfl) (by rw [hx, show rtE (C1, l, de, np) = l by unfold rtE; rw [if_neg (by show ¬ 0 < de; omega)]]; rw [b01c_f (fun z => c75 z)]) rfl (by rw [hx]; unfold rtE; rw [if_neg (by show ¬ 0 < de; omega)])
          · refine zw_iconst (v := nI 1) dX2_readText_78 (by decide) ?_
            refine zw_goto (tgt := 83) dX2_readText_79 (by decide) ?_
            exact zw_zretE dX2_readText_83 rfl (Or.inr rfl) (by rw [hx, show rtE (C1, l, de, np) = l by unfold rtE; rw [if_neg (by show ¬ 0 < de; omega)]]; rw [b01c_t (Classical.not_not.mp c75)]) rfl (by rw [hx]; unfold rtE; rw [if_neg (by show ¬ 0 < de; omega)])
        · refine zw_aload_n dX2_readText_63 rfl ?_
          refine zw_aload_n dX2_readText_64 rfl ?_
          refine zw_getIv (j := 6) (kd := 2) (v := (nI ((l).1))) dX2_readText_65 hq.i hq.k (by decide) (by decide) fl_X2_29 rfl PL_po ?_
          refine zw_cVv dX2_readText_68 (c_X2_failAt hq hC1 hl _) rfl okX2_failAt ml_X2_48 hq.i hq.k (by decide) rfl (Nat.le_of_ble_eq_true rfl) (Nat.le_of_ble_eq_true rfl) ?_
          refine zw_aload_n dX2_readText_71 rfl ?_
          refine zw_cVi dX2_readText_72 (c_X2_hasFailed hq hC1 (show (lFA ((nI ((l).1))) (l)).1 ≤ 100 from hl)) rfl okX2_hasFailed ml_X2_41 hq.i hq.k (by decide) rfl (Nat.le_of_ble_eq_true rfl) (Nat.le_of_ble_eq_true rfl) ?_
          refine zw_if_ne_c (tgt := 82) dX2_readText_75 (by decide) (fun c75 => ?_) (fun c75 => ?_)
          · refine zw_iconst (v := nI 0) dX2_readText_82 (by decide) ?_
            exact zw_zretE dX2_readText_83 rfl (Or.inl rfl) (by rw [hx, show rtE (C1, l, de, np) = lFA (nI l.1) l by unfold rtE; rw [if_pos (by show 0 < de; omega)]]; rw [b01c_f (fun z => c75 z)]) rfl (by rw [hx]; unfold rtE; rw [if_pos (by show 0 < de; omega)])
          · refine zw_iconst (v := nI 1) dX2_readText_78 (by decide) ?_
            refine zw_goto (tgt := 83) dX2_readText_79 (by decide) ?_
            exact zw_zretE dX2_readText_83 rfl (Or.inr rfl) (by rw [hx, show rtE (C1, l, de, np) = lFA (nI l.1) l by unfold rtE; rw [if_pos (by show 0 < de; omega)]]; rw [b01c_t (Classical.not_not.mp c75)]) rfl (by rw [hx]; unfold rtE; rw [if_pos (by show 0 < de; omega)])
      refine zw_iload_n dX2_readText_22 rfl ?_
      refine zw_bipush (v := nI 100) dX2_readText_23 (by decide) ?_
      refine zw_icmp_ge_n (tgt := 56) dX2_readText_25 (by decide) (by omega) (by omega) (fun c25 => ?_) (fun c25 => by omega)
      exact WP.sub (J56 C1 l de np hC1 hl hde hnp (hx.trans rfl)) ⟨rfl, trivial⟩
    | succ n_22 ih22 =>
      intro k hk22 C1 l de np hC1 hl hde hnp hx
      have hlt22 : k < 100 := by omega
      have J56 : ∀ (C1 : Mem) (l : LxS) (de np : Nat), PlOk C1 q len tx → l.1 ≤ 100 → de ≤ 4 → np ≤ 14 → (rtR q len tx C) = (C1, l, de, np) → WP mX2_readText 5 0 0 56 [some (.inr (some (q))), none] [] sh (PL C1 q l de np) (some (.inl (b01c ((rtE (rtR q len tx C)).2 = (-1))))) sh (PL ((rtR q len tx C).1) q (rtE (rtR q len tx C)) ((rtR q len tx C).2.2.1) ((rtR q len tx C).2.2.2)) := by
        intro C1 l de np hC1 hl hde hnp hx
        refine zw_aload_n dX2_readText_56 rfl ?_
        refine zw_getIv (j := 5) (kd := 2) (v := (nI (de))) dX2_readText_57 hq.i hq.k (by decide) (by decide) fl_X2_32 rfl PL_de ?_
        refine zw_if_le_n (tgt := 71) dX2_readText_60 (by decide) (by omega) (fun c60 => ?_) (fun c60 => ?_)
        · refine zw_aload_n dX2_readText_71 rfl ?_
          refine zw_cVi dX2_readText_72 (c_X2_hasFailed hq hC1 hl) rfl okX2_hasFailed ml_X2_41 hq.i hq.k (by decide) rfl (Nat.le_of_ble_eq_true rfl) (Nat.le_of_ble_eq_true rfl) ?_
          refine zw_if_ne_c (tgt := 82) dX2_readText_75 (by decide) (fun c75 => ?_) (fun c75 => ?_)
          · refine zw_iconst (v := nI 0) dX2_readText_82 (by decide) ?_
            exact zw_zretE dX2_readText_83 rfl (Or.inl rfl) (by rw [hx, show rtE (C1, l, de, np) = l by unfold rtE; rw [if_neg (by show ¬ 0 < de; omega)]]; rw [b01c_f (fun z => c75 z)]) rfl (by rw [hx]; unfold rtE; rw [if_neg (by show ¬ 0 < de; omega)])
          · refine zw_iconst (v := nI 1) dX2_readText_78 (by decide) ?_
            refine zw_goto (tgt := 83) dX2_readText_79 (by decide) ?_
            exact zw_zretE dX2_readText_83 rfl (Or.inr rfl) (by rw [hx, show rtE (C1, l, de, np) = l by unfold rtE; rw [if_neg (by show ¬ 0 < de; omega)]]; rw [b01c_t (Classical.not_not.mp c75)]) rfl (by rw [hx]; unfold rtE; rw [if_neg (by show ¬ 0 < de; omega)])
        · refine zw_aload_n dX2_readText_63 rfl ?_
          refine zw_aload_n dX2_readText_64 rfl ?_
          refine zw_getIv (j := 6) (kd := 2) (v := (nI ((l).1))) dX2_readText_65 hq.i hq.k (by decide) (by decide) fl_X2_29 rfl PL_po ?_
          refine zw_cVv dX2_readText_68 (c_X2_failAt hq hC1 hl _) rfl okX2_failAt ml_X2_48 hq.i hq.k (by decide) rfl (Nat.le_of_ble_eq_true rfl) (Nat.le_of_ble_eq_true rfl) ?_
          refine zw_aload_n dX2_readText_71 rfl ?_
          refine zw_cVi dX2_readText_72 (c_X2_hasFailed hq hC1 (show (lFA ((nI ((l).1))) (l)).1 ≤ 100 from hl)) rfl okX2_hasFailed ml_X2_41 hq.i hq.k (by decide) rfl (Nat.le_of_ble_eq_true rfl) (Nat.le_of_ble_eq_true rfl) ?_
          refine zw_if_ne_c (tgt := 82) dX2_readText_75 (by decide) (fun c75 => ?_) (fun c75 => ?_)
          · refine zw_iconst (v := nI 0) dX2_readText_82 (by decide) ?_
            exact zw_zretE dX2_readText_83 rfl (Or.inl rfl) (by rw [hx, show rtE (C1, l, de, np) = lFA (nI l.1) l by unfold rtE; rw [if_pos (by show 0 < de; omega)]]; rw [b01c_f (fun z => c75 z)]) rfl (by rw [hx]; unfold rtE; rw [if_pos (by show 0 < de; omega)])
          · refine zw_iconst (v := nI 1) dX2_readText_78 (by decide) ?_
            refine zw_goto (tgt := 83) dX2_readText_79 (by decide) ?_
            exact zw_zretE dX2_readText_83 rfl (Or.inr rfl) (by rw [hx, show rtE (C1, l, de, np) = lFA (nI l.1) l by unfold rtE; rw [if_pos (by show 0 < de; omega)]]; rw [b01c_t (Classical.not_not.mp c75)]) rfl (by rw [hx]; unfold rtE; rw [if_pos (by show 0 < de; omega)])
      refine zw_iload_n dX2_readText_22 rfl ?_
      refine zw_bipush (v := nI 100) dX2_readText_23 (by decide) ?_
      refine zw_icmp_ge_n (tgt := 56) dX2_readText_25 (by decide) (by omega) (by omega) (fun c25 => by omega) (fun c25 => ?_)
      refine zw_aload_n dX2_readText_28 rfl ?_
      refine zw_getIv (j := 6) (kd := 2) (v := (nI ((l).1))) dX2_readText_29 hq.i hq.k (by decide) (by decide) fl_X2_29 rfl PL_po ?_
      refine zw_aload_n dX2_readText_32 rfl ?_
      refine zw_getIv (j := 1) (kd := 2) (v := (nI (len))) dX2_readText_33 hq.i hq.k (by decide) (by decide) fl_X2_38 rfl ((PL_f (by decide)).trans hC1.1) ?_
      refine zw_icmp_ge_n (tgt := 56) dX2_readText_36 (by decide) (by omega) (by omega) (fun c36 => ?_) (fun c36 => ?_)
      · exact WP.sub (J56 C1 l de np hC1 hl hde hnp (hx.trans (rtL_stop (fun z => absurd z.1 (Nat.not_lt.mpr c36))))) ⟨rfl, trivial⟩
      · refine zw_aload_n dX2_readText_39 rfl ?_
        refine zw_cVi dX2_readText_40 (c_X2_hasFailed hq hC1 hl) rfl okX2_hasFailed ml_X2_41 hq.i hq.k (by decide) rfl (Nat.le_of_ble_eq_true rfl) (Nat.le_of_ble_eq_true rfl) ?_
        refine zw_if_ne_c (tgt := 56) dX2_readText_43 (by decide) (fun c43 => ?_) (fun c43 => ?_)
        · exact WP.sub (J56 C1 l de np hC1 hl hde hnp (hx.trans (rtL_stop (fun z => c43 z.2)))) ⟨rfl, trivial⟩
        · refine zw_aload_n dX2_readText_46 rfl ?_
          refine zw_cVv dX2_readText_47 (c_X2_readPiece hq hC1 hl hde hnp) rfl okX2_readPiece ml_X2_45 hq.i hq.k (by decide) rfl (Nat.le_of_ble_eq_true rfl) (Nat.le_of_ble_eq_true rfl) ?_
          refine zw_iincn dX2_readText_50 rfl (by decide) ?_
          refine zw_goto (tgt := 22) dX2_readText_53 (by decide) ?_
          exact WP.sub (ih22 (k + 1) (by omega) _ _ _ _ (rpF_ok (t := (C1, l, de, np)) ⟨hC1, hl, hde, hnp⟩).1 (rpF_ok (t := (C1, l, de, np)) ⟨hC1, hl, hde, hnp⟩).2.1 (rpF_ok (t := (C1, l, de, np)) ⟨hC1, hl, hde, hnp⟩).2.2.1 (rpF_ok (t := (C1, l, de, np)) ⟨hC1, hl, hde, hnp⟩).2.2.2 (hx.trans (rtL_go c36 (Classical.not_not.mp c43)))) ⟨rfl, rfl, trivial⟩
  exact WP.sub (L22 (100) 0 (by omega) C (0, -1) 0 0 hC (by decide) (by decide) (by decide) rfl) ⟨rfl, rfl, trivial⟩
end
