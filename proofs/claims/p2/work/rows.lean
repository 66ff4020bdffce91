section
-- ===== PART A: goes FIRST, ahead of the names: the tables' words, and 'selects' of the private methods out of them =====
/-- a private method of a class that the tables say can be made, by its rows of tables_1 -/
def lw_okq (q : MethodName × Nat) : Prop := (q.1.cls ≠ "java/lang/invoke/MethodHandle" ∧ q.1.cls ≠ "java/lang/invoke/VarHandle") ∧ Cond.instantiable q.1.cls q.2 ∈ tables_1 ∧ Cond.privateMethod q.1 ∈ tables_1 ∧ Cond.instanceMethod q.1 ∈ tables_1
theorem lw_p0 : lw_okq (⟨"DecimalDesk$Decimal", "takeDigits", "(LDecimalDesk$Tape;I)I"⟩, 3) := ⟨⟨by decide +kernel, by decide +kernel⟩, List.mem_of_getElem? (i := 57) (by decide +kernel), List.mem_of_getElem? (i := 275) (by decide +kernel), List.mem_of_getElem? (i := 276) (by decide +kernel)⟩
theorem lw_p1 : lw_okq (⟨"DecimalDesk$Decimal", "takePower", "(LDecimalDesk$Tape;I)Z"⟩, 3) := ⟨⟨by decide +kernel, by decide +kernel⟩, List.mem_of_getElem? (i := 57) (by decide +kernel), List.mem_of_getElem? (i := 287) (by decide +kernel), List.mem_of_getElem? (i := 288) (by decide +kernel)⟩
theorem lw_p2 : lw_okq (⟨"java/lang/Throwable", "fillInStackTrace", "(I)Ljava/lang/Throwable;"⟩, 6) := ⟨⟨by decide +kernel, by decide +kernel⟩, List.mem_of_getElem? (i := 332) (by decide +kernel), List.mem_of_getElem? (i := 330) (by decide +kernel), List.mem_of_getElem? (i := 331) (by decide +kernel)⟩
theorem lw_p3 : lw_okq (⟨"DecimalDesk$Rounder", "setFraction", "(LDecimalDesk$Decimal;)V"⟩, 5) := ⟨⟨by decide +kernel, by decide +kernel⟩, List.mem_of_getElem? (i := 88) (by decide +kernel), List.mem_of_getElem? (i := 369) (by decide +kernel), List.mem_of_getElem? (i := 370) (by decide +kernel)⟩
theorem lw_p4 : lw_okq (⟨"DecimalDesk$Natural", "limbAt", "(I)J"⟩, 1) := ⟨⟨by decide +kernel, by decide +kernel⟩, List.mem_of_getElem? (i := 63) (by decide +kernel), List.mem_of_getElem? (i := 398) (by decide +kernel), List.mem_of_getElem? (i := 399) (by decide +kernel)⟩
theorem lw_p5 : lw_okq (⟨"DecimalDesk$Rounder", "normalise", "()I"⟩, 5) := ⟨⟨by decide +kernel, by decide +kernel⟩, List.mem_of_getElem? (i := 88) (by decide +kernel), List.mem_of_getElem? (i := 402) (by decide +kernel), List.mem_of_getElem? (i := 403) (by decide +kernel)⟩
theorem lw_p6 : lw_okq (⟨"DecimalDesk$Rounder", "takeBits", "(I)J"⟩, 5) := ⟨⟨by decide +kernel, by decide +kernel⟩, List.mem_of_getElem? (i := 88) (by decide +kernel), List.mem_of_getElem? (i := 428) (by decide +kernel), List.mem_of_getElem? (i := 429) (by decide +kernel)⟩
theorem lw_p7 : lw_okq (⟨"DecimalDesk", "sizeByOverflow", "(Z)J"⟩, 9) := ⟨⟨by decide +kernel, by decide +kernel⟩, List.mem_of_getElem? (i := 19) (by decide +kernel), List.mem_of_getElem? (i := 440) (by decide +kernel), List.mem_of_getElem? (i := 441) (by decide +kernel)⟩
theorem lw_p8 : lw_okq (⟨"DecimalDesk", "raiseFlags", "(Z)V"⟩, 9) := ⟨⟨by decide +kernel, by decide +kernel⟩, List.mem_of_getElem? (i := 19) (by decide +kernel), List.mem_of_getElem? (i := 444) (by decide +kernel), List.mem_of_getElem? (i := 445) (by decide +kernel)⟩
theorem lw_p9 : lw_okq (⟨"DecimalDesk", "tellNotFinite", "(J)Z"⟩, 9) := ⟨⟨by decide +kernel, by decide +kernel⟩, List.mem_of_getElem? (i := 19) (by decide +kernel), List.mem_of_getElem? (i := 456) (by decide +kernel), List.mem_of_getElem? (i := 457) (by decide +kernel)⟩
theorem lw_p10 : lw_okq (⟨"DecimalDesk", "tellShortest", "(J)V"⟩, 9) := ⟨⟨by decide +kernel, by decide +kernel⟩, List.mem_of_getElem? (i := 19) (by decide +kernel), List.mem_of_getElem? (i := 469) (by decide +kernel), List.mem_of_getElem? (i := 470) (by decide +kernel)⟩
theorem lw_p11 : lw_okq (⟨"DecimalDesk$Told", "addReversed", "(II)V"⟩, 3) := ⟨⟨by decide +kernel, by decide +kernel⟩, List.mem_of_getElem? (i := 156) (by decide +kernel), List.mem_of_getElem? (i := 486) (by decide +kernel), List.mem_of_getElem? (i := 487) (by decide +kernel)⟩
theorem lw_p12 : lw_okq (⟨"DecimalDesk$ShortestFinder", "setRange", "(JLDecimalDesk$Layout;)V"⟩, 9) := ⟨⟨by decide +kernel, by decide +kernel⟩, List.mem_of_getElem? (i := 115) (by decide +kernel), List.mem_of_getElem? (i := 495) (by decide +kernel), List.mem_of_getElem? (i := 496) (by decide +kernel)⟩
theorem lw_p13 : lw_okq (⟨"DecimalDesk$ShortestFinder", "setPower", "(JLDecimalDesk$Layout;)V"⟩, 9) := ⟨⟨by decide +kernel, by decide +kernel⟩, List.mem_of_getElem? (i := 115) (by decide +kernel), List.mem_of_getElem? (i := 523) (by decide +kernel), List.mem_of_getElem? (i := 524) (by decide +kernel)⟩
theorem lw_p14 : lw_okq (⟨"DecimalDesk$ShortestFinder", "timesTen", "()V"⟩, 9) := ⟨⟨by decide +kernel, by decide +kernel⟩, List.mem_of_getElem? (i := 115) (by decide +kernel), List.mem_of_getElem? (i := 539) (by decide +kernel), List.mem_of_getElem? (i := 540) (by decide +kernel)⟩
theorem lw_p15 : lw_okq (⟨"DecimalDesk$ShortestFinder", "takeDigit", "()I"⟩, 9) := ⟨⟨by decide +kernel, by decide +kernel⟩, List.mem_of_getElem? (i := 115) (by decide +kernel), List.mem_of_getElem? (i := 544) (by decide +kernel), List.mem_of_getElem? (i := 545) (by decide +kernel)⟩
def lw_privs_1 : List (MethodName × Nat) := [(⟨"DecimalDesk$Decimal", "takeDigits", "(LDecimalDesk$Tape;I)I"⟩, 3), (⟨"DecimalDesk$Decimal", "takePower", "(LDecimalDesk$Tape;I)Z"⟩, 3), (⟨"java/lang/Throwable", "fillInStackTrace", "(I)Ljava/lang/Throwable;"⟩, 6), (⟨"DecimalDesk$Rounder", "setFraction", "(LDecimalDesk$Decimal;)V"⟩, 5), (⟨"DecimalDesk$Natural", "limbAt", "(I)J"⟩, 1), (⟨"DecimalDesk$Rounder", "normalise", "()I"⟩, 5), (⟨"DecimalDesk$Rounder", "takeBits", "(I)J"⟩, 5), (⟨"DecimalDesk", "sizeByOverflow", "(Z)J"⟩, 9), (⟨"DecimalDesk", "raiseFlags", "(Z)V"⟩, 9), (⟨"DecimalDesk", "tellNotFinite", "(J)Z"⟩, 9), (⟨"DecimalDesk", "tellShortest", "(J)V"⟩, 9), (⟨"DecimalDesk$Told", "addReversed", "(II)V"⟩, 3), (⟨"DecimalDesk$ShortestFinder", "setRange", "(JLDecimalDesk$Layout;)V"⟩, 9), (⟨"DecimalDesk$ShortestFinder", "setPower", "(JLDecimalDesk$Layout;)V"⟩, 9), (⟨"DecimalDesk$ShortestFinder", "timesTen", "()V"⟩, 9), (⟨"DecimalDesk$ShortestFinder", "takeDigit", "()I"⟩, 9)]
theorem lw_r1 : ∀ q ∈ lw_privs_1, lw_okq q := List.forall_mem_cons.mpr ⟨lw_p0, List.forall_mem_cons.mpr ⟨lw_p1, List.forall_mem_cons.mpr ⟨lw_p2, List.forall_mem_cons.mpr ⟨lw_p3, List.forall_mem_cons.mpr ⟨lw_p4, List.forall_mem_cons.mpr ⟨lw_p5, List.forall_mem_cons.mpr ⟨lw_p6, List.forall_mem_cons.mpr ⟨lw_p7, List.forall_mem_cons.mpr ⟨lw_p8, List.forall_mem_cons.mpr ⟨lw_p9, List.forall_mem_cons.mpr ⟨lw_p10, List.forall_mem_cons.mpr ⟨lw_p11, List.forall_mem_cons.mpr ⟨lw_p12, List.forall_mem_cons.mpr ⟨lw_p13, List.forall_mem_cons.mpr ⟨lw_p14, List.forall_mem_cons.mpr ⟨lw_p15, fun _ h => absurd h List.not_mem_nil⟩⟩⟩⟩⟩⟩⟩⟩⟩⟩⟩⟩⟩⟩⟩⟩
theorem lw_p16 : lw_okq (⟨"DecimalDesk$ShortestFinder", "choose", "()Z"⟩, 9) := ⟨⟨by decide +kernel, by decide +kernel⟩, List.mem_of_getElem? (i := 115) (by decide +kernel), List.mem_of_getElem? (i := 549) (by decide +kernel), List.mem_of_getElem? (i := 550) (by decide +kernel)⟩
theorem lw_p17 : lw_okq (⟨"DecimalDesk$ShortestFinder", "isWithin", "(I)Z"⟩, 9) := ⟨⟨by decide +kernel, by decide +kernel⟩, List.mem_of_getElem? (i := 115) (by decide +kernel), List.mem_of_getElem? (i := 553) (by decide +kernel), List.mem_of_getElem? (i := 554) (by decide +kernel)⟩
theorem lw_p18 : lw_okq (⟨"DecimalDesk", "tellAllDigits", "(J)V"⟩, 9) := ⟨⟨by decide +kernel, by decide +kernel⟩, List.mem_of_getElem? (i := 19) (by decide +kernel), List.mem_of_getElem? (i := 569) (by decide +kernel), List.mem_of_getElem? (i := 570) (by decide +kernel)⟩
theorem lw_p19 : lw_okq (⟨"DecimalDeskModel", "isDecimal", "()Z"⟩, 26) := ⟨⟨by decide +kernel, by decide +kernel⟩, List.mem_of_getElem? (i := 616) (by decide +kernel), List.mem_of_getElem? (i := 726) (by decide +kernel), List.mem_of_getElem? (i := 727) (by decide +kernel)⟩
theorem lw_p20 : lw_okq (⟨"DecimalDeskModel", "see", "(I)I"⟩, 26) := ⟨⟨by decide +kernel, by decide +kernel⟩, List.mem_of_getElem? (i := 616) (by decide +kernel), List.mem_of_getElem? (i := 730) (by decide +kernel), List.mem_of_getElem? (i := 731) (by decide +kernel)⟩
theorem lw_p21 : lw_okq (⟨"DecimalDeskModel", "run", "()I"⟩, 26) := ⟨⟨by decide +kernel, by decide +kernel⟩, List.mem_of_getElem? (i := 616) (by decide +kernel), List.mem_of_getElem? (i := 734) (by decide +kernel), List.mem_of_getElem? (i := 735) (by decide +kernel)⟩
theorem lw_p22 : lw_okq (⟨"DecimalDeskModel", "raise", "(I)I"⟩, 26) := ⟨⟨by decide +kernel, by decide +kernel⟩, List.mem_of_getElem? (i := 616) (by decide +kernel), List.mem_of_getElem? (i := 741) (by decide +kernel), List.mem_of_getElem? (i := 742) (by decide +kernel)⟩
theorem lw_p23 : lw_okq (⟨"DecimalDeskModel", "valued", "(I)J"⟩, 26) := ⟨⟨by decide +kernel, by decide +kernel⟩, List.mem_of_getElem? (i := 616) (by decide +kernel), List.mem_of_getElem? (i := 745) (by decide +kernel), List.mem_of_getElem? (i := 746) (by decide +kernel)⟩
theorem lw_p24 : lw_okq (⟨"DecimalDeskModel", "packed", "(IJIZI)J"⟩, 26) := ⟨⟨by decide +kernel, by decide +kernel⟩, List.mem_of_getElem? (i := 616) (by decide +kernel), List.mem_of_getElem? (i := 749) (by decide +kernel), List.mem_of_getElem? (i := 750) (by decide +kernel)⟩
theorem lw_p25 : lw_okq (⟨"DecimalDeskModel", "goesUp", "(ZIJI)Z"⟩, 26) := ⟨⟨by decide +kernel, by decide +kernel⟩, List.mem_of_getElem? (i := 616) (by decide +kernel), List.mem_of_getElem? (i := 753) (by decide +kernel), List.mem_of_getElem? (i := 754) (by decide +kernel)⟩
theorem lw_p26 : lw_okq (⟨"DecimalDeskModel", "bias", "()I"⟩, 26) := ⟨⟨by decide +kernel, by decide +kernel⟩, List.mem_of_getElem? (i := 616) (by decide +kernel), List.mem_of_getElem? (i := 758) (by decide +kernel), List.mem_of_getElem? (i := 759) (by decide +kernel)⟩
theorem lw_p27 : lw_okq (⟨"DecimalDeskModel", "beyond", "()J"⟩, 26) := ⟨⟨by decide +kernel, by decide +kernel⟩, List.mem_of_getElem? (i := 616) (by decide +kernel), List.mem_of_getElem? (i := 762) (by decide +kernel), List.mem_of_getElem? (i := 763) (by decide +kernel)⟩
theorem lw_p28 : lw_okq (⟨"DecimalDeskModel", "wipe", "()V"⟩, 26) := ⟨⟨by decide +kernel, by decide +kernel⟩, List.mem_of_getElem? (i := 616) (by decide +kernel), List.mem_of_getElem? (i := 766) (by decide +kernel), List.mem_of_getElem? (i := 767) (by decide +kernel)⟩
theorem lw_p29 : lw_okq (⟨"DecimalDeskModel", "dig", "(II)V"⟩, 26) := ⟨⟨by decide +kernel, by decide +kernel⟩, List.mem_of_getElem? (i := 616) (by decide +kernel), List.mem_of_getElem? (i := 770) (by decide +kernel), List.mem_of_getElem? (i := 771) (by decide +kernel)⟩
theorem lw_p30 : lw_okq (⟨"DecimalDeskModel", "rounded", "(ZI)J"⟩, 26) := ⟨⟨by decide +kernel, by decide +kernel⟩, List.mem_of_getElem? (i := 616) (by decide +kernel), List.mem_of_getElem? (i := 774) (by decide +kernel), List.mem_of_getElem? (i := 775) (by decide +kernel)⟩
theorem lw_p31 : lw_okq (⟨"DecimalDeskModel", "ahead", "()I"⟩, 26) := ⟨⟨by decide +kernel, by decide +kernel⟩, List.mem_of_getElem? (i := 616) (by decide +kernel), List.mem_of_getElem? (i := 778) (by decide +kernel), List.mem_of_getElem? (i := 779) (by decide +kernel)⟩
def lw_privs_2 : List (MethodName × Nat) := [(⟨"DecimalDesk$ShortestFinder", "choose", "()Z"⟩, 9), (⟨"DecimalDesk$ShortestFinder", "isWithin", "(I)Z"⟩, 9), (⟨"DecimalDesk", "tellAllDigits", "(J)V"⟩, 9), (⟨"DecimalDeskModel", "isDecimal", "()Z"⟩, 26), (⟨"DecimalDeskModel", "see", "(I)I"⟩, 26), (⟨"DecimalDeskModel", "run", "()I"⟩, 26), (⟨"DecimalDeskModel", "raise", "(I)I"⟩, 26), (⟨"DecimalDeskModel", "valued", "(I)J"⟩, 26), (⟨"DecimalDeskModel", "packed", "(IJIZI)J"⟩, 26), (⟨"DecimalDeskModel", "goesUp", "(ZIJI)Z"⟩, 26), (⟨"DecimalDeskModel", "bias", "()I"⟩, 26), (⟨"DecimalDeskModel", "beyond", "()J"⟩, 26), (⟨"DecimalDeskModel", "wipe", "()V"⟩, 26), (⟨"DecimalDeskModel", "dig", "(II)V"⟩, 26), (⟨"DecimalDeskModel", "rounded", "(ZI)J"⟩, 26), (⟨"DecimalDeskModel", "ahead", "()I"⟩, 26)]
theorem lw_r2 : ∀ q ∈ lw_privs_2, lw_okq q := List.forall_mem_cons.mpr ⟨lw_p16, List.forall_mem_cons.mpr ⟨lw_p17, List.forall_mem_cons.mpr ⟨lw_p18, List.forall_mem_cons.mpr ⟨lw_p19, List.forall_mem_cons.mpr ⟨lw_p20, List.forall_mem_cons.mpr ⟨lw_p21, List.forall_mem_cons.mpr ⟨lw_p22, List.forall_mem_cons.mpr ⟨lw_p23, List.forall_mem_cons.mpr ⟨lw_p24, List.forall_mem_cons.mpr ⟨lw_p25, List.forall_mem_cons.mpr ⟨lw_p26, List.forall_mem_cons.mpr ⟨lw_p27, List.forall_mem_cons.mpr ⟨lw_p28, List.forall_mem_cons.mpr ⟨lw_p29, List.forall_mem_cons.mpr ⟨lw_p30, List.forall_mem_cons.mpr ⟨lw_p31, fun _ h => absurd h List.not_mem_nil⟩⟩⟩⟩⟩⟩⟩⟩⟩⟩⟩⟩⟩⟩⟩⟩
theorem lw_p32 : lw_okq (⟨"DecimalDeskModel", "half", "()V"⟩, 26) := ⟨⟨by decide +kernel, by decide +kernel⟩, List.mem_of_getElem? (i := 616) (by decide +kernel), List.mem_of_getElem? (i := 782) (by decide +kernel), List.mem_of_getElem? (i := 783) (by decide +kernel)⟩
theorem lw_p33 : lw_okq (⟨"DecimalDeskModel", "twice", "()V"⟩, 26) := ⟨⟨by decide +kernel, by decide +kernel⟩, List.mem_of_getElem? (i := 616) (by decide +kernel), List.mem_of_getElem? (i := 786) (by decide +kernel), List.mem_of_getElem? (i := 787) (by decide +kernel)⟩
theorem lw_p34 : lw_okq (⟨"DecimalDeskModel", "behind", "()I"⟩, 26) := ⟨⟨by decide +kernel, by decide +kernel⟩, List.mem_of_getElem? (i := 616) (by decide +kernel), List.mem_of_getElem? (i := 790) (by decide +kernel), List.mem_of_getElem? (i := 791) (by decide +kernel)⟩
theorem lw_p35 : lw_okq (⟨"DecimalDeskModel", "isPattern", "(J)Z"⟩, 26) := ⟨⟨by decide +kernel, by decide +kernel⟩, List.mem_of_getElem? (i := 616) (by decide +kernel), List.mem_of_getElem? (i := 798) (by decide +kernel), List.mem_of_getElem? (i := 799) (by decide +kernel)⟩
theorem lw_p36 : lw_okq (⟨"DecimalDeskModel", "isStrange", "(J)Z"⟩, 26) := ⟨⟨by decide +kernel, by decide +kernel⟩, List.mem_of_getElem? (i := 616) (by decide +kernel), List.mem_of_getElem? (i := 802) (by decide +kernel), List.mem_of_getElem? (i := 803) (by decide +kernel)⟩
theorem lw_p37 : lw_okq (⟨"DecimalDeskModel", "sizeOf", "(J)J"⟩, 26) := ⟨⟨by decide +kernel, by decide +kernel⟩, List.mem_of_getElem? (i := 616) (by decide +kernel), List.mem_of_getElem? (i := 806) (by decide +kernel), List.mem_of_getElem? (i := 807) (by decide +kernel)⟩
theorem lw_p38 : lw_okq (⟨"DecimalDeskModel", "isBelow", "(J)Z"⟩, 26) := ⟨⟨by decide +kernel, by decide +kernel⟩, List.mem_of_getElem? (i := 616) (by decide +kernel), List.mem_of_getElem? (i := 810) (by decide +kernel), List.mem_of_getElem? (i := 811) (by decide +kernel)⟩
theorem lw_p39 : lw_okq (⟨"DecimalDeskModel", "say", "(I)V"⟩, 26) := ⟨⟨by decide +kernel, by decide +kernel⟩, List.mem_of_getElem? (i := 616) (by decide +kernel), List.mem_of_getElem? (i := 814) (by decide +kernel), List.mem_of_getElem? (i := 815) (by decide +kernel)⟩
theorem lw_p40 : lw_okq (⟨"DecimalDeskModel", "spread", "(J)V"⟩, 26) := ⟨⟨by decide +kernel, by decide +kernel⟩, List.mem_of_getElem? (i := 616) (by decide +kernel), List.mem_of_getElem? (i := 818) (by decide +kernel), List.mem_of_getElem? (i := 819) (by decide +kernel)⟩
theorem lw_p41 : lw_okq (⟨"DecimalDeskModel", "keepWhole", "()V"⟩, 26) := ⟨⟨by decide +kernel, by decide +kernel⟩, List.mem_of_getElem? (i := 616) (by decide +kernel), List.mem_of_getElem? (i := 827) (by decide +kernel), List.mem_of_getElem? (i := 828) (by decide +kernel)⟩
theorem lw_p42 : lw_okq (⟨"DecimalDeskModel", "cut", "(IZ)V"⟩, 26) := ⟨⟨by decide +kernel, by decide +kernel⟩, List.mem_of_getElem? (i := 616) (by decide +kernel), List.mem_of_getElem? (i := 831) (by decide +kernel), List.mem_of_getElem? (i := 832) (by decide +kernel)⟩
theorem lw_p43 : lw_okq (⟨"DecimalDeskModel", "comesBack", "(IJ)Z"⟩, 26) := ⟨⟨by decide +kernel, by decide +kernel⟩, List.mem_of_getElem? (i := 616) (by decide +kernel), List.mem_of_getElem? (i := 835) (by decide +kernel), List.mem_of_getElem? (i := 836) (by decide +kernel)⟩
theorem lw_p44 : lw_okq (⟨"DecimalDeskModel", "beside", "(I)I"⟩, 26) := ⟨⟨by decide +kernel, by decide +kernel⟩, List.mem_of_getElem? (i := 616) (by decide +kernel), List.mem_of_getElem? (i := 839) (by decide +kernel), List.mem_of_getElem? (i := 840) (by decide +kernel)⟩
theorem lw_p45 : lw_okq (⟨"DecimalDeskModel", "sayTried", "(I)V"⟩, 26) := ⟨⟨by decide +kernel, by decide +kernel⟩, List.mem_of_getElem? (i := 616) (by decide +kernel), List.mem_of_getElem? (i := 843) (by decide +kernel), List.mem_of_getElem? (i := 844) (by decide +kernel)⟩
def lw_privs_3 : List (MethodName × Nat) := [(⟨"DecimalDeskModel", "half", "()V"⟩, 26), (⟨"DecimalDeskModel", "twice", "()V"⟩, 26), (⟨"DecimalDeskModel", "behind", "()I"⟩, 26), (⟨"DecimalDeskModel", "isPattern", "(J)Z"⟩, 26), (⟨"DecimalDeskModel", "isStrange", "(J)Z"⟩, 26), (⟨"DecimalDeskModel", "sizeOf", "(J)J"⟩, 26), (⟨"DecimalDeskModel", "isBelow", "(J)Z"⟩, 26), (⟨"DecimalDeskModel", "say", "(I)V"⟩, 26), (⟨"DecimalDeskModel", "spread", "(J)V"⟩, 26), (⟨"DecimalDeskModel", "keepWhole", "()V"⟩, 26), (⟨"DecimalDeskModel", "cut", "(IZ)V"⟩, 26), (⟨"DecimalDeskModel", "comesBack", "(IJ)Z"⟩, 26), (⟨"DecimalDeskModel", "beside", "(I)I"⟩, 26), (⟨"DecimalDeskModel", "sayTried", "(I)V"⟩, 26)]
theorem lw_r3 : ∀ q ∈ lw_privs_3, lw_okq q := List.forall_mem_cons.mpr ⟨lw_p32, List.forall_mem_cons.mpr ⟨lw_p33, List.forall_mem_cons.mpr ⟨lw_p34, List.forall_mem_cons.mpr ⟨lw_p35, List.forall_mem_cons.mpr ⟨lw_p36, List.forall_mem_cons.mpr ⟨lw_p37, List.forall_mem_cons.mpr ⟨lw_p38, List.forall_mem_cons.mpr ⟨lw_p39, List.forall_mem_cons.mpr ⟨lw_p40, List.forall_mem_cons.mpr ⟨lw_p41, List.forall_mem_cons.mpr ⟨lw_p42, List.forall_mem_cons.mpr ⟨lw_p43, List.forall_mem_cons.mpr ⟨lw_p44, List.forall_mem_cons.mpr ⟨lw_p45, fun _ h => absurd h List.not_mem_nil⟩⟩⟩⟩⟩⟩⟩⟩⟩⟩⟩⟩⟩⟩
def lw_privs : List (MethodName × Nat) := lw_privs_1 ++ (lw_privs_2 ++ (lw_privs_3))
def lw_tbl : List Cond := k2_sels lw_privs ++ tables_1
theorem lw_privs_ok : ∀ q ∈ lw_privs, lw_okq q := by
  show ∀ q ∈ lw_privs_1 ++ (lw_privs_2 ++ (lw_privs_3)), lw_okq q
  exact List.forall_mem_append.mpr ⟨lw_r1, List.forall_mem_append.mpr ⟨lw_r2, lw_r3⟩⟩
end
section
abbrev R_Layout : String := "DecimalDesk$Layout"
def F_Layout : u_T := fun k => match k with
  | 0 => ("DecimalDesk$Layout", "expBits", "I", false)
  | _ => ("DecimalDesk$Layout", "fracBits", "I", false)
def t_Layout : Nat → FieldType := fun k => match k with
  | 0 => .int
  | _ => .int
theorem n_Layout : ∀ a, a < 2 → ∀ b, b < 2 → a ≠ b → (F_Layout a).2.1 ≠ (F_Layout b).2.1 := by decide +kernel
theorem t_Layout_ok : ∀ k, k < 2 → parseFieldDescriptor (F_Layout k).2.2.1 = some (t_Layout k) := by decide +kernel
abbrev R_Natural : String := "DecimalDesk$Natural"
def F_Natural : u_T := fun k => match k with
  | _ => ("DecimalDesk$Natural", "limbs", "[I", true)
def t_Natural : Nat → FieldType := fun k => match k with
  | _ => .array .int
theorem n_Natural : ∀ a, a < 1 → ∀ b, b < 1 → a ≠ b → (F_Natural a).2.1 ≠ (F_Natural b).2.1 := by decide +kernel
theorem t_Natural_ok : ∀ k, k < 1 → parseFieldDescriptor (F_Natural k).2.2.1 = some (t_Natural k) := by decide +kernel
abbrev R_Tape : String := "DecimalDesk$Tape"
def F_Tape : u_T := fun k => match k with
  | 0 => ("DecimalDesk$Tape", "bytes", "[B", true)
  | _ => ("DecimalDesk$Tape", "length", "I", false)
def t_Tape : Nat → FieldType := fun k => match k with
  | 0 => .array .byte
  | _ => .int
theorem n_Tape : ∀ a, a < 2 → ∀ b, b < 2 → a ≠ b → (F_Tape a).2.1 ≠ (F_Tape b).2.1 := by decide +kernel
theorem t_Tape_ok : ∀ k, k < 2 → parseFieldDescriptor (F_Tape k).2.2.1 = some (t_Tape k) := by decide +kernel
abbrev R_Decimal : String := "DecimalDesk$Decimal"
def F_Decimal : u_T := fun k => match k with
  | 0 => ("DecimalDesk$Decimal", "digits", "LDecimalDesk$Natural;", true)
  | 1 => ("DecimalDesk$Decimal", "negative", "Z", false)
  | _ => ("DecimalDesk$Decimal", "exponent", "I", false)
def t_Decimal : Nat → FieldType := fun k => match k with
  | 0 => .object "DecimalDesk$Natural"
  | 1 => .boolean
  | _ => .int
theorem n_Decimal : ∀ a, a < 3 → ∀ b, b < 3 → a ≠ b → (F_Decimal a).2.1 ≠ (F_Decimal b).2.1 := by decide +kernel
theorem t_Decimal_ok : ∀ k, k < 3 → parseFieldDescriptor (F_Decimal k).2.2.1 = some (t_Decimal k) := by decide +kernel
abbrev R_Rounder : String := "DecimalDesk$Rounder"
def F_Rounder : u_T := fun k => match k with
  | 0 => ("DecimalDesk$Rounder", "top", "LDecimalDesk$Natural;", true)
  | 1 => ("DecimalDesk$Rounder", "bottom", "LDecimalDesk$Natural;", true)
  | 2 => ("DecimalDesk$Rounder", "size", "J", false)
  | 3 => ("DecimalDesk$Rounder", "inexact", "Z", false)
  | _ => ("DecimalDesk$Rounder", "tiny", "Z", false)
def t_Rounder : Nat → FieldType := fun k => match k with
  | 0 => .object "DecimalDesk$Natural"
  | 1 => .object "DecimalDesk$Natural"
  | 2 => .long
  | 3 => .boolean
  | _ => .boolean
theorem n_Rounder : ∀ a, a < 5 → ∀ b, b < 5 → a ≠ b → (F_Rounder a).2.1 ≠ (F_Rounder b).2.1 := by decide +kernel
theorem t_Rounder_ok : ∀ k, k < 5 → parseFieldDescriptor (F_Rounder k).2.2.1 = some (t_Rounder k) := by decide +kernel
abbrev R_Finder : String := "DecimalDesk$ShortestFinder"
def F_Finder : u_T := fun k => match k with
  | 0 => ("DecimalDesk$ShortestFinder", "rest", "LDecimalDesk$Natural;", true)
  | 1 => ("DecimalDesk$ShortestFinder", "unit", "LDecimalDesk$Natural;", true)
  | 2 => ("DecimalDesk$ShortestFinder", "reachBelow", "LDecimalDesk$Natural;", true)
  | 3 => ("DecimalDesk$ShortestFinder", "reachAbove", "LDecimalDesk$Natural;", true)
  | 4 => ("DecimalDesk$ShortestFinder", "sum", "LDecimalDesk$Natural;", true)
  | 5 => ("DecimalDesk$ShortestFinder", "endsBelong", "Z", false)
  | 6 => ("DecimalDesk$ShortestFinder", "digits", "J", false)
  | 7 => ("DecimalDesk$ShortestFinder", "count", "I", false)
  | _ => ("DecimalDesk$ShortestFinder", "power", "I", false)
def t_Finder : Nat → FieldType := fun k => match k with
  | 0 => .object "DecimalDesk$Natural"
  | 1 => .object "DecimalDesk$Natural"
  | 2 => .object "DecimalDesk$Natural"
  | 3 => .object "DecimalDesk$Natural"
  | 4 => .object "DecimalDesk$Natural"
  | 5 => .boolean
  | 6 => .long
  | 7 => .int
  | _ => .int
theorem n_Finder : ∀ a, a < 9 → ∀ b, b < 9 → a ≠ b → (F_Finder a).2.1 ≠ (F_Finder b).2.1 := by decide +kernel
theorem t_Finder_ok : ∀ k, k < 9 → parseFieldDescriptor (F_Finder k).2.2.1 = some (t_Finder k) := by decide +kernel
abbrev R_Told : String := "DecimalDesk$Told"
def F_Told : u_T := fun k => match k with
  | 0 => ("DecimalDesk$Told", "letters", "[B", true)
  | 1 => ("DecimalDesk$Told", "reversed", "[B", true)
  | _ => ("DecimalDesk$Told", "length", "I", false)
def t_Told : Nat → FieldType := fun k => match k with
  | 0 => .array .byte
  | 1 => .array .byte
  | _ => .int
theorem n_Told : ∀ a, a < 3 → ∀ b, b < 3 → a ≠ b → (F_Told a).2.1 ≠ (F_Told b).2.1 := by decide +kernel
theorem t_Told_ok : ∀ k, k < 3 → parseFieldDescriptor (F_Told k).2.2.1 = some (t_Told k) := by decide +kernel
abbrev R_Desk : String := "DecimalDesk"
def F_Desk : u_T := fun k => match k with
  | 0 => ("DecimalDesk", "layout", "LDecimalDesk$Layout;", true)
  | 1 => ("DecimalDesk", "tape", "LDecimalDesk$Tape;", true)
  | 2 => ("DecimalDesk", "decimal", "LDecimalDesk$Decimal;", true)
  | 3 => ("DecimalDesk", "rounder", "LDecimalDesk$Rounder;", true)
  | 4 => ("DecimalDesk", "finder", "LDecimalDesk$ShortestFinder;", true)
  | 5 => ("DecimalDesk", "digits", "LDecimalDesk$Natural;", true)
  | 6 => ("DecimalDesk", "told", "LDecimalDesk$Told;", true)
  | 7 => ("DecimalDesk", "mode", "I", false)
  | _ => ("DecimalDesk", "flags", "I", false)
def t_Desk : Nat → FieldType := fun k => match k with
  | 0 => .object "DecimalDesk$Layout"
  | 1 => .object "DecimalDesk$Tape"
  | 2 => .object "DecimalDesk$Decimal"
  | 3 => .object "DecimalDesk$Rounder"
  | 4 => .object "DecimalDesk$ShortestFinder"
  | 5 => .object "DecimalDesk$Natural"
  | 6 => .object "DecimalDesk$Told"
  | 7 => .int
  | _ => .int
theorem n_Desk : ∀ a, a < 9 → ∀ b, b < 9 → a ≠ b → (F_Desk a).2.1 ≠ (F_Desk b).2.1 := by decide +kernel
theorem t_Desk_ok : ∀ k, k < 9 → parseFieldDescriptor (F_Desk k).2.2.1 = some (t_Desk k) := by decide +kernel
abbrev R_Model : String := "DecimalDeskModel"
def F_Model : u_T := fun k => match k with
  | 0 => ("DecimalDeskModel", "thrown", "I", false)
  | 1 => ("DecimalDeskModel", "widthE", "I", false)
  | 2 => ("DecimalDeskModel", "widthM", "I", false)
  | 3 => ("DecimalDeskModel", "way", "I", false)
  | 4 => ("DecimalDeskModel", "raised", "I", false)
  | 5 => ("DecimalDeskModel", "tape", "[I", true)
  | 6 => ("DecimalDeskModel", "taped", "I", false)
  | 7 => ("DecimalDeskModel", "told", "[I", true)
  | 8 => ("DecimalDeskModel", "toldLong", "I", false)
  | 9 => ("DecimalDeskModel", "row", "[I", true)
  | 10 => ("DecimalDeskModel", "first", "I", false)
  | 11 => ("DecimalDeskModel", "last", "I", false)
  | 12 => ("DecimalDeskModel", "whole", "[I", true)
  | 13 => ("DecimalDeskModel", "wholeFirst", "I", false)
  | 14 => ("DecimalDeskModel", "wholeLast", "I", false)
  | 15 => ("DecimalDeskModel", "lost", "Z", false)
  | 16 => ("DecimalDeskModel", "over", "Z", false)
  | 17 => ("DecimalDeskModel", "under", "Z", false)
  | 18 => ("DecimalDeskModel", "at", "I", false)
  | 19 => ("DecimalDeskModel", "minus", "Z", false)
  | 20 => ("DecimalDeskModel", "digits", "I", false)
  | 21 => ("DecimalDeskModel", "digit", "[I", true)
  | 22 => ("DecimalDeskModel", "ahead0", "I", false)
  | 23 => ("DecimalDeskModel", "exponent", "I", false)
  | 24 => ("DecimalDeskModel", "tried", "[I", true)
  | _ => ("DecimalDeskModel", "ten", "I", false)
def t_Model : Nat → FieldType := fun k => match k with
  | 0 => .int
  | 1 => .int
  | 2 => .int
  | 3 => .int
  | 4 => .int
  | 5 => .array .int
  | 6 => .int
  | 7 => .array .int
  | 8 => .int
  | 9 => .array .int
  | 10 => .int
  | 11 => .int
  | 12 => .array .int
  | 13 => .int
  | 14 => .int
  | 15 => .boolean
  | 16 => .boolean
  | 17 => .boolean
  | 18 => .int
  | 19 => .boolean
  | 20 => .int
  | 21 => .array .int
  | 22 => .int
  | 23 => .int
  | 24 => .array .int
  | _ => .int
theorem n_Model : ∀ a, a < 26 → ∀ b, b < 26 → a ≠ b → (F_Model a).2.1 ≠ (F_Model b).2.1 := by decide +kernel
theorem t_Model_ok : ∀ k, k < 26 → parseFieldDescriptor (F_Model k).2.2.1 = some (t_Model k) := by decide +kernel
abbrev R_Law : String := "DecimalDeskLaw"
abbrev R_Integer : String := "java/lang/Integer"
abbrev R_Long : String := "java/lang/Long"
abbrev R_Math : String := "java/lang/Math"
abbrev y_Desk_init : MethodName := ⟨"DecimalDesk", "<init>", "()V"⟩
abbrev b_Desk_init : ByteArray := prog_1_method_1_code
abbrev y_Desk_format : MethodName := ⟨"DecimalDesk", "format", "(II)Z"⟩
abbrev b_Desk_format : ByteArray := prog_1_method_2_code
abbrev y_Desk_mode : MethodName := ⟨"DecimalDesk", "mode", "(I)Z"⟩
abbrev b_Desk_mode : ByteArray := prog_1_method_3_code
abbrev y_Desk_type : MethodName := ⟨"DecimalDesk", "type", "(JI)Z"⟩
abbrev b_Desk_type : ByteArray := prog_1_method_4_code
abbrev y_Desk_read : MethodName := ⟨"DecimalDesk", "read", "()J"⟩
abbrev b_Desk_read : ByteArray := prog_1_method_5_code
abbrev y_Desk_flags : MethodName := ⟨"DecimalDesk", "flags", "()I"⟩
abbrev b_Desk_flags : ByteArray := prog_1_method_6_code
abbrev y_Desk_clear : MethodName := ⟨"DecimalDesk", "clear", "(I)I"⟩
abbrev b_Desk_clear : ByteArray := prog_1_method_7_code
abbrev y_Desk_shortest : MethodName := ⟨"DecimalDesk", "shortest", "(J)I"⟩
abbrev b_Desk_shortest : ByteArray := prog_1_method_8_code
abbrev y_Desk_exact : MethodName := ⟨"DecimalDesk", "exact", "(J)I"⟩
abbrev b_Desk_exact : ByteArray := prog_1_method_9_code
abbrev y_Desk_letter : MethodName := ⟨"DecimalDesk", "letter", "(I)I"⟩
abbrev b_Desk_letter : ByteArray := prog_1_method_10_code
abbrev y_Desk_next : MethodName := ⟨"DecimalDesk", "next", "(JZ)J"⟩
abbrev b_Desk_next : ByteArray := prog_1_method_11_code
abbrev y_Desk_sizeByOverflow : MethodName := ⟨"DecimalDesk", "sizeByOverflow", "(Z)J"⟩
abbrev b_Desk_sizeByOverflow : ByteArray := prog_1_method_12_code
abbrev y_Desk_raiseFlags : MethodName := ⟨"DecimalDesk", "raiseFlags", "(Z)V"⟩
abbrev b_Desk_raiseFlags : ByteArray := prog_1_method_13_code
abbrev y_Desk_tellNotFinite : MethodName := ⟨"DecimalDesk", "tellNotFinite", "(J)Z"⟩
abbrev b_Desk_tellNotFinite : ByteArray := prog_1_method_14_code
abbrev y_Desk_tellShortest : MethodName := ⟨"DecimalDesk", "tellShortest", "(J)V"⟩
abbrev b_Desk_tellShortest : ByteArray := prog_1_method_15_code
abbrev y_Desk_tellAllDigits : MethodName := ⟨"DecimalDesk", "tellAllDigits", "(J)V"⟩
abbrev b_Desk_tellAllDigits : ByteArray := prog_1_method_16_code
abbrev y_Model_init : MethodName := ⟨"DecimalDeskModel", "<init>", "()V"⟩
abbrev b_Model_init : ByteArray := prog_10_method_1_code
abbrev y_Model_raise : MethodName := ⟨"DecimalDeskModel", "raise", "(I)I"⟩
abbrev b_Model_raise : ByteArray := prog_10_method_3_code
abbrev y_Model_format : MethodName := ⟨"DecimalDeskModel", "format", "(II)Z"⟩
abbrev b_Model_format : ByteArray := prog_10_method_4_code
abbrev y_Model_mode : MethodName := ⟨"DecimalDeskModel", "mode", "(I)Z"⟩
abbrev b_Model_mode : ByteArray := prog_10_method_5_code
abbrev y_Model_type : MethodName := ⟨"DecimalDeskModel", "type", "(JI)Z"⟩
abbrev b_Model_type : ByteArray := prog_10_method_6_code
abbrev y_Model_flags : MethodName := ⟨"DecimalDeskModel", "flags", "()I"⟩
abbrev b_Model_flags : ByteArray := prog_10_method_7_code
abbrev y_Model_clear : MethodName := ⟨"DecimalDeskModel", "clear", "(I)I"⟩
abbrev b_Model_clear : ByteArray := prog_10_method_8_code
abbrev y_Model_wipe : MethodName := ⟨"DecimalDeskModel", "wipe", "()V"⟩
abbrev b_Model_wipe : ByteArray := prog_10_method_9_code
abbrev y_Model_dig : MethodName := ⟨"DecimalDeskModel", "dig", "(II)V"⟩
abbrev b_Model_dig : ByteArray := prog_10_method_10_code
abbrev y_Model_twice : MethodName := ⟨"DecimalDeskModel", "twice", "()V"⟩
abbrev b_Model_twice : ByteArray := prog_10_method_11_code
abbrev y_Model_half : MethodName := ⟨"DecimalDeskModel", "half", "()V"⟩
abbrev b_Model_half : ByteArray := prog_10_method_12_code
abbrev y_Model_ahead : MethodName := ⟨"DecimalDeskModel", "ahead", "()I"⟩
abbrev b_Model_ahead : ByteArray := prog_10_method_13_code
abbrev y_Model_behind : MethodName := ⟨"DecimalDeskModel", "behind", "()I"⟩
abbrev b_Model_behind : ByteArray := prog_10_method_14_code
abbrev y_Model_bias : MethodName := ⟨"DecimalDeskModel", "bias", "()I"⟩
abbrev b_Model_bias : ByteArray := prog_10_method_15_code
abbrev y_Model_beyond : MethodName := ⟨"DecimalDeskModel", "beyond", "()J"⟩
abbrev b_Model_beyond : ByteArray := prog_10_method_16_code
abbrev y_Model_goesUp : MethodName := ⟨"DecimalDeskModel", "goesUp", "(ZIJI)Z"⟩
abbrev b_Model_goesUp : ByteArray := prog_10_method_17_code
abbrev y_Model_rounded : MethodName := ⟨"DecimalDeskModel", "rounded", "(ZI)J"⟩
abbrev b_Model_rounded : ByteArray := prog_10_method_18_code
abbrev y_Model_packed : MethodName := ⟨"DecimalDeskModel", "packed", "(IJIZI)J"⟩
abbrev b_Model_packed : ByteArray := prog_10_method_19_code
abbrev y_Model_see : MethodName := ⟨"DecimalDeskModel", "see", "(I)I"⟩
abbrev b_Model_see : ByteArray := prog_10_method_20_code
abbrev y_Model_isDigit : MethodName := ⟨"DecimalDeskModel", "isDigit", "(I)Z"⟩
abbrev b_Model_isDigit : ByteArray := prog_10_method_21_code
abbrev y_Model_run : MethodName := ⟨"DecimalDeskModel", "run", "()I"⟩
abbrev b_Model_run : ByteArray := prog_10_method_22_code
abbrev y_Model_isDecimal : MethodName := ⟨"DecimalDeskModel", "isDecimal", "()Z"⟩
abbrev b_Model_isDecimal : ByteArray := prog_10_method_23_code
abbrev y_Model_valued : MethodName := ⟨"DecimalDeskModel", "valued", "(I)J"⟩
abbrev b_Model_valued : ByteArray := prog_10_method_24_code
abbrev y_Model_read : MethodName := ⟨"DecimalDeskModel", "read", "()J"⟩
abbrev b_Model_read : ByteArray := prog_10_method_25_code
abbrev y_Model_isPattern : MethodName := ⟨"DecimalDeskModel", "isPattern", "(J)Z"⟩
abbrev b_Model_isPattern : ByteArray := prog_10_method_26_code
abbrev y_Model_sizeOf : MethodName := ⟨"DecimalDeskModel", "sizeOf", "(J)J"⟩
abbrev b_Model_sizeOf : ByteArray := prog_10_method_27_code
abbrev y_Model_isBelow : MethodName := ⟨"DecimalDeskModel", "isBelow", "(J)Z"⟩
abbrev b_Model_isBelow : ByteArray := prog_10_method_28_code
abbrev y_Model_spread : MethodName := ⟨"DecimalDeskModel", "spread", "(J)V"⟩
abbrev b_Model_spread : ByteArray := prog_10_method_29_code
abbrev y_Model_say : MethodName := ⟨"DecimalDeskModel", "say", "(I)V"⟩
abbrev b_Model_say : ByteArray := prog_10_method_30_code
abbrev y_Model_isStrange : MethodName := ⟨"DecimalDeskModel", "isStrange", "(J)Z"⟩
abbrev b_Model_isStrange : ByteArray := prog_10_method_31_code
abbrev y_Model_exact : MethodName := ⟨"DecimalDeskModel", "exact", "(J)I"⟩
abbrev b_Model_exact : ByteArray := prog_10_method_32_code
abbrev y_Model_keepWhole : MethodName := ⟨"DecimalDeskModel", "keepWhole", "()V"⟩
abbrev b_Model_keepWhole : ByteArray := prog_10_method_33_code
abbrev y_Model_cut : MethodName := ⟨"DecimalDeskModel", "cut", "(IZ)V"⟩
abbrev b_Model_cut : ByteArray := prog_10_method_34_code
abbrev y_Model_comesBack : MethodName := ⟨"DecimalDeskModel", "comesBack", "(IJ)Z"⟩
abbrev b_Model_comesBack : ByteArray := prog_10_method_35_code
abbrev y_Model_beside : MethodName := ⟨"DecimalDeskModel", "beside", "(I)I"⟩
abbrev b_Model_beside : ByteArray := prog_10_method_36_code
abbrev y_Model_sayTried : MethodName := ⟨"DecimalDeskModel", "sayTried", "(I)V"⟩
abbrev b_Model_sayTried : ByteArray := prog_10_method_37_code
abbrev y_Model_shortest : MethodName := ⟨"DecimalDeskModel", "shortest", "(J)I"⟩
abbrev b_Model_shortest : ByteArray := prog_10_method_38_code
abbrev y_Model_letter : MethodName := ⟨"DecimalDeskModel", "letter", "(I)I"⟩
abbrev b_Model_letter : ByteArray := prog_10_method_39_code
abbrev y_Model_next : MethodName := ⟨"DecimalDeskModel", "next", "(JZ)J"⟩
abbrev b_Model_next : ByteArray := prog_10_method_40_code
abbrev y_Decimal_init : MethodName := ⟨"DecimalDesk$Decimal", "<init>", "()V"⟩
abbrev b_Decimal_init : ByteArray := prog_2_method_1_code
abbrev y_Decimal_parse : MethodName := ⟨"DecimalDesk$Decimal", "parse", "(LDecimalDesk$Tape;)Z"⟩
abbrev b_Decimal_parse : ByteArray := prog_2_method_2_code
abbrev y_Decimal_takeDigits : MethodName := ⟨"DecimalDesk$Decimal", "takeDigits", "(LDecimalDesk$Tape;I)I"⟩
abbrev b_Decimal_takeDigits : ByteArray := prog_2_method_3_code
abbrev y_Decimal_takePower : MethodName := ⟨"DecimalDesk$Decimal", "takePower", "(LDecimalDesk$Tape;I)Z"⟩
abbrev b_Decimal_takePower : ByteArray := prog_2_method_4_code
abbrev y_Decimal_isDigit : MethodName := ⟨"DecimalDesk$Decimal", "isDigit", "(I)Z"⟩
abbrev b_Decimal_isDigit : ByteArray := prog_2_method_5_code
abbrev y_Layout_init : MethodName := ⟨"DecimalDesk$Layout", "<init>", "()V"⟩
abbrev b_Layout_init : ByteArray := prog_3_method_1_code
abbrev y_Layout_bias : MethodName := ⟨"DecimalDesk$Layout", "bias", "()I"⟩
abbrev b_Layout_bias : ByteArray := prog_3_method_2_code
abbrev y_Layout_lowestPower : MethodName := ⟨"DecimalDesk$Layout", "lowestPower", "()I"⟩
abbrev b_Layout_lowestPower : ByteArray := prog_3_method_3_code
abbrev y_Layout_signBit : MethodName := ⟨"DecimalDesk$Layout", "signBit", "()J"⟩
abbrev b_Layout_signBit : ByteArray := prog_3_method_4_code
abbrev y_Layout_infinity : MethodName := ⟨"DecimalDesk$Layout", "infinity", "()J"⟩
abbrev b_Layout_infinity : ByteArray := prog_3_method_5_code
abbrev y_Layout_holds : MethodName := ⟨"DecimalDesk$Layout", "holds", "(J)Z"⟩
abbrev b_Layout_holds : ByteArray := prog_3_method_6_code
abbrev y_Layout_isNegative : MethodName := ⟨"DecimalDesk$Layout", "isNegative", "(J)Z"⟩
abbrev b_Layout_isNegative : ByteArray := prog_3_method_7_code
abbrev y_Layout_sizeOf : MethodName := ⟨"DecimalDesk$Layout", "sizeOf", "(J)J"⟩
abbrev b_Layout_sizeOf : ByteArray := prog_3_method_8_code
abbrev y_Layout_fractionOf : MethodName := ⟨"DecimalDesk$Layout", "fractionOf", "(J)J"⟩
abbrev b_Layout_fractionOf : ByteArray := prog_3_method_9_code
abbrev y_Layout_exponentOf : MethodName := ⟨"DecimalDesk$Layout", "exponentOf", "(J)I"⟩
abbrev b_Layout_exponentOf : ByteArray := prog_3_method_10_code
abbrev y_Layout_significandOf : MethodName := ⟨"DecimalDesk$Layout", "significandOf", "(J)J"⟩
abbrev b_Layout_significandOf : ByteArray := prog_3_method_11_code
abbrev y_Layout_powerOf : MethodName := ⟨"DecimalDesk$Layout", "powerOf", "(J)I"⟩
abbrev b_Layout_powerOf : ByteArray := prog_3_method_12_code
abbrev y_Natural_init : MethodName := ⟨"DecimalDesk$Natural", "<init>", "()V"⟩
abbrev b_Natural_init : ByteArray := prog_4_method_1_code
abbrev y_Natural_set : MethodName := ⟨"DecimalDesk$Natural", "set", "(J)V"⟩
abbrev b_Natural_set : ByteArray := prog_4_method_2_code
abbrev y_Natural_copy : MethodName := ⟨"DecimalDesk$Natural", "copy", "(LDecimalDesk$Natural;)V"⟩
abbrev b_Natural_copy : ByteArray := prog_4_method_3_code
abbrev y_Natural_isZero : MethodName := ⟨"DecimalDesk$Natural", "isZero", "()Z"⟩
abbrev b_Natural_isZero : ByteArray := prog_4_method_4_code
abbrev y_Natural_against : MethodName := ⟨"DecimalDesk$Natural", "against", "(LDecimalDesk$Natural;)I"⟩
abbrev b_Natural_against : ByteArray := prog_4_method_5_code
abbrev y_Natural_bitLength : MethodName := ⟨"DecimalDesk$Natural", "bitLength", "()I"⟩
abbrev b_Natural_bitLength : ByteArray := prog_4_method_6_code
abbrev y_Natural_add : MethodName := ⟨"DecimalDesk$Natural", "add", "(LDecimalDesk$Natural;)V"⟩
abbrev b_Natural_add : ByteArray := prog_4_method_7_code
abbrev y_Natural_subtract : MethodName := ⟨"DecimalDesk$Natural", "subtract", "(LDecimalDesk$Natural;)V"⟩
abbrev b_Natural_subtract : ByteArray := prog_4_method_8_code
abbrev y_Natural_timesPlus : MethodName := ⟨"DecimalDesk$Natural", "timesPlus", "(II)V"⟩
abbrev b_Natural_timesPlus : ByteArray := prog_4_method_9_code
abbrev y_Natural_timesPowerOfTen : MethodName := ⟨"DecimalDesk$Natural", "timesPowerOfTen", "(I)V"⟩
abbrev b_Natural_timesPowerOfTen : ByteArray := prog_4_method_10_code
abbrev y_Natural_timesPowerOfFive : MethodName := ⟨"DecimalDesk$Natural", "timesPowerOfFive", "(I)V"⟩
abbrev b_Natural_timesPowerOfFive : ByteArray := prog_4_method_11_code
abbrev y_Natural_shiftLeft : MethodName := ⟨"DecimalDesk$Natural", "shiftLeft", "(I)V"⟩
abbrev b_Natural_shiftLeft : ByteArray := prog_4_method_12_code
abbrev y_Natural_divide : MethodName := ⟨"DecimalDesk$Natural", "divide", "(I)I"⟩
abbrev b_Natural_divide : ByteArray := prog_4_method_13_code
abbrev y_Natural_limbAt : MethodName := ⟨"DecimalDesk$Natural", "limbAt", "(I)J"⟩
abbrev b_Natural_limbAt : ByteArray := prog_4_method_14_code
abbrev y_Rounder_init : MethodName := ⟨"DecimalDesk$Rounder", "<init>", "()V"⟩
abbrev b_Rounder_init : ByteArray := prog_5_method_1_code
abbrev y_Rounder_round : MethodName := ⟨"DecimalDesk$Rounder", "round", "(LDecimalDesk$Decimal;LDecimalDesk$Layout;I)V"⟩
abbrev b_Rounder_round : ByteArray := prog_5_method_2_code
abbrev y_Rounder_setFraction : MethodName := ⟨"DecimalDesk$Rounder", "setFraction", "(LDecimalDesk$Decimal;)V"⟩
abbrev b_Rounder_setFraction : ByteArray := prog_5_method_3_code
abbrev y_Rounder_normalise : MethodName := ⟨"DecimalDesk$Rounder", "normalise", "()I"⟩
abbrev b_Rounder_normalise : ByteArray := prog_5_method_4_code
abbrev y_Rounder_takeBits : MethodName := ⟨"DecimalDesk$Rounder", "takeBits", "(I)J"⟩
abbrev b_Rounder_takeBits : ByteArray := prog_5_method_5_code
abbrev y_Rounder_goesFarther : MethodName := ⟨"DecimalDesk$Rounder", "goesFarther", "(IZZI)Z"⟩
abbrev b_Rounder_goesFarther : ByteArray := prog_5_method_6_code
abbrev y_Finder_init : MethodName := ⟨"DecimalDesk$ShortestFinder", "<init>", "()V"⟩
abbrev b_Finder_init : ByteArray := prog_6_method_1_code
abbrev y_Finder_find : MethodName := ⟨"DecimalDesk$ShortestFinder", "find", "(JLDecimalDesk$Layout;)V"⟩
abbrev b_Finder_find : ByteArray := prog_6_method_2_code
abbrev y_Finder_setRange : MethodName := ⟨"DecimalDesk$ShortestFinder", "setRange", "(JLDecimalDesk$Layout;)V"⟩
abbrev b_Finder_setRange : ByteArray := prog_6_method_3_code
abbrev y_Finder_setPower : MethodName := ⟨"DecimalDesk$ShortestFinder", "setPower", "(JLDecimalDesk$Layout;)V"⟩
abbrev b_Finder_setPower : ByteArray := prog_6_method_4_code
abbrev y_Finder_timesTen : MethodName := ⟨"DecimalDesk$ShortestFinder", "timesTen", "()V"⟩
abbrev b_Finder_timesTen : ByteArray := prog_6_method_5_code
abbrev y_Finder_takeDigit : MethodName := ⟨"DecimalDesk$ShortestFinder", "takeDigit", "()I"⟩
abbrev b_Finder_takeDigit : ByteArray := prog_6_method_6_code
abbrev y_Finder_choose : MethodName := ⟨"DecimalDesk$ShortestFinder", "choose", "()Z"⟩
abbrev b_Finder_choose : ByteArray := prog_6_method_7_code
abbrev y_Finder_isWithin : MethodName := ⟨"DecimalDesk$ShortestFinder", "isWithin", "(I)Z"⟩
abbrev b_Finder_isWithin : ByteArray := prog_6_method_8_code
abbrev y_Tape_init : MethodName := ⟨"DecimalDesk$Tape", "<init>", "()V"⟩
abbrev b_Tape_init : ByteArray := prog_7_method_1_code
abbrev y_Tape_put : MethodName := ⟨"DecimalDesk$Tape", "put", "(JI)Z"⟩
abbrev b_Tape_put : ByteArray := prog_7_method_2_code
abbrev y_Tape_wipe : MethodName := ⟨"DecimalDesk$Tape", "wipe", "()V"⟩
abbrev b_Tape_wipe : ByteArray := prog_7_method_3_code
abbrev y_Tape_at : MethodName := ⟨"DecimalDesk$Tape", "at", "(I)I"⟩
abbrev b_Tape_at : ByteArray := prog_7_method_4_code
abbrev y_Tape_byteOf : MethodName := ⟨"DecimalDesk$Tape", "byteOf", "(JI)I"⟩
abbrev b_Tape_byteOf : ByteArray := prog_7_method_5_code
abbrev y_Told_init : MethodName := ⟨"DecimalDesk$Told", "<init>", "()V"⟩
abbrev b_Told_init : ByteArray := prog_8_method_1_code
abbrev y_Told_at : MethodName := ⟨"DecimalDesk$Told", "at", "(I)I"⟩
abbrev b_Told_at : ByteArray := prog_8_method_2_code
abbrev y_Told_start : MethodName := ⟨"DecimalDesk$Told", "start", "(Z)V"⟩
abbrev b_Told_start : ByteArray := prog_8_method_3_code
abbrev y_Told_add : MethodName := ⟨"DecimalDesk$Told", "add", "(I)V"⟩
abbrev b_Told_add : ByteArray := prog_8_method_4_code
abbrev y_Told_addPower : MethodName := ⟨"DecimalDesk$Told", "addPower", "(I)V"⟩
abbrev b_Told_addPower : ByteArray := prog_8_method_5_code
abbrev y_Told_addDigits : MethodName := ⟨"DecimalDesk$Told", "addDigits", "(JII)V"⟩
abbrev b_Told_addDigits : ByteArray := prog_8_method_6_code
abbrev y_Told_addNatural : MethodName := ⟨"DecimalDesk$Told", "addNatural", "(LDecimalDesk$Natural;I)V"⟩
abbrev b_Told_addNatural : ByteArray := prog_8_method_7_code
abbrev y_Told_addReversed : MethodName := ⟨"DecimalDesk$Told", "addReversed", "(II)V"⟩
abbrev b_Told_addReversed : ByteArray := prog_8_method_8_code
abbrev y_Law_read : MethodName := ⟨"DecimalDeskLaw", "read", "(LDecimalDesk;[J)I"⟩
abbrev b_Law_read : ByteArray := method_3_code
abbrev y_Law_shortest : MethodName := ⟨"DecimalDeskLaw", "shortest", "(LDecimalDesk;J[J)I"⟩
abbrev b_Law_shortest : ByteArray := method_4_code
abbrev y_Law_exact : MethodName := ⟨"DecimalDeskLaw", "exact", "(LDecimalDesk;J[J)I"⟩
abbrev b_Law_exact : ByteArray := method_5_code
abbrev y_Law_letter : MethodName := ⟨"DecimalDeskLaw", "letter", "(LDecimalDesk;I[J)I"⟩
abbrev b_Law_letter : ByteArray := method_6_code
abbrev y_Law_law : MethodName := ⟨"DecimalDeskLaw", "law", "([I)Z"⟩
abbrev b_Law_law : ByteArray := code
abbrev y_Exception_init : MethodName := ⟨"java/lang/Exception", "<init>", "(Ljava/lang/String;)V"⟩
abbrev b_Exception_init : ByteArray := prog_11_method_2_code
abbrev y_IllegalArg_init : MethodName := ⟨"java/lang/IllegalArgumentException", "<init>", "(Ljava/lang/String;)V"⟩
abbrev b_IllegalArg_init : ByteArray := prog_12_method_2_code
abbrev y_Integer_numberOfLeadingZeros : MethodName := ⟨"java/lang/Integer", "numberOfLeadingZeros", "(I)I"⟩
abbrev b_Integer_numberOfLeadingZeros : ByteArray := prog_13_method_47_code
abbrev y_Long_numberOfLeadingZeros : MethodName := ⟨"java/lang/Long", "numberOfLeadingZeros", "(J)I"⟩
abbrev b_Long_numberOfLeadingZeros : ByteArray := prog_14_method_48_code
abbrev y_Math_abs : MethodName := ⟨"java/lang/Math", "abs", "(I)I"⟩
abbrev b_Math_abs : ByteArray := prog_15_method_59_code
abbrev y_Math_floorDiv : MethodName := ⟨"java/lang/Math", "floorDiv", "(II)I"⟩
abbrev b_Math_floorDiv : ByteArray := prog_15_method_47_code
abbrev y_Math_max : MethodName := ⟨"java/lang/Math", "max", "(II)I"⟩
abbrev b_Math_max : ByteArray := prog_15_method_65_code
abbrev y_Math_min : MethodName := ⟨"java/lang/Math", "min", "(II)I"⟩
abbrev b_Math_min : ByteArray := prog_15_method_69_code
abbrev y_RuntimeEx_init : MethodName := ⟨"java/lang/RuntimeException", "<init>", "(Ljava/lang/String;)V"⟩
abbrev b_RuntimeEx_init : ByteArray := prog_16_method_2_code
abbrev y_Throwable_init : MethodName := ⟨"java/lang/Throwable", "<init>", "(Ljava/lang/String;)V"⟩
abbrev b_Throwable_init : ByteArray := prog_18_method_2_code
abbrev y_Throwable_fillInStackTrace : MethodName := ⟨"java/lang/Throwable", "fillInStackTrace", "()Ljava/lang/Throwable;"⟩
abbrev b_Throwable_fillInStackTrace : ByteArray := prog_18_method_18_code
abbrev y_Throwable_fillInStackTraceI : MethodName := ⟨"java/lang/Throwable", "fillInStackTrace", "(I)Ljava/lang/Throwable;"⟩
abbrev y_NoSuchEl_init : MethodName := ⟨"java/util/NoSuchElementException", "<init>", "(Ljava/lang/String;)V"⟩
abbrev b_NoSuchEl_init : ByteArray := prog_19_method_4_code
def gT_0 : List Cond := [.selects "DecimalDesk$Decimal" y_Decimal_takeDigits y_Decimal_takeDigits, .selects "DecimalDesk$Decimal" y_Decimal_takePower y_Decimal_takePower, .selects "java/lang/Throwable" y_Throwable_fillInStackTraceI y_Throwable_fillInStackTraceI, .selects "DecimalDesk$Rounder" y_Rounder_setFraction y_Rounder_setFraction, .selects "DecimalDesk$Natural" y_Natural_limbAt y_Natural_limbAt, .selects "DecimalDesk$Rounder" y_Rounder_normalise y_Rounder_normalise, .selects "DecimalDesk$Rounder" y_Rounder_takeBits y_Rounder_takeBits, .selects "DecimalDesk" y_Desk_sizeByOverflow y_Desk_sizeByOverflow, .selects "DecimalDesk" y_Desk_raiseFlags y_Desk_raiseFlags, .selects "DecimalDesk" y_Desk_tellNotFinite y_Desk_tellNotFinite, .selects "DecimalDesk" y_Desk_tellShortest y_Desk_tellShortest, .selects "DecimalDesk$Told" y_Told_addReversed y_Told_addReversed, .selects "DecimalDesk$ShortestFinder" y_Finder_setRange y_Finder_setRange, .selects "DecimalDesk$ShortestFinder" y_Finder_setPower y_Finder_setPower, .selects "DecimalDesk$ShortestFinder" y_Finder_timesTen y_Finder_timesTen, .selects "DecimalDesk$ShortestFinder" y_Finder_takeDigit y_Finder_takeDigit, .selects "DecimalDesk$ShortestFinder" y_Finder_choose y_Finder_choose, .selects "DecimalDesk$ShortestFinder" y_Finder_isWithin y_Finder_isWithin, .selects "DecimalDesk" y_Desk_tellAllDigits y_Desk_tellAllDigits, .selects "DecimalDeskModel" y_Model_isDecimal y_Model_isDecimal, .selects "DecimalDeskModel" y_Model_see y_Model_see, .selects "DecimalDeskModel" y_Model_run y_Model_run, .selects "DecimalDeskModel" y_Model_raise y_Model_raise, .selects "DecimalDeskModel" y_Model_valued y_Model_valued, .selects "DecimalDeskModel" y_Model_packed y_Model_packed, .selects "DecimalDeskModel" y_Model_goesUp y_Model_goesUp, .selects "DecimalDeskModel" y_Model_bias y_Model_bias, .selects "DecimalDeskModel" y_Model_beyond y_Model_beyond, .selects "DecimalDeskModel" y_Model_wipe y_Model_wipe, .selects "DecimalDeskModel" y_Model_dig y_Model_dig, .selects "DecimalDeskModel" y_Model_rounded y_Model_rounded, .selects "DecimalDeskModel" y_Model_ahead y_Model_ahead, .selects "DecimalDeskModel" y_Model_half y_Model_half, .selects "DecimalDeskModel" y_Model_twice y_Model_twice, .selects "DecimalDeskModel" y_Model_behind y_Model_behind, .selects "DecimalDeskModel" y_Model_isPattern y_Model_isPattern, .selects "DecimalDeskModel" y_Model_isStrange y_Model_isStrange, .selects "DecimalDeskModel" y_Model_sizeOf y_Model_sizeOf, .selects "DecimalDeskModel" y_Model_isBelow y_Model_isBelow, .selects "DecimalDeskModel" y_Model_say y_Model_say, .selects "DecimalDeskModel" y_Model_spread y_Model_spread, .selects "DecimalDeskModel" y_Model_keepWhole y_Model_keepWhole, .selects "DecimalDeskModel" y_Model_cut y_Model_cut, .selects "DecimalDeskModel" y_Model_comesBack y_Model_comesBack, .selects "DecimalDeskModel" y_Model_beside y_Model_beside, .selects "DecimalDeskModel" y_Model_sayTried y_Model_sayTried, .initialized "DecimalDeskLaw", .initialized "DecimalDesk", .initialized "DecimalDesk$Layout", .initialized "DecimalDesk$Tape", .initialized "DecimalDesk$Decimal", .initialized "DecimalDesk$Natural", .initialized "DecimalDesk$Rounder", .initialized "DecimalDesk$ShortestFinder", .initialized "DecimalDesk$Told", .initialized "DecimalDeskModel", .initialized "java/lang/Throwable", .initialized "java/lang/Exception", .initialized "java/lang/RuntimeException", .initialized "java/lang/IllegalArgumentException"]
theorem gT_0_good : gT_0.all goodWord = true := by decide +kernel
def gT_1 : List Cond := [.initialized "java/lang/Math", .initialized "java/lang/Integer", .initialized "java/lang/Long", .initialized "java/util/NoSuchElementException", .classLink "DecimalDeskLaw" 8 "DecimalDesk", .instantiable "DecimalDesk" 9, .methodLink "DecimalDeskLaw" 28 y_Desk_init, .instanceMethod y_Desk_init, .code y_Desk_init prog_1_method_1_code 1 none, .methodLink "DecimalDesk" 1 objectInit, .instanceMethod objectInit, .code objectInit object_method_1_code 1 none, .classLink "DecimalDesk" 7 "DecimalDesk$Layout", .instantiable "DecimalDesk$Layout" 2, .methodLink "DecimalDesk" 9 y_Layout_init, .instanceMethod y_Layout_init, .code y_Layout_init prog_3_method_1_code 1 none, .methodLink "DecimalDesk$Layout" 1 objectInit, .fieldLink "DecimalDesk$Layout" 7 "DecimalDesk$Layout" "expBits" "I", .fieldLink "DecimalDesk$Layout" 13 "DecimalDesk$Layout" "fracBits" "I", .lays "DecimalDesk$Layout" "DecimalDesk$Layout" "expBits" "I", .lays "DecimalDesk$Layout" "DecimalDesk$Layout" "fracBits" "I", .classLink "DecimalDesk" 16 "DecimalDesk$Tape", .instantiable "DecimalDesk$Tape" 2, .methodLink "DecimalDesk" 18 y_Tape_init, .instanceMethod y_Tape_init, .code y_Tape_init prog_7_method_1_code 1 none, .methodLink "DecimalDesk$Tape" 1 objectInit, .fieldLink "DecimalDesk$Tape" 9 "DecimalDesk$Tape" "bytes" "[B", .fieldLink "DecimalDesk$Tape" 13 "DecimalDesk$Tape" "length" "I", .laysFinal "DecimalDesk$Tape" "DecimalDesk$Tape" "bytes" "[B", .lays "DecimalDesk$Tape" "DecimalDesk$Tape" "length" "I", .arrayClass .byte, .classLink "DecimalDesk" 23 "DecimalDesk$Decimal", .instantiable "DecimalDesk$Decimal" 3, .methodLink "DecimalDesk" 25 y_Decimal_init, .instanceMethod y_Decimal_init, .code y_Decimal_init prog_2_method_1_code 1 none, .methodLink "DecimalDesk$Decimal" 1 objectInit, .classLink "DecimalDesk$Decimal" 7 "DecimalDesk$Natural", .instantiable "DecimalDesk$Natural" 1, .methodLink "DecimalDesk$Decimal" 9 y_Natural_init, .instanceMethod y_Natural_init, .code y_Natural_init prog_4_method_1_code 1 none, .methodLink "DecimalDesk$Natural" 1 objectInit, .fieldLink "DecimalDesk$Natural" 9 "DecimalDesk$Natural" "limbs" "[I", .laysFinal "DecimalDesk$Natural" "DecimalDesk$Natural" "limbs" "[I", .arrayClass .int, .fieldLink "DecimalDesk$Decimal" 10 "DecimalDesk$Decimal" "digits" "LDecimalDesk$Natural;", .fieldLink "DecimalDesk$Decimal" 16 "DecimalDesk$Decimal" "negative" "Z", .fieldLink "DecimalDesk$Decimal" 20 "DecimalDesk$Decimal" "exponent" "I", .laysFinal "DecimalDesk$Decimal" "DecimalDesk$Decimal" "digits" "LDecimalDesk$Natural;", .lays "DecimalDesk$Decimal" "DecimalDesk$Decimal" "negative" "Z", .lays "DecimalDesk$Decimal" "DecimalDesk$Decimal" "exponent" "I", .classLink "DecimalDesk" 30 "DecimalDesk$Rounder", .instantiable "DecimalDesk$Rounder" 5, .methodLink "DecimalDesk" 32 y_Rounder_init, .instanceMethod y_Rounder_init, .code y_Rounder_init prog_5_method_1_code 1 none, .methodLink "DecimalDesk$Rounder" 3 objectInit]
theorem gT_1_good : gT_1.all goodWord = true := by decide +kernel
def gT_2 : List Cond := [.classLink "DecimalDesk$Rounder" 9 "DecimalDesk$Natural", .methodLink "DecimalDesk$Rounder" 11 y_Natural_init, .fieldLink "DecimalDesk$Rounder" 12 "DecimalDesk$Rounder" "top" "LDecimalDesk$Natural;", .fieldLink "DecimalDesk$Rounder" 18 "DecimalDesk$Rounder" "bottom" "LDecimalDesk$Natural;", .fieldLink "DecimalDesk$Rounder" 21 "DecimalDesk$Rounder" "size" "J", .fieldLink "DecimalDesk$Rounder" 25 "DecimalDesk$Rounder" "inexact" "Z", .fieldLink "DecimalDesk$Rounder" 29 "DecimalDesk$Rounder" "tiny" "Z", .laysFinal "DecimalDesk$Rounder" "DecimalDesk$Rounder" "top" "LDecimalDesk$Natural;", .laysFinal "DecimalDesk$Rounder" "DecimalDesk$Rounder" "bottom" "LDecimalDesk$Natural;", .lays "DecimalDesk$Rounder" "DecimalDesk$Rounder" "size" "J", .lays "DecimalDesk$Rounder" "DecimalDesk$Rounder" "inexact" "Z", .lays "DecimalDesk$Rounder" "DecimalDesk$Rounder" "tiny" "Z", .classLink "DecimalDesk" 37 "DecimalDesk$ShortestFinder", .instantiable "DecimalDesk$ShortestFinder" 9, .methodLink "DecimalDesk" 39 y_Finder_init, .instanceMethod y_Finder_init, .code y_Finder_init prog_6_method_1_code 1 none, .methodLink "DecimalDesk$ShortestFinder" 1 objectInit, .classLink "DecimalDesk$ShortestFinder" 7 "DecimalDesk$Natural", .methodLink "DecimalDesk$ShortestFinder" 9 y_Natural_init, .fieldLink "DecimalDesk$ShortestFinder" 10 "DecimalDesk$ShortestFinder" "rest" "LDecimalDesk$Natural;", .fieldLink "DecimalDesk$ShortestFinder" 16 "DecimalDesk$ShortestFinder" "unit" "LDecimalDesk$Natural;", .fieldLink "DecimalDesk$ShortestFinder" 19 "DecimalDesk$ShortestFinder" "reachBelow" "LDecimalDesk$Natural;", .fieldLink "DecimalDesk$ShortestFinder" 22 "DecimalDesk$ShortestFinder" "reachAbove" "LDecimalDesk$Natural;", .fieldLink "DecimalDesk$ShortestFinder" 25 "DecimalDesk$ShortestFinder" "sum" "LDecimalDesk$Natural;", .fieldLink "DecimalDesk$ShortestFinder" 28 "DecimalDesk$ShortestFinder" "endsBelong" "Z", .fieldLink "DecimalDesk$ShortestFinder" 32 "DecimalDesk$ShortestFinder" "digits" "J", .fieldLink "DecimalDesk$ShortestFinder" 36 "DecimalDesk$ShortestFinder" "count" "I", .fieldLink "DecimalDesk$ShortestFinder" 40 "DecimalDesk$ShortestFinder" "power" "I", .laysFinal "DecimalDesk$ShortestFinder" "DecimalDesk$ShortestFinder" "rest" "LDecimalDesk$Natural;", .laysFinal "DecimalDesk$ShortestFinder" "DecimalDesk$ShortestFinder" "unit" "LDecimalDesk$Natural;", .laysFinal "DecimalDesk$ShortestFinder" "DecimalDesk$ShortestFinder" "reachBelow" "LDecimalDesk$Natural;", .laysFinal "DecimalDesk$ShortestFinder" "DecimalDesk$ShortestFinder" "reachAbove" "LDecimalDesk$Natural;", .laysFinal "DecimalDesk$ShortestFinder" "DecimalDesk$ShortestFinder" "sum" "LDecimalDesk$Natural;", .lays "DecimalDesk$ShortestFinder" "DecimalDesk$ShortestFinder" "endsBelong" "Z", .lays "DecimalDesk$ShortestFinder" "DecimalDesk$ShortestFinder" "digits" "J", .lays "DecimalDesk$ShortestFinder" "DecimalDesk$ShortestFinder" "count" "I", .lays "DecimalDesk$ShortestFinder" "DecimalDesk$ShortestFinder" "power" "I", .classLink "DecimalDesk" 44 "DecimalDesk$Natural", .methodLink "DecimalDesk" 46 y_Natural_init, .classLink "DecimalDesk" 51 "DecimalDesk$Told", .instantiable "DecimalDesk$Told" 3, .methodLink "DecimalDesk" 53 y_Told_init, .instanceMethod y_Told_init, .code y_Told_init prog_8_method_1_code 1 none, .methodLink "DecimalDesk$Told" 1 objectInit, .fieldLink "DecimalDesk$Told" 9 "DecimalDesk$Told" "letters" "[B", .fieldLink "DecimalDesk$Told" 13 "DecimalDesk$Told" "reversed" "[B", .fieldLink "DecimalDesk$Told" 16 "DecimalDesk$Told" "length" "I", .laysFinal "DecimalDesk$Told" "DecimalDesk$Told" "letters" "[B", .laysFinal "DecimalDesk$Told" "DecimalDesk$Told" "reversed" "[B", .lays "DecimalDesk$Told" "DecimalDesk$Told" "length" "I", .fieldLink "DecimalDesk" 10 "DecimalDesk" "layout" "LDecimalDesk$Layout;", .fieldLink "DecimalDesk" 19 "DecimalDesk" "tape" "LDecimalDesk$Tape;", .fieldLink "DecimalDesk" 26 "DecimalDesk" "decimal" "LDecimalDesk$Decimal;", .fieldLink "DecimalDesk" 33 "DecimalDesk" "rounder" "LDecimalDesk$Rounder;", .fieldLink "DecimalDesk" 40 "DecimalDesk" "finder" "LDecimalDesk$ShortestFinder;", .fieldLink "DecimalDesk" 47 "DecimalDesk" "digits" "LDecimalDesk$Natural;", .fieldLink "DecimalDesk" 54 "DecimalDesk" "told" "LDecimalDesk$Told;", .fieldLink "DecimalDesk" 58 "DecimalDesk" "mode" "I"]
theorem gT_2_good : gT_2.all goodWord = true := by decide +kernel
def gT_3 : List Cond := [.fieldLink "DecimalDesk" 62 "DecimalDesk" "flags" "I", .laysFinal "DecimalDesk" "DecimalDesk" "layout" "LDecimalDesk$Layout;", .laysFinal "DecimalDesk" "DecimalDesk" "tape" "LDecimalDesk$Tape;", .laysFinal "DecimalDesk" "DecimalDesk" "decimal" "LDecimalDesk$Decimal;", .laysFinal "DecimalDesk" "DecimalDesk" "rounder" "LDecimalDesk$Rounder;", .laysFinal "DecimalDesk" "DecimalDesk" "finder" "LDecimalDesk$ShortestFinder;", .laysFinal "DecimalDesk" "DecimalDesk" "digits" "LDecimalDesk$Natural;", .laysFinal "DecimalDesk" "DecimalDesk" "told" "LDecimalDesk$Told;", .lays "DecimalDesk" "DecimalDesk" "mode" "I", .lays "DecimalDesk" "DecimalDesk" "flags" "I", .methodLink "DecimalDeskLaw" 32 y_Desk_format, .instanceMethod y_Desk_format, .selects "DecimalDesk" y_Desk_format y_Desk_format, .code y_Desk_format prog_1_method_2_code 3 (some .boolean), .methodLink "DecimalDeskLaw" 37 y_Desk_mode, .instanceMethod y_Desk_mode, .selects "DecimalDesk" y_Desk_mode y_Desk_mode, .code y_Desk_mode prog_1_method_3_code 2 (some .boolean), .methodLink "DecimalDeskLaw" 44 y_Desk_type, .instanceMethod y_Desk_type, .selects "DecimalDesk" y_Desk_type y_Desk_type, .code y_Desk_type prog_1_method_4_code 4 (some .boolean), .methodLink "DecimalDesk" 71 y_Tape_put, .instanceMethod y_Tape_put, .selects "DecimalDesk$Tape" y_Tape_put y_Tape_put, .code y_Tape_put prog_7_method_2_code 6 (some .boolean), .methodLink "DecimalDesk$Tape" 17 y_Tape_byteOf, .static y_Tape_byteOf, .code y_Tape_byteOf prog_7_method_5_code 3 (some .int), .methodLink "DecimalDeskLaw" 55 y_Desk_flags, .instanceMethod y_Desk_flags, .selects "DecimalDesk" y_Desk_flags y_Desk_flags, .code y_Desk_flags prog_1_method_6_code 1 (some .int), .methodLink "DecimalDeskLaw" 60 y_Desk_clear, .instanceMethod y_Desk_clear, .selects "DecimalDesk" y_Desk_clear y_Desk_clear, .code y_Desk_clear prog_1_method_7_code 3 (some .int), .methodLink "DecimalDeskLaw" 75 y_Desk_next, .instanceMethod y_Desk_next, .selects "DecimalDesk" y_Desk_next y_Desk_next, .code y_Desk_next prog_1_method_11_code 5 (some .long), .methodLink "DecimalDesk" 116 y_Layout_holds, .instanceMethod y_Layout_holds, .selects "DecimalDesk$Layout" y_Layout_holds y_Layout_holds, .code y_Layout_holds prog_3_method_6_code 3 (some .boolean), .constantLong "DecimalDesk$Layout" 20 2, .methodLink "DecimalDesk$Layout" 22 y_Layout_signBit, .instanceMethod y_Layout_signBit, .selects "DecimalDesk$Layout" y_Layout_signBit y_Layout_signBit, .code y_Layout_signBit prog_3_method_4_code 1 (some .long), .methodLink "DecimalDesk" 144 y_Layout_sizeOf, .instanceMethod y_Layout_sizeOf, .selects "DecimalDesk$Layout" y_Layout_sizeOf y_Layout_sizeOf, .code y_Layout_sizeOf prog_3_method_8_code 3 (some .long), .methodLink "DecimalDesk" 97 y_Layout_infinity, .instanceMethod y_Layout_infinity, .selects "DecimalDesk$Layout" y_Layout_infinity y_Layout_infinity, .code y_Layout_infinity prog_3_method_5_code 1 (some .long), .constantLong "DecimalDesk" 148 (-1), .methodLink "DecimalDesk" 113 y_Layout_signBit]
theorem gT_3_good : gT_3.all goodWord = true := by decide +kernel
def gT_4 : List Cond := [.methodLink "DecimalDesk" 150 y_Layout_isNegative, .instanceMethod y_Layout_isNegative, .selects "DecimalDesk$Layout" y_Layout_isNegative y_Layout_isNegative, .code y_Layout_isNegative prog_3_method_7_code 3 (some .boolean), .methodLink "DecimalDeskLaw" 49 y_Law_read, .static y_Law_read, .classLink "DecimalDeskLaw" 13 "java/lang/IllegalArgumentException", .methodLink "DecimalDeskLaw" 7 y_Desk_read, .instanceMethod y_Desk_read, .selects "DecimalDesk" y_Desk_read y_Desk_read, .code y_Desk_read prog_1_method_5_code 5 (some .long), .methodLink "DecimalDesk" 75 y_Decimal_parse, .instanceMethod y_Decimal_parse, .selects "DecimalDesk$Decimal" y_Decimal_parse y_Decimal_parse, .code y_Decimal_parse prog_2_method_2_code 3 (some .boolean), .methodLink "DecimalDesk$Decimal" 24 y_Natural_set, .instanceMethod y_Natural_set, .selects "DecimalDesk$Natural" y_Natural_set y_Natural_set, .code y_Natural_set prog_4_method_2_code 4 none, .methodLink "DecimalDesk$Decimal" 28 y_Tape_at, .instanceMethod y_Tape_at, .selects "DecimalDesk$Tape" y_Tape_at y_Tape_at, .code y_Tape_at prog_7_method_4_code 2 (some .int), .methodLink "DecimalDesk$Decimal" 34 y_Decimal_takeDigits, .instanceMethod y_Decimal_takeDigits, .code y_Decimal_takeDigits prog_2_method_3_code 7 (some .int), .methodLink "DecimalDesk$Decimal" 42 y_Decimal_isDigit, .static y_Decimal_isDigit, .code y_Decimal_isDigit prog_2_method_5_code 1 (some .boolean), .methodLink "DecimalDesk$Decimal" 46 y_Natural_timesPlus, .instanceMethod y_Natural_timesPlus, .selects "DecimalDesk$Natural" y_Natural_timesPlus y_Natural_timesPlus, .code y_Natural_timesPlus prog_4_method_9_code 6 none, .constantLong "DecimalDesk$Natural" 13 4294967295, .methodLink "DecimalDesk$Decimal" 38 y_Decimal_takePower, .instanceMethod y_Decimal_takePower, .code y_Decimal_takePower prog_2_method_4_code 7 (some .boolean), .methodLink "DecimalDesk" 79 y_Tape_wipe, .instanceMethod y_Tape_wipe, .selects "DecimalDesk$Tape" y_Tape_wipe y_Tape_wipe, .code y_Tape_wipe prog_7_method_3_code 1 none, .classLink "DecimalDesk" 82 "java/lang/IllegalArgumentException", .instantiable "java/lang/IllegalArgumentException" 6, .selects "java/lang/IllegalArgumentException" y_Throwable_fillInStackTraceI y_Throwable_fillInStackTraceI, .selects "java/lang/IllegalArgumentException" y_Throwable_fillInStackTrace y_Throwable_fillInStackTrace, .lays "java/lang/IllegalArgumentException" "java/lang/Throwable" "cause" "Ljava/lang/Throwable;", .lays "java/lang/Throwable" "java/lang/Throwable" "cause" "Ljava/lang/Throwable;", .lays "java/lang/IllegalArgumentException" "java/lang/Throwable" "stackTrace" "[Ljava/lang/StackTraceElement;", .lays "java/lang/Throwable" "java/lang/Throwable" "stackTrace" "[Ljava/lang/StackTraceElement;", .lays "java/lang/IllegalArgumentException" "java/lang/Throwable" "suppressedExceptions" "Ljava/util/List;", .lays "java/lang/Throwable" "java/lang/Throwable" "suppressedExceptions" "Ljava/util/List;", .lays "java/lang/IllegalArgumentException" "java/lang/Throwable" "detailMessage" "Ljava/lang/String;", .lays "java/lang/Throwable" "java/lang/Throwable" "detailMessage" "Ljava/lang/String;", .lays "java/lang/IllegalArgumentException" "java/lang/Throwable" "backtrace" "Ljava/lang/Object;", .lays "java/lang/Throwable" "java/lang/Throwable" "backtrace" "Ljava/lang/Object;", .fieldLink "java/lang/Throwable" 198 "java/lang/Throwable" "backtrace" "Ljava/lang/Object;", .instanceMethod ⟨"java/lang/Throwable", "<init>", "()V"⟩, .code ⟨"java/lang/Throwable", "<init>", "()V"⟩ prog_18_method_1_code 1 none, .methodLink "java/lang/Throwable" 1 objectInit, .fieldLink "java/lang/Throwable" 13 "java/lang/Throwable" "UNASSIGNED_STACK" "[Ljava/lang/StackTraceElement;"]
theorem gT_4_good : gT_4.all goodWord = true := by decide +kernel
def gT_5 : List Cond := [.fieldLink "java/lang/Throwable" 20 "java/lang/Throwable" "SUPPRESSED_SENTINEL" "Ljava/util/List;", .methodLink "java/lang/Throwable" 27 y_Throwable_fillInStackTrace, .instanceMethod y_Throwable_fillInStackTrace, .selects "java/util/NoSuchElementException" y_Throwable_fillInStackTrace y_Throwable_fillInStackTrace, .methodLink "java/lang/Throwable" 202 y_Throwable_fillInStackTraceI, .instanceMethod y_Throwable_fillInStackTraceI, .instantiable "java/lang/Throwable" 6, .methodLink "DecimalDesk" 86 y_IllegalArg_init, .instanceMethod y_IllegalArg_init, .code y_IllegalArg_init prog_12_method_2_code 2 none, .methodLink "java/lang/IllegalArgumentException" 7 y_RuntimeEx_init, .instanceMethod y_RuntimeEx_init, .code y_RuntimeEx_init prog_16_method_2_code 2 none, .methodLink "java/lang/RuntimeException" 7 y_Exception_init, .instanceMethod y_Exception_init, .code y_Exception_init prog_11_method_2_code 2 none, .methodLink "java/lang/Exception" 7 y_Throwable_init, .instanceMethod y_Throwable_init, .code y_Throwable_init prog_18_method_2_code 2 none, .fieldLink "java/lang/Throwable" 198 "java/lang/Throwable" "backtrace" "Ljava/lang/Object;", .fieldLink "java/lang/Throwable" 31 "java/lang/Throwable" "detailMessage" "Ljava/lang/String;", .fieldLink "java/lang/Throwable" 7 "java/lang/Throwable" "cause" "Ljava/lang/Throwable;", .fieldLink "java/lang/Throwable" 17 "java/lang/Throwable" "stackTrace" "[Ljava/lang/StackTraceElement;", .fieldLink "java/lang/Throwable" 24 "java/lang/Throwable" "suppressedExceptions" "Ljava/util/List;", .lays "java/lang/IllegalArgumentException" "java/lang/Throwable" "depth" "I", .methodLink "DecimalDesk" 89 y_Rounder_round, .instanceMethod y_Rounder_round, .selects "DecimalDesk$Rounder" y_Rounder_round y_Rounder_round, .code y_Rounder_round prog_5_method_2_code 12 none, .methodLink "DecimalDesk$Rounder" 37 y_Natural_isZero, .instanceMethod y_Natural_isZero, .selects "DecimalDesk$Natural" y_Natural_isZero y_Natural_isZero, .code y_Natural_isZero prog_4_method_4_code 2 (some .boolean), .methodLink "DecimalDesk$Rounder" 41 y_Rounder_setFraction, .instanceMethod y_Rounder_setFraction, .code y_Rounder_setFraction prog_5_method_3_code 3 none, .methodLink "DecimalDesk$Rounder" 58 y_Math_max, .static y_Math_max, .code y_Math_max prog_15_method_65_code 2 (some .int), .methodLink "DecimalDesk$Rounder" 85 y_Math_min, .static y_Math_min, .code y_Math_min prog_15_method_69_code 2 (some .int), .methodLink "DecimalDesk$Rounder" 88 y_Natural_copy, .instanceMethod y_Natural_copy, .selects "DecimalDesk$Natural" y_Natural_copy y_Natural_copy, .code y_Natural_copy prog_4_method_3_code 3 none, .methodLink "DecimalDesk$Rounder" 92 y_Natural_set, .methodLink "DecimalDesk$Rounder" 96 y_Natural_timesPowerOfTen, .instanceMethod y_Natural_timesPowerOfTen, .selects "DecimalDesk$Natural" y_Natural_timesPowerOfTen y_Natural_timesPowerOfTen, .code y_Natural_timesPowerOfTen prog_4_method_10_code 2 none, .methodLink "DecimalDesk$Natural" 21 y_Natural_timesPowerOfFive, .instanceMethod y_Natural_timesPowerOfFive, .selects "DecimalDesk$Natural" y_Natural_timesPowerOfFive y_Natural_timesPowerOfFive, .code y_Natural_timesPowerOfFive prog_4_method_11_code 4 none, .constant "DecimalDesk$Natural" 28 1220703125, .methodLink "DecimalDesk$Natural" 29 y_Natural_timesPlus, .methodLink "DecimalDesk$Natural" 25 y_Natural_shiftLeft, .instanceMethod y_Natural_shiftLeft, .selects "DecimalDesk$Natural" y_Natural_shiftLeft y_Natural_shiftLeft]
theorem gT_5_good : gT_5.all goodWord = true := by decide +kernel
def gT_6 : List Cond := [.code y_Natural_shiftLeft prog_4_method_12_code 9 none, .methodLink "DecimalDesk$Natural" 33 y_Natural_limbAt, .instanceMethod y_Natural_limbAt, .code y_Natural_limbAt prog_4_method_14_code 2 (some .long), .methodLink "DecimalDesk$Rounder" 45 y_Rounder_normalise, .instanceMethod y_Rounder_normalise, .code y_Rounder_normalise prog_5_method_4_code 2 (some .int), .methodLink "DecimalDesk$Rounder" 100 y_Natural_bitLength, .instanceMethod y_Natural_bitLength, .selects "DecimalDesk$Natural" y_Natural_bitLength y_Natural_bitLength, .code y_Natural_bitLength prog_4_method_6_code 2 (some .int), .methodLink "DecimalDesk$Natural" 15 y_Integer_numberOfLeadingZeros, .static y_Integer_numberOfLeadingZeros, .code y_Integer_numberOfLeadingZeros prog_13_method_47_code 2 (some .int), .constant "java/lang/Integer" 264 65536, .methodLink "DecimalDesk$Rounder" 103 y_Natural_shiftLeft, .methodLink "DecimalDesk$Rounder" 68 y_Natural_against, .instanceMethod y_Natural_against, .selects "DecimalDesk$Natural" y_Natural_against y_Natural_against, .code y_Natural_against prog_4_method_5_code 3 (some .int), .methodLink "DecimalDesk$Rounder" 106 y_Natural_timesPlus, .methodLink "DecimalDesk$Rounder" 49 y_Layout_lowestPower, .instanceMethod y_Layout_lowestPower, .selects "DecimalDesk$Layout" y_Layout_lowestPower y_Layout_lowestPower, .code y_Layout_lowestPower prog_3_method_3_code 1 (some .int), .methodLink "DecimalDesk$Layout" 16 y_Layout_bias, .instanceMethod y_Layout_bias, .selects "DecimalDesk$Layout" y_Layout_bias y_Layout_bias, .code y_Layout_bias prog_3_method_2_code 1 (some .int), .methodLink "DecimalDesk$Rounder" 64 y_Rounder_takeBits, .instanceMethod y_Rounder_takeBits, .code y_Rounder_takeBits prog_5_method_5_code 5 (some .long), .methodLink "DecimalDesk$Rounder" 110 y_Natural_subtract, .instanceMethod y_Natural_subtract, .selects "DecimalDesk$Natural" y_Natural_subtract y_Natural_subtract, .code y_Natural_subtract prog_4_method_8_code 5 none, .methodLink "DecimalDesk$Rounder" 72 y_Layout_bias, .methodLink "DecimalDesk$Rounder" 78 y_Rounder_goesFarther, .static y_Rounder_goesFarther, .code y_Rounder_goesFarther prog_5_method_6_code 4 (some .boolean), .methodLink "DecimalDesk" 105 y_Desk_sizeByOverflow, .instanceMethod y_Desk_sizeByOverflow, .code y_Desk_sizeByOverflow prog_1_method_12_code 3 (some .long), .methodLink "DecimalDesk" 109 y_Desk_raiseFlags, .instanceMethod y_Desk_raiseFlags, .code y_Desk_raiseFlags prog_1_method_13_code 2 none, .methodLink "DecimalDeskLaw" 64 y_Law_shortest, .static y_Law_shortest, .methodLink "DecimalDeskLaw" 15 y_Desk_shortest, .instanceMethod y_Desk_shortest, .selects "DecimalDesk" y_Desk_shortest y_Desk_shortest, .code y_Desk_shortest prog_1_method_8_code 3 (some .int), .methodLink "DecimalDesk" 122 y_Desk_tellNotFinite, .instanceMethod y_Desk_tellNotFinite, .code y_Desk_tellNotFinite prog_1_method_14_code 5 (some .boolean), .methodLink "DecimalDesk" 159 y_Told_start, .instanceMethod y_Told_start, .selects "DecimalDesk$Told" y_Told_start y_Told_start, .code y_Told_start prog_8_method_3_code 2 none, .methodLink "DecimalDesk$Told" 20 y_Told_add]
theorem gT_6_good : gT_6.all goodWord = true := by decide +kernel
def gT_7 : List Cond := [.instanceMethod y_Told_add, .selects "DecimalDesk$Told" y_Told_add y_Told_add, .code y_Told_add prog_8_method_4_code 2 none, .methodLink "DecimalDesk" 162 y_Told_add, .methodLink "DecimalDesk" 125 y_Desk_tellShortest, .instanceMethod y_Desk_tellShortest, .code y_Desk_tellShortest prog_1_method_15_code 5 none, .methodLink "DecimalDesk" 166 y_Told_addPower, .instanceMethod y_Told_addPower, .selects "DecimalDesk$Told" y_Told_addPower y_Told_addPower, .code y_Told_addPower prog_8_method_5_code 4 none, .methodLink "DecimalDesk$Told" 24 y_Math_abs, .static y_Math_abs, .code y_Math_abs prog_15_method_59_code 1 (some .int), .methodLink "DecimalDesk$Told" 30 y_Told_addDigits, .instanceMethod y_Told_addDigits, .selects "DecimalDesk$Told" y_Told_addDigits y_Told_addDigits, .code y_Told_addDigits prog_8_method_6_code 8 none, .constantLong "DecimalDesk$Told" 34 48, .constantLong "DecimalDesk$Told" 36 10, .methodLink "DecimalDesk$Told" 38 y_Told_addReversed, .instanceMethod y_Told_addReversed, .code y_Told_addReversed prog_8_method_8_code 4 none, .methodLink "DecimalDesk$Told" 52 y_Math_min, .methodLink "DecimalDesk" 169 y_Finder_find, .instanceMethod y_Finder_find, .selects "DecimalDesk$ShortestFinder" y_Finder_find y_Finder_find, .code y_Finder_find prog_6_method_2_code 7 none, .methodLink "DecimalDesk$ShortestFinder" 43 y_Finder_setRange, .instanceMethod y_Finder_setRange, .code y_Finder_setRange prog_6_method_3_code 6 none, .methodLink "DecimalDesk$ShortestFinder" 63 y_Layout_fractionOf, .instanceMethod y_Layout_fractionOf, .selects "DecimalDesk$Layout" y_Layout_fractionOf y_Layout_fractionOf, .code y_Layout_fractionOf prog_3_method_9_code 3 (some .long), .methodLink "DecimalDesk$ShortestFinder" 69 y_Layout_exponentOf, .instanceMethod y_Layout_exponentOf, .selects "DecimalDesk$Layout" y_Layout_exponentOf y_Layout_exponentOf, .code y_Layout_exponentOf prog_3_method_10_code 3 (some .int), .methodLink "DecimalDesk$ShortestFinder" 73 y_Layout_significandOf, .instanceMethod y_Layout_significandOf, .selects "DecimalDesk$Layout" y_Layout_significandOf y_Layout_significandOf, .code y_Layout_significandOf prog_3_method_11_code 3 (some .long), .methodLink "DecimalDesk$Layout" 26 y_Layout_exponentOf, .methodLink "DecimalDesk$Layout" 30 y_Layout_fractionOf, .constantLong "DecimalDesk$ShortestFinder" 76 4, .methodLink "DecimalDesk$ShortestFinder" 78 y_Natural_set, .constantLong "DecimalDesk$ShortestFinder" 82 2, .methodLink "DecimalDesk$ShortestFinder" 84 y_Layout_powerOf, .instanceMethod y_Layout_powerOf, .selects "DecimalDesk$Layout" y_Layout_powerOf y_Layout_powerOf, .code y_Layout_powerOf prog_3_method_12_code 3 (some .int), .methodLink "DecimalDesk$Layout" 34 y_Layout_lowestPower, .methodLink "DecimalDesk$Layout" 37 y_Math_max, .methodLink "DecimalDesk$ShortestFinder" 87 y_Natural_shiftLeft, .methodLink "DecimalDesk$ShortestFinder" 47 y_Finder_setPower, .instanceMethod y_Finder_setPower, .code y_Finder_setPower prog_6_method_4_code 5 none, .methodLink "DecimalDesk$ShortestFinder" 91 y_Long_numberOfLeadingZeros, .static y_Long_numberOfLeadingZeros]
theorem gT_7_good : gT_7.all goodWord = true := by decide +kernel
def gT_8 : List Cond := [.code y_Long_numberOfLeadingZeros prog_14_method_48_code 3 (some .int), .methodLink "java/lang/Long" 308 y_Integer_numberOfLeadingZeros, .constant "DecimalDesk$ShortestFinder" 96 100000, .methodLink "DecimalDesk$ShortestFinder" 97 y_Math_floorDiv, .static y_Math_floorDiv, .code y_Math_floorDiv prog_15_method_47_code 3 (some .int), .methodLink "DecimalDesk$ShortestFinder" 103 y_Natural_timesPowerOfTen, .methodLink "DecimalDesk$ShortestFinder" 106 y_Natural_copy, .methodLink "DecimalDesk$ShortestFinder" 110 y_Natural_timesPlus, .methodLink "DecimalDesk$ShortestFinder" 114 y_Natural_against, .methodLink "DecimalDesk$ShortestFinder" 50 y_Finder_timesTen, .instanceMethod y_Finder_timesTen, .code y_Finder_timesTen prog_6_method_5_code 1 none, .constantLong "DecimalDesk$ShortestFinder" 53 10, .methodLink "DecimalDesk$ShortestFinder" 55 y_Finder_takeDigit, .instanceMethod y_Finder_takeDigit, .code y_Finder_takeDigit prog_6_method_6_code 2 (some .int), .methodLink "DecimalDesk$ShortestFinder" 118 y_Natural_subtract, .methodLink "DecimalDesk$ShortestFinder" 59 y_Finder_choose, .instanceMethod y_Finder_choose, .code y_Finder_choose prog_6_method_7_code 4 (some .boolean), .methodLink "DecimalDesk$ShortestFinder" 121 y_Finder_isWithin, .instanceMethod y_Finder_isWithin, .code y_Finder_isWithin prog_6_method_8_code 2 (some .boolean), .methodLink "DecimalDesk$ShortestFinder" 125 y_Natural_add, .instanceMethod y_Natural_add, .selects "DecimalDesk$Natural" y_Natural_add y_Natural_add, .code y_Natural_add prog_4_method_7_code 5 none, .methodLink "DecimalDesk" 178 y_Told_addDigits, .methodLink "DecimalDeskLaw" 68 y_Law_exact, .static y_Law_exact, .methodLink "DecimalDeskLaw" 19 y_Desk_exact, .instanceMethod y_Desk_exact, .selects "DecimalDesk" y_Desk_exact y_Desk_exact, .code y_Desk_exact prog_1_method_9_code 3 (some .int), .methodLink "DecimalDesk" 132 y_Desk_tellAllDigits, .instanceMethod y_Desk_tellAllDigits, .code y_Desk_tellAllDigits prog_1_method_16_code 8 none, .methodLink "DecimalDesk" 185 y_Layout_significandOf, .methodLink "DecimalDesk" 188 y_Layout_powerOf, .methodLink "DecimalDesk" 192 y_Natural_set, .methodLink "DecimalDesk" 195 y_Natural_shiftLeft, .methodLink "DecimalDesk" 198 y_Told_addNatural, .instanceMethod y_Told_addNatural, .selects "DecimalDesk$Told" y_Told_addNatural y_Told_addNatural, .code y_Told_addNatural prog_8_method_7_code 6 none, .methodLink "DecimalDesk$Told" 42 y_Natural_isZero, .constant "DecimalDesk$Told" 48 1000000000, .methodLink "DecimalDesk$Told" 49 y_Natural_divide, .instanceMethod y_Natural_divide, .selects "DecimalDesk$Natural" y_Natural_divide y_Natural_divide, .code y_Natural_divide prog_4_method_13_code 5 (some .int), .methodLink "DecimalDesk" 202 y_Natural_timesPowerOfFive, .methodLink "DecimalDeskLaw" 71 y_Law_letter, .static y_Law_letter, .classLink "DecimalDeskLaw" 26 "java/util/NoSuchElementException", .methodLink "DecimalDeskLaw" 22 y_Desk_letter, .instanceMethod y_Desk_letter, .selects "DecimalDesk" y_Desk_letter y_Desk_letter, .code y_Desk_letter prog_1_method_10_code 2 (some .int)]
theorem gT_8_good : gT_8.all goodWord = true := by decide +kernel
def gT_9 : List Cond := [.classLink "DecimalDesk" 135 "java/util/NoSuchElementException", .instantiable "java/util/NoSuchElementException" 6, .selects "java/util/NoSuchElementException" y_Throwable_fillInStackTraceI y_Throwable_fillInStackTraceI, .lays "java/util/NoSuchElementException" "java/lang/Throwable" "cause" "Ljava/lang/Throwable;", .lays "java/util/NoSuchElementException" "java/lang/Throwable" "stackTrace" "[Ljava/lang/StackTraceElement;", .lays "java/util/NoSuchElementException" "java/lang/Throwable" "suppressedExceptions" "Ljava/util/List;", .lays "java/util/NoSuchElementException" "java/lang/Throwable" "detailMessage" "Ljava/lang/String;", .lays "java/util/NoSuchElementException" "java/lang/Throwable" "backtrace" "Ljava/lang/Object;", .methodLink "DecimalDesk" 139 y_NoSuchEl_init, .instanceMethod y_NoSuchEl_init, .code y_NoSuchEl_init prog_19_method_4_code 2 none, .methodLink "java/util/NoSuchElementException" 13 y_RuntimeEx_init, .lays "java/util/NoSuchElementException" "java/lang/Throwable" "depth" "I", .methodLink "DecimalDesk" 140 y_Told_at, .instanceMethod y_Told_at, .selects "DecimalDesk$Told" y_Told_at y_Told_at, .code y_Told_at prog_8_method_2_code 2 (some .int), .classLink "DecimalDeskLaw" 29 "DecimalDeskModel", .instantiable "DecimalDeskModel" 26, .methodLink "DecimalDeskLaw" 31 y_Model_init, .instanceMethod y_Model_init, .code y_Model_init prog_10_method_1_code 1 none, .methodLink "DecimalDeskModel" 1 objectInit, .fieldLink "DecimalDeskModel" 41 "DecimalDeskModel" "thrown" "I", .fieldLink "DecimalDeskModel" 7 "DecimalDeskModel" "widthE" "I", .fieldLink "DecimalDeskModel" 13 "DecimalDeskModel" "widthM" "I", .fieldLink "DecimalDeskModel" 44 "DecimalDeskModel" "way" "I", .fieldLink "DecimalDeskModel" 52 "DecimalDeskModel" "raised" "I", .fieldLink "DecimalDeskModel" 16 "DecimalDeskModel" "tape" "[I", .fieldLink "DecimalDeskModel" 47 "DecimalDeskModel" "taped" "I", .fieldLink "DecimalDeskModel" 20 "DecimalDeskModel" "told" "[I", .fieldLink "DecimalDeskModel" 149 "DecimalDeskModel" "toldLong" "I", .fieldLink "DecimalDeskModel" 23 "DecimalDeskModel" "row" "[I", .fieldLink "DecimalDeskModel" 26 "DecimalDeskModel" "first" "I", .fieldLink "DecimalDeskModel" 29 "DecimalDeskModel" "last" "I", .fieldLink "DecimalDeskModel" 32 "DecimalDeskModel" "whole" "[I", .fieldLink "DecimalDeskModel" 170 "DecimalDeskModel" "wholeFirst" "I", .fieldLink "DecimalDeskModel" 173 "DecimalDeskModel" "wholeLast" "I", .fieldLink "DecimalDeskModel" 81 "DecimalDeskModel" "lost" "Z", .fieldLink "DecimalDeskModel" 88 "DecimalDeskModel" "over" "Z", .fieldLink "DecimalDeskModel" 68 "DecimalDeskModel" "under" "Z", .fieldLink "DecimalDeskModel" 95 "DecimalDeskModel" "at" "I", .fieldLink "DecimalDeskModel" 112 "DecimalDeskModel" "minus" "Z", .fieldLink "DecimalDeskModel" 106 "DecimalDeskModel" "digits" "I", .fieldLink "DecimalDeskModel" 35 "DecimalDeskModel" "digit" "[I", .fieldLink "DecimalDeskModel" 118 "DecimalDeskModel" "ahead0" "I", .fieldLink "DecimalDeskModel" 109 "DecimalDeskModel" "exponent" "I", .fieldLink "DecimalDeskModel" 38 "DecimalDeskModel" "tried" "[I", .fieldLink "DecimalDeskModel" 176 "DecimalDeskModel" "ten" "I", .lays "DecimalDeskModel" "DecimalDeskModel" "thrown" "I", .lays "DecimalDeskModel" "DecimalDeskModel" "widthE" "I", .lays "DecimalDeskModel" "DecimalDeskModel" "widthM" "I", .lays "DecimalDeskModel" "DecimalDeskModel" "way" "I", .lays "DecimalDeskModel" "DecimalDeskModel" "raised" "I", .laysFinal "DecimalDeskModel" "DecimalDeskModel" "tape" "[I", .lays "DecimalDeskModel" "DecimalDeskModel" "taped" "I", .laysFinal "DecimalDeskModel" "DecimalDeskModel" "told" "[I", .lays "DecimalDeskModel" "DecimalDeskModel" "toldLong" "I", .laysFinal "DecimalDeskModel" "DecimalDeskModel" "row" "[I", .lays "DecimalDeskModel" "DecimalDeskModel" "first" "I"]
theorem gT_9_good : gT_9.all goodWord = true := by decide +kernel
def gT_10 : List Cond := [.lays "DecimalDeskModel" "DecimalDeskModel" "last" "I", .laysFinal "DecimalDeskModel" "DecimalDeskModel" "whole" "[I", .lays "DecimalDeskModel" "DecimalDeskModel" "wholeFirst" "I", .lays "DecimalDeskModel" "DecimalDeskModel" "wholeLast" "I", .lays "DecimalDeskModel" "DecimalDeskModel" "lost" "Z", .lays "DecimalDeskModel" "DecimalDeskModel" "over" "Z", .lays "DecimalDeskModel" "DecimalDeskModel" "under" "Z", .lays "DecimalDeskModel" "DecimalDeskModel" "at" "I", .lays "DecimalDeskModel" "DecimalDeskModel" "minus" "Z", .lays "DecimalDeskModel" "DecimalDeskModel" "digits" "I", .laysFinal "DecimalDeskModel" "DecimalDeskModel" "digit" "[I", .lays "DecimalDeskModel" "DecimalDeskModel" "ahead0" "I", .lays "DecimalDeskModel" "DecimalDeskModel" "exponent" "I", .laysFinal "DecimalDeskModel" "DecimalDeskModel" "tried" "[I", .lays "DecimalDeskModel" "DecimalDeskModel" "ten" "I", .methodLink "DecimalDeskLaw" 36 y_Model_format, .instanceMethod y_Model_format, .selects "DecimalDeskModel" y_Model_format y_Model_format, .code y_Model_format prog_10_method_4_code 3 (some .boolean), .methodLink "DecimalDeskLaw" 41 y_Model_mode, .instanceMethod y_Model_mode, .selects "DecimalDeskModel" y_Model_mode y_Model_mode, .code y_Model_mode prog_10_method_5_code 2 (some .boolean), .methodLink "DecimalDeskLaw" 48 y_Model_type, .instanceMethod y_Model_type, .selects "DecimalDeskModel" y_Model_type y_Model_type, .code y_Model_type prog_10_method_6_code 6 (some .boolean), .constantLong "DecimalDeskModel" 50 255, .methodLink "DecimalDeskLaw" 59 y_Model_flags, .instanceMethod y_Model_flags, .selects "DecimalDeskModel" y_Model_flags y_Model_flags, .code y_Model_flags prog_10_method_7_code 1 (some .int), .methodLink "DecimalDeskLaw" 63 y_Model_clear, .instanceMethod y_Model_clear, .selects "DecimalDeskModel" y_Model_clear y_Model_clear, .code y_Model_clear prog_10_method_8_code 3 (some .int), .methodLink "DecimalDeskLaw" 54 y_Model_read, .instanceMethod y_Model_read, .selects "DecimalDeskModel" y_Model_read y_Model_read, .code y_Model_read prog_10_method_25_code 4 (some .long), .methodLink "DecimalDeskModel" 132 y_Model_isDecimal, .instanceMethod y_Model_isDecimal, .code y_Model_isDecimal prog_10_method_23_code 3 (some .boolean), .methodLink "DecimalDeskModel" 98 y_Model_see, .instanceMethod y_Model_see, .code y_Model_see prog_10_method_20_code 2 (some .int), .methodLink "DecimalDeskModel" 115 y_Model_run, .instanceMethod y_Model_run, .code y_Model_run prog_10_method_22_code 2 (some .int), .methodLink "DecimalDeskModel" 102 y_Model_isDigit, .static y_Model_isDigit, .code y_Model_isDigit prog_10_method_21_code 1 (some .boolean), .methodLink "DecimalDeskModel" 136 y_Model_raise, .instanceMethod y_Model_raise, .code y_Model_raise prog_10_method_3_code 2 (some .int), .methodLink "DecimalDeskModel" 139 y_Model_valued, .instanceMethod y_Model_valued, .code y_Model_valued prog_10_method_24_code 5 (some .long), .methodLink "DecimalDeskModel" 77 y_Model_packed, .instanceMethod y_Model_packed]
theorem gT_10_good : gT_10.all goodWord = true := by decide +kernel
def gT_11 : List Cond := [.code y_Model_packed prog_10_method_19_code 14 (some .long), .methodLink "DecimalDeskModel" 84 y_Model_goesUp, .instanceMethod y_Model_goesUp, .code y_Model_goesUp prog_10_method_17_code 6 (some .boolean), .constantLong "DecimalDeskModel" 72 2, .methodLink "DecimalDeskModel" 55 y_Model_bias, .instanceMethod y_Model_bias, .code y_Model_bias prog_10_method_15_code 1 (some .int), .methodLink "DecimalDeskModel" 91 y_Model_beyond, .instanceMethod y_Model_beyond, .code y_Model_beyond prog_10_method_16_code 1 (some .long), .methodLink "DecimalDeskModel" 121 y_Model_wipe, .instanceMethod y_Model_wipe, .code y_Model_wipe prog_10_method_9_code 2 none, .methodLink "DecimalDeskModel" 124 y_Model_dig, .instanceMethod y_Model_dig, .code y_Model_dig prog_10_method_10_code 3 none, .methodLink "DecimalDeskModel" 128 y_Model_rounded, .instanceMethod y_Model_rounded, .code y_Model_rounded prog_10_method_18_code 8 (some .long), .methodLink "DecimalDeskModel" 59 y_Model_ahead, .instanceMethod y_Model_ahead, .code y_Model_ahead prog_10_method_13_code 1 (some .int), .methodLink "DecimalDeskModel" 62 y_Model_half, .instanceMethod y_Model_half, .code y_Model_half prog_10_method_12_code 4 none, .methodLink "DecimalDeskModel" 65 y_Model_twice, .instanceMethod y_Model_twice, .code y_Model_twice prog_10_method_11_code 4 none, .methodLink "DecimalDeskModel" 74 y_Model_behind, .instanceMethod y_Model_behind, .code y_Model_behind prog_10_method_14_code 3 (some .int), .methodLink "DecimalDeskLaw" 70 y_Model_exact, .instanceMethod y_Model_exact, .selects "DecimalDeskModel" y_Model_exact y_Model_exact, .code y_Model_exact prog_10_method_32_code 4 (some .int), .methodLink "DecimalDeskModel" 160 y_Model_isPattern, .instanceMethod y_Model_isPattern, .code y_Model_isPattern prog_10_method_26_code 3 (some .boolean), .methodLink "DecimalDeskModel" 163 y_Model_isStrange, .instanceMethod y_Model_isStrange, .code y_Model_isStrange prog_10_method_31_code 5 (some .boolean), .methodLink "DecimalDeskModel" 143 y_Model_sizeOf, .instanceMethod y_Model_sizeOf, .code y_Model_sizeOf prog_10_method_27_code 3 (some .long), .methodLink "DecimalDeskModel" 152 y_Model_isBelow, .instanceMethod y_Model_isBelow, .code y_Model_isBelow prog_10_method_28_code 3 (some .boolean), .methodLink "DecimalDeskModel" 156 y_Model_say, .instanceMethod y_Model_say, .code y_Model_say prog_10_method_30_code 2 none, .methodLink "DecimalDeskModel" 166 y_Model_spread, .instanceMethod y_Model_spread, .code y_Model_spread prog_10_method_29_code 10 none, .constantLong "DecimalDeskModel" 147 10, .methodLink "DecimalDeskLaw" 67 y_Model_shortest, .instanceMethod y_Model_shortest, .selects "DecimalDeskModel" y_Model_shortest y_Model_shortest, .code y_Model_shortest prog_10_method_38_code 8 (some .int), .methodLink "DecimalDeskModel" 179 y_Model_keepWhole]
theorem gT_11_good : gT_11.all goodWord = true := by decide +kernel
def gT_12 : List Cond := [.instanceMethod y_Model_keepWhole, .code y_Model_keepWhole prog_10_method_33_code 2 none, .methodLink "DecimalDeskModel" 182 y_Model_cut, .instanceMethod y_Model_cut, .code y_Model_cut prog_10_method_34_code 4 none, .methodLink "DecimalDeskModel" 186 y_Model_comesBack, .instanceMethod y_Model_comesBack, .code y_Model_comesBack prog_10_method_35_code 5 (some .boolean), .methodLink "DecimalDeskModel" 190 y_Model_beside, .instanceMethod y_Model_beside, .code y_Model_beside prog_10_method_36_code 4 (some .int), .methodLink "DecimalDeskModel" 193 y_Model_sayTried, .instanceMethod y_Model_sayTried, .code y_Model_sayTried prog_10_method_37_code 4 none, .methodLink "DecimalDeskLaw" 74 y_Model_letter, .instanceMethod y_Model_letter, .selects "DecimalDeskModel" y_Model_letter y_Model_letter, .code y_Model_letter prog_10_method_39_code 2 (some .int), .methodLink "DecimalDeskLaw" 79 y_Model_next, .instanceMethod y_Model_next, .selects "DecimalDeskModel" y_Model_next y_Model_next, .code y_Model_next prog_10_method_40_code 10 (some .long), .constantLong "DecimalDeskModel" 196 (-1), .constantLong "DecimalDeskLaw" 42 4294967295, .arrayClass .long]
theorem gT_12_good : gT_12.all goodWord = true := by decide +kernel
def gT : List Cond := gT_0 ++ (gT_1 ++ (gT_2 ++ (gT_3 ++ (gT_4 ++ (gT_5 ++ (gT_6 ++ (gT_7 ++ (gT_8 ++ (gT_9 ++ (gT_10 ++ (gT_11 ++ (gT_12))))))))))))
theorem gT_good : ∀ w ∈ gT, goodWord w = true := by
  intro w h
  rcases List.mem_append.mp h with h | h
  · exact List.all_eq_true.mp gT_0_good w h
  rcases List.mem_append.mp h with h | h
  · exact List.all_eq_true.mp gT_1_good w h
  rcases List.mem_append.mp h with h | h
  · exact List.all_eq_true.mp gT_2_good w h
  rcases List.mem_append.mp h with h | h
  · exact List.all_eq_true.mp gT_3_good w h
  rcases List.mem_append.mp h with h | h
  · exact List.all_eq_true.mp gT_4_good w h
  rcases List.mem_append.mp h with h | h
  · exact List.all_eq_true.mp gT_5_good w h
  rcases List.mem_append.mp h with h | h
  · exact List.all_eq_true.mp gT_6_good w h
  rcases List.mem_append.mp h with h | h
  · exact List.all_eq_true.mp gT_7_good w h
  rcases List.mem_append.mp h with h | h
  · exact List.all_eq_true.mp gT_8_good w h
  rcases List.mem_append.mp h with h | h
  · exact List.all_eq_true.mp gT_9_good w h
  rcases List.mem_append.mp h with h | h
  · exact List.all_eq_true.mp gT_10_good w h
  rcases List.mem_append.mp h with h | h
  · exact List.all_eq_true.mp gT_11_good w h
  exact List.all_eq_true.mp gT_12_good w h
theorem m_0 : Cond.selects "DecimalDesk$Decimal" y_Decimal_takeDigits y_Decimal_takeDigits ∈ gT := List.mem_append_left _ (List.mem_of_getElem? (l := gT_0) (i := 0) rfl)
theorem m_1 : Cond.selects "DecimalDesk$Decimal" y_Decimal_takePower y_Decimal_takePower ∈ gT := List.mem_append_left _ (List.mem_of_getElem? (l := gT_0) (i := 1) rfl)
theorem m_2 : Cond.selects "java/lang/Throwable" y_Throwable_fillInStackTraceI y_Throwable_fillInStackTraceI ∈ gT := List.mem_append_left _ (List.mem_of_getElem? (l := gT_0) (i := 2) rfl)
theorem m_3 : Cond.selects "DecimalDesk$Rounder" y_Rounder_setFraction y_Rounder_setFraction ∈ gT := List.mem_append_left _ (List.mem_of_getElem? (l := gT_0) (i := 3) rfl)
theorem m_4 : Cond.selects "DecimalDesk$Natural" y_Natural_limbAt y_Natural_limbAt ∈ gT := List.mem_append_left _ (List.mem_of_getElem? (l := gT_0) (i := 4) rfl)
theorem m_5 : Cond.selects "DecimalDesk$Rounder" y_Rounder_normalise y_Rounder_normalise ∈ gT := List.mem_append_left _ (List.mem_of_getElem? (l := gT_0) (i := 5) rfl)
theorem m_6 : Cond.selects "DecimalDesk$Rounder" y_Rounder_takeBits y_Rounder_takeBits ∈ gT := List.mem_append_left _ (List.mem_of_getElem? (l := gT_0) (i := 6) rfl)
theorem m_7 : Cond.selects "DecimalDesk" y_Desk_sizeByOverflow y_Desk_sizeByOverflow ∈ gT := List.mem_append_left _ (List.mem_of_getElem? (l := gT_0) (i := 7) rfl)
theorem m_8 : Cond.selects "DecimalDesk" y_Desk_raiseFlags y_Desk_raiseFlags ∈ gT := List.mem_append_left _ (List.mem_of_getElem? (l := gT_0) (i := 8) rfl)
theorem m_9 : Cond.selects "DecimalDesk" y_Desk_tellNotFinite y_Desk_tellNotFinite ∈ gT := List.mem_append_left _ (List.mem_of_getElem? (l := gT_0) (i := 9) rfl)
theorem m_10 : Cond.selects "DecimalDesk" y_Desk_tellShortest y_Desk_tellShortest ∈ gT := List.mem_append_left _ (List.mem_of_getElem? (l := gT_0) (i := 10) rfl)
theorem m_11 : Cond.selects "DecimalDesk$Told" y_Told_addReversed y_Told_addReversed ∈ gT := List.mem_append_left _ (List.mem_of_getElem? (l := gT_0) (i := 11) rfl)
theorem m_12 : Cond.selects "DecimalDesk$ShortestFinder" y_Finder_setRange y_Finder_setRange ∈ gT := List.mem_append_left _ (List.mem_of_getElem? (l := gT_0) (i := 12) rfl)
theorem m_13 : Cond.selects "DecimalDesk$ShortestFinder" y_Finder_setPower y_Finder_setPower ∈ gT := List.mem_append_left _ (List.mem_of_getElem? (l := gT_0) (i := 13) rfl)
theorem m_14 : Cond.selects "DecimalDesk$ShortestFinder" y_Finder_timesTen y_Finder_timesTen ∈ gT := List.mem_append_left _ (List.mem_of_getElem? (l := gT_0) (i := 14) rfl)
theorem m_15 : Cond.selects "DecimalDesk$ShortestFinder" y_Finder_takeDigit y_Finder_takeDigit ∈ gT := List.mem_append_left _ (List.mem_of_getElem? (l := gT_0) (i := 15) rfl)
theorem m_16 : Cond.selects "DecimalDesk$ShortestFinder" y_Finder_choose y_Finder_choose ∈ gT := List.mem_append_left _ (List.mem_of_getElem? (l := gT_0) (i := 16) rfl)
theorem m_17 : Cond.selects "DecimalDesk$ShortestFinder" y_Finder_isWithin y_Finder_isWithin ∈ gT := List.mem_append_left _ (List.mem_of_getElem? (l := gT_0) (i := 17) rfl)
theorem m_18 : Cond.selects "DecimalDesk" y_Desk_tellAllDigits y_Desk_tellAllDigits ∈ gT := List.mem_append_left _ (List.mem_of_getElem? (l := gT_0) (i := 18) rfl)
theorem m_19 : Cond.selects "DecimalDeskModel" y_Model_isDecimal y_Model_isDecimal ∈ gT := List.mem_append_left _ (List.mem_of_getElem? (l := gT_0) (i := 19) rfl)
theorem m_20 : Cond.selects "DecimalDeskModel" y_Model_see y_Model_see ∈ gT := List.mem_append_left _ (List.mem_of_getElem? (l := gT_0) (i := 20) rfl)
theorem m_21 : Cond.selects "DecimalDeskModel" y_Model_run y_Model_run ∈ gT := List.mem_append_left _ (List.mem_of_getElem? (l := gT_0) (i := 21) rfl)
theorem m_22 : Cond.selects "DecimalDeskModel" y_Model_raise y_Model_raise ∈ gT := List.mem_append_left _ (List.mem_of_getElem? (l := gT_0) (i := 22) rfl)
theorem m_23 : Cond.selects "DecimalDeskModel" y_Model_valued y_Model_valued ∈ gT := List.mem_append_left _ (List.mem_of_getElem? (l := gT_0) (i := 23) rfl)
theorem m_24 : Cond.selects "DecimalDeskModel" y_Model_packed y_Model_packed ∈ gT := List.mem_append_left _ (List.mem_of_getElem? (l := gT_0) (i := 24) rfl)
theorem m_25 : Cond.selects "DecimalDeskModel" y_Model_goesUp y_Model_goesUp ∈ gT := List.mem_append_left _ (List.mem_of_getElem? (l := gT_0) (i := 25) rfl)
theorem m_26 : Cond.selects "DecimalDeskModel" y_Model_bias y_Model_bias ∈ gT := List.mem_append_left _ (List.mem_of_getElem? (l := gT_0) (i := 26) rfl)
theorem m_27 : Cond.selects "DecimalDeskModel" y_Model_beyond y_Model_beyond ∈ gT := List.mem_append_left _ (List.mem_of_getElem? (l := gT_0) (i := 27) rfl)
theorem m_28 : Cond.selects "DecimalDeskModel" y_Model_wipe y_Model_wipe ∈ gT := List.mem_append_left _ (List.mem_of_getElem? (l := gT_0) (i := 28) rfl)
theorem m_29 : Cond.selects "DecimalDeskModel" y_Model_dig y_Model_dig ∈ gT := List.mem_append_left _ (List.mem_of_getElem? (l := gT_0) (i := 29) rfl)
theorem m_30 : Cond.selects "DecimalDeskModel" y_Model_rounded y_Model_rounded ∈ gT := List.mem_append_left _ (List.mem_of_getElem? (l := gT_0) (i := 30) rfl)
theorem m_31 : Cond.selects "DecimalDeskModel" y_Model_ahead y_Model_ahead ∈ gT := List.mem_append_left _ (List.mem_of_getElem? (l := gT_0) (i := 31) rfl)
theorem m_32 : Cond.selects "DecimalDeskModel" y_Model_half y_Model_half ∈ gT := List.mem_append_left _ (List.mem_of_getElem? (l := gT_0) (i := 32) rfl)
theorem m_33 : Cond.selects "DecimalDeskModel" y_Model_twice y_Model_twice ∈ gT := List.mem_append_left _ (List.mem_of_getElem? (l := gT_0) (i := 33) rfl)
theorem m_34 : Cond.selects "DecimalDeskModel" y_Model_behind y_Model_behind ∈ gT := List.mem_append_left _ (List.mem_of_getElem? (l := gT_0) (i := 34) rfl)
theorem m_35 : Cond.selects "DecimalDeskModel" y_Model_isPattern y_Model_isPattern ∈ gT := List.mem_append_left _ (List.mem_of_getElem? (l := gT_0) (i := 35) rfl)
theorem m_36 : Cond.selects "DecimalDeskModel" y_Model_isStrange y_Model_isStrange ∈ gT := List.mem_append_left _ (List.mem_of_getElem? (l := gT_0) (i := 36) rfl)
theorem m_37 : Cond.selects "DecimalDeskModel" y_Model_sizeOf y_Model_sizeOf ∈ gT := List.mem_append_left _ (List.mem_of_getElem? (l := gT_0) (i := 37) rfl)
theorem m_38 : Cond.selects "DecimalDeskModel" y_Model_isBelow y_Model_isBelow ∈ gT := List.mem_append_left _ (List.mem_of_getElem? (l := gT_0) (i := 38) rfl)
theorem m_39 : Cond.selects "DecimalDeskModel" y_Model_say y_Model_say ∈ gT := List.mem_append_left _ (List.mem_of_getElem? (l := gT_0) (i := 39) rfl)
theorem m_40 : Cond.selects "DecimalDeskModel" y_Model_spread y_Model_spread ∈ gT := List.mem_append_left _ (List.mem_of_getElem? (l := gT_0) (i := 40) rfl)
theorem m_41 : Cond.selects "DecimalDeskModel" y_Model_keepWhole y_Model_keepWhole ∈ gT := List.mem_append_left _ (List.mem_of_getElem? (l := gT_0) (i := 41) rfl)
theorem m_42 : Cond.selects "DecimalDeskModel" y_Model_cut y_Model_cut ∈ gT := List.mem_append_left _ (List.mem_of_getElem? (l := gT_0) (i := 42) rfl)
theorem m_43 : Cond.selects "DecimalDeskModel" y_Model_comesBack y_Model_comesBack ∈ gT := List.mem_append_left _ (List.mem_of_getElem? (l := gT_0) (i := 43) rfl)
theorem m_44 : Cond.selects "DecimalDeskModel" y_Model_beside y_Model_beside ∈ gT := List.mem_append_left _ (List.mem_of_getElem? (l := gT_0) (i := 44) rfl)
theorem m_45 : Cond.selects "DecimalDeskModel" y_Model_sayTried y_Model_sayTried ∈ gT := List.mem_append_left _ (List.mem_of_getElem? (l := gT_0) (i := 45) rfl)
theorem m_46 : Cond.initialized "DecimalDeskLaw" ∈ gT := List.mem_append_left _ (List.mem_of_getElem? (l := gT_0) (i := 46) rfl)
theorem m_47 : Cond.initialized "DecimalDesk" ∈ gT := List.mem_append_left _ (List.mem_of_getElem? (l := gT_0) (i := 47) rfl)
theorem m_48 : Cond.initialized "DecimalDesk$Layout" ∈ gT := List.mem_append_left _ (List.mem_of_getElem? (l := gT_0) (i := 48) rfl)
theorem m_49 : Cond.initialized "DecimalDesk$Tape" ∈ gT := List.mem_append_left _ (List.mem_of_getElem? (l := gT_0) (i := 49) rfl)
theorem m_50 : Cond.initialized "DecimalDesk$Decimal" ∈ gT := List.mem_append_left _ (List.mem_of_getElem? (l := gT_0) (i := 50) rfl)
theorem m_51 : Cond.initialized "DecimalDesk$Natural" ∈ gT := List.mem_append_left _ (List.mem_of_getElem? (l := gT_0) (i := 51) rfl)
theorem m_52 : Cond.initialized "DecimalDesk$Rounder" ∈ gT := List.mem_append_left _ (List.mem_of_getElem? (l := gT_0) (i := 52) rfl)
theorem m_53 : Cond.initialized "DecimalDesk$ShortestFinder" ∈ gT := List.mem_append_left _ (List.mem_of_getElem? (l := gT_0) (i := 53) rfl)
theorem m_54 : Cond.initialized "DecimalDesk$Told" ∈ gT := List.mem_append_left _ (List.mem_of_getElem? (l := gT_0) (i := 54) rfl)
theorem m_55 : Cond.initialized "DecimalDeskModel" ∈ gT := List.mem_append_left _ (List.mem_of_getElem? (l := gT_0) (i := 55) rfl)
theorem m_56 : Cond.initialized "java/lang/Throwable" ∈ gT := List.mem_append_left _ (List.mem_of_getElem? (l := gT_0) (i := 56) rfl)
theorem m_57 : Cond.initialized "java/lang/Exception" ∈ gT := List.mem_append_left _ (List.mem_of_getElem? (l := gT_0) (i := 57) rfl)
theorem m_58 : Cond.initialized "java/lang/RuntimeException" ∈ gT := List.mem_append_left _ (List.mem_of_getElem? (l := gT_0) (i := 58) rfl)
theorem m_59 : Cond.initialized "java/lang/IllegalArgumentException" ∈ gT := List.mem_append_left _ (List.mem_of_getElem? (l := gT_0) (i := 59) rfl)
theorem m_60 : Cond.initialized "java/lang/Math" ∈ gT := List.mem_append_right _ (List.mem_append_left _ (List.mem_of_getElem? (l := gT_1) (i := 0) rfl))
theorem m_61 : Cond.initialized "java/lang/Integer" ∈ gT := List.mem_append_right _ (List.mem_append_left _ (List.mem_of_getElem? (l := gT_1) (i := 1) rfl))
theorem m_62 : Cond.initialized "java/lang/Long" ∈ gT := List.mem_append_right _ (List.mem_append_left _ (List.mem_of_getElem? (l := gT_1) (i := 2) rfl))
theorem m_63 : Cond.initialized "java/util/NoSuchElementException" ∈ gT := List.mem_append_right _ (List.mem_append_left _ (List.mem_of_getElem? (l := gT_1) (i := 3) rfl))
theorem m_64 : Cond.classLink "DecimalDeskLaw" 8 "DecimalDesk" ∈ gT := List.mem_append_right _ (List.mem_append_left _ (List.mem_of_getElem? (l := gT_1) (i := 4) rfl))
theorem m_65 : Cond.instantiable "DecimalDesk" 9 ∈ gT := List.mem_append_right _ (List.mem_append_left _ (List.mem_of_getElem? (l := gT_1) (i := 5) rfl))
theorem m_66 : Cond.methodLink "DecimalDeskLaw" 28 y_Desk_init ∈ gT := List.mem_append_right _ (List.mem_append_left _ (List.mem_of_getElem? (l := gT_1) (i := 6) rfl))
theorem m_67 : Cond.instanceMethod y_Desk_init ∈ gT := List.mem_append_right _ (List.mem_append_left _ (List.mem_of_getElem? (l := gT_1) (i := 7) rfl))
theorem m_68 : Cond.code y_Desk_init prog_1_method_1_code 1 none ∈ gT := List.mem_append_right _ (List.mem_append_left _ (List.mem_of_getElem? (l := gT_1) (i := 8) rfl))
theorem m_69 : Cond.methodLink "DecimalDesk" 1 objectInit ∈ gT := List.mem_append_right _ (List.mem_append_left _ (List.mem_of_getElem? (l := gT_1) (i := 9) rfl))
theorem m_70 : Cond.instanceMethod objectInit ∈ gT := List.mem_append_right _ (List.mem_append_left _ (List.mem_of_getElem? (l := gT_1) (i := 10) rfl))
theorem m_71 : Cond.code objectInit object_method_1_code 1 none ∈ gT := List.mem_append_right _ (List.mem_append_left _ (List.mem_of_getElem? (l := gT_1) (i := 11) rfl))
theorem m_72 : Cond.classLink "DecimalDesk" 7 "DecimalDesk$Layout" ∈ gT := List.mem_append_right _ (List.mem_append_left _ (List.mem_of_getElem? (l := gT_1) (i := 12) rfl))
theorem m_73 : Cond.instantiable "DecimalDesk$Layout" 2 ∈ gT := List.mem_append_right _ (List.mem_append_left _ (List.mem_of_getElem? (l := gT_1) (i := 13) rfl))
theorem m_74 : Cond.methodLink "DecimalDesk" 9 y_Layout_init ∈ gT := List.mem_append_right _ (List.mem_append_left _ (List.mem_of_getElem? (l := gT_1) (i := 14) rfl))
theorem m_75 : Cond.instanceMethod y_Layout_init ∈ gT := List.mem_append_right _ (List.mem_append_left _ (List.mem_of_getElem? (l := gT_1) (i := 15) rfl))
theorem m_76 : Cond.code y_Layout_init prog_3_method_1_code 1 none ∈ gT := List.mem_append_right _ (List.mem_append_left _ (List.mem_of_getElem? (l := gT_1) (i := 16) rfl))
theorem m_77 : Cond.methodLink "DecimalDesk$Layout" 1 objectInit ∈ gT := List.mem_append_right _ (List.mem_append_left _ (List.mem_of_getElem? (l := gT_1) (i := 17) rfl))
theorem m_78 : Cond.fieldLink "DecimalDesk$Layout" 7 "DecimalDesk$Layout" "expBits" "I" ∈ gT := List.mem_append_right _ (List.mem_append_left _ (List.mem_of_getElem? (l := gT_1) (i := 18) rfl))
theorem m_79 : Cond.fieldLink "DecimalDesk$Layout" 13 "DecimalDesk$Layout" "fracBits" "I" ∈ gT := List.mem_append_right _ (List.mem_append_left _ (List.mem_of_getElem? (l := gT_1) (i := 19) rfl))
theorem m_80 : Cond.lays "DecimalDesk$Layout" "DecimalDesk$Layout" "expBits" "I" ∈ gT := List.mem_append_right _ (List.mem_append_left _ (List.mem_of_getElem? (l := gT_1) (i := 20) rfl))
theorem m_81 : Cond.lays "DecimalDesk$Layout" "DecimalDesk$Layout" "fracBits" "I" ∈ gT := List.mem_append_right _ (List.mem_append_left _ (List.mem_of_getElem? (l := gT_1) (i := 21) rfl))
theorem m_82 : Cond.classLink "DecimalDesk" 16 "DecimalDesk$Tape" ∈ gT := List.mem_append_right _ (List.mem_append_left _ (List.mem_of_getElem? (l := gT_1) (i := 22) rfl))
theorem m_83 : Cond.instantiable "DecimalDesk$Tape" 2 ∈ gT := List.mem_append_right _ (List.mem_append_left _ (List.mem_of_getElem? (l := gT_1) (i := 23) rfl))
theorem m_84 : Cond.methodLink "DecimalDesk" 18 y_Tape_init ∈ gT := List.mem_append_right _ (List.mem_append_left _ (List.mem_of_getElem? (l := gT_1) (i := 24) rfl))
theorem m_85 : Cond.instanceMethod y_Tape_init ∈ gT := List.mem_append_right _ (List.mem_append_left _ (List.mem_of_getElem? (l := gT_1) (i := 25) rfl))
theorem m_86 : Cond.code y_Tape_init prog_7_method_1_code 1 none ∈ gT := List.mem_append_right _ (List.mem_append_left _ (List.mem_of_getElem? (l := gT_1) (i := 26) rfl))
theorem m_87 : Cond.methodLink "DecimalDesk$Tape" 1 objectInit ∈ gT := List.mem_append_right _ (List.mem_append_left _ (List.mem_of_getElem? (l := gT_1) (i := 27) rfl))
theorem m_88 : Cond.fieldLink "DecimalDesk$Tape" 9 "DecimalDesk$Tape" "bytes" "[B" ∈ gT := List.mem_append_right _ (List.mem_append_left _ (List.mem_of_getElem? (l := gT_1) (i := 28) rfl))
theorem m_89 : Cond.fieldLink "DecimalDesk$Tape" 13 "DecimalDesk$Tape" "length" "I" ∈ gT := List.mem_append_right _ (List.mem_append_left _ (List.mem_of_getElem? (l := gT_1) (i := 29) rfl))
theorem m_90 : Cond.laysFinal "DecimalDesk$Tape" "DecimalDesk$Tape" "bytes" "[B" ∈ gT := List.mem_append_right _ (List.mem_append_left _ (List.mem_of_getElem? (l := gT_1) (i := 30) rfl))
theorem m_91 : Cond.lays "DecimalDesk$Tape" "DecimalDesk$Tape" "length" "I" ∈ gT := List.mem_append_right _ (List.mem_append_left _ (List.mem_of_getElem? (l := gT_1) (i := 31) rfl))
theorem m_92 : Cond.arrayClass .byte ∈ gT := List.mem_append_right _ (List.mem_append_left _ (List.mem_of_getElem? (l := gT_1) (i := 32) rfl))
theorem m_93 : Cond.classLink "DecimalDesk" 23 "DecimalDesk$Decimal" ∈ gT := List.mem_append_right _ (List.mem_append_left _ (List.mem_of_getElem? (l := gT_1) (i := 33) rfl))
theorem m_94 : Cond.instantiable "DecimalDesk$Decimal" 3 ∈ gT := List.mem_append_right _ (List.mem_append_left _ (List.mem_of_getElem? (l := gT_1) (i := 34) rfl))
theorem m_95 : Cond.methodLink "DecimalDesk" 25 y_Decimal_init ∈ gT := List.mem_append_right _ (List.mem_append_left _ (List.mem_of_getElem? (l := gT_1) (i := 35) rfl))
theorem m_96 : Cond.instanceMethod y_Decimal_init ∈ gT := List.mem_append_right _ (List.mem_append_left _ (List.mem_of_getElem? (l := gT_1) (i := 36) rfl))
theorem m_97 : Cond.code y_Decimal_init prog_2_method_1_code 1 none ∈ gT := List.mem_append_right _ (List.mem_append_left _ (List.mem_of_getElem? (l := gT_1) (i := 37) rfl))
theorem m_98 : Cond.methodLink "DecimalDesk$Decimal" 1 objectInit ∈ gT := List.mem_append_right _ (List.mem_append_left _ (List.mem_of_getElem? (l := gT_1) (i := 38) rfl))
theorem m_99 : Cond.classLink "DecimalDesk$Decimal" 7 "DecimalDesk$Natural" ∈ gT := List.mem_append_right _ (List.mem_append_left _ (List.mem_of_getElem? (l := gT_1) (i := 39) rfl))
theorem m_100 : Cond.instantiable "DecimalDesk$Natural" 1 ∈ gT := List.mem_append_right _ (List.mem_append_left _ (List.mem_of_getElem? (l := gT_1) (i := 40) rfl))
theorem m_101 : Cond.methodLink "DecimalDesk$Decimal" 9 y_Natural_init ∈ gT := List.mem_append_right _ (List.mem_append_left _ (List.mem_of_getElem? (l := gT_1) (i := 41) rfl))
theorem m_102 : Cond.instanceMethod y_Natural_init ∈ gT := List.mem_append_right _ (List.mem_append_left _ (List.mem_of_getElem? (l := gT_1) (i := 42) rfl))
theorem m_103 : Cond.code y_Natural_init prog_4_method_1_code 1 none ∈ gT := List.mem_append_right _ (List.mem_append_left _ (List.mem_of_getElem? (l := gT_1) (i := 43) rfl))
theorem m_104 : Cond.methodLink "DecimalDesk$Natural" 1 objectInit ∈ gT := List.mem_append_right _ (List.mem_append_left _ (List.mem_of_getElem? (l := gT_1) (i := 44) rfl))
theorem m_105 : Cond.fieldLink "DecimalDesk$Natural" 9 "DecimalDesk$Natural" "limbs" "[I" ∈ gT := List.mem_append_right _ (List.mem_append_left _ (List.mem_of_getElem? (l := gT_1) (i := 45) rfl))
theorem m_106 : Cond.laysFinal "DecimalDesk$Natural" "DecimalDesk$Natural" "limbs" "[I" ∈ gT := List.mem_append_right _ (List.mem_append_left _ (List.mem_of_getElem? (l := gT_1) (i := 46) rfl))
theorem m_107 : Cond.arrayClass .int ∈ gT := List.mem_append_right _ (List.mem_append_left _ (List.mem_of_getElem? (l := gT_1) (i := 47) rfl))
theorem m_108 : Cond.fieldLink "DecimalDesk$Decimal" 10 "DecimalDesk$Decimal" "digits" "LDecimalDesk$Natural;" ∈ gT := List.mem_append_right _ (List.mem_append_left _ (List.mem_of_getElem? (l := gT_1) (i := 48) rfl))
theorem m_109 : Cond.fieldLink "DecimalDesk$Decimal" 16 "DecimalDesk$Decimal" "negative" "Z" ∈ gT := List.mem_append_right _ (List.mem_append_left _ (List.mem_of_getElem? (l := gT_1) (i := 49) rfl))
theorem m_110 : Cond.fieldLink "DecimalDesk$Decimal" 20 "DecimalDesk$Decimal" "exponent" "I" ∈ gT := List.mem_append_right _ (List.mem_append_left _ (List.mem_of_getElem? (l := gT_1) (i := 50) rfl))
theorem m_111 : Cond.laysFinal "DecimalDesk$Decimal" "DecimalDesk$Decimal" "digits" "LDecimalDesk$Natural;" ∈ gT := List.mem_append_right _ (List.mem_append_left _ (List.mem_of_getElem? (l := gT_1) (i := 51) rfl))
theorem m_112 : Cond.lays "DecimalDesk$Decimal" "DecimalDesk$Decimal" "negative" "Z" ∈ gT := List.mem_append_right _ (List.mem_append_left _ (List.mem_of_getElem? (l := gT_1) (i := 52) rfl))
theorem m_113 : Cond.lays "DecimalDesk$Decimal" "DecimalDesk$Decimal" "exponent" "I" ∈ gT := List.mem_append_right _ (List.mem_append_left _ (List.mem_of_getElem? (l := gT_1) (i := 53) rfl))
theorem m_114 : Cond.classLink "DecimalDesk" 30 "DecimalDesk$Rounder" ∈ gT := List.mem_append_right _ (List.mem_append_left _ (List.mem_of_getElem? (l := gT_1) (i := 54) rfl))
theorem m_115 : Cond.instantiable "DecimalDesk$Rounder" 5 ∈ gT := List.mem_append_right _ (List.mem_append_left _ (List.mem_of_getElem? (l := gT_1) (i := 55) rfl))
theorem m_116 : Cond.methodLink "DecimalDesk" 32 y_Rounder_init ∈ gT := List.mem_append_right _ (List.mem_append_left _ (List.mem_of_getElem? (l := gT_1) (i := 56) rfl))
theorem m_117 : Cond.instanceMethod y_Rounder_init ∈ gT := List.mem_append_right _ (List.mem_append_left _ (List.mem_of_getElem? (l := gT_1) (i := 57) rfl))
theorem m_118 : Cond.code y_Rounder_init prog_5_method_1_code 1 none ∈ gT := List.mem_append_right _ (List.mem_append_left _ (List.mem_of_getElem? (l := gT_1) (i := 58) rfl))
theorem m_119 : Cond.methodLink "DecimalDesk$Rounder" 3 objectInit ∈ gT := List.mem_append_right _ (List.mem_append_left _ (List.mem_of_getElem? (l := gT_1) (i := 59) rfl))
theorem m_120 : Cond.classLink "DecimalDesk$Rounder" 9 "DecimalDesk$Natural" ∈ gT := List.mem_append_right _ (List.mem_append_right _ (List.mem_append_left _ (List.mem_of_getElem? (l := gT_2) (i := 0) rfl)))
theorem m_121 : Cond.methodLink "DecimalDesk$Rounder" 11 y_Natural_init ∈ gT := List.mem_append_right _ (List.mem_append_right _ (List.mem_append_left _ (List.mem_of_getElem? (l := gT_2) (i := 1) rfl)))
theorem m_122 : Cond.fieldLink "DecimalDesk$Rounder" 12 "DecimalDesk$Rounder" "top" "LDecimalDesk$Natural;" ∈ gT := List.mem_append_right _ (List.mem_append_right _ (List.mem_append_left _ (List.mem_of_getElem? (l := gT_2) (i := 2) rfl)))
theorem m_123 : Cond.fieldLink "DecimalDesk$Rounder" 18 "DecimalDesk$Rounder" "bottom" "LDecimalDesk$Natural;" ∈ gT := List.mem_append_right _ (List.mem_append_right _ (List.mem_append_left _ (List.mem_of_getElem? (l := gT_2) (i := 3) rfl)))
theorem m_124 : Cond.fieldLink "DecimalDesk$Rounder" 21 "DecimalDesk$Rounder" "size" "J" ∈ gT := List.mem_append_right _ (List.mem_append_right _ (List.mem_append_left _ (List.mem_of_getElem? (l := gT_2) (i := 4) rfl)))
theorem m_125 : Cond.fieldLink "DecimalDesk$Rounder" 25 "DecimalDesk$Rounder" "inexact" "Z" ∈ gT := List.mem_append_right _ (List.mem_append_right _ (List.mem_append_left _ (List.mem_of_getElem? (l := gT_2) (i := 5) rfl)))
theorem m_126 : Cond.fieldLink "DecimalDesk$Rounder" 29 "DecimalDesk$Rounder" "tiny" "Z" ∈ gT := List.mem_append_right _ (List.mem_append_right _ (List.mem_append_left _ (List.mem_of_getElem? (l := gT_2) (i := 6) rfl)))
theorem m_127 : Cond.laysFinal "DecimalDesk$Rounder" "DecimalDesk$Rounder" "top" "LDecimalDesk$Natural;" ∈ gT := List.mem_append_right _ (List.mem_append_right _ (List.mem_append_left _ (List.mem_of_getElem? (l := gT_2) (i := 7) rfl)))
theorem m_128 : Cond.laysFinal "DecimalDesk$Rounder" "DecimalDesk$Rounder" "bottom" "LDecimalDesk$Natural;" ∈ gT := List.mem_append_right _ (List.mem_append_right _ (List.mem_append_left _ (List.mem_of_getElem? (l := gT_2) (i := 8) rfl)))
theorem m_129 : Cond.lays "DecimalDesk$Rounder" "DecimalDesk$Rounder" "size" "J" ∈ gT := List.mem_append_right _ (List.mem_append_right _ (List.mem_append_left _ (List.mem_of_getElem? (l := gT_2) (i := 9) rfl)))
theorem m_130 : Cond.lays "DecimalDesk$Rounder" "DecimalDesk$Rounder" "inexact" "Z" ∈ gT := List.mem_append_right _ (List.mem_append_right _ (List.mem_append_left _ (List.mem_of_getElem? (l := gT_2) (i := 10) rfl)))
theorem m_131 : Cond.lays "DecimalDesk$Rounder" "DecimalDesk$Rounder" "tiny" "Z" ∈ gT := List.mem_append_right _ (List.mem_append_right _ (List.mem_append_left _ (List.mem_of_getElem? (l := gT_2) (i := 11) rfl)))
theorem m_132 : Cond.classLink "DecimalDesk" 37 "DecimalDesk$ShortestFinder" ∈ gT := List.mem_append_right _ (List.mem_append_right _ (List.mem_append_left _ (List.mem_of_getElem? (l := gT_2) (i := 12) rfl)))
theorem m_133 : Cond.instantiable "DecimalDesk$ShortestFinder" 9 ∈ gT := List.mem_append_right _ (List.mem_append_right _ (List.mem_append_left _ (List.mem_of_getElem? (l := gT_2) (i := 13) rfl)))
theorem m_134 : Cond.methodLink "DecimalDesk" 39 y_Finder_init ∈ gT := List.mem_append_right _ (List.mem_append_right _ (List.mem_append_left _ (List.mem_of_getElem? (l := gT_2) (i := 14) rfl)))
theorem m_135 : Cond.instanceMethod y_Finder_init ∈ gT := List.mem_append_right _ (List.mem_append_right _ (List.mem_append_left _ (List.mem_of_getElem? (l := gT_2) (i := 15) rfl)))
theorem m_136 : Cond.code y_Finder_init prog_6_method_1_code 1 none ∈ gT := List.mem_append_right _ (List.mem_append_right _ (List.mem_append_left _ (List.mem_of_getElem? (l := gT_2) (i := 16) rfl)))
theorem m_137 : Cond.methodLink "DecimalDesk$ShortestFinder" 1 objectInit ∈ gT := List.mem_append_right _ (List.mem_append_right _ (List.mem_append_left _ (List.mem_of_getElem? (l := gT_2) (i := 17) rfl)))
theorem m_138 : Cond.classLink "DecimalDesk$ShortestFinder" 7 "DecimalDesk$Natural" ∈ gT := List.mem_append_right _ (List.mem_append_right _ (List.mem_append_left _ (List.mem_of_getElem? (l := gT_2) (i := 18) rfl)))
theorem m_139 : Cond.methodLink "DecimalDesk$ShortestFinder" 9 y_Natural_init ∈ gT := List.mem_append_right _ (List.mem_append_right _ (List.mem_append_left _ (List.mem_of_getElem? (l := gT_2) (i := 19) rfl)))
theorem m_140 : Cond.fieldLink "DecimalDesk$ShortestFinder" 10 "DecimalDesk$ShortestFinder" "rest" "LDecimalDesk$Natural;" ∈ gT := List.mem_append_right _ (List.mem_append_right _ (List.mem_append_left _ (List.mem_of_getElem? (l := gT_2) (i := 20) rfl)))
theorem m_141 : Cond.fieldLink "DecimalDesk$ShortestFinder" 16 "DecimalDesk$ShortestFinder" "unit" "LDecimalDesk$Natural;" ∈ gT := List.mem_append_right _ (List.mem_append_right _ (List.mem_append_left _ (List.mem_of_getElem? (l := gT_2) (i := 21) rfl)))
theorem m_142 : Cond.fieldLink "DecimalDesk$ShortestFinder" 19 "DecimalDesk$ShortestFinder" "reachBelow" "LDecimalDesk$Natural;" ∈ gT := List.mem_append_right _ (List.mem_append_right _ (List.mem_append_left _ (List.mem_of_getElem? (l := gT_2) (i := 22) rfl)))
theorem m_143 : Cond.fieldLink "DecimalDesk$ShortestFinder" 22 "DecimalDesk$ShortestFinder" "reachAbove" "LDecimalDesk$Natural;" ∈ gT := List.mem_append_right _ (List.mem_append_right _ (List.mem_append_left _ (List.mem_of_getElem? (l := gT_2) (i := 23) rfl)))
theorem m_144 : Cond.fieldLink "DecimalDesk$ShortestFinder" 25 "DecimalDesk$ShortestFinder" "sum" "LDecimalDesk$Natural;" ∈ gT := List.mem_append_right _ (List.mem_append_right _ (List.mem_append_left _ (List.mem_of_getElem? (l := gT_2) (i := 24) rfl)))
theorem m_145 : Cond.fieldLink "DecimalDesk$ShortestFinder" 28 "DecimalDesk$ShortestFinder" "endsBelong" "Z" ∈ gT := List.mem_append_right _ (List.mem_append_right _ (List.mem_append_left _ (List.mem_of_getElem? (l := gT_2) (i := 25) rfl)))
theorem m_146 : Cond.fieldLink "DecimalDesk$ShortestFinder" 32 "DecimalDesk$ShortestFinder" "digits" "J" ∈ gT := List.mem_append_right _ (List.mem_append_right _ (List.mem_append_left _ (List.mem_of_getElem? (l := gT_2) (i := 26) rfl)))
theorem m_147 : Cond.fieldLink "DecimalDesk$ShortestFinder" 36 "DecimalDesk$ShortestFinder" "count" "I" ∈ gT := List.mem_append_right _ (List.mem_append_right _ (List.mem_append_left _ (List.mem_of_getElem? (l := gT_2) (i := 27) rfl)))
theorem m_148 : Cond.fieldLink "DecimalDesk$ShortestFinder" 40 "DecimalDesk$ShortestFinder" "power" "I" ∈ gT := List.mem_append_right _ (List.mem_append_right _ (List.mem_append_left _ (List.mem_of_getElem? (l := gT_2) (i := 28) rfl)))
theorem m_149 : Cond.laysFinal "DecimalDesk$ShortestFinder" "DecimalDesk$ShortestFinder" "rest" "LDecimalDesk$Natural;" ∈ gT := List.mem_append_right _ (List.mem_append_right _ (List.mem_append_left _ (List.mem_of_getElem? (l := gT_2) (i := 29) rfl)))
theorem m_150 : Cond.laysFinal "DecimalDesk$ShortestFinder" "DecimalDesk$ShortestFinder" "unit" "LDecimalDesk$Natural;" ∈ gT := List.mem_append_right _ (List.mem_append_right _ (List.mem_append_left _ (List.mem_of_getElem? (l := gT_2) (i := 30) rfl)))
theorem m_151 : Cond.laysFinal "DecimalDesk$ShortestFinder" "DecimalDesk$ShortestFinder" "reachBelow" "LDecimalDesk$Natural;" ∈ gT := List.mem_append_right _ (List.mem_append_right _ (List.mem_append_left _ (List.mem_of_getElem? (l := gT_2) (i := 31) rfl)))
theorem m_152 : Cond.laysFinal "DecimalDesk$ShortestFinder" "DecimalDesk$ShortestFinder" "reachAbove" "LDecimalDesk$Natural;" ∈ gT := List.mem_append_right _ (List.mem_append_right _ (List.mem_append_left _ (List.mem_of_getElem? (l := gT_2) (i := 32) rfl)))
theorem m_153 : Cond.laysFinal "DecimalDesk$ShortestFinder" "DecimalDesk$ShortestFinder" "sum" "LDecimalDesk$Natural;" ∈ gT := List.mem_append_right _ (List.mem_append_right _ (List.mem_append_left _ (List.mem_of_getElem? (l := gT_2) (i := 33) rfl)))
theorem m_154 : Cond.lays "DecimalDesk$ShortestFinder" "DecimalDesk$ShortestFinder" "endsBelong" "Z" ∈ gT := List.mem_append_right _ (List.mem_append_right _ (List.mem_append_left _ (List.mem_of_getElem? (l := gT_2) (i := 34) rfl)))
theorem m_155 : Cond.lays "DecimalDesk$ShortestFinder" "DecimalDesk$ShortestFinder" "digits" "J" ∈ gT := List.mem_append_right _ (List.mem_append_right _ (List.mem_append_left _ (List.mem_of_getElem? (l := gT_2) (i := 35) rfl)))
theorem m_156 : Cond.lays "DecimalDesk$ShortestFinder" "DecimalDesk$ShortestFinder" "count" "I" ∈ gT := List.mem_append_right _ (List.mem_append_right _ (List.mem_append_left _ (List.mem_of_getElem? (l := gT_2) (i := 36) rfl)))
theorem m_157 : Cond.lays "DecimalDesk$ShortestFinder" "DecimalDesk$ShortestFinder" "power" "I" ∈ gT := List.mem_append_right _ (List.mem_append_right _ (List.mem_append_left _ (List.mem_of_getElem? (l := gT_2) (i := 37) rfl)))
theorem m_158 : Cond.classLink "DecimalDesk" 44 "DecimalDesk$Natural" ∈ gT := List.mem_append_right _ (List.mem_append_right _ (List.mem_append_left _ (List.mem_of_getElem? (l := gT_2) (i := 38) rfl)))
theorem m_159 : Cond.methodLink "DecimalDesk" 46 y_Natural_init ∈ gT := List.mem_append_right _ (List.mem_append_right _ (List.mem_append_left _ (List.mem_of_getElem? (l := gT_2) (i := 39) rfl)))
theorem m_160 : Cond.classLink "DecimalDesk" 51 "DecimalDesk$Told" ∈ gT := List.mem_append_right _ (List.mem_append_right _ (List.mem_append_left _ (List.mem_of_getElem? (l := gT_2) (i := 40) rfl)))
theorem m_161 : Cond.instantiable "DecimalDesk$Told" 3 ∈ gT := List.mem_append_right _ (List.mem_append_right _ (List.mem_append_left _ (List.mem_of_getElem? (l := gT_2) (i := 41) rfl)))
theorem m_162 : Cond.methodLink "DecimalDesk" 53 y_Told_init ∈ gT := List.mem_append_right _ (List.mem_append_right _ (List.mem_append_left _ (List.mem_of_getElem? (l := gT_2) (i := 42) rfl)))
theorem m_163 : Cond.instanceMethod y_Told_init ∈ gT := List.mem_append_right _ (List.mem_append_right _ (List.mem_append_left _ (List.mem_of_getElem? (l := gT_2) (i := 43) rfl)))
theorem m_164 : Cond.code y_Told_init prog_8_method_1_code 1 none ∈ gT := List.mem_append_right _ (List.mem_append_right _ (List.mem_append_left _ (List.mem_of_getElem? (l := gT_2) (i := 44) rfl)))
theorem m_165 : Cond.methodLink "DecimalDesk$Told" 1 objectInit ∈ gT := List.mem_append_right _ (List.mem_append_right _ (List.mem_append_left _ (List.mem_of_getElem? (l := gT_2) (i := 45) rfl)))
theorem m_166 : Cond.fieldLink "DecimalDesk$Told" 9 "DecimalDesk$Told" "letters" "[B" ∈ gT := List.mem_append_right _ (List.mem_append_right _ (List.mem_append_left _ (List.mem_of_getElem? (l := gT_2) (i := 46) rfl)))
theorem m_167 : Cond.fieldLink "DecimalDesk$Told" 13 "DecimalDesk$Told" "reversed" "[B" ∈ gT := List.mem_append_right _ (List.mem_append_right _ (List.mem_append_left _ (List.mem_of_getElem? (l := gT_2) (i := 47) rfl)))
theorem m_168 : Cond.fieldLink "DecimalDesk$Told" 16 "DecimalDesk$Told" "length" "I" ∈ gT := List.mem_append_right _ (List.mem_append_right _ (List.mem_append_left _ (List.mem_of_getElem? (l := gT_2) (i := 48) rfl)))
theorem m_169 : Cond.laysFinal "DecimalDesk$Told" "DecimalDesk$Told" "letters" "[B" ∈ gT := List.mem_append_right _ (List.mem_append_right _ (List.mem_append_left _ (List.mem_of_getElem? (l := gT_2) (i := 49) rfl)))
theorem m_170 : Cond.laysFinal "DecimalDesk$Told" "DecimalDesk$Told" "reversed" "[B" ∈ gT := List.mem_append_right _ (List.mem_append_right _ (List.mem_append_left _ (List.mem_of_getElem? (l := gT_2) (i := 50) rfl)))
theorem m_171 : Cond.lays "DecimalDesk$Told" "DecimalDesk$Told" "length" "I" ∈ gT := List.mem_append_right _ (List.mem_append_right _ (List.mem_append_left _ (List.mem_of_getElem? (l := gT_2) (i := 51) rfl)))
theorem m_172 : Cond.fieldLink "DecimalDesk" 10 "DecimalDesk" "layout" "LDecimalDesk$Layout;" ∈ gT := List.mem_append_right _ (List.mem_append_right _ (List.mem_append_left _ (List.mem_of_getElem? (l := gT_2) (i := 52) rfl)))
theorem m_173 : Cond.fieldLink "DecimalDesk" 19 "DecimalDesk" "tape" "LDecimalDesk$Tape;" ∈ gT := List.mem_append_right _ (List.mem_append_right _ (List.mem_append_left _ (List.mem_of_getElem? (l := gT_2) (i := 53) rfl)))
theorem m_174 : Cond.fieldLink "DecimalDesk" 26 "DecimalDesk" "decimal" "LDecimalDesk$Decimal;" ∈ gT := List.mem_append_right _ (List.mem_append_right _ (List.mem_append_left _ (List.mem_of_getElem? (l := gT_2) (i := 54) rfl)))
theorem m_175 : Cond.fieldLink "DecimalDesk" 33 "DecimalDesk" "rounder" "LDecimalDesk$Rounder;" ∈ gT := List.mem_append_right _ (List.mem_append_right _ (List.mem_append_left _ (List.mem_of_getElem? (l := gT_2) (i := 55) rfl)))
theorem m_176 : Cond.fieldLink "DecimalDesk" 40 "DecimalDesk" "finder" "LDecimalDesk$ShortestFinder;" ∈ gT := List.mem_append_right _ (List.mem_append_right _ (List.mem_append_left _ (List.mem_of_getElem? (l := gT_2) (i := 56) rfl)))
theorem m_177 : Cond.fieldLink "DecimalDesk" 47 "DecimalDesk" "digits" "LDecimalDesk$Natural;" ∈ gT := List.mem_append_right _ (List.mem_append_right _ (List.mem_append_left _ (List.mem_of_getElem? (l := gT_2) (i := 57) rfl)))
theorem m_178 : Cond.fieldLink "DecimalDesk" 54 "DecimalDesk" "told" "LDecimalDesk$Told;" ∈ gT := List.mem_append_right _ (List.mem_append_right _ (List.mem_append_left _ (List.mem_of_getElem? (l := gT_2) (i := 58) rfl)))
theorem m_179 : Cond.fieldLink "DecimalDesk" 58 "DecimalDesk" "mode" "I" ∈ gT := List.mem_append_right _ (List.mem_append_right _ (List.mem_append_left _ (List.mem_of_getElem? (l := gT_2) (i := 59) rfl)))
theorem m_180 : Cond.fieldLink "DecimalDesk" 62 "DecimalDesk" "flags" "I" ∈ gT := List.mem_append_right _ (List.mem_append_right _ (List.mem_append_right _ (List.mem_append_left _ (List.mem_of_getElem? (l := gT_3) (i := 0) rfl))))
theorem m_181 : Cond.laysFinal "DecimalDesk" "DecimalDesk" "layout" "LDecimalDesk$Layout;" ∈ gT := List.mem_append_right _ (List.mem_append_right _ (List.mem_append_right _ (List.mem_append_left _ (List.mem_of_getElem? (l := gT_3) (i := 1) rfl))))
theorem m_182 : Cond.laysFinal "DecimalDesk" "DecimalDesk" "tape" "LDecimalDesk$Tape;" ∈ gT := List.mem_append_right _ (List.mem_append_right _ (List.mem_append_right _ (List.mem_append_left _ (List.mem_of_getElem? (l := gT_3) (i := 2) rfl))))
theorem m_183 : Cond.laysFinal "DecimalDesk" "DecimalDesk" "decimal" "LDecimalDesk$Decimal;" ∈ gT := List.mem_append_right _ (List.mem_append_right _ (List.mem_append_right _ (List.mem_append_left _ (List.mem_of_getElem? (l := gT_3) (i := 3) rfl))))
theorem m_184 : Cond.laysFinal "DecimalDesk" "DecimalDesk" "rounder" "LDecimalDesk$Rounder;" ∈ gT := List.mem_append_right _ (List.mem_append_right _ (List.mem_append_right _ (List.mem_append_left _ (List.mem_of_getElem? (l := gT_3) (i := 4) rfl))))
theorem m_185 : Cond.laysFinal "DecimalDesk" "DecimalDesk" "finder" "LDecimalDesk$ShortestFinder;" ∈ gT := List.mem_append_right _ (List.mem_append_right _ (List.mem_append_right _ (List.mem_append_left _ (List.mem_of_getElem? (l := gT_3) (i := 5) rfl))))
theorem m_186 : Cond.laysFinal "DecimalDesk" "DecimalDesk" "digits" "LDecimalDesk$Natural;" ∈ gT := List.mem_append_right _ (List.mem_append_right _ (List.mem_append_right _ (List.mem_append_left _ (List.mem_of_getElem? (l := gT_3) (i := 6) rfl))))
theorem m_187 : Cond.laysFinal "DecimalDesk" "DecimalDesk" "told" "LDecimalDesk$Told;" ∈ gT := List.mem_append_right _ (List.mem_append_right _ (List.mem_append_right _ (List.mem_append_left _ (List.mem_of_getElem? (l := gT_3) (i := 7) rfl))))
theorem m_188 : Cond.lays "DecimalDesk" "DecimalDesk" "mode" "I" ∈ gT := List.mem_append_right _ (List.mem_append_right _ (List.mem_append_right _ (List.mem_append_left _ (List.mem_of_getElem? (l := gT_3) (i := 8) rfl))))
theorem m_189 : Cond.lays "DecimalDesk" "DecimalDesk" "flags" "I" ∈ gT := List.mem_append_right _ (List.mem_append_right _ (List.mem_append_right _ (List.mem_append_left _ (List.mem_of_getElem? (l := gT_3) (i := 9) rfl))))
theorem m_190 : Cond.methodLink "DecimalDeskLaw" 32 y_Desk_format ∈ gT := List.mem_append_right _ (List.mem_append_right _ (List.mem_append_right _ (List.mem_append_left _ (List.mem_of_getElem? (l := gT_3) (i := 10) rfl))))
theorem m_191 : Cond.instanceMethod y_Desk_format ∈ gT := List.mem_append_right _ (List.mem_append_right _ (List.mem_append_right _ (List.mem_append_left _ (List.mem_of_getElem? (l := gT_3) (i := 11) rfl))))
theorem m_192 : Cond.selects "DecimalDesk" y_Desk_format y_Desk_format ∈ gT := List.mem_append_right _ (List.mem_append_right _ (List.mem_append_right _ (List.mem_append_left _ (List.mem_of_getElem? (l := gT_3) (i := 12) rfl))))
theorem m_193 : Cond.code y_Desk_format prog_1_method_2_code 3 (some .boolean) ∈ gT := List.mem_append_right _ (List.mem_append_right _ (List.mem_append_right _ (List.mem_append_left _ (List.mem_of_getElem? (l := gT_3) (i := 13) rfl))))
theorem m_194 : Cond.methodLink "DecimalDeskLaw" 37 y_Desk_mode ∈ gT := List.mem_append_right _ (List.mem_append_right _ (List.mem_append_right _ (List.mem_append_left _ (List.mem_of_getElem? (l := gT_3) (i := 14) rfl))))
theorem m_195 : Cond.instanceMethod y_Desk_mode ∈ gT := List.mem_append_right _ (List.mem_append_right _ (List.mem_append_right _ (List.mem_append_left _ (List.mem_of_getElem? (l := gT_3) (i := 15) rfl))))
theorem m_196 : Cond.selects "DecimalDesk" y_Desk_mode y_Desk_mode ∈ gT := List.mem_append_right _ (List.mem_append_right _ (List.mem_append_right _ (List.mem_append_left _ (List.mem_of_getElem? (l := gT_3) (i := 16) rfl))))
theorem m_197 : Cond.code y_Desk_mode prog_1_method_3_code 2 (some .boolean) ∈ gT := List.mem_append_right _ (List.mem_append_right _ (List.mem_append_right _ (List.mem_append_left _ (List.mem_of_getElem? (l := gT_3) (i := 17) rfl))))
theorem m_198 : Cond.methodLink "DecimalDeskLaw" 44 y_Desk_type ∈ gT := List.mem_append_right _ (List.mem_append_right _ (List.mem_append_right _ (List.mem_append_left _ (List.mem_of_getElem? (l := gT_3) (i := 18) rfl))))
theorem m_199 : Cond.instanceMethod y_Desk_type ∈ gT := List.mem_append_right _ (List.mem_append_right _ (List.mem_append_right _ (List.mem_append_left _ (List.mem_of_getElem? (l := gT_3) (i := 19) rfl))))
theorem m_200 : Cond.selects "DecimalDesk" y_Desk_type y_Desk_type ∈ gT := List.mem_append_right _ (List.mem_append_right _ (List.mem_append_right _ (List.mem_append_left _ (List.mem_of_getElem? (l := gT_3) (i := 20) rfl))))
theorem m_201 : Cond.code y_Desk_type prog_1_method_4_code 4 (some .boolean) ∈ gT := List.mem_append_right _ (List.mem_append_right _ (List.mem_append_right _ (List.mem_append_left _ (List.mem_of_getElem? (l := gT_3) (i := 21) rfl))))
theorem m_202 : Cond.methodLink "DecimalDesk" 71 y_Tape_put ∈ gT := List.mem_append_right _ (List.mem_append_right _ (List.mem_append_right _ (List.mem_append_left _ (List.mem_of_getElem? (l := gT_3) (i := 22) rfl))))
theorem m_203 : Cond.instanceMethod y_Tape_put ∈ gT := List.mem_append_right _ (List.mem_append_right _ (List.mem_append_right _ (List.mem_append_left _ (List.mem_of_getElem? (l := gT_3) (i := 23) rfl))))
theorem m_204 : Cond.selects "DecimalDesk$Tape" y_Tape_put y_Tape_put ∈ gT := List.mem_append_right _ (List.mem_append_right _ (List.mem_append_right _ (List.mem_append_left _ (List.mem_of_getElem? (l := gT_3) (i := 24) rfl))))
theorem m_205 : Cond.code y_Tape_put prog_7_method_2_code 6 (some .boolean) ∈ gT := List.mem_append_right _ (List.mem_append_right _ (List.mem_append_right _ (List.mem_append_left _ (List.mem_of_getElem? (l := gT_3) (i := 25) rfl))))
theorem m_206 : Cond.methodLink "DecimalDesk$Tape" 17 y_Tape_byteOf ∈ gT := List.mem_append_right _ (List.mem_append_right _ (List.mem_append_right _ (List.mem_append_left _ (List.mem_of_getElem? (l := gT_3) (i := 26) rfl))))
theorem m_207 : Cond.static y_Tape_byteOf ∈ gT := List.mem_append_right _ (List.mem_append_right _ (List.mem_append_right _ (List.mem_append_left _ (List.mem_of_getElem? (l := gT_3) (i := 27) rfl))))
theorem m_208 : Cond.code y_Tape_byteOf prog_7_method_5_code 3 (some .int) ∈ gT := List.mem_append_right _ (List.mem_append_right _ (List.mem_append_right _ (List.mem_append_left _ (List.mem_of_getElem? (l := gT_3) (i := 28) rfl))))
theorem m_209 : Cond.methodLink "DecimalDeskLaw" 55 y_Desk_flags ∈ gT := List.mem_append_right _ (List.mem_append_right _ (List.mem_append_right _ (List.mem_append_left _ (List.mem_of_getElem? (l := gT_3) (i := 29) rfl))))
theorem m_210 : Cond.instanceMethod y_Desk_flags ∈ gT := List.mem_append_right _ (List.mem_append_right _ (List.mem_append_right _ (List.mem_append_left _ (List.mem_of_getElem? (l := gT_3) (i := 30) rfl))))
theorem m_211 : Cond.selects "DecimalDesk" y_Desk_flags y_Desk_flags ∈ gT := List.mem_append_right _ (List.mem_append_right _ (List.mem_append_right _ (List.mem_append_left _ (List.mem_of_getElem? (l := gT_3) (i := 31) rfl))))
theorem m_212 : Cond.code y_Desk_flags prog_1_method_6_code 1 (some .int) ∈ gT := List.mem_append_right _ (List.mem_append_right _ (List.mem_append_right _ (List.mem_append_left _ (List.mem_of_getElem? (l := gT_3) (i := 32) rfl))))
theorem m_213 : Cond.methodLink "DecimalDeskLaw" 60 y_Desk_clear ∈ gT := List.mem_append_right _ (List.mem_append_right _ (List.mem_append_right _ (List.mem_append_left _ (List.mem_of_getElem? (l := gT_3) (i := 33) rfl))))
theorem m_214 : Cond.instanceMethod y_Desk_clear ∈ gT := List.mem_append_right _ (List.mem_append_right _ (List.mem_append_right _ (List.mem_append_left _ (List.mem_of_getElem? (l := gT_3) (i := 34) rfl))))
theorem m_215 : Cond.selects "DecimalDesk" y_Desk_clear y_Desk_clear ∈ gT := List.mem_append_right _ (List.mem_append_right _ (List.mem_append_right _ (List.mem_append_left _ (List.mem_of_getElem? (l := gT_3) (i := 35) rfl))))
theorem m_216 : Cond.code y_Desk_clear prog_1_method_7_code 3 (some .int) ∈ gT := List.mem_append_right _ (List.mem_append_right _ (List.mem_append_right _ (List.mem_append_left _ (List.mem_of_getElem? (l := gT_3) (i := 36) rfl))))
theorem m_217 : Cond.methodLink "DecimalDeskLaw" 75 y_Desk_next ∈ gT := List.mem_append_right _ (List.mem_append_right _ (List.mem_append_right _ (List.mem_append_left _ (List.mem_of_getElem? (l := gT_3) (i := 37) rfl))))
theorem m_218 : Cond.instanceMethod y_Desk_next ∈ gT := List.mem_append_right _ (List.mem_append_right _ (List.mem_append_right _ (List.mem_append_left _ (List.mem_of_getElem? (l := gT_3) (i := 38) rfl))))
theorem m_219 : Cond.selects "DecimalDesk" y_Desk_next y_Desk_next ∈ gT := List.mem_append_right _ (List.mem_append_right _ (List.mem_append_right _ (List.mem_append_left _ (List.mem_of_getElem? (l := gT_3) (i := 39) rfl))))
theorem m_220 : Cond.code y_Desk_next prog_1_method_11_code 5 (some .long) ∈ gT := List.mem_append_right _ (List.mem_append_right _ (List.mem_append_right _ (List.mem_append_left _ (List.mem_of_getElem? (l := gT_3) (i := 40) rfl))))
theorem m_221 : Cond.methodLink "DecimalDesk" 116 y_Layout_holds ∈ gT := List.mem_append_right _ (List.mem_append_right _ (List.mem_append_right _ (List.mem_append_left _ (List.mem_of_getElem? (l := gT_3) (i := 41) rfl))))
theorem m_222 : Cond.instanceMethod y_Layout_holds ∈ gT := List.mem_append_right _ (List.mem_append_right _ (List.mem_append_right _ (List.mem_append_left _ (List.mem_of_getElem? (l := gT_3) (i := 42) rfl))))
theorem m_223 : Cond.selects "DecimalDesk$Layout" y_Layout_holds y_Layout_holds ∈ gT := List.mem_append_right _ (List.mem_append_right _ (List.mem_append_right _ (List.mem_append_left _ (List.mem_of_getElem? (l := gT_3) (i := 43) rfl))))
theorem m_224 : Cond.code y_Layout_holds prog_3_method_6_code 3 (some .boolean) ∈ gT := List.mem_append_right _ (List.mem_append_right _ (List.mem_append_right _ (List.mem_append_left _ (List.mem_of_getElem? (l := gT_3) (i := 44) rfl))))
theorem m_225 : Cond.constantLong "DecimalDesk$Layout" 20 2 ∈ gT := List.mem_append_right _ (List.mem_append_right _ (List.mem_append_right _ (List.mem_append_left _ (List.mem_of_getElem? (l := gT_3) (i := 45) rfl))))
theorem m_226 : Cond.methodLink "DecimalDesk$Layout" 22 y_Layout_signBit ∈ gT := List.mem_append_right _ (List.mem_append_right _ (List.mem_append_right _ (List.mem_append_left _ (List.mem_of_getElem? (l := gT_3) (i := 46) rfl))))
theorem m_227 : Cond.instanceMethod y_Layout_signBit ∈ gT := List.mem_append_right _ (List.mem_append_right _ (List.mem_append_right _ (List.mem_append_left _ (List.mem_of_getElem? (l := gT_3) (i := 47) rfl))))
theorem m_228 : Cond.selects "DecimalDesk$Layout" y_Layout_signBit y_Layout_signBit ∈ gT := List.mem_append_right _ (List.mem_append_right _ (List.mem_append_right _ (List.mem_append_left _ (List.mem_of_getElem? (l := gT_3) (i := 48) rfl))))
theorem m_229 : Cond.code y_Layout_signBit prog_3_method_4_code 1 (some .long) ∈ gT := List.mem_append_right _ (List.mem_append_right _ (List.mem_append_right _ (List.mem_append_left _ (List.mem_of_getElem? (l := gT_3) (i := 49) rfl))))
theorem m_230 : Cond.methodLink "DecimalDesk" 144 y_Layout_sizeOf ∈ gT := List.mem_append_right _ (List.mem_append_right _ (List.mem_append_right _ (List.mem_append_left _ (List.mem_of_getElem? (l := gT_3) (i := 50) rfl))))
theorem m_231 : Cond.instanceMethod y_Layout_sizeOf ∈ gT := List.mem_append_right _ (List.mem_append_right _ (List.mem_append_right _ (List.mem_append_left _ (List.mem_of_getElem? (l := gT_3) (i := 51) rfl))))
theorem m_232 : Cond.selects "DecimalDesk$Layout" y_Layout_sizeOf y_Layout_sizeOf ∈ gT := List.mem_append_right _ (List.mem_append_right _ (List.mem_append_right _ (List.mem_append_left _ (List.mem_of_getElem? (l := gT_3) (i := 52) rfl))))
theorem m_233 : Cond.code y_Layout_sizeOf prog_3_method_8_code 3 (some .long) ∈ gT := List.mem_append_right _ (List.mem_append_right _ (List.mem_append_right _ (List.mem_append_left _ (List.mem_of_getElem? (l := gT_3) (i := 53) rfl))))
theorem m_234 : Cond.methodLink "DecimalDesk" 97 y_Layout_infinity ∈ gT := List.mem_append_right _ (List.mem_append_right _ (List.mem_append_right _ (List.mem_append_left _ (List.mem_of_getElem? (l := gT_3) (i := 54) rfl))))
theorem m_235 : Cond.instanceMethod y_Layout_infinity ∈ gT := List.mem_append_right _ (List.mem_append_right _ (List.mem_append_right _ (List.mem_append_left _ (List.mem_of_getElem? (l := gT_3) (i := 55) rfl))))
theorem m_236 : Cond.selects "DecimalDesk$Layout" y_Layout_infinity y_Layout_infinity ∈ gT := List.mem_append_right _ (List.mem_append_right _ (List.mem_append_right _ (List.mem_append_left _ (List.mem_of_getElem? (l := gT_3) (i := 56) rfl))))
theorem m_237 : Cond.code y_Layout_infinity prog_3_method_5_code 1 (some .long) ∈ gT := List.mem_append_right _ (List.mem_append_right _ (List.mem_append_right _ (List.mem_append_left _ (List.mem_of_getElem? (l := gT_3) (i := 57) rfl))))
theorem m_238 : Cond.constantLong "DecimalDesk" 148 (-1) ∈ gT := List.mem_append_right _ (List.mem_append_right _ (List.mem_append_right _ (List.mem_append_left _ (List.mem_of_getElem? (l := gT_3) (i := 58) rfl))))
theorem m_239 : Cond.methodLink "DecimalDesk" 113 y_Layout_signBit ∈ gT := List.mem_append_right _ (List.mem_append_right _ (List.mem_append_right _ (List.mem_append_left _ (List.mem_of_getElem? (l := gT_3) (i := 59) rfl))))
theorem m_240 : Cond.methodLink "DecimalDesk" 150 y_Layout_isNegative ∈ gT := List.mem_append_right _ (List.mem_append_right _ (List.mem_append_right _ (List.mem_append_right _ (List.mem_append_left _ (List.mem_of_getElem? (l := gT_4) (i := 0) rfl)))))
theorem m_241 : Cond.instanceMethod y_Layout_isNegative ∈ gT := List.mem_append_right _ (List.mem_append_right _ (List.mem_append_right _ (List.mem_append_right _ (List.mem_append_left _ (List.mem_of_getElem? (l := gT_4) (i := 1) rfl)))))
theorem m_242 : Cond.selects "DecimalDesk$Layout" y_Layout_isNegative y_Layout_isNegative ∈ gT := List.mem_append_right _ (List.mem_append_right _ (List.mem_append_right _ (List.mem_append_right _ (List.mem_append_left _ (List.mem_of_getElem? (l := gT_4) (i := 2) rfl)))))
theorem m_243 : Cond.code y_Layout_isNegative prog_3_method_7_code 3 (some .boolean) ∈ gT := List.mem_append_right _ (List.mem_append_right _ (List.mem_append_right _ (List.mem_append_right _ (List.mem_append_left _ (List.mem_of_getElem? (l := gT_4) (i := 3) rfl)))))
theorem m_244 : Cond.methodLink "DecimalDeskLaw" 49 y_Law_read ∈ gT := List.mem_append_right _ (List.mem_append_right _ (List.mem_append_right _ (List.mem_append_right _ (List.mem_append_left _ (List.mem_of_getElem? (l := gT_4) (i := 4) rfl)))))
theorem m_245 : Cond.static y_Law_read ∈ gT := List.mem_append_right _ (List.mem_append_right _ (List.mem_append_right _ (List.mem_append_right _ (List.mem_append_left _ (List.mem_of_getElem? (l := gT_4) (i := 5) rfl)))))
theorem m_246 : Cond.classLink "DecimalDeskLaw" 13 "java/lang/IllegalArgumentException" ∈ gT := List.mem_append_right _ (List.mem_append_right _ (List.mem_append_right _ (List.mem_append_right _ (List.mem_append_left _ (List.mem_of_getElem? (l := gT_4) (i := 6) rfl)))))
theorem m_247 : Cond.methodLink "DecimalDeskLaw" 7 y_Desk_read ∈ gT := List.mem_append_right _ (List.mem_append_right _ (List.mem_append_right _ (List.mem_append_right _ (List.mem_append_left _ (List.mem_of_getElem? (l := gT_4) (i := 7) rfl)))))
theorem m_248 : Cond.instanceMethod y_Desk_read ∈ gT := List.mem_append_right _ (List.mem_append_right _ (List.mem_append_right _ (List.mem_append_right _ (List.mem_append_left _ (List.mem_of_getElem? (l := gT_4) (i := 8) rfl)))))
theorem m_249 : Cond.selects "DecimalDesk" y_Desk_read y_Desk_read ∈ gT := List.mem_append_right _ (List.mem_append_right _ (List.mem_append_right _ (List.mem_append_right _ (List.mem_append_left _ (List.mem_of_getElem? (l := gT_4) (i := 9) rfl)))))
theorem m_250 : Cond.code y_Desk_read prog_1_method_5_code 5 (some .long) ∈ gT := List.mem_append_right _ (List.mem_append_right _ (List.mem_append_right _ (List.mem_append_right _ (List.mem_append_left _ (List.mem_of_getElem? (l := gT_4) (i := 10) rfl)))))
theorem m_251 : Cond.methodLink "DecimalDesk" 75 y_Decimal_parse ∈ gT := List.mem_append_right _ (List.mem_append_right _ (List.mem_append_right _ (List.mem_append_right _ (List.mem_append_left _ (List.mem_of_getElem? (l := gT_4) (i := 11) rfl)))))
theorem m_252 : Cond.instanceMethod y_Decimal_parse ∈ gT := List.mem_append_right _ (List.mem_append_right _ (List.mem_append_right _ (List.mem_append_right _ (List.mem_append_left _ (List.mem_of_getElem? (l := gT_4) (i := 12) rfl)))))
theorem m_253 : Cond.selects "DecimalDesk$Decimal" y_Decimal_parse y_Decimal_parse ∈ gT := List.mem_append_right _ (List.mem_append_right _ (List.mem_append_right _ (List.mem_append_right _ (List.mem_append_left _ (List.mem_of_getElem? (l := gT_4) (i := 13) rfl)))))
theorem m_254 : Cond.code y_Decimal_parse prog_2_method_2_code 3 (some .boolean) ∈ gT := List.mem_append_right _ (List.mem_append_right _ (List.mem_append_right _ (List.mem_append_right _ (List.mem_append_left _ (List.mem_of_getElem? (l := gT_4) (i := 14) rfl)))))
theorem m_255 : Cond.methodLink "DecimalDesk$Decimal" 24 y_Natural_set ∈ gT := List.mem_append_right _ (List.mem_append_right _ (List.mem_append_right _ (List.mem_append_right _ (List.mem_append_left _ (List.mem_of_getElem? (l := gT_4) (i := 15) rfl)))))
theorem m_256 : Cond.instanceMethod y_Natural_set ∈ gT := List.mem_append_right _ (List.mem_append_right _ (List.mem_append_right _ (List.mem_append_right _ (List.mem_append_left _ (List.mem_of_getElem? (l := gT_4) (i := 16) rfl)))))
theorem m_257 : Cond.selects "DecimalDesk$Natural" y_Natural_set y_Natural_set ∈ gT := List.mem_append_right _ (List.mem_append_right _ (List.mem_append_right _ (List.mem_append_right _ (List.mem_append_left _ (List.mem_of_getElem? (l := gT_4) (i := 17) rfl)))))
theorem m_258 : Cond.code y_Natural_set prog_4_method_2_code 4 none ∈ gT := List.mem_append_right _ (List.mem_append_right _ (List.mem_append_right _ (List.mem_append_right _ (List.mem_append_left _ (List.mem_of_getElem? (l := gT_4) (i := 18) rfl)))))
theorem m_259 : Cond.methodLink "DecimalDesk$Decimal" 28 y_Tape_at ∈ gT := List.mem_append_right _ (List.mem_append_right _ (List.mem_append_right _ (List.mem_append_right _ (List.mem_append_left _ (List.mem_of_getElem? (l := gT_4) (i := 19) rfl)))))
theorem m_260 : Cond.instanceMethod y_Tape_at ∈ gT := List.mem_append_right _ (List.mem_append_right _ (List.mem_append_right _ (List.mem_append_right _ (List.mem_append_left _ (List.mem_of_getElem? (l := gT_4) (i := 20) rfl)))))
theorem m_261 : Cond.selects "DecimalDesk$Tape" y_Tape_at y_Tape_at ∈ gT := List.mem_append_right _ (List.mem_append_right _ (List.mem_append_right _ (List.mem_append_right _ (List.mem_append_left _ (List.mem_of_getElem? (l := gT_4) (i := 21) rfl)))))
theorem m_262 : Cond.code y_Tape_at prog_7_method_4_code 2 (some .int) ∈ gT := List.mem_append_right _ (List.mem_append_right _ (List.mem_append_right _ (List.mem_append_right _ (List.mem_append_left _ (List.mem_of_getElem? (l := gT_4) (i := 22) rfl)))))
theorem m_263 : Cond.methodLink "DecimalDesk$Decimal" 34 y_Decimal_takeDigits ∈ gT := List.mem_append_right _ (List.mem_append_right _ (List.mem_append_right _ (List.mem_append_right _ (List.mem_append_left _ (List.mem_of_getElem? (l := gT_4) (i := 23) rfl)))))
theorem m_264 : Cond.instanceMethod y_Decimal_takeDigits ∈ gT := List.mem_append_right _ (List.mem_append_right _ (List.mem_append_right _ (List.mem_append_right _ (List.mem_append_left _ (List.mem_of_getElem? (l := gT_4) (i := 24) rfl)))))
theorem m_265 : Cond.code y_Decimal_takeDigits prog_2_method_3_code 7 (some .int) ∈ gT := List.mem_append_right _ (List.mem_append_right _ (List.mem_append_right _ (List.mem_append_right _ (List.mem_append_left _ (List.mem_of_getElem? (l := gT_4) (i := 25) rfl)))))
theorem m_266 : Cond.methodLink "DecimalDesk$Decimal" 42 y_Decimal_isDigit ∈ gT := List.mem_append_right _ (List.mem_append_right _ (List.mem_append_right _ (List.mem_append_right _ (List.mem_append_left _ (List.mem_of_getElem? (l := gT_4) (i := 26) rfl)))))
theorem m_267 : Cond.static y_Decimal_isDigit ∈ gT := List.mem_append_right _ (List.mem_append_right _ (List.mem_append_right _ (List.mem_append_right _ (List.mem_append_left _ (List.mem_of_getElem? (l := gT_4) (i := 27) rfl)))))
theorem m_268 : Cond.code y_Decimal_isDigit prog_2_method_5_code 1 (some .boolean) ∈ gT := List.mem_append_right _ (List.mem_append_right _ (List.mem_append_right _ (List.mem_append_right _ (List.mem_append_left _ (List.mem_of_getElem? (l := gT_4) (i := 28) rfl)))))
theorem m_269 : Cond.methodLink "DecimalDesk$Decimal" 46 y_Natural_timesPlus ∈ gT := List.mem_append_right _ (List.mem_append_right _ (List.mem_append_right _ (List.mem_append_right _ (List.mem_append_left _ (List.mem_of_getElem? (l := gT_4) (i := 29) rfl)))))
theorem m_270 : Cond.instanceMethod y_Natural_timesPlus ∈ gT := List.mem_append_right _ (List.mem_append_right _ (List.mem_append_right _ (List.mem_append_right _ (List.mem_append_left _ (List.mem_of_getElem? (l := gT_4) (i := 30) rfl)))))
theorem m_271 : Cond.selects "DecimalDesk$Natural" y_Natural_timesPlus y_Natural_timesPlus ∈ gT := List.mem_append_right _ (List.mem_append_right _ (List.mem_append_right _ (List.mem_append_right _ (List.mem_append_left _ (List.mem_of_getElem? (l := gT_4) (i := 31) rfl)))))
theorem m_272 : Cond.code y_Natural_timesPlus prog_4_method_9_code 6 none ∈ gT := List.mem_append_right _ (List.mem_append_right _ (List.mem_append_right _ (List.mem_append_right _ (List.mem_append_left _ (List.mem_of_getElem? (l := gT_4) (i := 32) rfl)))))
theorem m_273 : Cond.constantLong "DecimalDesk$Natural" 13 4294967295 ∈ gT := List.mem_append_right _ (List.mem_append_right _ (List.mem_append_right _ (List.mem_append_right _ (List.mem_append_left _ (List.mem_of_getElem? (l := gT_4) (i := 33) rfl)))))
theorem m_274 : Cond.methodLink "DecimalDesk$Decimal" 38 y_Decimal_takePower ∈ gT := List.mem_append_right _ (List.mem_append_right _ (List.mem_append_right _ (List.mem_append_right _ (List.mem_append_left _ (List.mem_of_getElem? (l := gT_4) (i := 34) rfl)))))
theorem m_275 : Cond.instanceMethod y_Decimal_takePower ∈ gT := List.mem_append_right _ (List.mem_append_right _ (List.mem_append_right _ (List.mem_append_right _ (List.mem_append_left _ (List.mem_of_getElem? (l := gT_4) (i := 35) rfl)))))
theorem m_276 : Cond.code y_Decimal_takePower prog_2_method_4_code 7 (some .boolean) ∈ gT := List.mem_append_right _ (List.mem_append_right _ (List.mem_append_right _ (List.mem_append_right _ (List.mem_append_left _ (List.mem_of_getElem? (l := gT_4) (i := 36) rfl)))))
theorem m_277 : Cond.methodLink "DecimalDesk" 79 y_Tape_wipe ∈ gT := List.mem_append_right _ (List.mem_append_right _ (List.mem_append_right _ (List.mem_append_right _ (List.mem_append_left _ (List.mem_of_getElem? (l := gT_4) (i := 37) rfl)))))
theorem m_278 : Cond.instanceMethod y_Tape_wipe ∈ gT := List.mem_append_right _ (List.mem_append_right _ (List.mem_append_right _ (List.mem_append_right _ (List.mem_append_left _ (List.mem_of_getElem? (l := gT_4) (i := 38) rfl)))))
theorem m_279 : Cond.selects "DecimalDesk$Tape" y_Tape_wipe y_Tape_wipe ∈ gT := List.mem_append_right _ (List.mem_append_right _ (List.mem_append_right _ (List.mem_append_right _ (List.mem_append_left _ (List.mem_of_getElem? (l := gT_4) (i := 39) rfl)))))
theorem m_280 : Cond.code y_Tape_wipe prog_7_method_3_code 1 none ∈ gT := List.mem_append_right _ (List.mem_append_right _ (List.mem_append_right _ (List.mem_append_right _ (List.mem_append_left _ (List.mem_of_getElem? (l := gT_4) (i := 40) rfl)))))
theorem m_281 : Cond.classLink "DecimalDesk" 82 "java/lang/IllegalArgumentException" ∈ gT := List.mem_append_right _ (List.mem_append_right _ (List.mem_append_right _ (List.mem_append_right _ (List.mem_append_left _ (List.mem_of_getElem? (l := gT_4) (i := 41) rfl)))))
theorem m_282 : Cond.instantiable "java/lang/IllegalArgumentException" 6 ∈ gT := List.mem_append_right _ (List.mem_append_right _ (List.mem_append_right _ (List.mem_append_right _ (List.mem_append_left _ (List.mem_of_getElem? (l := gT_4) (i := 42) rfl)))))
theorem m_283 : Cond.selects "java/lang/IllegalArgumentException" y_Throwable_fillInStackTraceI y_Throwable_fillInStackTraceI ∈ gT := List.mem_append_right _ (List.mem_append_right _ (List.mem_append_right _ (List.mem_append_right _ (List.mem_append_left _ (List.mem_of_getElem? (l := gT_4) (i := 43) rfl)))))
theorem m_284 : Cond.selects "java/lang/IllegalArgumentException" y_Throwable_fillInStackTrace y_Throwable_fillInStackTrace ∈ gT := List.mem_append_right _ (List.mem_append_right _ (List.mem_append_right _ (List.mem_append_right _ (List.mem_append_left _ (List.mem_of_getElem? (l := gT_4) (i := 44) rfl)))))
theorem m_285 : Cond.lays "java/lang/IllegalArgumentException" "java/lang/Throwable" "cause" "Ljava/lang/Throwable;" ∈ gT := List.mem_append_right _ (List.mem_append_right _ (List.mem_append_right _ (List.mem_append_right _ (List.mem_append_left _ (List.mem_of_getElem? (l := gT_4) (i := 45) rfl)))))
theorem m_286 : Cond.lays "java/lang/Throwable" "java/lang/Throwable" "cause" "Ljava/lang/Throwable;" ∈ gT := List.mem_append_right _ (List.mem_append_right _ (List.mem_append_right _ (List.mem_append_right _ (List.mem_append_left _ (List.mem_of_getElem? (l := gT_4) (i := 46) rfl)))))
theorem m_287 : Cond.lays "java/lang/IllegalArgumentException" "java/lang/Throwable" "stackTrace" "[Ljava/lang/StackTraceElement;" ∈ gT := List.mem_append_right _ (List.mem_append_right _ (List.mem_append_right _ (List.mem_append_right _ (List.mem_append_left _ (List.mem_of_getElem? (l := gT_4) (i := 47) rfl)))))
theorem m_288 : Cond.lays "java/lang/Throwable" "java/lang/Throwable" "stackTrace" "[Ljava/lang/StackTraceElement;" ∈ gT := List.mem_append_right _ (List.mem_append_right _ (List.mem_append_right _ (List.mem_append_right _ (List.mem_append_left _ (List.mem_of_getElem? (l := gT_4) (i := 48) rfl)))))
theorem m_289 : Cond.lays "java/lang/IllegalArgumentException" "java/lang/Throwable" "suppressedExceptions" "Ljava/util/List;" ∈ gT := List.mem_append_right _ (List.mem_append_right _ (List.mem_append_right _ (List.mem_append_right _ (List.mem_append_left _ (List.mem_of_getElem? (l := gT_4) (i := 49) rfl)))))
theorem m_290 : Cond.lays "java/lang/Throwable" "java/lang/Throwable" "suppressedExceptions" "Ljava/util/List;" ∈ gT := List.mem_append_right _ (List.mem_append_right _ (List.mem_append_right _ (List.mem_append_right _ (List.mem_append_left _ (List.mem_of_getElem? (l := gT_4) (i := 50) rfl)))))
theorem m_291 : Cond.lays "java/lang/IllegalArgumentException" "java/lang/Throwable" "detailMessage" "Ljava/lang/String;" ∈ gT := List.mem_append_right _ (List.mem_append_right _ (List.mem_append_right _ (List.mem_append_right _ (List.mem_append_left _ (List.mem_of_getElem? (l := gT_4) (i := 51) rfl)))))
theorem m_292 : Cond.lays "java/lang/Throwable" "java/lang/Throwable" "detailMessage" "Ljava/lang/String;" ∈ gT := List.mem_append_right _ (List.mem_append_right _ (List.mem_append_right _ (List.mem_append_right _ (List.mem_append_left _ (List.mem_of_getElem? (l := gT_4) (i := 52) rfl)))))
theorem m_293 : Cond.lays "java/lang/IllegalArgumentException" "java/lang/Throwable" "backtrace" "Ljava/lang/Object;" ∈ gT := List.mem_append_right _ (List.mem_append_right _ (List.mem_append_right _ (List.mem_append_right _ (List.mem_append_left _ (List.mem_of_getElem? (l := gT_4) (i := 53) rfl)))))
theorem m_294 : Cond.lays "java/lang/Throwable" "java/lang/Throwable" "backtrace" "Ljava/lang/Object;" ∈ gT := List.mem_append_right _ (List.mem_append_right _ (List.mem_append_right _ (List.mem_append_right _ (List.mem_append_left _ (List.mem_of_getElem? (l := gT_4) (i := 54) rfl)))))
theorem m_295 : Cond.fieldLink "java/lang/Throwable" 198 "java/lang/Throwable" "backtrace" "Ljava/lang/Object;" ∈ gT := List.mem_append_right _ (List.mem_append_right _ (List.mem_append_right _ (List.mem_append_right _ (List.mem_append_left _ (List.mem_of_getElem? (l := gT_4) (i := 55) rfl)))))
theorem m_296 : Cond.instanceMethod ⟨"java/lang/Throwable", "<init>", "()V"⟩ ∈ gT := List.mem_append_right _ (List.mem_append_right _ (List.mem_append_right _ (List.mem_append_right _ (List.mem_append_left _ (List.mem_of_getElem? (l := gT_4) (i := 56) rfl)))))
theorem m_297 : Cond.code ⟨"java/lang/Throwable", "<init>", "()V"⟩ prog_18_method_1_code 1 none ∈ gT := List.mem_append_right _ (List.mem_append_right _ (List.mem_append_right _ (List.mem_append_right _ (List.mem_append_left _ (List.mem_of_getElem? (l := gT_4) (i := 57) rfl)))))
theorem m_298 : Cond.methodLink "java/lang/Throwable" 1 objectInit ∈ gT := List.mem_append_right _ (List.mem_append_right _ (List.mem_append_right _ (List.mem_append_right _ (List.mem_append_left _ (List.mem_of_getElem? (l := gT_4) (i := 58) rfl)))))
theorem m_299 : Cond.fieldLink "java/lang/Throwable" 13 "java/lang/Throwable" "UNASSIGNED_STACK" "[Ljava/lang/StackTraceElement;" ∈ gT := List.mem_append_right _ (List.mem_append_right _ (List.mem_append_right _ (List.mem_append_right _ (List.mem_append_left _ (List.mem_of_getElem? (l := gT_4) (i := 59) rfl)))))
theorem m_300 : Cond.fieldLink "java/lang/Throwable" 20 "java/lang/Throwable" "SUPPRESSED_SENTINEL" "Ljava/util/List;" ∈ gT := List.mem_append_right _ (List.mem_append_right _ (List.mem_append_right _ (List.mem_append_right _ (List.mem_append_right _ (List.mem_append_left _ (List.mem_of_getElem? (l := gT_5) (i := 0) rfl))))))
theorem m_301 : Cond.methodLink "java/lang/Throwable" 27 y_Throwable_fillInStackTrace ∈ gT := List.mem_append_right _ (List.mem_append_right _ (List.mem_append_right _ (List.mem_append_right _ (List.mem_append_right _ (List.mem_append_left _ (List.mem_of_getElem? (l := gT_5) (i := 1) rfl))))))
theorem m_302 : Cond.instanceMethod y_Throwable_fillInStackTrace ∈ gT := List.mem_append_right _ (List.mem_append_right _ (List.mem_append_right _ (List.mem_append_right _ (List.mem_append_right _ (List.mem_append_left _ (List.mem_of_getElem? (l := gT_5) (i := 2) rfl))))))
theorem m_303 : Cond.selects "java/util/NoSuchElementException" y_Throwable_fillInStackTrace y_Throwable_fillInStackTrace ∈ gT := List.mem_append_right _ (List.mem_append_right _ (List.mem_append_right _ (List.mem_append_right _ (List.mem_append_right _ (List.mem_append_left _ (List.mem_of_getElem? (l := gT_5) (i := 3) rfl))))))
theorem m_304 : Cond.methodLink "java/lang/Throwable" 202 y_Throwable_fillInStackTraceI ∈ gT := List.mem_append_right _ (List.mem_append_right _ (List.mem_append_right _ (List.mem_append_right _ (List.mem_append_right _ (List.mem_append_left _ (List.mem_of_getElem? (l := gT_5) (i := 4) rfl))))))
theorem m_305 : Cond.instanceMethod y_Throwable_fillInStackTraceI ∈ gT := List.mem_append_right _ (List.mem_append_right _ (List.mem_append_right _ (List.mem_append_right _ (List.mem_append_right _ (List.mem_append_left _ (List.mem_of_getElem? (l := gT_5) (i := 5) rfl))))))
theorem m_306 : Cond.instantiable "java/lang/Throwable" 6 ∈ gT := List.mem_append_right _ (List.mem_append_right _ (List.mem_append_right _ (List.mem_append_right _ (List.mem_append_right _ (List.mem_append_left _ (List.mem_of_getElem? (l := gT_5) (i := 6) rfl))))))
theorem m_307 : Cond.methodLink "DecimalDesk" 86 y_IllegalArg_init ∈ gT := List.mem_append_right _ (List.mem_append_right _ (List.mem_append_right _ (List.mem_append_right _ (List.mem_append_right _ (List.mem_append_left _ (List.mem_of_getElem? (l := gT_5) (i := 7) rfl))))))
theorem m_308 : Cond.instanceMethod y_IllegalArg_init ∈ gT := List.mem_append_right _ (List.mem_append_right _ (List.mem_append_right _ (List.mem_append_right _ (List.mem_append_right _ (List.mem_append_left _ (List.mem_of_getElem? (l := gT_5) (i := 8) rfl))))))
theorem m_309 : Cond.code y_IllegalArg_init prog_12_method_2_code 2 none ∈ gT := List.mem_append_right _ (List.mem_append_right _ (List.mem_append_right _ (List.mem_append_right _ (List.mem_append_right _ (List.mem_append_left _ (List.mem_of_getElem? (l := gT_5) (i := 9) rfl))))))
theorem m_310 : Cond.methodLink "java/lang/IllegalArgumentException" 7 y_RuntimeEx_init ∈ gT := List.mem_append_right _ (List.mem_append_right _ (List.mem_append_right _ (List.mem_append_right _ (List.mem_append_right _ (List.mem_append_left _ (List.mem_of_getElem? (l := gT_5) (i := 10) rfl))))))
theorem m_311 : Cond.instanceMethod y_RuntimeEx_init ∈ gT := List.mem_append_right _ (List.mem_append_right _ (List.mem_append_right _ (List.mem_append_right _ (List.mem_append_right _ (List.mem_append_left _ (List.mem_of_getElem? (l := gT_5) (i := 11) rfl))))))
theorem m_312 : Cond.code y_RuntimeEx_init prog_16_method_2_code 2 none ∈ gT := List.mem_append_right _ (List.mem_append_right _ (List.mem_append_right _ (List.mem_append_right _ (List.mem_append_right _ (List.mem_append_left _ (List.mem_of_getElem? (l := gT_5) (i := 12) rfl))))))
theorem m_313 : Cond.methodLink "java/lang/RuntimeException" 7 y_Exception_init ∈ gT := List.mem_append_right _ (List.mem_append_right _ (List.mem_append_right _ (List.mem_append_right _ (List.mem_append_right _ (List.mem_append_left _ (List.mem_of_getElem? (l := gT_5) (i := 13) rfl))))))
theorem m_314 : Cond.instanceMethod y_Exception_init ∈ gT := List.mem_append_right _ (List.mem_append_right _ (List.mem_append_right _ (List.mem_append_right _ (List.mem_append_right _ (List.mem_append_left _ (List.mem_of_getElem? (l := gT_5) (i := 14) rfl))))))
theorem m_315 : Cond.code y_Exception_init prog_11_method_2_code 2 none ∈ gT := List.mem_append_right _ (List.mem_append_right _ (List.mem_append_right _ (List.mem_append_right _ (List.mem_append_right _ (List.mem_append_left _ (List.mem_of_getElem? (l := gT_5) (i := 15) rfl))))))
theorem m_316 : Cond.methodLink "java/lang/Exception" 7 y_Throwable_init ∈ gT := List.mem_append_right _ (List.mem_append_right _ (List.mem_append_right _ (List.mem_append_right _ (List.mem_append_right _ (List.mem_append_left _ (List.mem_of_getElem? (l := gT_5) (i := 16) rfl))))))
theorem m_317 : Cond.instanceMethod y_Throwable_init ∈ gT := List.mem_append_right _ (List.mem_append_right _ (List.mem_append_right _ (List.mem_append_right _ (List.mem_append_right _ (List.mem_append_left _ (List.mem_of_getElem? (l := gT_5) (i := 17) rfl))))))
theorem m_318 : Cond.code y_Throwable_init prog_18_method_2_code 2 none ∈ gT := List.mem_append_right _ (List.mem_append_right _ (List.mem_append_right _ (List.mem_append_right _ (List.mem_append_right _ (List.mem_append_left _ (List.mem_of_getElem? (l := gT_5) (i := 18) rfl))))))
theorem m_320 : Cond.fieldLink "java/lang/Throwable" 31 "java/lang/Throwable" "detailMessage" "Ljava/lang/String;" ∈ gT := List.mem_append_right _ (List.mem_append_right _ (List.mem_append_right _ (List.mem_append_right _ (List.mem_append_right _ (List.mem_append_left _ (List.mem_of_getElem? (l := gT_5) (i := 20) rfl))))))
theorem m_321 : Cond.fieldLink "java/lang/Throwable" 7 "java/lang/Throwable" "cause" "Ljava/lang/Throwable;" ∈ gT := List.mem_append_right _ (List.mem_append_right _ (List.mem_append_right _ (List.mem_append_right _ (List.mem_append_right _ (List.mem_append_left _ (List.mem_of_getElem? (l := gT_5) (i := 21) rfl))))))
theorem m_322 : Cond.fieldLink "java/lang/Throwable" 17 "java/lang/Throwable" "stackTrace" "[Ljava/lang/StackTraceElement;" ∈ gT := List.mem_append_right _ (List.mem_append_right _ (List.mem_append_right _ (List.mem_append_right _ (List.mem_append_right _ (List.mem_append_left _ (List.mem_of_getElem? (l := gT_5) (i := 22) rfl))))))
theorem m_323 : Cond.fieldLink "java/lang/Throwable" 24 "java/lang/Throwable" "suppressedExceptions" "Ljava/util/List;" ∈ gT := List.mem_append_right _ (List.mem_append_right _ (List.mem_append_right _ (List.mem_append_right _ (List.mem_append_right _ (List.mem_append_left _ (List.mem_of_getElem? (l := gT_5) (i := 23) rfl))))))
theorem m_324 : Cond.lays "java/lang/IllegalArgumentException" "java/lang/Throwable" "depth" "I" ∈ gT := List.mem_append_right _ (List.mem_append_right _ (List.mem_append_right _ (List.mem_append_right _ (List.mem_append_right _ (List.mem_append_left _ (List.mem_of_getElem? (l := gT_5) (i := 24) rfl))))))
theorem m_325 : Cond.methodLink "DecimalDesk" 89 y_Rounder_round ∈ gT := List.mem_append_right _ (List.mem_append_right _ (List.mem_append_right _ (List.mem_append_right _ (List.mem_append_right _ (List.mem_append_left _ (List.mem_of_getElem? (l := gT_5) (i := 25) rfl))))))
theorem m_326 : Cond.instanceMethod y_Rounder_round ∈ gT := List.mem_append_right _ (List.mem_append_right _ (List.mem_append_right _ (List.mem_append_right _ (List.mem_append_right _ (List.mem_append_left _ (List.mem_of_getElem? (l := gT_5) (i := 26) rfl))))))
theorem m_327 : Cond.selects "DecimalDesk$Rounder" y_Rounder_round y_Rounder_round ∈ gT := List.mem_append_right _ (List.mem_append_right _ (List.mem_append_right _ (List.mem_append_right _ (List.mem_append_right _ (List.mem_append_left _ (List.mem_of_getElem? (l := gT_5) (i := 27) rfl))))))
theorem m_328 : Cond.code y_Rounder_round prog_5_method_2_code 12 none ∈ gT := List.mem_append_right _ (List.mem_append_right _ (List.mem_append_right _ (List.mem_append_right _ (List.mem_append_right _ (List.mem_append_left _ (List.mem_of_getElem? (l := gT_5) (i := 28) rfl))))))
theorem m_329 : Cond.methodLink "DecimalDesk$Rounder" 37 y_Natural_isZero ∈ gT := List.mem_append_right _ (List.mem_append_right _ (List.mem_append_right _ (List.mem_append_right _ (List.mem_append_right _ (List.mem_append_left _ (List.mem_of_getElem? (l := gT_5) (i := 29) rfl))))))
theorem m_330 : Cond.instanceMethod y_Natural_isZero ∈ gT := List.mem_append_right _ (List.mem_append_right _ (List.mem_append_right _ (List.mem_append_right _ (List.mem_append_right _ (List.mem_append_left _ (List.mem_of_getElem? (l := gT_5) (i := 30) rfl))))))
theorem m_331 : Cond.selects "DecimalDesk$Natural" y_Natural_isZero y_Natural_isZero ∈ gT := List.mem_append_right _ (List.mem_append_right _ (List.mem_append_right _ (List.mem_append_right _ (List.mem_append_right _ (List.mem_append_left _ (List.mem_of_getElem? (l := gT_5) (i := 31) rfl))))))
theorem m_332 : Cond.code y_Natural_isZero prog_4_method_4_code 2 (some .boolean) ∈ gT := List.mem_append_right _ (List.mem_append_right _ (List.mem_append_right _ (List.mem_append_right _ (List.mem_append_right _ (List.mem_append_left _ (List.mem_of_getElem? (l := gT_5) (i := 32) rfl))))))
theorem m_333 : Cond.methodLink "DecimalDesk$Rounder" 41 y_Rounder_setFraction ∈ gT := List.mem_append_right _ (List.mem_append_right _ (List.mem_append_right _ (List.mem_append_right _ (List.mem_append_right _ (List.mem_append_left _ (List.mem_of_getElem? (l := gT_5) (i := 33) rfl))))))
theorem m_334 : Cond.instanceMethod y_Rounder_setFraction ∈ gT := List.mem_append_right _ (List.mem_append_right _ (List.mem_append_right _ (List.mem_append_right _ (List.mem_append_right _ (List.mem_append_left _ (List.mem_of_getElem? (l := gT_5) (i := 34) rfl))))))
theorem m_335 : Cond.code y_Rounder_setFraction prog_5_method_3_code 3 none ∈ gT := List.mem_append_right _ (List.mem_append_right _ (List.mem_append_right _ (List.mem_append_right _ (List.mem_append_right _ (List.mem_append_left _ (List.mem_of_getElem? (l := gT_5) (i := 35) rfl))))))
theorem m_336 : Cond.methodLink "DecimalDesk$Rounder" 58 y_Math_max ∈ gT := List.mem_append_right _ (List.mem_append_right _ (List.mem_append_right _ (List.mem_append_right _ (List.mem_append_right _ (List.mem_append_left _ (List.mem_of_getElem? (l := gT_5) (i := 36) rfl))))))
theorem m_337 : Cond.static y_Math_max ∈ gT := List.mem_append_right _ (List.mem_append_right _ (List.mem_append_right _ (List.mem_append_right _ (List.mem_append_right _ (List.mem_append_left _ (List.mem_of_getElem? (l := gT_5) (i := 37) rfl))))))
theorem m_338 : Cond.code y_Math_max prog_15_method_65_code 2 (some .int) ∈ gT := List.mem_append_right _ (List.mem_append_right _ (List.mem_append_right _ (List.mem_append_right _ (List.mem_append_right _ (List.mem_append_left _ (List.mem_of_getElem? (l := gT_5) (i := 38) rfl))))))
theorem m_339 : Cond.methodLink "DecimalDesk$Rounder" 85 y_Math_min ∈ gT := List.mem_append_right _ (List.mem_append_right _ (List.mem_append_right _ (List.mem_append_right _ (List.mem_append_right _ (List.mem_append_left _ (List.mem_of_getElem? (l := gT_5) (i := 39) rfl))))))
theorem m_340 : Cond.static y_Math_min ∈ gT := List.mem_append_right _ (List.mem_append_right _ (List.mem_append_right _ (List.mem_append_right _ (List.mem_append_right _ (List.mem_append_left _ (List.mem_of_getElem? (l := gT_5) (i := 40) rfl))))))
theorem m_341 : Cond.code y_Math_min prog_15_method_69_code 2 (some .int) ∈ gT := List.mem_append_right _ (List.mem_append_right _ (List.mem_append_right _ (List.mem_append_right _ (List.mem_append_right _ (List.mem_append_left _ (List.mem_of_getElem? (l := gT_5) (i := 41) rfl))))))
theorem m_342 : Cond.methodLink "DecimalDesk$Rounder" 88 y_Natural_copy ∈ gT := List.mem_append_right _ (List.mem_append_right _ (List.mem_append_right _ (List.mem_append_right _ (List.mem_append_right _ (List.mem_append_left _ (List.mem_of_getElem? (l := gT_5) (i := 42) rfl))))))
theorem m_343 : Cond.instanceMethod y_Natural_copy ∈ gT := List.mem_append_right _ (List.mem_append_right _ (List.mem_append_right _ (List.mem_append_right _ (List.mem_append_right _ (List.mem_append_left _ (List.mem_of_getElem? (l := gT_5) (i := 43) rfl))))))
theorem m_344 : Cond.selects "DecimalDesk$Natural" y_Natural_copy y_Natural_copy ∈ gT := List.mem_append_right _ (List.mem_append_right _ (List.mem_append_right _ (List.mem_append_right _ (List.mem_append_right _ (List.mem_append_left _ (List.mem_of_getElem? (l := gT_5) (i := 44) rfl))))))
theorem m_345 : Cond.code y_Natural_copy prog_4_method_3_code 3 none ∈ gT := List.mem_append_right _ (List.mem_append_right _ (List.mem_append_right _ (List.mem_append_right _ (List.mem_append_right _ (List.mem_append_left _ (List.mem_of_getElem? (l := gT_5) (i := 45) rfl))))))
theorem m_346 : Cond.methodLink "DecimalDesk$Rounder" 92 y_Natural_set ∈ gT := List.mem_append_right _ (List.mem_append_right _ (List.mem_append_right _ (List.mem_append_right _ (List.mem_append_right _ (List.mem_append_left _ (List.mem_of_getElem? (l := gT_5) (i := 46) rfl))))))
theorem m_347 : Cond.methodLink "DecimalDesk$Rounder" 96 y_Natural_timesPowerOfTen ∈ gT := List.mem_append_right _ (List.mem_append_right _ (List.mem_append_right _ (List.mem_append_right _ (List.mem_append_right _ (List.mem_append_left _ (List.mem_of_getElem? (l := gT_5) (i := 47) rfl))))))
theorem m_348 : Cond.instanceMethod y_Natural_timesPowerOfTen ∈ gT := List.mem_append_right _ (List.mem_append_right _ (List.mem_append_right _ (List.mem_append_right _ (List.mem_append_right _ (List.mem_append_left _ (List.mem_of_getElem? (l := gT_5) (i := 48) rfl))))))
theorem m_349 : Cond.selects "DecimalDesk$Natural" y_Natural_timesPowerOfTen y_Natural_timesPowerOfTen ∈ gT := List.mem_append_right _ (List.mem_append_right _ (List.mem_append_right _ (List.mem_append_right _ (List.mem_append_right _ (List.mem_append_left _ (List.mem_of_getElem? (l := gT_5) (i := 49) rfl))))))
theorem m_350 : Cond.code y_Natural_timesPowerOfTen prog_4_method_10_code 2 none ∈ gT := List.mem_append_right _ (List.mem_append_right _ (List.mem_append_right _ (List.mem_append_right _ (List.mem_append_right _ (List.mem_append_left _ (List.mem_of_getElem? (l := gT_5) (i := 50) rfl))))))
theorem m_351 : Cond.methodLink "DecimalDesk$Natural" 21 y_Natural_timesPowerOfFive ∈ gT := List.mem_append_right _ (List.mem_append_right _ (List.mem_append_right _ (List.mem_append_right _ (List.mem_append_right _ (List.mem_append_left _ (List.mem_of_getElem? (l := gT_5) (i := 51) rfl))))))
theorem m_352 : Cond.instanceMethod y_Natural_timesPowerOfFive ∈ gT := List.mem_append_right _ (List.mem_append_right _ (List.mem_append_right _ (List.mem_append_right _ (List.mem_append_right _ (List.mem_append_left _ (List.mem_of_getElem? (l := gT_5) (i := 52) rfl))))))
theorem m_353 : Cond.selects "DecimalDesk$Natural" y_Natural_timesPowerOfFive y_Natural_timesPowerOfFive ∈ gT := List.mem_append_right _ (List.mem_append_right _ (List.mem_append_right _ (List.mem_append_right _ (List.mem_append_right _ (List.mem_append_left _ (List.mem_of_getElem? (l := gT_5) (i := 53) rfl))))))
theorem m_354 : Cond.code y_Natural_timesPowerOfFive prog_4_method_11_code 4 none ∈ gT := List.mem_append_right _ (List.mem_append_right _ (List.mem_append_right _ (List.mem_append_right _ (List.mem_append_right _ (List.mem_append_left _ (List.mem_of_getElem? (l := gT_5) (i := 54) rfl))))))
theorem m_355 : Cond.constant "DecimalDesk$Natural" 28 1220703125 ∈ gT := List.mem_append_right _ (List.mem_append_right _ (List.mem_append_right _ (List.mem_append_right _ (List.mem_append_right _ (List.mem_append_left _ (List.mem_of_getElem? (l := gT_5) (i := 55) rfl))))))
theorem m_356 : Cond.methodLink "DecimalDesk$Natural" 29 y_Natural_timesPlus ∈ gT := List.mem_append_right _ (List.mem_append_right _ (List.mem_append_right _ (List.mem_append_right _ (List.mem_append_right _ (List.mem_append_left _ (List.mem_of_getElem? (l := gT_5) (i := 56) rfl))))))
theorem m_357 : Cond.methodLink "DecimalDesk$Natural" 25 y_Natural_shiftLeft ∈ gT := List.mem_append_right _ (List.mem_append_right _ (List.mem_append_right _ (List.mem_append_right _ (List.mem_append_right _ (List.mem_append_left _ (List.mem_of_getElem? (l := gT_5) (i := 57) rfl))))))
theorem m_358 : Cond.instanceMethod y_Natural_shiftLeft ∈ gT := List.mem_append_right _ (List.mem_append_right _ (List.mem_append_right _ (List.mem_append_right _ (List.mem_append_right _ (List.mem_append_left _ (List.mem_of_getElem? (l := gT_5) (i := 58) rfl))))))
theorem m_359 : Cond.selects "DecimalDesk$Natural" y_Natural_shiftLeft y_Natural_shiftLeft ∈ gT := List.mem_append_right _ (List.mem_append_right _ (List.mem_append_right _ (List.mem_append_right _ (List.mem_append_right _ (List.mem_append_left _ (List.mem_of_getElem? (l := gT_5) (i := 59) rfl))))))
theorem m_360 : Cond.code y_Natural_shiftLeft prog_4_method_12_code 9 none ∈ gT := List.mem_append_right _ (List.mem_append_right _ (List.mem_append_right _ (List.mem_append_right _ (List.mem_append_right _ (List.mem_append_right _ (List.mem_append_left _ (List.mem_of_getElem? (l := gT_6) (i := 0) rfl)))))))
theorem m_361 : Cond.methodLink "DecimalDesk$Natural" 33 y_Natural_limbAt ∈ gT := List.mem_append_right _ (List.mem_append_right _ (List.mem_append_right _ (List.mem_append_right _ (List.mem_append_right _ (List.mem_append_right _ (List.mem_append_left _ (List.mem_of_getElem? (l := gT_6) (i := 1) rfl)))))))
theorem m_362 : Cond.instanceMethod y_Natural_limbAt ∈ gT := List.mem_append_right _ (List.mem_append_right _ (List.mem_append_right _ (List.mem_append_right _ (List.mem_append_right _ (List.mem_append_right _ (List.mem_append_left _ (List.mem_of_getElem? (l := gT_6) (i := 2) rfl)))))))
theorem m_363 : Cond.code y_Natural_limbAt prog_4_method_14_code 2 (some .long) ∈ gT := List.mem_append_right _ (List.mem_append_right _ (List.mem_append_right _ (List.mem_append_right _ (List.mem_append_right _ (List.mem_append_right _ (List.mem_append_left _ (List.mem_of_getElem? (l := gT_6) (i := 3) rfl)))))))
theorem m_364 : Cond.methodLink "DecimalDesk$Rounder" 45 y_Rounder_normalise ∈ gT := List.mem_append_right _ (List.mem_append_right _ (List.mem_append_right _ (List.mem_append_right _ (List.mem_append_right _ (List.mem_append_right _ (List.mem_append_left _ (List.mem_of_getElem? (l := gT_6) (i := 4) rfl)))))))
theorem m_365 : Cond.instanceMethod y_Rounder_normalise ∈ gT := List.mem_append_right _ (List.mem_append_right _ (List.mem_append_right _ (List.mem_append_right _ (List.mem_append_right _ (List.mem_append_right _ (List.mem_append_left _ (List.mem_of_getElem? (l := gT_6) (i := 5) rfl)))))))
theorem m_366 : Cond.code y_Rounder_normalise prog_5_method_4_code 2 (some .int) ∈ gT := List.mem_append_right _ (List.mem_append_right _ (List.mem_append_right _ (List.mem_append_right _ (List.mem_append_right _ (List.mem_append_right _ (List.mem_append_left _ (List.mem_of_getElem? (l := gT_6) (i := 6) rfl)))))))
theorem m_367 : Cond.methodLink "DecimalDesk$Rounder" 100 y_Natural_bitLength ∈ gT := List.mem_append_right _ (List.mem_append_right _ (List.mem_append_right _ (List.mem_append_right _ (List.mem_append_right _ (List.mem_append_right _ (List.mem_append_left _ (List.mem_of_getElem? (l := gT_6) (i := 7) rfl)))))))
theorem m_368 : Cond.instanceMethod y_Natural_bitLength ∈ gT := List.mem_append_right _ (List.mem_append_right _ (List.mem_append_right _ (List.mem_append_right _ (List.mem_append_right _ (List.mem_append_right _ (List.mem_append_left _ (List.mem_of_getElem? (l := gT_6) (i := 8) rfl)))))))
theorem m_369 : Cond.selects "DecimalDesk$Natural" y_Natural_bitLength y_Natural_bitLength ∈ gT := List.mem_append_right _ (List.mem_append_right _ (List.mem_append_right _ (List.mem_append_right _ (List.mem_append_right _ (List.mem_append_right _ (List.mem_append_left _ (List.mem_of_getElem? (l := gT_6) (i := 9) rfl)))))))
theorem m_370 : Cond.code y_Natural_bitLength prog_4_method_6_code 2 (some .int) ∈ gT := List.mem_append_right _ (List.mem_append_right _ (List.mem_append_right _ (List.mem_append_right _ (List.mem_append_right _ (List.mem_append_right _ (List.mem_append_left _ (List.mem_of_getElem? (l := gT_6) (i := 10) rfl)))))))
theorem m_371 : Cond.methodLink "DecimalDesk$Natural" 15 y_Integer_numberOfLeadingZeros ∈ gT := List.mem_append_right _ (List.mem_append_right _ (List.mem_append_right _ (List.mem_append_right _ (List.mem_append_right _ (List.mem_append_right _ (List.mem_append_left _ (List.mem_of_getElem? (l := gT_6) (i := 11) rfl)))))))
theorem m_372 : Cond.static y_Integer_numberOfLeadingZeros ∈ gT := List.mem_append_right _ (List.mem_append_right _ (List.mem_append_right _ (List.mem_append_right _ (List.mem_append_right _ (List.mem_append_right _ (List.mem_append_left _ (List.mem_of_getElem? (l := gT_6) (i := 12) rfl)))))))
theorem m_373 : Cond.code y_Integer_numberOfLeadingZeros prog_13_method_47_code 2 (some .int) ∈ gT := List.mem_append_right _ (List.mem_append_right _ (List.mem_append_right _ (List.mem_append_right _ (List.mem_append_right _ (List.mem_append_right _ (List.mem_append_left _ (List.mem_of_getElem? (l := gT_6) (i := 13) rfl)))))))
theorem m_374 : Cond.constant "java/lang/Integer" 264 65536 ∈ gT := List.mem_append_right _ (List.mem_append_right _ (List.mem_append_right _ (List.mem_append_right _ (List.mem_append_right _ (List.mem_append_right _ (List.mem_append_left _ (List.mem_of_getElem? (l := gT_6) (i := 14) rfl)))))))
theorem m_375 : Cond.methodLink "DecimalDesk$Rounder" 103 y_Natural_shiftLeft ∈ gT := List.mem_append_right _ (List.mem_append_right _ (List.mem_append_right _ (List.mem_append_right _ (List.mem_append_right _ (List.mem_append_right _ (List.mem_append_left _ (List.mem_of_getElem? (l := gT_6) (i := 15) rfl)))))))
theorem m_376 : Cond.methodLink "DecimalDesk$Rounder" 68 y_Natural_against ∈ gT := List.mem_append_right _ (List.mem_append_right _ (List.mem_append_right _ (List.mem_append_right _ (List.mem_append_right _ (List.mem_append_right _ (List.mem_append_left _ (List.mem_of_getElem? (l := gT_6) (i := 16) rfl)))))))
theorem m_377 : Cond.instanceMethod y_Natural_against ∈ gT := List.mem_append_right _ (List.mem_append_right _ (List.mem_append_right _ (List.mem_append_right _ (List.mem_append_right _ (List.mem_append_right _ (List.mem_append_left _ (List.mem_of_getElem? (l := gT_6) (i := 17) rfl)))))))
theorem m_378 : Cond.selects "DecimalDesk$Natural" y_Natural_against y_Natural_against ∈ gT := List.mem_append_right _ (List.mem_append_right _ (List.mem_append_right _ (List.mem_append_right _ (List.mem_append_right _ (List.mem_append_right _ (List.mem_append_left _ (List.mem_of_getElem? (l := gT_6) (i := 18) rfl)))))))
theorem m_379 : Cond.code y_Natural_against prog_4_method_5_code 3 (some .int) ∈ gT := List.mem_append_right _ (List.mem_append_right _ (List.mem_append_right _ (List.mem_append_right _ (List.mem_append_right _ (List.mem_append_right _ (List.mem_append_left _ (List.mem_of_getElem? (l := gT_6) (i := 19) rfl)))))))
theorem m_380 : Cond.methodLink "DecimalDesk$Rounder" 106 y_Natural_timesPlus ∈ gT := List.mem_append_right _ (List.mem_append_right _ (List.mem_append_right _ (List.mem_append_right _ (List.mem_append_right _ (List.mem_append_right _ (List.mem_append_left _ (List.mem_of_getElem? (l := gT_6) (i := 20) rfl)))))))
theorem m_381 : Cond.methodLink "DecimalDesk$Rounder" 49 y_Layout_lowestPower ∈ gT := List.mem_append_right _ (List.mem_append_right _ (List.mem_append_right _ (List.mem_append_right _ (List.mem_append_right _ (List.mem_append_right _ (List.mem_append_left _ (List.mem_of_getElem? (l := gT_6) (i := 21) rfl)))))))
theorem m_382 : Cond.instanceMethod y_Layout_lowestPower ∈ gT := List.mem_append_right _ (List.mem_append_right _ (List.mem_append_right _ (List.mem_append_right _ (List.mem_append_right _ (List.mem_append_right _ (List.mem_append_left _ (List.mem_of_getElem? (l := gT_6) (i := 22) rfl)))))))
theorem m_383 : Cond.selects "DecimalDesk$Layout" y_Layout_lowestPower y_Layout_lowestPower ∈ gT := List.mem_append_right _ (List.mem_append_right _ (List.mem_append_right _ (List.mem_append_right _ (List.mem_append_right _ (List.mem_append_right _ (List.mem_append_left _ (List.mem_of_getElem? (l := gT_6) (i := 23) rfl)))))))
theorem m_384 : Cond.code y_Layout_lowestPower prog_3_method_3_code 1 (some .int) ∈ gT := List.mem_append_right _ (List.mem_append_right _ (List.mem_append_right _ (List.mem_append_right _ (List.mem_append_right _ (List.mem_append_right _ (List.mem_append_left _ (List.mem_of_getElem? (l := gT_6) (i := 24) rfl)))))))
theorem m_385 : Cond.methodLink "DecimalDesk$Layout" 16 y_Layout_bias ∈ gT := List.mem_append_right _ (List.mem_append_right _ (List.mem_append_right _ (List.mem_append_right _ (List.mem_append_right _ (List.mem_append_right _ (List.mem_append_left _ (List.mem_of_getElem? (l := gT_6) (i := 25) rfl)))))))
theorem m_386 : Cond.instanceMethod y_Layout_bias ∈ gT := List.mem_append_right _ (List.mem_append_right _ (List.mem_append_right _ (List.mem_append_right _ (List.mem_append_right _ (List.mem_append_right _ (List.mem_append_left _ (List.mem_of_getElem? (l := gT_6) (i := 26) rfl)))))))
theorem m_387 : Cond.selects "DecimalDesk$Layout" y_Layout_bias y_Layout_bias ∈ gT := List.mem_append_right _ (List.mem_append_right _ (List.mem_append_right _ (List.mem_append_right _ (List.mem_append_right _ (List.mem_append_right _ (List.mem_append_left _ (List.mem_of_getElem? (l := gT_6) (i := 27) rfl)))))))
theorem m_388 : Cond.code y_Layout_bias prog_3_method_2_code 1 (some .int) ∈ gT := List.mem_append_right _ (List.mem_append_right _ (List.mem_append_right _ (List.mem_append_right _ (List.mem_append_right _ (List.mem_append_right _ (List.mem_append_left _ (List.mem_of_getElem? (l := gT_6) (i := 28) rfl)))))))
theorem m_389 : Cond.methodLink "DecimalDesk$Rounder" 64 y_Rounder_takeBits ∈ gT := List.mem_append_right _ (List.mem_append_right _ (List.mem_append_right _ (List.mem_append_right _ (List.mem_append_right _ (List.mem_append_right _ (List.mem_append_left _ (List.mem_of_getElem? (l := gT_6) (i := 29) rfl)))))))
theorem m_390 : Cond.instanceMethod y_Rounder_takeBits ∈ gT := List.mem_append_right _ (List.mem_append_right _ (List.mem_append_right _ (List.mem_append_right _ (List.mem_append_right _ (List.mem_append_right _ (List.mem_append_left _ (List.mem_of_getElem? (l := gT_6) (i := 30) rfl)))))))
theorem m_391 : Cond.code y_Rounder_takeBits prog_5_method_5_code 5 (some .long) ∈ gT := List.mem_append_right _ (List.mem_append_right _ (List.mem_append_right _ (List.mem_append_right _ (List.mem_append_right _ (List.mem_append_right _ (List.mem_append_left _ (List.mem_of_getElem? (l := gT_6) (i := 31) rfl)))))))
theorem m_392 : Cond.methodLink "DecimalDesk$Rounder" 110 y_Natural_subtract ∈ gT := List.mem_append_right _ (List.mem_append_right _ (List.mem_append_right _ (List.mem_append_right _ (List.mem_append_right _ (List.mem_append_right _ (List.mem_append_left _ (List.mem_of_getElem? (l := gT_6) (i := 32) rfl)))))))
theorem m_393 : Cond.instanceMethod y_Natural_subtract ∈ gT := List.mem_append_right _ (List.mem_append_right _ (List.mem_append_right _ (List.mem_append_right _ (List.mem_append_right _ (List.mem_append_right _ (List.mem_append_left _ (List.mem_of_getElem? (l := gT_6) (i := 33) rfl)))))))
theorem m_394 : Cond.selects "DecimalDesk$Natural" y_Natural_subtract y_Natural_subtract ∈ gT := List.mem_append_right _ (List.mem_append_right _ (List.mem_append_right _ (List.mem_append_right _ (List.mem_append_right _ (List.mem_append_right _ (List.mem_append_left _ (List.mem_of_getElem? (l := gT_6) (i := 34) rfl)))))))
theorem m_395 : Cond.code y_Natural_subtract prog_4_method_8_code 5 none ∈ gT := List.mem_append_right _ (List.mem_append_right _ (List.mem_append_right _ (List.mem_append_right _ (List.mem_append_right _ (List.mem_append_right _ (List.mem_append_left _ (List.mem_of_getElem? (l := gT_6) (i := 35) rfl)))))))
theorem m_396 : Cond.methodLink "DecimalDesk$Rounder" 72 y_Layout_bias ∈ gT := List.mem_append_right _ (List.mem_append_right _ (List.mem_append_right _ (List.mem_append_right _ (List.mem_append_right _ (List.mem_append_right _ (List.mem_append_left _ (List.mem_of_getElem? (l := gT_6) (i := 36) rfl)))))))
theorem m_397 : Cond.methodLink "DecimalDesk$Rounder" 78 y_Rounder_goesFarther ∈ gT := List.mem_append_right _ (List.mem_append_right _ (List.mem_append_right _ (List.mem_append_right _ (List.mem_append_right _ (List.mem_append_right _ (List.mem_append_left _ (List.mem_of_getElem? (l := gT_6) (i := 37) rfl)))))))
theorem m_398 : Cond.static y_Rounder_goesFarther ∈ gT := List.mem_append_right _ (List.mem_append_right _ (List.mem_append_right _ (List.mem_append_right _ (List.mem_append_right _ (List.mem_append_right _ (List.mem_append_left _ (List.mem_of_getElem? (l := gT_6) (i := 38) rfl)))))))
theorem m_399 : Cond.code y_Rounder_goesFarther prog_5_method_6_code 4 (some .boolean) ∈ gT := List.mem_append_right _ (List.mem_append_right _ (List.mem_append_right _ (List.mem_append_right _ (List.mem_append_right _ (List.mem_append_right _ (List.mem_append_left _ (List.mem_of_getElem? (l := gT_6) (i := 39) rfl)))))))
theorem m_400 : Cond.methodLink "DecimalDesk" 105 y_Desk_sizeByOverflow ∈ gT := List.mem_append_right _ (List.mem_append_right _ (List.mem_append_right _ (List.mem_append_right _ (List.mem_append_right _ (List.mem_append_right _ (List.mem_append_left _ (List.mem_of_getElem? (l := gT_6) (i := 40) rfl)))))))
theorem m_401 : Cond.instanceMethod y_Desk_sizeByOverflow ∈ gT := List.mem_append_right _ (List.mem_append_right _ (List.mem_append_right _ (List.mem_append_right _ (List.mem_append_right _ (List.mem_append_right _ (List.mem_append_left _ (List.mem_of_getElem? (l := gT_6) (i := 41) rfl)))))))
theorem m_402 : Cond.code y_Desk_sizeByOverflow prog_1_method_12_code 3 (some .long) ∈ gT := List.mem_append_right _ (List.mem_append_right _ (List.mem_append_right _ (List.mem_append_right _ (List.mem_append_right _ (List.mem_append_right _ (List.mem_append_left _ (List.mem_of_getElem? (l := gT_6) (i := 42) rfl)))))))
theorem m_403 : Cond.methodLink "DecimalDesk" 109 y_Desk_raiseFlags ∈ gT := List.mem_append_right _ (List.mem_append_right _ (List.mem_append_right _ (List.mem_append_right _ (List.mem_append_right _ (List.mem_append_right _ (List.mem_append_left _ (List.mem_of_getElem? (l := gT_6) (i := 43) rfl)))))))
theorem m_404 : Cond.instanceMethod y_Desk_raiseFlags ∈ gT := List.mem_append_right _ (List.mem_append_right _ (List.mem_append_right _ (List.mem_append_right _ (List.mem_append_right _ (List.mem_append_right _ (List.mem_append_left _ (List.mem_of_getElem? (l := gT_6) (i := 44) rfl)))))))
theorem m_405 : Cond.code y_Desk_raiseFlags prog_1_method_13_code 2 none ∈ gT := List.mem_append_right _ (List.mem_append_right _ (List.mem_append_right _ (List.mem_append_right _ (List.mem_append_right _ (List.mem_append_right _ (List.mem_append_left _ (List.mem_of_getElem? (l := gT_6) (i := 45) rfl)))))))
theorem m_406 : Cond.methodLink "DecimalDeskLaw" 64 y_Law_shortest ∈ gT := List.mem_append_right _ (List.mem_append_right _ (List.mem_append_right _ (List.mem_append_right _ (List.mem_append_right _ (List.mem_append_right _ (List.mem_append_left _ (List.mem_of_getElem? (l := gT_6) (i := 46) rfl)))))))
theorem m_407 : Cond.static y_Law_shortest ∈ gT := List.mem_append_right _ (List.mem_append_right _ (List.mem_append_right _ (List.mem_append_right _ (List.mem_append_right _ (List.mem_append_right _ (List.mem_append_left _ (List.mem_of_getElem? (l := gT_6) (i := 47) rfl)))))))
theorem m_408 : Cond.methodLink "DecimalDeskLaw" 15 y_Desk_shortest ∈ gT := List.mem_append_right _ (List.mem_append_right _ (List.mem_append_right _ (List.mem_append_right _ (List.mem_append_right _ (List.mem_append_right _ (List.mem_append_left _ (List.mem_of_getElem? (l := gT_6) (i := 48) rfl)))))))
theorem m_409 : Cond.instanceMethod y_Desk_shortest ∈ gT := List.mem_append_right _ (List.mem_append_right _ (List.mem_append_right _ (List.mem_append_right _ (List.mem_append_right _ (List.mem_append_right _ (List.mem_append_left _ (List.mem_of_getElem? (l := gT_6) (i := 49) rfl)))))))
theorem m_410 : Cond.selects "DecimalDesk" y_Desk_shortest y_Desk_shortest ∈ gT := List.mem_append_right _ (List.mem_append_right _ (List.mem_append_right _ (List.mem_append_right _ (List.mem_append_right _ (List.mem_append_right _ (List.mem_append_left _ (List.mem_of_getElem? (l := gT_6) (i := 50) rfl)))))))
theorem m_411 : Cond.code y_Desk_shortest prog_1_method_8_code 3 (some .int) ∈ gT := List.mem_append_right _ (List.mem_append_right _ (List.mem_append_right _ (List.mem_append_right _ (List.mem_append_right _ (List.mem_append_right _ (List.mem_append_left _ (List.mem_of_getElem? (l := gT_6) (i := 51) rfl)))))))
theorem m_412 : Cond.methodLink "DecimalDesk" 122 y_Desk_tellNotFinite ∈ gT := List.mem_append_right _ (List.mem_append_right _ (List.mem_append_right _ (List.mem_append_right _ (List.mem_append_right _ (List.mem_append_right _ (List.mem_append_left _ (List.mem_of_getElem? (l := gT_6) (i := 52) rfl)))))))
theorem m_413 : Cond.instanceMethod y_Desk_tellNotFinite ∈ gT := List.mem_append_right _ (List.mem_append_right _ (List.mem_append_right _ (List.mem_append_right _ (List.mem_append_right _ (List.mem_append_right _ (List.mem_append_left _ (List.mem_of_getElem? (l := gT_6) (i := 53) rfl)))))))
theorem m_414 : Cond.code y_Desk_tellNotFinite prog_1_method_14_code 5 (some .boolean) ∈ gT := List.mem_append_right _ (List.mem_append_right _ (List.mem_append_right _ (List.mem_append_right _ (List.mem_append_right _ (List.mem_append_right _ (List.mem_append_left _ (List.mem_of_getElem? (l := gT_6) (i := 54) rfl)))))))
theorem m_415 : Cond.methodLink "DecimalDesk" 159 y_Told_start ∈ gT := List.mem_append_right _ (List.mem_append_right _ (List.mem_append_right _ (List.mem_append_right _ (List.mem_append_right _ (List.mem_append_right _ (List.mem_append_left _ (List.mem_of_getElem? (l := gT_6) (i := 55) rfl)))))))
theorem m_416 : Cond.instanceMethod y_Told_start ∈ gT := List.mem_append_right _ (List.mem_append_right _ (List.mem_append_right _ (List.mem_append_right _ (List.mem_append_right _ (List.mem_append_right _ (List.mem_append_left _ (List.mem_of_getElem? (l := gT_6) (i := 56) rfl)))))))
theorem m_417 : Cond.selects "DecimalDesk$Told" y_Told_start y_Told_start ∈ gT := List.mem_append_right _ (List.mem_append_right _ (List.mem_append_right _ (List.mem_append_right _ (List.mem_append_right _ (List.mem_append_right _ (List.mem_append_left _ (List.mem_of_getElem? (l := gT_6) (i := 57) rfl)))))))
theorem m_418 : Cond.code y_Told_start prog_8_method_3_code 2 none ∈ gT := List.mem_append_right _ (List.mem_append_right _ (List.mem_append_right _ (List.mem_append_right _ (List.mem_append_right _ (List.mem_append_right _ (List.mem_append_left _ (List.mem_of_getElem? (l := gT_6) (i := 58) rfl)))))))
theorem m_419 : Cond.methodLink "DecimalDesk$Told" 20 y_Told_add ∈ gT := List.mem_append_right _ (List.mem_append_right _ (List.mem_append_right _ (List.mem_append_right _ (List.mem_append_right _ (List.mem_append_right _ (List.mem_append_left _ (List.mem_of_getElem? (l := gT_6) (i := 59) rfl)))))))
theorem m_420 : Cond.instanceMethod y_Told_add ∈ gT := List.mem_append_right _ (List.mem_append_right _ (List.mem_append_right _ (List.mem_append_right _ (List.mem_append_right _ (List.mem_append_right _ (List.mem_append_right _ (List.mem_append_left _ (List.mem_of_getElem? (l := gT_7) (i := 0) rfl))))))))
theorem m_421 : Cond.selects "DecimalDesk$Told" y_Told_add y_Told_add ∈ gT := List.mem_append_right _ (List.mem_append_right _ (List.mem_append_right _ (List.mem_append_right _ (List.mem_append_right _ (List.mem_append_right _ (List.mem_append_right _ (List.mem_append_left _ (List.mem_of_getElem? (l := gT_7) (i := 1) rfl))))))))
theorem m_422 : Cond.code y_Told_add prog_8_method_4_code 2 none ∈ gT := List.mem_append_right _ (List.mem_append_right _ (List.mem_append_right _ (List.mem_append_right _ (List.mem_append_right _ (List.mem_append_right _ (List.mem_append_right _ (List.mem_append_left _ (List.mem_of_getElem? (l := gT_7) (i := 2) rfl))))))))
theorem m_423 : Cond.methodLink "DecimalDesk" 162 y_Told_add ∈ gT := List.mem_append_right _ (List.mem_append_right _ (List.mem_append_right _ (List.mem_append_right _ (List.mem_append_right _ (List.mem_append_right _ (List.mem_append_right _ (List.mem_append_left _ (List.mem_of_getElem? (l := gT_7) (i := 3) rfl))))))))
theorem m_424 : Cond.methodLink "DecimalDesk" 125 y_Desk_tellShortest ∈ gT := List.mem_append_right _ (List.mem_append_right _ (List.mem_append_right _ (List.mem_append_right _ (List.mem_append_right _ (List.mem_append_right _ (List.mem_append_right _ (List.mem_append_left _ (List.mem_of_getElem? (l := gT_7) (i := 4) rfl))))))))
theorem m_425 : Cond.instanceMethod y_Desk_tellShortest ∈ gT := List.mem_append_right _ (List.mem_append_right _ (List.mem_append_right _ (List.mem_append_right _ (List.mem_append_right _ (List.mem_append_right _ (List.mem_append_right _ (List.mem_append_left _ (List.mem_of_getElem? (l := gT_7) (i := 5) rfl))))))))
theorem m_426 : Cond.code y_Desk_tellShortest prog_1_method_15_code 5 none ∈ gT := List.mem_append_right _ (List.mem_append_right _ (List.mem_append_right _ (List.mem_append_right _ (List.mem_append_right _ (List.mem_append_right _ (List.mem_append_right _ (List.mem_append_left _ (List.mem_of_getElem? (l := gT_7) (i := 6) rfl))))))))
theorem m_427 : Cond.methodLink "DecimalDesk" 166 y_Told_addPower ∈ gT := List.mem_append_right _ (List.mem_append_right _ (List.mem_append_right _ (List.mem_append_right _ (List.mem_append_right _ (List.mem_append_right _ (List.mem_append_right _ (List.mem_append_left _ (List.mem_of_getElem? (l := gT_7) (i := 7) rfl))))))))
theorem m_428 : Cond.instanceMethod y_Told_addPower ∈ gT := List.mem_append_right _ (List.mem_append_right _ (List.mem_append_right _ (List.mem_append_right _ (List.mem_append_right _ (List.mem_append_right _ (List.mem_append_right _ (List.mem_append_left _ (List.mem_of_getElem? (l := gT_7) (i := 8) rfl))))))))
theorem m_429 : Cond.selects "DecimalDesk$Told" y_Told_addPower y_Told_addPower ∈ gT := List.mem_append_right _ (List.mem_append_right _ (List.mem_append_right _ (List.mem_append_right _ (List.mem_append_right _ (List.mem_append_right _ (List.mem_append_right _ (List.mem_append_left _ (List.mem_of_getElem? (l := gT_7) (i := 9) rfl))))))))
theorem m_430 : Cond.code y_Told_addPower prog_8_method_5_code 4 none ∈ gT := List.mem_append_right _ (List.mem_append_right _ (List.mem_append_right _ (List.mem_append_right _ (List.mem_append_right _ (List.mem_append_right _ (List.mem_append_right _ (List.mem_append_left _ (List.mem_of_getElem? (l := gT_7) (i := 10) rfl))))))))
theorem m_431 : Cond.methodLink "DecimalDesk$Told" 24 y_Math_abs ∈ gT := List.mem_append_right _ (List.mem_append_right _ (List.mem_append_right _ (List.mem_append_right _ (List.mem_append_right _ (List.mem_append_right _ (List.mem_append_right _ (List.mem_append_left _ (List.mem_of_getElem? (l := gT_7) (i := 11) rfl))))))))
theorem m_432 : Cond.static y_Math_abs ∈ gT := List.mem_append_right _ (List.mem_append_right _ (List.mem_append_right _ (List.mem_append_right _ (List.mem_append_right _ (List.mem_append_right _ (List.mem_append_right _ (List.mem_append_left _ (List.mem_of_getElem? (l := gT_7) (i := 12) rfl))))))))
theorem m_433 : Cond.code y_Math_abs prog_15_method_59_code 1 (some .int) ∈ gT := List.mem_append_right _ (List.mem_append_right _ (List.mem_append_right _ (List.mem_append_right _ (List.mem_append_right _ (List.mem_append_right _ (List.mem_append_right _ (List.mem_append_left _ (List.mem_of_getElem? (l := gT_7) (i := 13) rfl))))))))
theorem m_434 : Cond.methodLink "DecimalDesk$Told" 30 y_Told_addDigits ∈ gT := List.mem_append_right _ (List.mem_append_right _ (List.mem_append_right _ (List.mem_append_right _ (List.mem_append_right _ (List.mem_append_right _ (List.mem_append_right _ (List.mem_append_left _ (List.mem_of_getElem? (l := gT_7) (i := 14) rfl))))))))
theorem m_435 : Cond.instanceMethod y_Told_addDigits ∈ gT := List.mem_append_right _ (List.mem_append_right _ (List.mem_append_right _ (List.mem_append_right _ (List.mem_append_right _ (List.mem_append_right _ (List.mem_append_right _ (List.mem_append_left _ (List.mem_of_getElem? (l := gT_7) (i := 15) rfl))))))))
theorem m_436 : Cond.selects "DecimalDesk$Told" y_Told_addDigits y_Told_addDigits ∈ gT := List.mem_append_right _ (List.mem_append_right _ (List.mem_append_right _ (List.mem_append_right _ (List.mem_append_right _ (List.mem_append_right _ (List.mem_append_right _ (List.mem_append_left _ (List.mem_of_getElem? (l := gT_7) (i := 16) rfl))))))))
theorem m_437 : Cond.code y_Told_addDigits prog_8_method_6_code 8 none ∈ gT := List.mem_append_right _ (List.mem_append_right _ (List.mem_append_right _ (List.mem_append_right _ (List.mem_append_right _ (List.mem_append_right _ (List.mem_append_right _ (List.mem_append_left _ (List.mem_of_getElem? (l := gT_7) (i := 17) rfl))))))))
theorem m_438 : Cond.constantLong "DecimalDesk$Told" 34 48 ∈ gT := List.mem_append_right _ (List.mem_append_right _ (List.mem_append_right _ (List.mem_append_right _ (List.mem_append_right _ (List.mem_append_right _ (List.mem_append_right _ (List.mem_append_left _ (List.mem_of_getElem? (l := gT_7) (i := 18) rfl))))))))
theorem m_439 : Cond.constantLong "DecimalDesk$Told" 36 10 ∈ gT := List.mem_append_right _ (List.mem_append_right _ (List.mem_append_right _ (List.mem_append_right _ (List.mem_append_right _ (List.mem_append_right _ (List.mem_append_right _ (List.mem_append_left _ (List.mem_of_getElem? (l := gT_7) (i := 19) rfl))))))))
theorem m_440 : Cond.methodLink "DecimalDesk$Told" 38 y_Told_addReversed ∈ gT := List.mem_append_right _ (List.mem_append_right _ (List.mem_append_right _ (List.mem_append_right _ (List.mem_append_right _ (List.mem_append_right _ (List.mem_append_right _ (List.mem_append_left _ (List.mem_of_getElem? (l := gT_7) (i := 20) rfl))))))))
theorem m_441 : Cond.instanceMethod y_Told_addReversed ∈ gT := List.mem_append_right _ (List.mem_append_right _ (List.mem_append_right _ (List.mem_append_right _ (List.mem_append_right _ (List.mem_append_right _ (List.mem_append_right _ (List.mem_append_left _ (List.mem_of_getElem? (l := gT_7) (i := 21) rfl))))))))
theorem m_442 : Cond.code y_Told_addReversed prog_8_method_8_code 4 none ∈ gT := List.mem_append_right _ (List.mem_append_right _ (List.mem_append_right _ (List.mem_append_right _ (List.mem_append_right _ (List.mem_append_right _ (List.mem_append_right _ (List.mem_append_left _ (List.mem_of_getElem? (l := gT_7) (i := 22) rfl))))))))
theorem m_443 : Cond.methodLink "DecimalDesk$Told" 52 y_Math_min ∈ gT := List.mem_append_right _ (List.mem_append_right _ (List.mem_append_right _ (List.mem_append_right _ (List.mem_append_right _ (List.mem_append_right _ (List.mem_append_right _ (List.mem_append_left _ (List.mem_of_getElem? (l := gT_7) (i := 23) rfl))))))))
theorem m_444 : Cond.methodLink "DecimalDesk" 169 y_Finder_find ∈ gT := List.mem_append_right _ (List.mem_append_right _ (List.mem_append_right _ (List.mem_append_right _ (List.mem_append_right _ (List.mem_append_right _ (List.mem_append_right _ (List.mem_append_left _ (List.mem_of_getElem? (l := gT_7) (i := 24) rfl))))))))
theorem m_445 : Cond.instanceMethod y_Finder_find ∈ gT := List.mem_append_right _ (List.mem_append_right _ (List.mem_append_right _ (List.mem_append_right _ (List.mem_append_right _ (List.mem_append_right _ (List.mem_append_right _ (List.mem_append_left _ (List.mem_of_getElem? (l := gT_7) (i := 25) rfl))))))))
theorem m_446 : Cond.selects "DecimalDesk$ShortestFinder" y_Finder_find y_Finder_find ∈ gT := List.mem_append_right _ (List.mem_append_right _ (List.mem_append_right _ (List.mem_append_right _ (List.mem_append_right _ (List.mem_append_right _ (List.mem_append_right _ (List.mem_append_left _ (List.mem_of_getElem? (l := gT_7) (i := 26) rfl))))))))
theorem m_447 : Cond.code y_Finder_find prog_6_method_2_code 7 none ∈ gT := List.mem_append_right _ (List.mem_append_right _ (List.mem_append_right _ (List.mem_append_right _ (List.mem_append_right _ (List.mem_append_right _ (List.mem_append_right _ (List.mem_append_left _ (List.mem_of_getElem? (l := gT_7) (i := 27) rfl))))))))
theorem m_448 : Cond.methodLink "DecimalDesk$ShortestFinder" 43 y_Finder_setRange ∈ gT := List.mem_append_right _ (List.mem_append_right _ (List.mem_append_right _ (List.mem_append_right _ (List.mem_append_right _ (List.mem_append_right _ (List.mem_append_right _ (List.mem_append_left _ (List.mem_of_getElem? (l := gT_7) (i := 28) rfl))))))))
theorem m_449 : Cond.instanceMethod y_Finder_setRange ∈ gT := List.mem_append_right _ (List.mem_append_right _ (List.mem_append_right _ (List.mem_append_right _ (List.mem_append_right _ (List.mem_append_right _ (List.mem_append_right _ (List.mem_append_left _ (List.mem_of_getElem? (l := gT_7) (i := 29) rfl))))))))
theorem m_450 : Cond.code y_Finder_setRange prog_6_method_3_code 6 none ∈ gT := List.mem_append_right _ (List.mem_append_right _ (List.mem_append_right _ (List.mem_append_right _ (List.mem_append_right _ (List.mem_append_right _ (List.mem_append_right _ (List.mem_append_left _ (List.mem_of_getElem? (l := gT_7) (i := 30) rfl))))))))
theorem m_451 : Cond.methodLink "DecimalDesk$ShortestFinder" 63 y_Layout_fractionOf ∈ gT := List.mem_append_right _ (List.mem_append_right _ (List.mem_append_right _ (List.mem_append_right _ (List.mem_append_right _ (List.mem_append_right _ (List.mem_append_right _ (List.mem_append_left _ (List.mem_of_getElem? (l := gT_7) (i := 31) rfl))))))))
theorem m_452 : Cond.instanceMethod y_Layout_fractionOf ∈ gT := List.mem_append_right _ (List.mem_append_right _ (List.mem_append_right _ (List.mem_append_right _ (List.mem_append_right _ (List.mem_append_right _ (List.mem_append_right _ (List.mem_append_left _ (List.mem_of_getElem? (l := gT_7) (i := 32) rfl))))))))
theorem m_453 : Cond.selects "DecimalDesk$Layout" y_Layout_fractionOf y_Layout_fractionOf ∈ gT := List.mem_append_right _ (List.mem_append_right _ (List.mem_append_right _ (List.mem_append_right _ (List.mem_append_right _ (List.mem_append_right _ (List.mem_append_right _ (List.mem_append_left _ (List.mem_of_getElem? (l := gT_7) (i := 33) rfl))))))))
theorem m_454 : Cond.code y_Layout_fractionOf prog_3_method_9_code 3 (some .long) ∈ gT := List.mem_append_right _ (List.mem_append_right _ (List.mem_append_right _ (List.mem_append_right _ (List.mem_append_right _ (List.mem_append_right _ (List.mem_append_right _ (List.mem_append_left _ (List.mem_of_getElem? (l := gT_7) (i := 34) rfl))))))))
theorem m_455 : Cond.methodLink "DecimalDesk$ShortestFinder" 69 y_Layout_exponentOf ∈ gT := List.mem_append_right _ (List.mem_append_right _ (List.mem_append_right _ (List.mem_append_right _ (List.mem_append_right _ (List.mem_append_right _ (List.mem_append_right _ (List.mem_append_left _ (List.mem_of_getElem? (l := gT_7) (i := 35) rfl))))))))
theorem m_456 : Cond.instanceMethod y_Layout_exponentOf ∈ gT := List.mem_append_right _ (List.mem_append_right _ (List.mem_append_right _ (List.mem_append_right _ (List.mem_append_right _ (List.mem_append_right _ (List.mem_append_right _ (List.mem_append_left _ (List.mem_of_getElem? (l := gT_7) (i := 36) rfl))))))))
theorem m_457 : Cond.selects "DecimalDesk$Layout" y_Layout_exponentOf y_Layout_exponentOf ∈ gT := List.mem_append_right _ (List.mem_append_right _ (List.mem_append_right _ (List.mem_append_right _ (List.mem_append_right _ (List.mem_append_right _ (List.mem_append_right _ (List.mem_append_left _ (List.mem_of_getElem? (l := gT_7) (i := 37) rfl))))))))
theorem m_458 : Cond.code y_Layout_exponentOf prog_3_method_10_code 3 (some .int) ∈ gT := List.mem_append_right _ (List.mem_append_right _ (List.mem_append_right _ (List.mem_append_right _ (List.mem_append_right _ (List.mem_append_right _ (List.mem_append_right _ (List.mem_append_left _ (List.mem_of_getElem? (l := gT_7) (i := 38) rfl))))))))
theorem m_459 : Cond.methodLink "DecimalDesk$ShortestFinder" 73 y_Layout_significandOf ∈ gT := List.mem_append_right _ (List.mem_append_right _ (List.mem_append_right _ (List.mem_append_right _ (List.mem_append_right _ (List.mem_append_right _ (List.mem_append_right _ (List.mem_append_left _ (List.mem_of_getElem? (l := gT_7) (i := 39) rfl))))))))
theorem m_460 : Cond.instanceMethod y_Layout_significandOf ∈ gT := List.mem_append_right _ (List.mem_append_right _ (List.mem_append_right _ (List.mem_append_right _ (List.mem_append_right _ (List.mem_append_right _ (List.mem_append_right _ (List.mem_append_left _ (List.mem_of_getElem? (l := gT_7) (i := 40) rfl))))))))
theorem m_461 : Cond.selects "DecimalDesk$Layout" y_Layout_significandOf y_Layout_significandOf ∈ gT := List.mem_append_right _ (List.mem_append_right _ (List.mem_append_right _ (List.mem_append_right _ (List.mem_append_right _ (List.mem_append_right _ (List.mem_append_right _ (List.mem_append_left _ (List.mem_of_getElem? (l := gT_7) (i := 41) rfl))))))))
theorem m_462 : Cond.code y_Layout_significandOf prog_3_method_11_code 3 (some .long) ∈ gT := List.mem_append_right _ (List.mem_append_right _ (List.mem_append_right _ (List.mem_append_right _ (List.mem_append_right _ (List.mem_append_right _ (List.mem_append_right _ (List.mem_append_left _ (List.mem_of_getElem? (l := gT_7) (i := 42) rfl))))))))
theorem m_463 : Cond.methodLink "DecimalDesk$Layout" 26 y_Layout_exponentOf ∈ gT := List.mem_append_right _ (List.mem_append_right _ (List.mem_append_right _ (List.mem_append_right _ (List.mem_append_right _ (List.mem_append_right _ (List.mem_append_right _ (List.mem_append_left _ (List.mem_of_getElem? (l := gT_7) (i := 43) rfl))))))))
theorem m_464 : Cond.methodLink "DecimalDesk$Layout" 30 y_Layout_fractionOf ∈ gT := List.mem_append_right _ (List.mem_append_right _ (List.mem_append_right _ (List.mem_append_right _ (List.mem_append_right _ (List.mem_append_right _ (List.mem_append_right _ (List.mem_append_left _ (List.mem_of_getElem? (l := gT_7) (i := 44) rfl))))))))
theorem m_465 : Cond.constantLong "DecimalDesk$ShortestFinder" 76 4 ∈ gT := List.mem_append_right _ (List.mem_append_right _ (List.mem_append_right _ (List.mem_append_right _ (List.mem_append_right _ (List.mem_append_right _ (List.mem_append_right _ (List.mem_append_left _ (List.mem_of_getElem? (l := gT_7) (i := 45) rfl))))))))
theorem m_466 : Cond.methodLink "DecimalDesk$ShortestFinder" 78 y_Natural_set ∈ gT := List.mem_append_right _ (List.mem_append_right _ (List.mem_append_right _ (List.mem_append_right _ (List.mem_append_right _ (List.mem_append_right _ (List.mem_append_right _ (List.mem_append_left _ (List.mem_of_getElem? (l := gT_7) (i := 46) rfl))))))))
theorem m_467 : Cond.constantLong "DecimalDesk$ShortestFinder" 82 2 ∈ gT := List.mem_append_right _ (List.mem_append_right _ (List.mem_append_right _ (List.mem_append_right _ (List.mem_append_right _ (List.mem_append_right _ (List.mem_append_right _ (List.mem_append_left _ (List.mem_of_getElem? (l := gT_7) (i := 47) rfl))))))))
theorem m_468 : Cond.methodLink "DecimalDesk$ShortestFinder" 84 y_Layout_powerOf ∈ gT := List.mem_append_right _ (List.mem_append_right _ (List.mem_append_right _ (List.mem_append_right _ (List.mem_append_right _ (List.mem_append_right _ (List.mem_append_right _ (List.mem_append_left _ (List.mem_of_getElem? (l := gT_7) (i := 48) rfl))))))))
theorem m_469 : Cond.instanceMethod y_Layout_powerOf ∈ gT := List.mem_append_right _ (List.mem_append_right _ (List.mem_append_right _ (List.mem_append_right _ (List.mem_append_right _ (List.mem_append_right _ (List.mem_append_right _ (List.mem_append_left _ (List.mem_of_getElem? (l := gT_7) (i := 49) rfl))))))))
theorem m_470 : Cond.selects "DecimalDesk$Layout" y_Layout_powerOf y_Layout_powerOf ∈ gT := List.mem_append_right _ (List.mem_append_right _ (List.mem_append_right _ (List.mem_append_right _ (List.mem_append_right _ (List.mem_append_right _ (List.mem_append_right _ (List.mem_append_left _ (List.mem_of_getElem? (l := gT_7) (i := 50) rfl))))))))
theorem m_471 : Cond.code y_Layout_powerOf prog_3_method_12_code 3 (some .int) ∈ gT := List.mem_append_right _ (List.mem_append_right _ (List.mem_append_right _ (List.mem_append_right _ (List.mem_append_right _ (List.mem_append_right _ (List.mem_append_right _ (List.mem_append_left _ (List.mem_of_getElem? (l := gT_7) (i := 51) rfl))))))))
theorem m_472 : Cond.methodLink "DecimalDesk$Layout" 34 y_Layout_lowestPower ∈ gT := List.mem_append_right _ (List.mem_append_right _ (List.mem_append_right _ (List.mem_append_right _ (List.mem_append_right _ (List.mem_append_right _ (List.mem_append_right _ (List.mem_append_left _ (List.mem_of_getElem? (l := gT_7) (i := 52) rfl))))))))
theorem m_473 : Cond.methodLink "DecimalDesk$Layout" 37 y_Math_max ∈ gT := List.mem_append_right _ (List.mem_append_right _ (List.mem_append_right _ (List.mem_append_right _ (List.mem_append_right _ (List.mem_append_right _ (List.mem_append_right _ (List.mem_append_left _ (List.mem_of_getElem? (l := gT_7) (i := 53) rfl))))))))
theorem m_474 : Cond.methodLink "DecimalDesk$ShortestFinder" 87 y_Natural_shiftLeft ∈ gT := List.mem_append_right _ (List.mem_append_right _ (List.mem_append_right _ (List.mem_append_right _ (List.mem_append_right _ (List.mem_append_right _ (List.mem_append_right _ (List.mem_append_left _ (List.mem_of_getElem? (l := gT_7) (i := 54) rfl))))))))
theorem m_475 : Cond.methodLink "DecimalDesk$ShortestFinder" 47 y_Finder_setPower ∈ gT := List.mem_append_right _ (List.mem_append_right _ (List.mem_append_right _ (List.mem_append_right _ (List.mem_append_right _ (List.mem_append_right _ (List.mem_append_right _ (List.mem_append_left _ (List.mem_of_getElem? (l := gT_7) (i := 55) rfl))))))))
theorem m_476 : Cond.instanceMethod y_Finder_setPower ∈ gT := List.mem_append_right _ (List.mem_append_right _ (List.mem_append_right _ (List.mem_append_right _ (List.mem_append_right _ (List.mem_append_right _ (List.mem_append_right _ (List.mem_append_left _ (List.mem_of_getElem? (l := gT_7) (i := 56) rfl))))))))
theorem m_477 : Cond.code y_Finder_setPower prog_6_method_4_code 5 none ∈ gT := List.mem_append_right _ (List.mem_append_right _ (List.mem_append_right _ (List.mem_append_right _ (List.mem_append_right _ (List.mem_append_right _ (List.mem_append_right _ (List.mem_append_left _ (List.mem_of_getElem? (l := gT_7) (i := 57) rfl))))))))
theorem m_478 : Cond.methodLink "DecimalDesk$ShortestFinder" 91 y_Long_numberOfLeadingZeros ∈ gT := List.mem_append_right _ (List.mem_append_right _ (List.mem_append_right _ (List.mem_append_right _ (List.mem_append_right _ (List.mem_append_right _ (List.mem_append_right _ (List.mem_append_left _ (List.mem_of_getElem? (l := gT_7) (i := 58) rfl))))))))
theorem m_479 : Cond.static y_Long_numberOfLeadingZeros ∈ gT := List.mem_append_right _ (List.mem_append_right _ (List.mem_append_right _ (List.mem_append_right _ (List.mem_append_right _ (List.mem_append_right _ (List.mem_append_right _ (List.mem_append_left _ (List.mem_of_getElem? (l := gT_7) (i := 59) rfl))))))))
theorem m_480 : Cond.code y_Long_numberOfLeadingZeros prog_14_method_48_code 3 (some .int) ∈ gT := List.mem_append_right _ (List.mem_append_right _ (List.mem_append_right _ (List.mem_append_right _ (List.mem_append_right _ (List.mem_append_right _ (List.mem_append_right _ (List.mem_append_right _ (List.mem_append_left _ (List.mem_of_getElem? (l := gT_8) (i := 0) rfl)))))))))
theorem m_481 : Cond.methodLink "java/lang/Long" 308 y_Integer_numberOfLeadingZeros ∈ gT := List.mem_append_right _ (List.mem_append_right _ (List.mem_append_right _ (List.mem_append_right _ (List.mem_append_right _ (List.mem_append_right _ (List.mem_append_right _ (List.mem_append_right _ (List.mem_append_left _ (List.mem_of_getElem? (l := gT_8) (i := 1) rfl)))))))))
theorem m_482 : Cond.constant "DecimalDesk$ShortestFinder" 96 100000 ∈ gT := List.mem_append_right _ (List.mem_append_right _ (List.mem_append_right _ (List.mem_append_right _ (List.mem_append_right _ (List.mem_append_right _ (List.mem_append_right _ (List.mem_append_right _ (List.mem_append_left _ (List.mem_of_getElem? (l := gT_8) (i := 2) rfl)))))))))
theorem m_483 : Cond.methodLink "DecimalDesk$ShortestFinder" 97 y_Math_floorDiv ∈ gT := List.mem_append_right _ (List.mem_append_right _ (List.mem_append_right _ (List.mem_append_right _ (List.mem_append_right _ (List.mem_append_right _ (List.mem_append_right _ (List.mem_append_right _ (List.mem_append_left _ (List.mem_of_getElem? (l := gT_8) (i := 3) rfl)))))))))
theorem m_484 : Cond.static y_Math_floorDiv ∈ gT := List.mem_append_right _ (List.mem_append_right _ (List.mem_append_right _ (List.mem_append_right _ (List.mem_append_right _ (List.mem_append_right _ (List.mem_append_right _ (List.mem_append_right _ (List.mem_append_left _ (List.mem_of_getElem? (l := gT_8) (i := 4) rfl)))))))))
theorem m_485 : Cond.code y_Math_floorDiv prog_15_method_47_code 3 (some .int) ∈ gT := List.mem_append_right _ (List.mem_append_right _ (List.mem_append_right _ (List.mem_append_right _ (List.mem_append_right _ (List.mem_append_right _ (List.mem_append_right _ (List.mem_append_right _ (List.mem_append_left _ (List.mem_of_getElem? (l := gT_8) (i := 5) rfl)))))))))
theorem m_486 : Cond.methodLink "DecimalDesk$ShortestFinder" 103 y_Natural_timesPowerOfTen ∈ gT := List.mem_append_right _ (List.mem_append_right _ (List.mem_append_right _ (List.mem_append_right _ (List.mem_append_right _ (List.mem_append_right _ (List.mem_append_right _ (List.mem_append_right _ (List.mem_append_left _ (List.mem_of_getElem? (l := gT_8) (i := 6) rfl)))))))))
theorem m_487 : Cond.methodLink "DecimalDesk$ShortestFinder" 106 y_Natural_copy ∈ gT := List.mem_append_right _ (List.mem_append_right _ (List.mem_append_right _ (List.mem_append_right _ (List.mem_append_right _ (List.mem_append_right _ (List.mem_append_right _ (List.mem_append_right _ (List.mem_append_left _ (List.mem_of_getElem? (l := gT_8) (i := 7) rfl)))))))))
theorem m_488 : Cond.methodLink "DecimalDesk$ShortestFinder" 110 y_Natural_timesPlus ∈ gT := List.mem_append_right _ (List.mem_append_right _ (List.mem_append_right _ (List.mem_append_right _ (List.mem_append_right _ (List.mem_append_right _ (List.mem_append_right _ (List.mem_append_right _ (List.mem_append_left _ (List.mem_of_getElem? (l := gT_8) (i := 8) rfl)))))))))
theorem m_489 : Cond.methodLink "DecimalDesk$ShortestFinder" 114 y_Natural_against ∈ gT := List.mem_append_right _ (List.mem_append_right _ (List.mem_append_right _ (List.mem_append_right _ (List.mem_append_right _ (List.mem_append_right _ (List.mem_append_right _ (List.mem_append_right _ (List.mem_append_left _ (List.mem_of_getElem? (l := gT_8) (i := 9) rfl)))))))))
theorem m_490 : Cond.methodLink "DecimalDesk$ShortestFinder" 50 y_Finder_timesTen ∈ gT := List.mem_append_right _ (List.mem_append_right _ (List.mem_append_right _ (List.mem_append_right _ (List.mem_append_right _ (List.mem_append_right _ (List.mem_append_right _ (List.mem_append_right _ (List.mem_append_left _ (List.mem_of_getElem? (l := gT_8) (i := 10) rfl)))))))))
theorem m_491 : Cond.instanceMethod y_Finder_timesTen ∈ gT := List.mem_append_right _ (List.mem_append_right _ (List.mem_append_right _ (List.mem_append_right _ (List.mem_append_right _ (List.mem_append_right _ (List.mem_append_right _ (List.mem_append_right _ (List.mem_append_left _ (List.mem_of_getElem? (l := gT_8) (i := 11) rfl)))))))))
theorem m_492 : Cond.code y_Finder_timesTen prog_6_method_5_code 1 none ∈ gT := List.mem_append_right _ (List.mem_append_right _ (List.mem_append_right _ (List.mem_append_right _ (List.mem_append_right _ (List.mem_append_right _ (List.mem_append_right _ (List.mem_append_right _ (List.mem_append_left _ (List.mem_of_getElem? (l := gT_8) (i := 12) rfl)))))))))
theorem m_493 : Cond.constantLong "DecimalDesk$ShortestFinder" 53 10 ∈ gT := List.mem_append_right _ (List.mem_append_right _ (List.mem_append_right _ (List.mem_append_right _ (List.mem_append_right _ (List.mem_append_right _ (List.mem_append_right _ (List.mem_append_right _ (List.mem_append_left _ (List.mem_of_getElem? (l := gT_8) (i := 13) rfl)))))))))
theorem m_494 : Cond.methodLink "DecimalDesk$ShortestFinder" 55 y_Finder_takeDigit ∈ gT := List.mem_append_right _ (List.mem_append_right _ (List.mem_append_right _ (List.mem_append_right _ (List.mem_append_right _ (List.mem_append_right _ (List.mem_append_right _ (List.mem_append_right _ (List.mem_append_left _ (List.mem_of_getElem? (l := gT_8) (i := 14) rfl)))))))))
theorem m_495 : Cond.instanceMethod y_Finder_takeDigit ∈ gT := List.mem_append_right _ (List.mem_append_right _ (List.mem_append_right _ (List.mem_append_right _ (List.mem_append_right _ (List.mem_append_right _ (List.mem_append_right _ (List.mem_append_right _ (List.mem_append_left _ (List.mem_of_getElem? (l := gT_8) (i := 15) rfl)))))))))
theorem m_496 : Cond.code y_Finder_takeDigit prog_6_method_6_code 2 (some .int) ∈ gT := List.mem_append_right _ (List.mem_append_right _ (List.mem_append_right _ (List.mem_append_right _ (List.mem_append_right _ (List.mem_append_right _ (List.mem_append_right _ (List.mem_append_right _ (List.mem_append_left _ (List.mem_of_getElem? (l := gT_8) (i := 16) rfl)))))))))
theorem m_497 : Cond.methodLink "DecimalDesk$ShortestFinder" 118 y_Natural_subtract ∈ gT := List.mem_append_right _ (List.mem_append_right _ (List.mem_append_right _ (List.mem_append_right _ (List.mem_append_right _ (List.mem_append_right _ (List.mem_append_right _ (List.mem_append_right _ (List.mem_append_left _ (List.mem_of_getElem? (l := gT_8) (i := 17) rfl)))))))))
theorem m_498 : Cond.methodLink "DecimalDesk$ShortestFinder" 59 y_Finder_choose ∈ gT := List.mem_append_right _ (List.mem_append_right _ (List.mem_append_right _ (List.mem_append_right _ (List.mem_append_right _ (List.mem_append_right _ (List.mem_append_right _ (List.mem_append_right _ (List.mem_append_left _ (List.mem_of_getElem? (l := gT_8) (i := 18) rfl)))))))))
theorem m_499 : Cond.instanceMethod y_Finder_choose ∈ gT := List.mem_append_right _ (List.mem_append_right _ (List.mem_append_right _ (List.mem_append_right _ (List.mem_append_right _ (List.mem_append_right _ (List.mem_append_right _ (List.mem_append_right _ (List.mem_append_left _ (List.mem_of_getElem? (l := gT_8) (i := 19) rfl)))))))))
theorem m_500 : Cond.code y_Finder_choose prog_6_method_7_code 4 (some .boolean) ∈ gT := List.mem_append_right _ (List.mem_append_right _ (List.mem_append_right _ (List.mem_append_right _ (List.mem_append_right _ (List.mem_append_right _ (List.mem_append_right _ (List.mem_append_right _ (List.mem_append_left _ (List.mem_of_getElem? (l := gT_8) (i := 20) rfl)))))))))
theorem m_501 : Cond.methodLink "DecimalDesk$ShortestFinder" 121 y_Finder_isWithin ∈ gT := List.mem_append_right _ (List.mem_append_right _ (List.mem_append_right _ (List.mem_append_right _ (List.mem_append_right _ (List.mem_append_right _ (List.mem_append_right _ (List.mem_append_right _ (List.mem_append_left _ (List.mem_of_getElem? (l := gT_8) (i := 21) rfl)))))))))
theorem m_502 : Cond.instanceMethod y_Finder_isWithin ∈ gT := List.mem_append_right _ (List.mem_append_right _ (List.mem_append_right _ (List.mem_append_right _ (List.mem_append_right _ (List.mem_append_right _ (List.mem_append_right _ (List.mem_append_right _ (List.mem_append_left _ (List.mem_of_getElem? (l := gT_8) (i := 22) rfl)))))))))
theorem m_503 : Cond.code y_Finder_isWithin prog_6_method_8_code 2 (some .boolean) ∈ gT := List.mem_append_right _ (List.mem_append_right _ (List.mem_append_right _ (List.mem_append_right _ (List.mem_append_right _ (List.mem_append_right _ (List.mem_append_right _ (List.mem_append_right _ (List.mem_append_left _ (List.mem_of_getElem? (l := gT_8) (i := 23) rfl)))))))))
theorem m_504 : Cond.methodLink "DecimalDesk$ShortestFinder" 125 y_Natural_add ∈ gT := List.mem_append_right _ (List.mem_append_right _ (List.mem_append_right _ (List.mem_append_right _ (List.mem_append_right _ (List.mem_append_right _ (List.mem_append_right _ (List.mem_append_right _ (List.mem_append_left _ (List.mem_of_getElem? (l := gT_8) (i := 24) rfl)))))))))
theorem m_505 : Cond.instanceMethod y_Natural_add ∈ gT := List.mem_append_right _ (List.mem_append_right _ (List.mem_append_right _ (List.mem_append_right _ (List.mem_append_right _ (List.mem_append_right _ (List.mem_append_right _ (List.mem_append_right _ (List.mem_append_left _ (List.mem_of_getElem? (l := gT_8) (i := 25) rfl)))))))))
theorem m_506 : Cond.selects "DecimalDesk$Natural" y_Natural_add y_Natural_add ∈ gT := List.mem_append_right _ (List.mem_append_right _ (List.mem_append_right _ (List.mem_append_right _ (List.mem_append_right _ (List.mem_append_right _ (List.mem_append_right _ (List.mem_append_right _ (List.mem_append_left _ (List.mem_of_getElem? (l := gT_8) (i := 26) rfl)))))))))
theorem m_507 : Cond.code y_Natural_add prog_4_method_7_code 5 none ∈ gT := List.mem_append_right _ (List.mem_append_right _ (List.mem_append_right _ (List.mem_append_right _ (List.mem_append_right _ (List.mem_append_right _ (List.mem_append_right _ (List.mem_append_right _ (List.mem_append_left _ (List.mem_of_getElem? (l := gT_8) (i := 27) rfl)))))))))
theorem m_508 : Cond.methodLink "DecimalDesk" 178 y_Told_addDigits ∈ gT := List.mem_append_right _ (List.mem_append_right _ (List.mem_append_right _ (List.mem_append_right _ (List.mem_append_right _ (List.mem_append_right _ (List.mem_append_right _ (List.mem_append_right _ (List.mem_append_left _ (List.mem_of_getElem? (l := gT_8) (i := 28) rfl)))))))))
theorem m_509 : Cond.methodLink "DecimalDeskLaw" 68 y_Law_exact ∈ gT := List.mem_append_right _ (List.mem_append_right _ (List.mem_append_right _ (List.mem_append_right _ (List.mem_append_right _ (List.mem_append_right _ (List.mem_append_right _ (List.mem_append_right _ (List.mem_append_left _ (List.mem_of_getElem? (l := gT_8) (i := 29) rfl)))))))))
theorem m_510 : Cond.static y_Law_exact ∈ gT := List.mem_append_right _ (List.mem_append_right _ (List.mem_append_right _ (List.mem_append_right _ (List.mem_append_right _ (List.mem_append_right _ (List.mem_append_right _ (List.mem_append_right _ (List.mem_append_left _ (List.mem_of_getElem? (l := gT_8) (i := 30) rfl)))))))))
theorem m_511 : Cond.methodLink "DecimalDeskLaw" 19 y_Desk_exact ∈ gT := List.mem_append_right _ (List.mem_append_right _ (List.mem_append_right _ (List.mem_append_right _ (List.mem_append_right _ (List.mem_append_right _ (List.mem_append_right _ (List.mem_append_right _ (List.mem_append_left _ (List.mem_of_getElem? (l := gT_8) (i := 31) rfl)))))))))
theorem m_512 : Cond.instanceMethod y_Desk_exact ∈ gT := List.mem_append_right _ (List.mem_append_right _ (List.mem_append_right _ (List.mem_append_right _ (List.mem_append_right _ (List.mem_append_right _ (List.mem_append_right _ (List.mem_append_right _ (List.mem_append_left _ (List.mem_of_getElem? (l := gT_8) (i := 32) rfl)))))))))
theorem m_513 : Cond.selects "DecimalDesk" y_Desk_exact y_Desk_exact ∈ gT := List.mem_append_right _ (List.mem_append_right _ (List.mem_append_right _ (List.mem_append_right _ (List.mem_append_right _ (List.mem_append_right _ (List.mem_append_right _ (List.mem_append_right _ (List.mem_append_left _ (List.mem_of_getElem? (l := gT_8) (i := 33) rfl)))))))))
theorem m_514 : Cond.code y_Desk_exact prog_1_method_9_code 3 (some .int) ∈ gT := List.mem_append_right _ (List.mem_append_right _ (List.mem_append_right _ (List.mem_append_right _ (List.mem_append_right _ (List.mem_append_right _ (List.mem_append_right _ (List.mem_append_right _ (List.mem_append_left _ (List.mem_of_getElem? (l := gT_8) (i := 34) rfl)))))))))
theorem m_515 : Cond.methodLink "DecimalDesk" 132 y_Desk_tellAllDigits ∈ gT := List.mem_append_right _ (List.mem_append_right _ (List.mem_append_right _ (List.mem_append_right _ (List.mem_append_right _ (List.mem_append_right _ (List.mem_append_right _ (List.mem_append_right _ (List.mem_append_left _ (List.mem_of_getElem? (l := gT_8) (i := 35) rfl)))))))))
theorem m_516 : Cond.instanceMethod y_Desk_tellAllDigits ∈ gT := List.mem_append_right _ (List.mem_append_right _ (List.mem_append_right _ (List.mem_append_right _ (List.mem_append_right _ (List.mem_append_right _ (List.mem_append_right _ (List.mem_append_right _ (List.mem_append_left _ (List.mem_of_getElem? (l := gT_8) (i := 36) rfl)))))))))
theorem m_517 : Cond.code y_Desk_tellAllDigits prog_1_method_16_code 8 none ∈ gT := List.mem_append_right _ (List.mem_append_right _ (List.mem_append_right _ (List.mem_append_right _ (List.mem_append_right _ (List.mem_append_right _ (List.mem_append_right _ (List.mem_append_right _ (List.mem_append_left _ (List.mem_of_getElem? (l := gT_8) (i := 37) rfl)))))))))
theorem m_518 : Cond.methodLink "DecimalDesk" 185 y_Layout_significandOf ∈ gT := List.mem_append_right _ (List.mem_append_right _ (List.mem_append_right _ (List.mem_append_right _ (List.mem_append_right _ (List.mem_append_right _ (List.mem_append_right _ (List.mem_append_right _ (List.mem_append_left _ (List.mem_of_getElem? (l := gT_8) (i := 38) rfl)))))))))
theorem m_519 : Cond.methodLink "DecimalDesk" 188 y_Layout_powerOf ∈ gT := List.mem_append_right _ (List.mem_append_right _ (List.mem_append_right _ (List.mem_append_right _ (List.mem_append_right _ (List.mem_append_right _ (List.mem_append_right _ (List.mem_append_right _ (List.mem_append_left _ (List.mem_of_getElem? (l := gT_8) (i := 39) rfl)))))))))
theorem m_520 : Cond.methodLink "DecimalDesk" 192 y_Natural_set ∈ gT := List.mem_append_right _ (List.mem_append_right _ (List.mem_append_right _ (List.mem_append_right _ (List.mem_append_right _ (List.mem_append_right _ (List.mem_append_right _ (List.mem_append_right _ (List.mem_append_left _ (List.mem_of_getElem? (l := gT_8) (i := 40) rfl)))))))))
theorem m_521 : Cond.methodLink "DecimalDesk" 195 y_Natural_shiftLeft ∈ gT := List.mem_append_right _ (List.mem_append_right _ (List.mem_append_right _ (List.mem_append_right _ (List.mem_append_right _ (List.mem_append_right _ (List.mem_append_right _ (List.mem_append_right _ (List.mem_append_left _ (List.mem_of_getElem? (l := gT_8) (i := 41) rfl)))))))))
theorem m_522 : Cond.methodLink "DecimalDesk" 198 y_Told_addNatural ∈ gT := List.mem_append_right _ (List.mem_append_right _ (List.mem_append_right _ (List.mem_append_right _ (List.mem_append_right _ (List.mem_append_right _ (List.mem_append_right _ (List.mem_append_right _ (List.mem_append_left _ (List.mem_of_getElem? (l := gT_8) (i := 42) rfl)))))))))
theorem m_523 : Cond.instanceMethod y_Told_addNatural ∈ gT := List.mem_append_right _ (List.mem_append_right _ (List.mem_append_right _ (List.mem_append_right _ (List.mem_append_right _ (List.mem_append_right _ (List.mem_append_right _ (List.mem_append_right _ (List.mem_append_left _ (List.mem_of_getElem? (l := gT_8) (i := 43) rfl)))))))))
theorem m_524 : Cond.selects "DecimalDesk$Told" y_Told_addNatural y_Told_addNatural ∈ gT := List.mem_append_right _ (List.mem_append_right _ (List.mem_append_right _ (List.mem_append_right _ (List.mem_append_right _ (List.mem_append_right _ (List.mem_append_right _ (List.mem_append_right _ (List.mem_append_left _ (List.mem_of_getElem? (l := gT_8) (i := 44) rfl)))))))))
theorem m_525 : Cond.code y_Told_addNatural prog_8_method_7_code 6 none ∈ gT := List.mem_append_right _ (List.mem_append_right _ (List.mem_append_right _ (List.mem_append_right _ (List.mem_append_right _ (List.mem_append_right _ (List.mem_append_right _ (List.mem_append_right _ (List.mem_append_left _ (List.mem_of_getElem? (l := gT_8) (i := 45) rfl)))))))))
theorem m_526 : Cond.methodLink "DecimalDesk$Told" 42 y_Natural_isZero ∈ gT := List.mem_append_right _ (List.mem_append_right _ (List.mem_append_right _ (List.mem_append_right _ (List.mem_append_right _ (List.mem_append_right _ (List.mem_append_right _ (List.mem_append_right _ (List.mem_append_left _ (List.mem_of_getElem? (l := gT_8) (i := 46) rfl)))))))))
theorem m_527 : Cond.constant "DecimalDesk$Told" 48 1000000000 ∈ gT := List.mem_append_right _ (List.mem_append_right _ (List.mem_append_right _ (List.mem_append_right _ (List.mem_append_right _ (List.mem_append_right _ (List.mem_append_right _ (List.mem_append_right _ (List.mem_append_left _ (List.mem_of_getElem? (l := gT_8) (i := 47) rfl)))))))))
theorem m_528 : Cond.methodLink "DecimalDesk$Told" 49 y_Natural_divide ∈ gT := List.mem_append_right _ (List.mem_append_right _ (List.mem_append_right _ (List.mem_append_right _ (List.mem_append_right _ (List.mem_append_right _ (List.mem_append_right _ (List.mem_append_right _ (List.mem_append_left _ (List.mem_of_getElem? (l := gT_8) (i := 48) rfl)))))))))
theorem m_529 : Cond.instanceMethod y_Natural_divide ∈ gT := List.mem_append_right _ (List.mem_append_right _ (List.mem_append_right _ (List.mem_append_right _ (List.mem_append_right _ (List.mem_append_right _ (List.mem_append_right _ (List.mem_append_right _ (List.mem_append_left _ (List.mem_of_getElem? (l := gT_8) (i := 49) rfl)))))))))
theorem m_530 : Cond.selects "DecimalDesk$Natural" y_Natural_divide y_Natural_divide ∈ gT := List.mem_append_right _ (List.mem_append_right _ (List.mem_append_right _ (List.mem_append_right _ (List.mem_append_right _ (List.mem_append_right _ (List.mem_append_right _ (List.mem_append_right _ (List.mem_append_left _ (List.mem_of_getElem? (l := gT_8) (i := 50) rfl)))))))))
theorem m_531 : Cond.code y_Natural_divide prog_4_method_13_code 5 (some .int) ∈ gT := List.mem_append_right _ (List.mem_append_right _ (List.mem_append_right _ (List.mem_append_right _ (List.mem_append_right _ (List.mem_append_right _ (List.mem_append_right _ (List.mem_append_right _ (List.mem_append_left _ (List.mem_of_getElem? (l := gT_8) (i := 51) rfl)))))))))
theorem m_532 : Cond.methodLink "DecimalDesk" 202 y_Natural_timesPowerOfFive ∈ gT := List.mem_append_right _ (List.mem_append_right _ (List.mem_append_right _ (List.mem_append_right _ (List.mem_append_right _ (List.mem_append_right _ (List.mem_append_right _ (List.mem_append_right _ (List.mem_append_left _ (List.mem_of_getElem? (l := gT_8) (i := 52) rfl)))))))))
theorem m_533 : Cond.methodLink "DecimalDeskLaw" 71 y_Law_letter ∈ gT := List.mem_append_right _ (List.mem_append_right _ (List.mem_append_right _ (List.mem_append_right _ (List.mem_append_right _ (List.mem_append_right _ (List.mem_append_right _ (List.mem_append_right _ (List.mem_append_left _ (List.mem_of_getElem? (l := gT_8) (i := 53) rfl)))))))))
theorem m_534 : Cond.static y_Law_letter ∈ gT := List.mem_append_right _ (List.mem_append_right _ (List.mem_append_right _ (List.mem_append_right _ (List.mem_append_right _ (List.mem_append_right _ (List.mem_append_right _ (List.mem_append_right _ (List.mem_append_left _ (List.mem_of_getElem? (l := gT_8) (i := 54) rfl)))))))))
theorem m_535 : Cond.classLink "DecimalDeskLaw" 26 "java/util/NoSuchElementException" ∈ gT := List.mem_append_right _ (List.mem_append_right _ (List.mem_append_right _ (List.mem_append_right _ (List.mem_append_right _ (List.mem_append_right _ (List.mem_append_right _ (List.mem_append_right _ (List.mem_append_left _ (List.mem_of_getElem? (l := gT_8) (i := 55) rfl)))))))))
theorem m_536 : Cond.methodLink "DecimalDeskLaw" 22 y_Desk_letter ∈ gT := List.mem_append_right _ (List.mem_append_right _ (List.mem_append_right _ (List.mem_append_right _ (List.mem_append_right _ (List.mem_append_right _ (List.mem_append_right _ (List.mem_append_right _ (List.mem_append_left _ (List.mem_of_getElem? (l := gT_8) (i := 56) rfl)))))))))
theorem m_537 : Cond.instanceMethod y_Desk_letter ∈ gT := List.mem_append_right _ (List.mem_append_right _ (List.mem_append_right _ (List.mem_append_right _ (List.mem_append_right _ (List.mem_append_right _ (List.mem_append_right _ (List.mem_append_right _ (List.mem_append_left _ (List.mem_of_getElem? (l := gT_8) (i := 57) rfl)))))))))
theorem m_538 : Cond.selects "DecimalDesk" y_Desk_letter y_Desk_letter ∈ gT := List.mem_append_right _ (List.mem_append_right _ (List.mem_append_right _ (List.mem_append_right _ (List.mem_append_right _ (List.mem_append_right _ (List.mem_append_right _ (List.mem_append_right _ (List.mem_append_left _ (List.mem_of_getElem? (l := gT_8) (i := 58) rfl)))))))))
theorem m_539 : Cond.code y_Desk_letter prog_1_method_10_code 2 (some .int) ∈ gT := List.mem_append_right _ (List.mem_append_right _ (List.mem_append_right _ (List.mem_append_right _ (List.mem_append_right _ (List.mem_append_right _ (List.mem_append_right _ (List.mem_append_right _ (List.mem_append_left _ (List.mem_of_getElem? (l := gT_8) (i := 59) rfl)))))))))
theorem m_540 : Cond.classLink "DecimalDesk" 135 "java/util/NoSuchElementException" ∈ gT := List.mem_append_right _ (List.mem_append_right _ (List.mem_append_right _ (List.mem_append_right _ (List.mem_append_right _ (List.mem_append_right _ (List.mem_append_right _ (List.mem_append_right _ (List.mem_append_right _ (List.mem_append_left _ (List.mem_of_getElem? (l := gT_9) (i := 0) rfl))))))))))
theorem m_541 : Cond.instantiable "java/util/NoSuchElementException" 6 ∈ gT := List.mem_append_right _ (List.mem_append_right _ (List.mem_append_right _ (List.mem_append_right _ (List.mem_append_right _ (List.mem_append_right _ (List.mem_append_right _ (List.mem_append_right _ (List.mem_append_right _ (List.mem_append_left _ (List.mem_of_getElem? (l := gT_9) (i := 1) rfl))))))))))
theorem m_542 : Cond.selects "java/util/NoSuchElementException" y_Throwable_fillInStackTraceI y_Throwable_fillInStackTraceI ∈ gT := List.mem_append_right _ (List.mem_append_right _ (List.mem_append_right _ (List.mem_append_right _ (List.mem_append_right _ (List.mem_append_right _ (List.mem_append_right _ (List.mem_append_right _ (List.mem_append_right _ (List.mem_append_left _ (List.mem_of_getElem? (l := gT_9) (i := 2) rfl))))))))))
theorem m_543 : Cond.lays "java/util/NoSuchElementException" "java/lang/Throwable" "cause" "Ljava/lang/Throwable;" ∈ gT := List.mem_append_right _ (List.mem_append_right _ (List.mem_append_right _ (List.mem_append_right _ (List.mem_append_right _ (List.mem_append_right _ (List.mem_append_right _ (List.mem_append_right _ (List.mem_append_right _ (List.mem_append_left _ (List.mem_of_getElem? (l := gT_9) (i := 3) rfl))))))))))
theorem m_544 : Cond.lays "java/util/NoSuchElementException" "java/lang/Throwable" "stackTrace" "[Ljava/lang/StackTraceElement;" ∈ gT := List.mem_append_right _ (List.mem_append_right _ (List.mem_append_right _ (List.mem_append_right _ (List.mem_append_right _ (List.mem_append_right _ (List.mem_append_right _ (List.mem_append_right _ (List.mem_append_right _ (List.mem_append_left _ (List.mem_of_getElem? (l := gT_9) (i := 4) rfl))))))))))
theorem m_545 : Cond.lays "java/util/NoSuchElementException" "java/lang/Throwable" "suppressedExceptions" "Ljava/util/List;" ∈ gT := List.mem_append_right _ (List.mem_append_right _ (List.mem_append_right _ (List.mem_append_right _ (List.mem_append_right _ (List.mem_append_right _ (List.mem_append_right _ (List.mem_append_right _ (List.mem_append_right _ (List.mem_append_left _ (List.mem_of_getElem? (l := gT_9) (i := 5) rfl))))))))))
theorem m_546 : Cond.lays "java/util/NoSuchElementException" "java/lang/Throwable" "detailMessage" "Ljava/lang/String;" ∈ gT := List.mem_append_right _ (List.mem_append_right _ (List.mem_append_right _ (List.mem_append_right _ (List.mem_append_right _ (List.mem_append_right _ (List.mem_append_right _ (List.mem_append_right _ (List.mem_append_right _ (List.mem_append_left _ (List.mem_of_getElem? (l := gT_9) (i := 6) rfl))))))))))
theorem m_547 : Cond.lays "java/util/NoSuchElementException" "java/lang/Throwable" "backtrace" "Ljava/lang/Object;" ∈ gT := List.mem_append_right _ (List.mem_append_right _ (List.mem_append_right _ (List.mem_append_right _ (List.mem_append_right _ (List.mem_append_right _ (List.mem_append_right _ (List.mem_append_right _ (List.mem_append_right _ (List.mem_append_left _ (List.mem_of_getElem? (l := gT_9) (i := 7) rfl))))))))))
theorem m_548 : Cond.methodLink "DecimalDesk" 139 y_NoSuchEl_init ∈ gT := List.mem_append_right _ (List.mem_append_right _ (List.mem_append_right _ (List.mem_append_right _ (List.mem_append_right _ (List.mem_append_right _ (List.mem_append_right _ (List.mem_append_right _ (List.mem_append_right _ (List.mem_append_left _ (List.mem_of_getElem? (l := gT_9) (i := 8) rfl))))))))))
theorem m_549 : Cond.instanceMethod y_NoSuchEl_init ∈ gT := List.mem_append_right _ (List.mem_append_right _ (List.mem_append_right _ (List.mem_append_right _ (List.mem_append_right _ (List.mem_append_right _ (List.mem_append_right _ (List.mem_append_right _ (List.mem_append_right _ (List.mem_append_left _ (List.mem_of_getElem? (l := gT_9) (i := 9) rfl))))))))))
theorem m_550 : Cond.code y_NoSuchEl_init prog_19_method_4_code 2 none ∈ gT := List.mem_append_right _ (List.mem_append_right _ (List.mem_append_right _ (List.mem_append_right _ (List.mem_append_right _ (List.mem_append_right _ (List.mem_append_right _ (List.mem_append_right _ (List.mem_append_right _ (List.mem_append_left _ (List.mem_of_getElem? (l := gT_9) (i := 10) rfl))))))))))
theorem m_551 : Cond.methodLink "java/util/NoSuchElementException" 13 y_RuntimeEx_init ∈ gT := List.mem_append_right _ (List.mem_append_right _ (List.mem_append_right _ (List.mem_append_right _ (List.mem_append_right _ (List.mem_append_right _ (List.mem_append_right _ (List.mem_append_right _ (List.mem_append_right _ (List.mem_append_left _ (List.mem_of_getElem? (l := gT_9) (i := 11) rfl))))))))))
theorem m_552 : Cond.lays "java/util/NoSuchElementException" "java/lang/Throwable" "depth" "I" ∈ gT := List.mem_append_right _ (List.mem_append_right _ (List.mem_append_right _ (List.mem_append_right _ (List.mem_append_right _ (List.mem_append_right _ (List.mem_append_right _ (List.mem_append_right _ (List.mem_append_right _ (List.mem_append_left _ (List.mem_of_getElem? (l := gT_9) (i := 12) rfl))))))))))
theorem m_553 : Cond.methodLink "DecimalDesk" 140 y_Told_at ∈ gT := List.mem_append_right _ (List.mem_append_right _ (List.mem_append_right _ (List.mem_append_right _ (List.mem_append_right _ (List.mem_append_right _ (List.mem_append_right _ (List.mem_append_right _ (List.mem_append_right _ (List.mem_append_left _ (List.mem_of_getElem? (l := gT_9) (i := 13) rfl))))))))))
theorem m_554 : Cond.instanceMethod y_Told_at ∈ gT := List.mem_append_right _ (List.mem_append_right _ (List.mem_append_right _ (List.mem_append_right _ (List.mem_append_right _ (List.mem_append_right _ (List.mem_append_right _ (List.mem_append_right _ (List.mem_append_right _ (List.mem_append_left _ (List.mem_of_getElem? (l := gT_9) (i := 14) rfl))))))))))
theorem m_555 : Cond.selects "DecimalDesk$Told" y_Told_at y_Told_at ∈ gT := List.mem_append_right _ (List.mem_append_right _ (List.mem_append_right _ (List.mem_append_right _ (List.mem_append_right _ (List.mem_append_right _ (List.mem_append_right _ (List.mem_append_right _ (List.mem_append_right _ (List.mem_append_left _ (List.mem_of_getElem? (l := gT_9) (i := 15) rfl))))))))))
theorem m_556 : Cond.code y_Told_at prog_8_method_2_code 2 (some .int) ∈ gT := List.mem_append_right _ (List.mem_append_right _ (List.mem_append_right _ (List.mem_append_right _ (List.mem_append_right _ (List.mem_append_right _ (List.mem_append_right _ (List.mem_append_right _ (List.mem_append_right _ (List.mem_append_left _ (List.mem_of_getElem? (l := gT_9) (i := 16) rfl))))))))))
theorem m_557 : Cond.classLink "DecimalDeskLaw" 29 "DecimalDeskModel" ∈ gT := List.mem_append_right _ (List.mem_append_right _ (List.mem_append_right _ (List.mem_append_right _ (List.mem_append_right _ (List.mem_append_right _ (List.mem_append_right _ (List.mem_append_right _ (List.mem_append_right _ (List.mem_append_left _ (List.mem_of_getElem? (l := gT_9) (i := 17) rfl))))))))))
theorem m_558 : Cond.instantiable "DecimalDeskModel" 26 ∈ gT := List.mem_append_right _ (List.mem_append_right _ (List.mem_append_right _ (List.mem_append_right _ (List.mem_append_right _ (List.mem_append_right _ (List.mem_append_right _ (List.mem_append_right _ (List.mem_append_right _ (List.mem_append_left _ (List.mem_of_getElem? (l := gT_9) (i := 18) rfl))))))))))
theorem m_559 : Cond.methodLink "DecimalDeskLaw" 31 y_Model_init ∈ gT := List.mem_append_right _ (List.mem_append_right _ (List.mem_append_right _ (List.mem_append_right _ (List.mem_append_right _ (List.mem_append_right _ (List.mem_append_right _ (List.mem_append_right _ (List.mem_append_right _ (List.mem_append_left _ (List.mem_of_getElem? (l := gT_9) (i := 19) rfl))))))))))
theorem m_560 : Cond.instanceMethod y_Model_init ∈ gT := List.mem_append_right _ (List.mem_append_right _ (List.mem_append_right _ (List.mem_append_right _ (List.mem_append_right _ (List.mem_append_right _ (List.mem_append_right _ (List.mem_append_right _ (List.mem_append_right _ (List.mem_append_left _ (List.mem_of_getElem? (l := gT_9) (i := 20) rfl))))))))))
theorem m_561 : Cond.code y_Model_init prog_10_method_1_code 1 none ∈ gT := List.mem_append_right _ (List.mem_append_right _ (List.mem_append_right _ (List.mem_append_right _ (List.mem_append_right _ (List.mem_append_right _ (List.mem_append_right _ (List.mem_append_right _ (List.mem_append_right _ (List.mem_append_left _ (List.mem_of_getElem? (l := gT_9) (i := 21) rfl))))))))))
theorem m_562 : Cond.methodLink "DecimalDeskModel" 1 objectInit ∈ gT := List.mem_append_right _ (List.mem_append_right _ (List.mem_append_right _ (List.mem_append_right _ (List.mem_append_right _ (List.mem_append_right _ (List.mem_append_right _ (List.mem_append_right _ (List.mem_append_right _ (List.mem_append_left _ (List.mem_of_getElem? (l := gT_9) (i := 22) rfl))))))))))
theorem m_563 : Cond.fieldLink "DecimalDeskModel" 41 "DecimalDeskModel" "thrown" "I" ∈ gT := List.mem_append_right _ (List.mem_append_right _ (List.mem_append_right _ (List.mem_append_right _ (List.mem_append_right _ (List.mem_append_right _ (List.mem_append_right _ (List.mem_append_right _ (List.mem_append_right _ (List.mem_append_left _ (List.mem_of_getElem? (l := gT_9) (i := 23) rfl))))))))))
theorem m_564 : Cond.fieldLink "DecimalDeskModel" 7 "DecimalDeskModel" "widthE" "I" ∈ gT := List.mem_append_right _ (List.mem_append_right _ (List.mem_append_right _ (List.mem_append_right _ (List.mem_append_right _ (List.mem_append_right _ (List.mem_append_right _ (List.mem_append_right _ (List.mem_append_right _ (List.mem_append_left _ (List.mem_of_getElem? (l := gT_9) (i := 24) rfl))))))))))
theorem m_565 : Cond.fieldLink "DecimalDeskModel" 13 "DecimalDeskModel" "widthM" "I" ∈ gT := List.mem_append_right _ (List.mem_append_right _ (List.mem_append_right _ (List.mem_append_right _ (List.mem_append_right _ (List.mem_append_right _ (List.mem_append_right _ (List.mem_append_right _ (List.mem_append_right _ (List.mem_append_left _ (List.mem_of_getElem? (l := gT_9) (i := 25) rfl))))))))))
theorem m_566 : Cond.fieldLink "DecimalDeskModel" 44 "DecimalDeskModel" "way" "I" ∈ gT := List.mem_append_right _ (List.mem_append_right _ (List.mem_append_right _ (List.mem_append_right _ (List.mem_append_right _ (List.mem_append_right _ (List.mem_append_right _ (List.mem_append_right _ (List.mem_append_right _ (List.mem_append_left _ (List.mem_of_getElem? (l := gT_9) (i := 26) rfl))))))))))
theorem m_567 : Cond.fieldLink "DecimalDeskModel" 52 "DecimalDeskModel" "raised" "I" ∈ gT := List.mem_append_right _ (List.mem_append_right _ (List.mem_append_right _ (List.mem_append_right _ (List.mem_append_right _ (List.mem_append_right _ (List.mem_append_right _ (List.mem_append_right _ (List.mem_append_right _ (List.mem_append_left _ (List.mem_of_getElem? (l := gT_9) (i := 27) rfl))))))))))
theorem m_568 : Cond.fieldLink "DecimalDeskModel" 16 "DecimalDeskModel" "tape" "[I" ∈ gT := List.mem_append_right _ (List.mem_append_right _ (List.mem_append_right _ (List.mem_append_right _ (List.mem_append_right _ (List.mem_append_right _ (List.mem_append_right _ (List.mem_append_right _ (List.mem_append_right _ (List.mem_append_left _ (List.mem_of_getElem? (l := gT_9) (i := 28) rfl))))))))))
theorem m_569 : Cond.fieldLink "DecimalDeskModel" 47 "DecimalDeskModel" "taped" "I" ∈ gT := List.mem_append_right _ (List.mem_append_right _ (List.mem_append_right _ (List.mem_append_right _ (List.mem_append_right _ (List.mem_append_right _ (List.mem_append_right _ (List.mem_append_right _ (List.mem_append_right _ (List.mem_append_left _ (List.mem_of_getElem? (l := gT_9) (i := 29) rfl))))))))))
theorem m_570 : Cond.fieldLink "DecimalDeskModel" 20 "DecimalDeskModel" "told" "[I" ∈ gT := List.mem_append_right _ (List.mem_append_right _ (List.mem_append_right _ (List.mem_append_right _ (List.mem_append_right _ (List.mem_append_right _ (List.mem_append_right _ (List.mem_append_right _ (List.mem_append_right _ (List.mem_append_left _ (List.mem_of_getElem? (l := gT_9) (i := 30) rfl))))))))))
theorem m_571 : Cond.fieldLink "DecimalDeskModel" 149 "DecimalDeskModel" "toldLong" "I" ∈ gT := List.mem_append_right _ (List.mem_append_right _ (List.mem_append_right _ (List.mem_append_right _ (List.mem_append_right _ (List.mem_append_right _ (List.mem_append_right _ (List.mem_append_right _ (List.mem_append_right _ (List.mem_append_left _ (List.mem_of_getElem? (l := gT_9) (i := 31) rfl))))))))))
theorem m_572 : Cond.fieldLink "DecimalDeskModel" 23 "DecimalDeskModel" "row" "[I" ∈ gT := List.mem_append_right _ (List.mem_append_right _ (List.mem_append_right _ (List.mem_append_right _ (List.mem_append_right _ (List.mem_append_right _ (List.mem_append_right _ (List.mem_append_right _ (List.mem_append_right _ (List.mem_append_left _ (List.mem_of_getElem? (l := gT_9) (i := 32) rfl))))))))))
theorem m_573 : Cond.fieldLink "DecimalDeskModel" 26 "DecimalDeskModel" "first" "I" ∈ gT := List.mem_append_right _ (List.mem_append_right _ (List.mem_append_right _ (List.mem_append_right _ (List.mem_append_right _ (List.mem_append_right _ (List.mem_append_right _ (List.mem_append_right _ (List.mem_append_right _ (List.mem_append_left _ (List.mem_of_getElem? (l := gT_9) (i := 33) rfl))))))))))
theorem m_574 : Cond.fieldLink "DecimalDeskModel" 29 "DecimalDeskModel" "last" "I" ∈ gT := List.mem_append_right _ (List.mem_append_right _ (List.mem_append_right _ (List.mem_append_right _ (List.mem_append_right _ (List.mem_append_right _ (List.mem_append_right _ (List.mem_append_right _ (List.mem_append_right _ (List.mem_append_left _ (List.mem_of_getElem? (l := gT_9) (i := 34) rfl))))))))))
theorem m_575 : Cond.fieldLink "DecimalDeskModel" 32 "DecimalDeskModel" "whole" "[I" ∈ gT := List.mem_append_right _ (List.mem_append_right _ (List.mem_append_right _ (List.mem_append_right _ (List.mem_append_right _ (List.mem_append_right _ (List.mem_append_right _ (List.mem_append_right _ (List.mem_append_right _ (List.mem_append_left _ (List.mem_of_getElem? (l := gT_9) (i := 35) rfl))))))))))
theorem m_576 : Cond.fieldLink "DecimalDeskModel" 170 "DecimalDeskModel" "wholeFirst" "I" ∈ gT := List.mem_append_right _ (List.mem_append_right _ (List.mem_append_right _ (List.mem_append_right _ (List.mem_append_right _ (List.mem_append_right _ (List.mem_append_right _ (List.mem_append_right _ (List.mem_append_right _ (List.mem_append_left _ (List.mem_of_getElem? (l := gT_9) (i := 36) rfl))))))))))
theorem m_577 : Cond.fieldLink "DecimalDeskModel" 173 "DecimalDeskModel" "wholeLast" "I" ∈ gT := List.mem_append_right _ (List.mem_append_right _ (List.mem_append_right _ (List.mem_append_right _ (List.mem_append_right _ (List.mem_append_right _ (List.mem_append_right _ (List.mem_append_right _ (List.mem_append_right _ (List.mem_append_left _ (List.mem_of_getElem? (l := gT_9) (i := 37) rfl))))))))))
theorem m_578 : Cond.fieldLink "DecimalDeskModel" 81 "DecimalDeskModel" "lost" "Z" ∈ gT := List.mem_append_right _ (List.mem_append_right _ (List.mem_append_right _ (List.mem_append_right _ (List.mem_append_right _ (List.mem_append_right _ (List.mem_append_right _ (List.mem_append_right _ (List.mem_append_right _ (List.mem_append_left _ (List.mem_of_getElem? (l := gT_9) (i := 38) rfl))))))))))
theorem m_579 : Cond.fieldLink "DecimalDeskModel" 88 "DecimalDeskModel" "over" "Z" ∈ gT := List.mem_append_right _ (List.mem_append_right _ (List.mem_append_right _ (List.mem_append_right _ (List.mem_append_right _ (List.mem_append_right _ (List.mem_append_right _ (List.mem_append_right _ (List.mem_append_right _ (List.mem_append_left _ (List.mem_of_getElem? (l := gT_9) (i := 39) rfl))))))))))
theorem m_580 : Cond.fieldLink "DecimalDeskModel" 68 "DecimalDeskModel" "under" "Z" ∈ gT := List.mem_append_right _ (List.mem_append_right _ (List.mem_append_right _ (List.mem_append_right _ (List.mem_append_right _ (List.mem_append_right _ (List.mem_append_right _ (List.mem_append_right _ (List.mem_append_right _ (List.mem_append_left _ (List.mem_of_getElem? (l := gT_9) (i := 40) rfl))))))))))
theorem m_581 : Cond.fieldLink "DecimalDeskModel" 95 "DecimalDeskModel" "at" "I" ∈ gT := List.mem_append_right _ (List.mem_append_right _ (List.mem_append_right _ (List.mem_append_right _ (List.mem_append_right _ (List.mem_append_right _ (List.mem_append_right _ (List.mem_append_right _ (List.mem_append_right _ (List.mem_append_left _ (List.mem_of_getElem? (l := gT_9) (i := 41) rfl))))))))))
theorem m_582 : Cond.fieldLink "DecimalDeskModel" 112 "DecimalDeskModel" "minus" "Z" ∈ gT := List.mem_append_right _ (List.mem_append_right _ (List.mem_append_right _ (List.mem_append_right _ (List.mem_append_right _ (List.mem_append_right _ (List.mem_append_right _ (List.mem_append_right _ (List.mem_append_right _ (List.mem_append_left _ (List.mem_of_getElem? (l := gT_9) (i := 42) rfl))))))))))
theorem m_583 : Cond.fieldLink "DecimalDeskModel" 106 "DecimalDeskModel" "digits" "I" ∈ gT := List.mem_append_right _ (List.mem_append_right _ (List.mem_append_right _ (List.mem_append_right _ (List.mem_append_right _ (List.mem_append_right _ (List.mem_append_right _ (List.mem_append_right _ (List.mem_append_right _ (List.mem_append_left _ (List.mem_of_getElem? (l := gT_9) (i := 43) rfl))))))))))
theorem m_584 : Cond.fieldLink "DecimalDeskModel" 35 "DecimalDeskModel" "digit" "[I" ∈ gT := List.mem_append_right _ (List.mem_append_right _ (List.mem_append_right _ (List.mem_append_right _ (List.mem_append_right _ (List.mem_append_right _ (List.mem_append_right _ (List.mem_append_right _ (List.mem_append_right _ (List.mem_append_left _ (List.mem_of_getElem? (l := gT_9) (i := 44) rfl))))))))))
theorem m_585 : Cond.fieldLink "DecimalDeskModel" 118 "DecimalDeskModel" "ahead0" "I" ∈ gT := List.mem_append_right _ (List.mem_append_right _ (List.mem_append_right _ (List.mem_append_right _ (List.mem_append_right _ (List.mem_append_right _ (List.mem_append_right _ (List.mem_append_right _ (List.mem_append_right _ (List.mem_append_left _ (List.mem_of_getElem? (l := gT_9) (i := 45) rfl))))))))))
theorem m_586 : Cond.fieldLink "DecimalDeskModel" 109 "DecimalDeskModel" "exponent" "I" ∈ gT := List.mem_append_right _ (List.mem_append_right _ (List.mem_append_right _ (List.mem_append_right _ (List.mem_append_right _ (List.mem_append_right _ (List.mem_append_right _ (List.mem_append_right _ (List.mem_append_right _ (List.mem_append_left _ (List.mem_of_getElem? (l := gT_9) (i := 46) rfl))))))))))
theorem m_587 : Cond.fieldLink "DecimalDeskModel" 38 "DecimalDeskModel" "tried" "[I" ∈ gT := List.mem_append_right _ (List.mem_append_right _ (List.mem_append_right _ (List.mem_append_right _ (List.mem_append_right _ (List.mem_append_right _ (List.mem_append_right _ (List.mem_append_right _ (List.mem_append_right _ (List.mem_append_left _ (List.mem_of_getElem? (l := gT_9) (i := 47) rfl))))))))))
theorem m_588 : Cond.fieldLink "DecimalDeskModel" 176 "DecimalDeskModel" "ten" "I" ∈ gT := List.mem_append_right _ (List.mem_append_right _ (List.mem_append_right _ (List.mem_append_right _ (List.mem_append_right _ (List.mem_append_right _ (List.mem_append_right _ (List.mem_append_right _ (List.mem_append_right _ (List.mem_append_left _ (List.mem_of_getElem? (l := gT_9) (i := 48) rfl))))))))))
theorem m_589 : Cond.lays "DecimalDeskModel" "DecimalDeskModel" "thrown" "I" ∈ gT := List.mem_append_right _ (List.mem_append_right _ (List.mem_append_right _ (List.mem_append_right _ (List.mem_append_right _ (List.mem_append_right _ (List.mem_append_right _ (List.mem_append_right _ (List.mem_append_right _ (List.mem_append_left _ (List.mem_of_getElem? (l := gT_9) (i := 49) rfl))))))))))
theorem m_590 : Cond.lays "DecimalDeskModel" "DecimalDeskModel" "widthE" "I" ∈ gT := List.mem_append_right _ (List.mem_append_right _ (List.mem_append_right _ (List.mem_append_right _ (List.mem_append_right _ (List.mem_append_right _ (List.mem_append_right _ (List.mem_append_right _ (List.mem_append_right _ (List.mem_append_left _ (List.mem_of_getElem? (l := gT_9) (i := 50) rfl))))))))))
theorem m_591 : Cond.lays "DecimalDeskModel" "DecimalDeskModel" "widthM" "I" ∈ gT := List.mem_append_right _ (List.mem_append_right _ (List.mem_append_right _ (List.mem_append_right _ (List.mem_append_right _ (List.mem_append_right _ (List.mem_append_right _ (List.mem_append_right _ (List.mem_append_right _ (List.mem_append_left _ (List.mem_of_getElem? (l := gT_9) (i := 51) rfl))))))))))
theorem m_592 : Cond.lays "DecimalDeskModel" "DecimalDeskModel" "way" "I" ∈ gT := List.mem_append_right _ (List.mem_append_right _ (List.mem_append_right _ (List.mem_append_right _ (List.mem_append_right _ (List.mem_append_right _ (List.mem_append_right _ (List.mem_append_right _ (List.mem_append_right _ (List.mem_append_left _ (List.mem_of_getElem? (l := gT_9) (i := 52) rfl))))))))))
theorem m_593 : Cond.lays "DecimalDeskModel" "DecimalDeskModel" "raised" "I" ∈ gT := List.mem_append_right _ (List.mem_append_right _ (List.mem_append_right _ (List.mem_append_right _ (List.mem_append_right _ (List.mem_append_right _ (List.mem_append_right _ (List.mem_append_right _ (List.mem_append_right _ (List.mem_append_left _ (List.mem_of_getElem? (l := gT_9) (i := 53) rfl))))))))))
theorem m_594 : Cond.laysFinal "DecimalDeskModel" "DecimalDeskModel" "tape" "[I" ∈ gT := List.mem_append_right _ (List.mem_append_right _ (List.mem_append_right _ (List.mem_append_right _ (List.mem_append_right _ (List.mem_append_right _ (List.mem_append_right _ (List.mem_append_right _ (List.mem_append_right _ (List.mem_append_left _ (List.mem_of_getElem? (l := gT_9) (i := 54) rfl))))))))))
theorem m_595 : Cond.lays "DecimalDeskModel" "DecimalDeskModel" "taped" "I" ∈ gT := List.mem_append_right _ (List.mem_append_right _ (List.mem_append_right _ (List.mem_append_right _ (List.mem_append_right _ (List.mem_append_right _ (List.mem_append_right _ (List.mem_append_right _ (List.mem_append_right _ (List.mem_append_left _ (List.mem_of_getElem? (l := gT_9) (i := 55) rfl))))))))))
theorem m_596 : Cond.laysFinal "DecimalDeskModel" "DecimalDeskModel" "told" "[I" ∈ gT := List.mem_append_right _ (List.mem_append_right _ (List.mem_append_right _ (List.mem_append_right _ (List.mem_append_right _ (List.mem_append_right _ (List.mem_append_right _ (List.mem_append_right _ (List.mem_append_right _ (List.mem_append_left _ (List.mem_of_getElem? (l := gT_9) (i := 56) rfl))))))))))
theorem m_597 : Cond.lays "DecimalDeskModel" "DecimalDeskModel" "toldLong" "I" ∈ gT := List.mem_append_right _ (List.mem_append_right _ (List.mem_append_right _ (List.mem_append_right _ (List.mem_append_right _ (List.mem_append_right _ (List.mem_append_right _ (List.mem_append_right _ (List.mem_append_right _ (List.mem_append_left _ (List.mem_of_getElem? (l := gT_9) (i := 57) rfl))))))))))
theorem m_598 : Cond.laysFinal "DecimalDeskModel" "DecimalDeskModel" "row" "[I" ∈ gT := List.mem_append_right _ (List.mem_append_right _ (List.mem_append_right _ (List.mem_append_right _ (List.mem_append_right _ (List.mem_append_right _ (List.mem_append_right _ (List.mem_append_right _ (List.mem_append_right _ (List.mem_append_left _ (List.mem_of_getElem? (l := gT_9) (i := 58) rfl))))))))))
theorem m_599 : Cond.lays "DecimalDeskModel" "DecimalDeskModel" "first" "I" ∈ gT := List.mem_append_right _ (List.mem_append_right _ (List.mem_append_right _ (List.mem_append_right _ (List.mem_append_right _ (List.mem_append_right _ (List.mem_append_right _ (List.mem_append_right _ (List.mem_append_right _ (List.mem_append_left _ (List.mem_of_getElem? (l := gT_9) (i := 59) rfl))))))))))
theorem m_600 : Cond.lays "DecimalDeskModel" "DecimalDeskModel" "last" "I" ∈ gT := List.mem_append_right _ (List.mem_append_right _ (List.mem_append_right _ (List.mem_append_right _ (List.mem_append_right _ (List.mem_append_right _ (List.mem_append_right _ (List.mem_append_right _ (List.mem_append_right _ (List.mem_append_right _ (List.mem_append_left _ (List.mem_of_getElem? (l := gT_10) (i := 0) rfl)))))))))))
theorem m_601 : Cond.laysFinal "DecimalDeskModel" "DecimalDeskModel" "whole" "[I" ∈ gT := List.mem_append_right _ (List.mem_append_right _ (List.mem_append_right _ (List.mem_append_right _ (List.mem_append_right _ (List.mem_append_right _ (List.mem_append_right _ (List.mem_append_right _ (List.mem_append_right _ (List.mem_append_right _ (List.mem_append_left _ (List.mem_of_getElem? (l := gT_10) (i := 1) rfl)))))))))))
theorem m_602 : Cond.lays "DecimalDeskModel" "DecimalDeskModel" "wholeFirst" "I" ∈ gT := List.mem_append_right _ (List.mem_append_right _ (List.mem_append_right _ (List.mem_append_right _ (List.mem_append_right _ (List.mem_append_right _ (List.mem_append_right _ (List.mem_append_right _ (List.mem_append_right _ (List.mem_append_right _ (List.mem_append_left _ (List.mem_of_getElem? (l := gT_10) (i := 2) rfl)))))))))))
theorem m_603 : Cond.lays "DecimalDeskModel" "DecimalDeskModel" "wholeLast" "I" ∈ gT := List.mem_append_right _ (List.mem_append_right _ (List.mem_append_right _ (List.mem_append_right _ (List.mem_append_right _ (List.mem_append_right _ (List.mem_append_right _ (List.mem_append_right _ (List.mem_append_right _ (List.mem_append_right _ (List.mem_append_left _ (List.mem_of_getElem? (l := gT_10) (i := 3) rfl)))))))))))
theorem m_604 : Cond.lays "DecimalDeskModel" "DecimalDeskModel" "lost" "Z" ∈ gT := List.mem_append_right _ (List.mem_append_right _ (List.mem_append_right _ (List.mem_append_right _ (List.mem_append_right _ (List.mem_append_right _ (List.mem_append_right _ (List.mem_append_right _ (List.mem_append_right _ (List.mem_append_right _ (List.mem_append_left _ (List.mem_of_getElem? (l := gT_10) (i := 4) rfl)))))))))))
theorem m_605 : Cond.lays "DecimalDeskModel" "DecimalDeskModel" "over" "Z" ∈ gT := List.mem_append_right _ (List.mem_append_right _ (List.mem_append_right _ (List.mem_append_right _ (List.mem_append_right _ (List.mem_append_right _ (List.mem_append_right _ (List.mem_append_right _ (List.mem_append_right _ (List.mem_append_right _ (List.mem_append_left _ (List.mem_of_getElem? (l := gT_10) (i := 5) rfl)))))))))))
theorem m_606 : Cond.lays "DecimalDeskModel" "DecimalDeskModel" "under" "Z" ∈ gT := List.mem_append_right _ (List.mem_append_right _ (List.mem_append_right _ (List.mem_append_right _ (List.mem_append_right _ (List.mem_append_right _ (List.mem_append_right _ (List.mem_append_right _ (List.mem_append_right _ (List.mem_append_right _ (List.mem_append_left _ (List.mem_of_getElem? (l := gT_10) (i := 6) rfl)))))))))))
theorem m_607 : Cond.lays "DecimalDeskModel" "DecimalDeskModel" "at" "I" ∈ gT := List.mem_append_right _ (List.mem_append_right _ (List.mem_append_right _ (List.mem_append_right _ (List.mem_append_right _ (List.mem_append_right _ (List.mem_append_right _ (List.mem_append_right _ (List.mem_append_right _ (List.mem_append_right _ (List.mem_append_left _ (List.mem_of_getElem? (l := gT_10) (i := 7) rfl)))))))))))
theorem m_608 : Cond.lays "DecimalDeskModel" "DecimalDeskModel" "minus" "Z" ∈ gT := List.mem_append_right _ (List.mem_append_right _ (List.mem_append_right _ (List.mem_append_right _ (List.mem_append_right _ (List.mem_append_right _ (List.mem_append_right _ (List.mem_append_right _ (List.mem_append_right _ (List.mem_append_right _ (List.mem_append_left _ (List.mem_of_getElem? (l := gT_10) (i := 8) rfl)))))))))))
theorem m_609 : Cond.lays "DecimalDeskModel" "DecimalDeskModel" "digits" "I" ∈ gT := List.mem_append_right _ (List.mem_append_right _ (List.mem_append_right _ (List.mem_append_right _ (List.mem_append_right _ (List.mem_append_right _ (List.mem_append_right _ (List.mem_append_right _ (List.mem_append_right _ (List.mem_append_right _ (List.mem_append_left _ (List.mem_of_getElem? (l := gT_10) (i := 9) rfl)))))))))))
theorem m_610 : Cond.laysFinal "DecimalDeskModel" "DecimalDeskModel" "digit" "[I" ∈ gT := List.mem_append_right _ (List.mem_append_right _ (List.mem_append_right _ (List.mem_append_right _ (List.mem_append_right _ (List.mem_append_right _ (List.mem_append_right _ (List.mem_append_right _ (List.mem_append_right _ (List.mem_append_right _ (List.mem_append_left _ (List.mem_of_getElem? (l := gT_10) (i := 10) rfl)))))))))))
theorem m_611 : Cond.lays "DecimalDeskModel" "DecimalDeskModel" "ahead0" "I" ∈ gT := List.mem_append_right _ (List.mem_append_right _ (List.mem_append_right _ (List.mem_append_right _ (List.mem_append_right _ (List.mem_append_right _ (List.mem_append_right _ (List.mem_append_right _ (List.mem_append_right _ (List.mem_append_right _ (List.mem_append_left _ (List.mem_of_getElem? (l := gT_10) (i := 11) rfl)))))))))))
theorem m_612 : Cond.lays "DecimalDeskModel" "DecimalDeskModel" "exponent" "I" ∈ gT := List.mem_append_right _ (List.mem_append_right _ (List.mem_append_right _ (List.mem_append_right _ (List.mem_append_right _ (List.mem_append_right _ (List.mem_append_right _ (List.mem_append_right _ (List.mem_append_right _ (List.mem_append_right _ (List.mem_append_left _ (List.mem_of_getElem? (l := gT_10) (i := 12) rfl)))))))))))
theorem m_613 : Cond.laysFinal "DecimalDeskModel" "DecimalDeskModel" "tried" "[I" ∈ gT := List.mem_append_right _ (List.mem_append_right _ (List.mem_append_right _ (List.mem_append_right _ (List.mem_append_right _ (List.mem_append_right _ (List.mem_append_right _ (List.mem_append_right _ (List.mem_append_right _ (List.mem_append_right _ (List.mem_append_left _ (List.mem_of_getElem? (l := gT_10) (i := 13) rfl)))))))))))
theorem m_614 : Cond.lays "DecimalDeskModel" "DecimalDeskModel" "ten" "I" ∈ gT := List.mem_append_right _ (List.mem_append_right _ (List.mem_append_right _ (List.mem_append_right _ (List.mem_append_right _ (List.mem_append_right _ (List.mem_append_right _ (List.mem_append_right _ (List.mem_append_right _ (List.mem_append_right _ (List.mem_append_left _ (List.mem_of_getElem? (l := gT_10) (i := 14) rfl)))))))))))
theorem m_615 : Cond.methodLink "DecimalDeskLaw" 36 y_Model_format ∈ gT := List.mem_append_right _ (List.mem_append_right _ (List.mem_append_right _ (List.mem_append_right _ (List.mem_append_right _ (List.mem_append_right _ (List.mem_append_right _ (List.mem_append_right _ (List.mem_append_right _ (List.mem_append_right _ (List.mem_append_left _ (List.mem_of_getElem? (l := gT_10) (i := 15) rfl)))))))))))
theorem m_616 : Cond.instanceMethod y_Model_format ∈ gT := List.mem_append_right _ (List.mem_append_right _ (List.mem_append_right _ (List.mem_append_right _ (List.mem_append_right _ (List.mem_append_right _ (List.mem_append_right _ (List.mem_append_right _ (List.mem_append_right _ (List.mem_append_right _ (List.mem_append_left _ (List.mem_of_getElem? (l := gT_10) (i := 16) rfl)))))))))))
theorem m_617 : Cond.selects "DecimalDeskModel" y_Model_format y_Model_format ∈ gT := List.mem_append_right _ (List.mem_append_right _ (List.mem_append_right _ (List.mem_append_right _ (List.mem_append_right _ (List.mem_append_right _ (List.mem_append_right _ (List.mem_append_right _ (List.mem_append_right _ (List.mem_append_right _ (List.mem_append_left _ (List.mem_of_getElem? (l := gT_10) (i := 17) rfl)))))))))))
theorem m_618 : Cond.code y_Model_format prog_10_method_4_code 3 (some .boolean) ∈ gT := List.mem_append_right _ (List.mem_append_right _ (List.mem_append_right _ (List.mem_append_right _ (List.mem_append_right _ (List.mem_append_right _ (List.mem_append_right _ (List.mem_append_right _ (List.mem_append_right _ (List.mem_append_right _ (List.mem_append_left _ (List.mem_of_getElem? (l := gT_10) (i := 18) rfl)))))))))))
theorem m_619 : Cond.methodLink "DecimalDeskLaw" 41 y_Model_mode ∈ gT := List.mem_append_right _ (List.mem_append_right _ (List.mem_append_right _ (List.mem_append_right _ (List.mem_append_right _ (List.mem_append_right _ (List.mem_append_right _ (List.mem_append_right _ (List.mem_append_right _ (List.mem_append_right _ (List.mem_append_left _ (List.mem_of_getElem? (l := gT_10) (i := 19) rfl)))))))))))
theorem m_620 : Cond.instanceMethod y_Model_mode ∈ gT := List.mem_append_right _ (List.mem_append_right _ (List.mem_append_right _ (List.mem_append_right _ (List.mem_append_right _ (List.mem_append_right _ (List.mem_append_right _ (List.mem_append_right _ (List.mem_append_right _ (List.mem_append_right _ (List.mem_append_left _ (List.mem_of_getElem? (l := gT_10) (i := 20) rfl)))))))))))
theorem m_621 : Cond.selects "DecimalDeskModel" y_Model_mode y_Model_mode ∈ gT := List.mem_append_right _ (List.mem_append_right _ (List.mem_append_right _ (List.mem_append_right _ (List.mem_append_right _ (List.mem_append_right _ (List.mem_append_right _ (List.mem_append_right _ (List.mem_append_right _ (List.mem_append_right _ (List.mem_append_left _ (List.mem_of_getElem? (l := gT_10) (i := 21) rfl)))))))))))
theorem m_622 : Cond.code y_Model_mode prog_10_method_5_code 2 (some .boolean) ∈ gT := List.mem_append_right _ (List.mem_append_right _ (List.mem_append_right _ (List.mem_append_right _ (List.mem_append_right _ (List.mem_append_right _ (List.mem_append_right _ (List.mem_append_right _ (List.mem_append_right _ (List.mem_append_right _ (List.mem_append_left _ (List.mem_of_getElem? (l := gT_10) (i := 22) rfl)))))))))))
theorem m_623 : Cond.methodLink "DecimalDeskLaw" 48 y_Model_type ∈ gT := List.mem_append_right _ (List.mem_append_right _ (List.mem_append_right _ (List.mem_append_right _ (List.mem_append_right _ (List.mem_append_right _ (List.mem_append_right _ (List.mem_append_right _ (List.mem_append_right _ (List.mem_append_right _ (List.mem_append_left _ (List.mem_of_getElem? (l := gT_10) (i := 23) rfl)))))))))))
theorem m_624 : Cond.instanceMethod y_Model_type ∈ gT := List.mem_append_right _ (List.mem_append_right _ (List.mem_append_right _ (List.mem_append_right _ (List.mem_append_right _ (List.mem_append_right _ (List.mem_append_right _ (List.mem_append_right _ (List.mem_append_right _ (List.mem_append_right _ (List.mem_append_left _ (List.mem_of_getElem? (l := gT_10) (i := 24) rfl)))))))))))
theorem m_625 : Cond.selects "DecimalDeskModel" y_Model_type y_Model_type ∈ gT := List.mem_append_right _ (List.mem_append_right _ (List.mem_append_right _ (List.mem_append_right _ (List.mem_append_right _ (List.mem_append_right _ (List.mem_append_right _ (List.mem_append_right _ (List.mem_append_right _ (List.mem_append_right _ (List.mem_append_left _ (List.mem_of_getElem? (l := gT_10) (i := 25) rfl)))))))))))
theorem m_626 : Cond.code y_Model_type prog_10_method_6_code 6 (some .boolean) ∈ gT := List.mem_append_right _ (List.mem_append_right _ (List.mem_append_right _ (List.mem_append_right _ (List.mem_append_right _ (List.mem_append_right _ (List.mem_append_right _ (List.mem_append_right _ (List.mem_append_right _ (List.mem_append_right _ (List.mem_append_left _ (List.mem_of_getElem? (l := gT_10) (i := 26) rfl)))))))))))
theorem m_627 : Cond.constantLong "DecimalDeskModel" 50 255 ∈ gT := List.mem_append_right _ (List.mem_append_right _ (List.mem_append_right _ (List.mem_append_right _ (List.mem_append_right _ (List.mem_append_right _ (List.mem_append_right _ (List.mem_append_right _ (List.mem_append_right _ (List.mem_append_right _ (List.mem_append_left _ (List.mem_of_getElem? (l := gT_10) (i := 27) rfl)))))))))))
theorem m_628 : Cond.methodLink "DecimalDeskLaw" 59 y_Model_flags ∈ gT := List.mem_append_right _ (List.mem_append_right _ (List.mem_append_right _ (List.mem_append_right _ (List.mem_append_right _ (List.mem_append_right _ (List.mem_append_right _ (List.mem_append_right _ (List.mem_append_right _ (List.mem_append_right _ (List.mem_append_left _ (List.mem_of_getElem? (l := gT_10) (i := 28) rfl)))))))))))
theorem m_629 : Cond.instanceMethod y_Model_flags ∈ gT := List.mem_append_right _ (List.mem_append_right _ (List.mem_append_right _ (List.mem_append_right _ (List.mem_append_right _ (List.mem_append_right _ (List.mem_append_right _ (List.mem_append_right _ (List.mem_append_right _ (List.mem_append_right _ (List.mem_append_left _ (List.mem_of_getElem? (l := gT_10) (i := 29) rfl)))))))))))
theorem m_630 : Cond.selects "DecimalDeskModel" y_Model_flags y_Model_flags ∈ gT := List.mem_append_right _ (List.mem_append_right _ (List.mem_append_right _ (List.mem_append_right _ (List.mem_append_right _ (List.mem_append_right _ (List.mem_append_right _ (List.mem_append_right _ (List.mem_append_right _ (List.mem_append_right _ (List.mem_append_left _ (List.mem_of_getElem? (l := gT_10) (i := 30) rfl)))))))))))
theorem m_631 : Cond.code y_Model_flags prog_10_method_7_code 1 (some .int) ∈ gT := List.mem_append_right _ (List.mem_append_right _ (List.mem_append_right _ (List.mem_append_right _ (List.mem_append_right _ (List.mem_append_right _ (List.mem_append_right _ (List.mem_append_right _ (List.mem_append_right _ (List.mem_append_right _ (List.mem_append_left _ (List.mem_of_getElem? (l := gT_10) (i := 31) rfl)))))))))))
theorem m_632 : Cond.methodLink "DecimalDeskLaw" 63 y_Model_clear ∈ gT := List.mem_append_right _ (List.mem_append_right _ (List.mem_append_right _ (List.mem_append_right _ (List.mem_append_right _ (List.mem_append_right _ (List.mem_append_right _ (List.mem_append_right _ (List.mem_append_right _ (List.mem_append_right _ (List.mem_append_left _ (List.mem_of_getElem? (l := gT_10) (i := 32) rfl)))))))))))
theorem m_633 : Cond.instanceMethod y_Model_clear ∈ gT := List.mem_append_right _ (List.mem_append_right _ (List.mem_append_right _ (List.mem_append_right _ (List.mem_append_right _ (List.mem_append_right _ (List.mem_append_right _ (List.mem_append_right _ (List.mem_append_right _ (List.mem_append_right _ (List.mem_append_left _ (List.mem_of_getElem? (l := gT_10) (i := 33) rfl)))))))))))
theorem m_634 : Cond.selects "DecimalDeskModel" y_Model_clear y_Model_clear ∈ gT := List.mem_append_right _ (List.mem_append_right _ (List.mem_append_right _ (List.mem_append_right _ (List.mem_append_right _ (List.mem_append_right _ (List.mem_append_right _ (List.mem_append_right _ (List.mem_append_right _ (List.mem_append_right _ (List.mem_append_left _ (List.mem_of_getElem? (l := gT_10) (i := 34) rfl)))))))))))
theorem m_635 : Cond.code y_Model_clear prog_10_method_8_code 3 (some .int) ∈ gT := List.mem_append_right _ (List.mem_append_right _ (List.mem_append_right _ (List.mem_append_right _ (List.mem_append_right _ (List.mem_append_right _ (List.mem_append_right _ (List.mem_append_right _ (List.mem_append_right _ (List.mem_append_right _ (List.mem_append_left _ (List.mem_of_getElem? (l := gT_10) (i := 35) rfl)))))))))))
theorem m_636 : Cond.methodLink "DecimalDeskLaw" 54 y_Model_read ∈ gT := List.mem_append_right _ (List.mem_append_right _ (List.mem_append_right _ (List.mem_append_right _ (List.mem_append_right _ (List.mem_append_right _ (List.mem_append_right _ (List.mem_append_right _ (List.mem_append_right _ (List.mem_append_right _ (List.mem_append_left _ (List.mem_of_getElem? (l := gT_10) (i := 36) rfl)))))))))))
theorem m_637 : Cond.instanceMethod y_Model_read ∈ gT := List.mem_append_right _ (List.mem_append_right _ (List.mem_append_right _ (List.mem_append_right _ (List.mem_append_right _ (List.mem_append_right _ (List.mem_append_right _ (List.mem_append_right _ (List.mem_append_right _ (List.mem_append_right _ (List.mem_append_left _ (List.mem_of_getElem? (l := gT_10) (i := 37) rfl)))))))))))
theorem m_638 : Cond.selects "DecimalDeskModel" y_Model_read y_Model_read ∈ gT := List.mem_append_right _ (List.mem_append_right _ (List.mem_append_right _ (List.mem_append_right _ (List.mem_append_right _ (List.mem_append_right _ (List.mem_append_right _ (List.mem_append_right _ (List.mem_append_right _ (List.mem_append_right _ (List.mem_append_left _ (List.mem_of_getElem? (l := gT_10) (i := 38) rfl)))))))))))
theorem m_639 : Cond.code y_Model_read prog_10_method_25_code 4 (some .long) ∈ gT := List.mem_append_right _ (List.mem_append_right _ (List.mem_append_right _ (List.mem_append_right _ (List.mem_append_right _ (List.mem_append_right _ (List.mem_append_right _ (List.mem_append_right _ (List.mem_append_right _ (List.mem_append_right _ (List.mem_append_left _ (List.mem_of_getElem? (l := gT_10) (i := 39) rfl)))))))))))
theorem m_640 : Cond.methodLink "DecimalDeskModel" 132 y_Model_isDecimal ∈ gT := List.mem_append_right _ (List.mem_append_right _ (List.mem_append_right _ (List.mem_append_right _ (List.mem_append_right _ (List.mem_append_right _ (List.mem_append_right _ (List.mem_append_right _ (List.mem_append_right _ (List.mem_append_right _ (List.mem_append_left _ (List.mem_of_getElem? (l := gT_10) (i := 40) rfl)))))))))))
theorem m_641 : Cond.instanceMethod y_Model_isDecimal ∈ gT := List.mem_append_right _ (List.mem_append_right _ (List.mem_append_right _ (List.mem_append_right _ (List.mem_append_right _ (List.mem_append_right _ (List.mem_append_right _ (List.mem_append_right _ (List.mem_append_right _ (List.mem_append_right _ (List.mem_append_left _ (List.mem_of_getElem? (l := gT_10) (i := 41) rfl)))))))))))
theorem m_642 : Cond.code y_Model_isDecimal prog_10_method_23_code 3 (some .boolean) ∈ gT := List.mem_append_right _ (List.mem_append_right _ (List.mem_append_right _ (List.mem_append_right _ (List.mem_append_right _ (List.mem_append_right _ (List.mem_append_right _ (List.mem_append_right _ (List.mem_append_right _ (List.mem_append_right _ (List.mem_append_left _ (List.mem_of_getElem? (l := gT_10) (i := 42) rfl)))))))))))
theorem m_643 : Cond.methodLink "DecimalDeskModel" 98 y_Model_see ∈ gT := List.mem_append_right _ (List.mem_append_right _ (List.mem_append_right _ (List.mem_append_right _ (List.mem_append_right _ (List.mem_append_right _ (List.mem_append_right _ (List.mem_append_right _ (List.mem_append_right _ (List.mem_append_right _ (List.mem_append_left _ (List.mem_of_getElem? (l := gT_10) (i := 43) rfl)))))))))))
theorem m_644 : Cond.instanceMethod y_Model_see ∈ gT := List.mem_append_right _ (List.mem_append_right _ (List.mem_append_right _ (List.mem_append_right _ (List.mem_append_right _ (List.mem_append_right _ (List.mem_append_right _ (List.mem_append_right _ (List.mem_append_right _ (List.mem_append_right _ (List.mem_append_left _ (List.mem_of_getElem? (l := gT_10) (i := 44) rfl)))))))))))
theorem m_645 : Cond.code y_Model_see prog_10_method_20_code 2 (some .int) ∈ gT := List.mem_append_right _ (List.mem_append_right _ (List.mem_append_right _ (List.mem_append_right _ (List.mem_append_right _ (List.mem_append_right _ (List.mem_append_right _ (List.mem_append_right _ (List.mem_append_right _ (List.mem_append_right _ (List.mem_append_left _ (List.mem_of_getElem? (l := gT_10) (i := 45) rfl)))))))))))
theorem m_646 : Cond.methodLink "DecimalDeskModel" 115 y_Model_run ∈ gT := List.mem_append_right _ (List.mem_append_right _ (List.mem_append_right _ (List.mem_append_right _ (List.mem_append_right _ (List.mem_append_right _ (List.mem_append_right _ (List.mem_append_right _ (List.mem_append_right _ (List.mem_append_right _ (List.mem_append_left _ (List.mem_of_getElem? (l := gT_10) (i := 46) rfl)))))))))))
theorem m_647 : Cond.instanceMethod y_Model_run ∈ gT := List.mem_append_right _ (List.mem_append_right _ (List.mem_append_right _ (List.mem_append_right _ (List.mem_append_right _ (List.mem_append_right _ (List.mem_append_right _ (List.mem_append_right _ (List.mem_append_right _ (List.mem_append_right _ (List.mem_append_left _ (List.mem_of_getElem? (l := gT_10) (i := 47) rfl)))))))))))
theorem m_648 : Cond.code y_Model_run prog_10_method_22_code 2 (some .int) ∈ gT := List.mem_append_right _ (List.mem_append_right _ (List.mem_append_right _ (List.mem_append_right _ (List.mem_append_right _ (List.mem_append_right _ (List.mem_append_right _ (List.mem_append_right _ (List.mem_append_right _ (List.mem_append_right _ (List.mem_append_left _ (List.mem_of_getElem? (l := gT_10) (i := 48) rfl)))))))))))
theorem m_649 : Cond.methodLink "DecimalDeskModel" 102 y_Model_isDigit ∈ gT := List.mem_append_right _ (List.mem_append_right _ (List.mem_append_right _ (List.mem_append_right _ (List.mem_append_right _ (List.mem_append_right _ (List.mem_append_right _ (List.mem_append_right _ (List.mem_append_right _ (List.mem_append_right _ (List.mem_append_left _ (List.mem_of_getElem? (l := gT_10) (i := 49) rfl)))))))))))
theorem m_650 : Cond.static y_Model_isDigit ∈ gT := List.mem_append_right _ (List.mem_append_right _ (List.mem_append_right _ (List.mem_append_right _ (List.mem_append_right _ (List.mem_append_right _ (List.mem_append_right _ (List.mem_append_right _ (List.mem_append_right _ (List.mem_append_right _ (List.mem_append_left _ (List.mem_of_getElem? (l := gT_10) (i := 50) rfl)))))))))))
theorem m_651 : Cond.code y_Model_isDigit prog_10_method_21_code 1 (some .boolean) ∈ gT := List.mem_append_right _ (List.mem_append_right _ (List.mem_append_right _ (List.mem_append_right _ (List.mem_append_right _ (List.mem_append_right _ (List.mem_append_right _ (List.mem_append_right _ (List.mem_append_right _ (List.mem_append_right _ (List.mem_append_left _ (List.mem_of_getElem? (l := gT_10) (i := 51) rfl)))))))))))
theorem m_652 : Cond.methodLink "DecimalDeskModel" 136 y_Model_raise ∈ gT := List.mem_append_right _ (List.mem_append_right _ (List.mem_append_right _ (List.mem_append_right _ (List.mem_append_right _ (List.mem_append_right _ (List.mem_append_right _ (List.mem_append_right _ (List.mem_append_right _ (List.mem_append_right _ (List.mem_append_left _ (List.mem_of_getElem? (l := gT_10) (i := 52) rfl)))))))))))
theorem m_653 : Cond.instanceMethod y_Model_raise ∈ gT := List.mem_append_right _ (List.mem_append_right _ (List.mem_append_right _ (List.mem_append_right _ (List.mem_append_right _ (List.mem_append_right _ (List.mem_append_right _ (List.mem_append_right _ (List.mem_append_right _ (List.mem_append_right _ (List.mem_append_left _ (List.mem_of_getElem? (l := gT_10) (i := 53) rfl)))))))))))
theorem m_654 : Cond.code y_Model_raise prog_10_method_3_code 2 (some .int) ∈ gT := List.mem_append_right _ (List.mem_append_right _ (List.mem_append_right _ (List.mem_append_right _ (List.mem_append_right _ (List.mem_append_right _ (List.mem_append_right _ (List.mem_append_right _ (List.mem_append_right _ (List.mem_append_right _ (List.mem_append_left _ (List.mem_of_getElem? (l := gT_10) (i := 54) rfl)))))))))))
theorem m_655 : Cond.methodLink "DecimalDeskModel" 139 y_Model_valued ∈ gT := List.mem_append_right _ (List.mem_append_right _ (List.mem_append_right _ (List.mem_append_right _ (List.mem_append_right _ (List.mem_append_right _ (List.mem_append_right _ (List.mem_append_right _ (List.mem_append_right _ (List.mem_append_right _ (List.mem_append_left _ (List.mem_of_getElem? (l := gT_10) (i := 55) rfl)))))))))))
theorem m_656 : Cond.instanceMethod y_Model_valued ∈ gT := List.mem_append_right _ (List.mem_append_right _ (List.mem_append_right _ (List.mem_append_right _ (List.mem_append_right _ (List.mem_append_right _ (List.mem_append_right _ (List.mem_append_right _ (List.mem_append_right _ (List.mem_append_right _ (List.mem_append_left _ (List.mem_of_getElem? (l := gT_10) (i := 56) rfl)))))))))))
theorem m_657 : Cond.code y_Model_valued prog_10_method_24_code 5 (some .long) ∈ gT := List.mem_append_right _ (List.mem_append_right _ (List.mem_append_right _ (List.mem_append_right _ (List.mem_append_right _ (List.mem_append_right _ (List.mem_append_right _ (List.mem_append_right _ (List.mem_append_right _ (List.mem_append_right _ (List.mem_append_left _ (List.mem_of_getElem? (l := gT_10) (i := 57) rfl)))))))))))
theorem m_658 : Cond.methodLink "DecimalDeskModel" 77 y_Model_packed ∈ gT := List.mem_append_right _ (List.mem_append_right _ (List.mem_append_right _ (List.mem_append_right _ (List.mem_append_right _ (List.mem_append_right _ (List.mem_append_right _ (List.mem_append_right _ (List.mem_append_right _ (List.mem_append_right _ (List.mem_append_left _ (List.mem_of_getElem? (l := gT_10) (i := 58) rfl)))))))))))
theorem m_659 : Cond.instanceMethod y_Model_packed ∈ gT := List.mem_append_right _ (List.mem_append_right _ (List.mem_append_right _ (List.mem_append_right _ (List.mem_append_right _ (List.mem_append_right _ (List.mem_append_right _ (List.mem_append_right _ (List.mem_append_right _ (List.mem_append_right _ (List.mem_append_left _ (List.mem_of_getElem? (l := gT_10) (i := 59) rfl)))))))))))
theorem m_660 : Cond.code y_Model_packed prog_10_method_19_code 14 (some .long) ∈ gT := List.mem_append_right _ (List.mem_append_right _ (List.mem_append_right _ (List.mem_append_right _ (List.mem_append_right _ (List.mem_append_right _ (List.mem_append_right _ (List.mem_append_right _ (List.mem_append_right _ (List.mem_append_right _ (List.mem_append_right _ (List.mem_append_left _ (List.mem_of_getElem? (l := gT_11) (i := 0) rfl))))))))))))
theorem m_661 : Cond.methodLink "DecimalDeskModel" 84 y_Model_goesUp ∈ gT := List.mem_append_right _ (List.mem_append_right _ (List.mem_append_right _ (List.mem_append_right _ (List.mem_append_right _ (List.mem_append_right _ (List.mem_append_right _ (List.mem_append_right _ (List.mem_append_right _ (List.mem_append_right _ (List.mem_append_right _ (List.mem_append_left _ (List.mem_of_getElem? (l := gT_11) (i := 1) rfl))))))))))))
theorem m_662 : Cond.instanceMethod y_Model_goesUp ∈ gT := List.mem_append_right _ (List.mem_append_right _ (List.mem_append_right _ (List.mem_append_right _ (List.mem_append_right _ (List.mem_append_right _ (List.mem_append_right _ (List.mem_append_right _ (List.mem_append_right _ (List.mem_append_right _ (List.mem_append_right _ (List.mem_append_left _ (List.mem_of_getElem? (l := gT_11) (i := 2) rfl))))))))))))
theorem m_663 : Cond.code y_Model_goesUp prog_10_method_17_code 6 (some .boolean) ∈ gT := List.mem_append_right _ (List.mem_append_right _ (List.mem_append_right _ (List.mem_append_right _ (List.mem_append_right _ (List.mem_append_right _ (List.mem_append_right _ (List.mem_append_right _ (List.mem_append_right _ (List.mem_append_right _ (List.mem_append_right _ (List.mem_append_left _ (List.mem_of_getElem? (l := gT_11) (i := 3) rfl))))))))))))
theorem m_664 : Cond.constantLong "DecimalDeskModel" 72 2 ∈ gT := List.mem_append_right _ (List.mem_append_right _ (List.mem_append_right _ (List.mem_append_right _ (List.mem_append_right _ (List.mem_append_right _ (List.mem_append_right _ (List.mem_append_right _ (List.mem_append_right _ (List.mem_append_right _ (List.mem_append_right _ (List.mem_append_left _ (List.mem_of_getElem? (l := gT_11) (i := 4) rfl))))))))))))
theorem m_665 : Cond.methodLink "DecimalDeskModel" 55 y_Model_bias ∈ gT := List.mem_append_right _ (List.mem_append_right _ (List.mem_append_right _ (List.mem_append_right _ (List.mem_append_right _ (List.mem_append_right _ (List.mem_append_right _ (List.mem_append_right _ (List.mem_append_right _ (List.mem_append_right _ (List.mem_append_right _ (List.mem_append_left _ (List.mem_of_getElem? (l := gT_11) (i := 5) rfl))))))))))))
theorem m_666 : Cond.instanceMethod y_Model_bias ∈ gT := List.mem_append_right _ (List.mem_append_right _ (List.mem_append_right _ (List.mem_append_right _ (List.mem_append_right _ (List.mem_append_right _ (List.mem_append_right _ (List.mem_append_right _ (List.mem_append_right _ (List.mem_append_right _ (List.mem_append_right _ (List.mem_append_left _ (List.mem_of_getElem? (l := gT_11) (i := 6) rfl))))))))))))
theorem m_667 : Cond.code y_Model_bias prog_10_method_15_code 1 (some .int) ∈ gT := List.mem_append_right _ (List.mem_append_right _ (List.mem_append_right _ (List.mem_append_right _ (List.mem_append_right _ (List.mem_append_right _ (List.mem_append_right _ (List.mem_append_right _ (List.mem_append_right _ (List.mem_append_right _ (List.mem_append_right _ (List.mem_append_left _ (List.mem_of_getElem? (l := gT_11) (i := 7) rfl))))))))))))
theorem m_668 : Cond.methodLink "DecimalDeskModel" 91 y_Model_beyond ∈ gT := List.mem_append_right _ (List.mem_append_right _ (List.mem_append_right _ (List.mem_append_right _ (List.mem_append_right _ (List.mem_append_right _ (List.mem_append_right _ (List.mem_append_right _ (List.mem_append_right _ (List.mem_append_right _ (List.mem_append_right _ (List.mem_append_left _ (List.mem_of_getElem? (l := gT_11) (i := 8) rfl))))))))))))
theorem m_669 : Cond.instanceMethod y_Model_beyond ∈ gT := List.mem_append_right _ (List.mem_append_right _ (List.mem_append_right _ (List.mem_append_right _ (List.mem_append_right _ (List.mem_append_right _ (List.mem_append_right _ (List.mem_append_right _ (List.mem_append_right _ (List.mem_append_right _ (List.mem_append_right _ (List.mem_append_left _ (List.mem_of_getElem? (l := gT_11) (i := 9) rfl))))))))))))
theorem m_670 : Cond.code y_Model_beyond prog_10_method_16_code 1 (some .long) ∈ gT := List.mem_append_right _ (List.mem_append_right _ (List.mem_append_right _ (List.mem_append_right _ (List.mem_append_right _ (List.mem_append_right _ (List.mem_append_right _ (List.mem_append_right _ (List.mem_append_right _ (List.mem_append_right _ (List.mem_append_right _ (List.mem_append_left _ (List.mem_of_getElem? (l := gT_11) (i := 10) rfl))))))))))))
theorem m_671 : Cond.methodLink "DecimalDeskModel" 121 y_Model_wipe ∈ gT := List.mem_append_right _ (List.mem_append_right _ (List.mem_append_right _ (List.mem_append_right _ (List.mem_append_right _ (List.mem_append_right _ (List.mem_append_right _ (List.mem_append_right _ (List.mem_append_right _ (List.mem_append_right _ (List.mem_append_right _ (List.mem_append_left _ (List.mem_of_getElem? (l := gT_11) (i := 11) rfl))))))))))))
theorem m_672 : Cond.instanceMethod y_Model_wipe ∈ gT := List.mem_append_right _ (List.mem_append_right _ (List.mem_append_right _ (List.mem_append_right _ (List.mem_append_right _ (List.mem_append_right _ (List.mem_append_right _ (List.mem_append_right _ (List.mem_append_right _ (List.mem_append_right _ (List.mem_append_right _ (List.mem_append_left _ (List.mem_of_getElem? (l := gT_11) (i := 12) rfl))))))))))))
theorem m_673 : Cond.code y_Model_wipe prog_10_method_9_code 2 none ∈ gT := List.mem_append_right _ (List.mem_append_right _ (List.mem_append_right _ (List.mem_append_right _ (List.mem_append_right _ (List.mem_append_right _ (List.mem_append_right _ (List.mem_append_right _ (List.mem_append_right _ (List.mem_append_right _ (List.mem_append_right _ (List.mem_append_left _ (List.mem_of_getElem? (l := gT_11) (i := 13) rfl))))))))))))
theorem m_674 : Cond.methodLink "DecimalDeskModel" 124 y_Model_dig ∈ gT := List.mem_append_right _ (List.mem_append_right _ (List.mem_append_right _ (List.mem_append_right _ (List.mem_append_right _ (List.mem_append_right _ (List.mem_append_right _ (List.mem_append_right _ (List.mem_append_right _ (List.mem_append_right _ (List.mem_append_right _ (List.mem_append_left _ (List.mem_of_getElem? (l := gT_11) (i := 14) rfl))))))))))))
theorem m_675 : Cond.instanceMethod y_Model_dig ∈ gT := List.mem_append_right _ (List.mem_append_right _ (List.mem_append_right _ (List.mem_append_right _ (List.mem_append_right _ (List.mem_append_right _ (List.mem_append_right _ (List.mem_append_right _ (List.mem_append_right _ (List.mem_append_right _ (List.mem_append_right _ (List.mem_append_left _ (List.mem_of_getElem? (l := gT_11) (i := 15) rfl))))))))))))
theorem m_676 : Cond.code y_Model_dig prog_10_method_10_code 3 none ∈ gT := List.mem_append_right _ (List.mem_append_right _ (List.mem_append_right _ (List.mem_append_right _ (List.mem_append_right _ (List.mem_append_right _ (List.mem_append_right _ (List.mem_append_right _ (List.mem_append_right _ (List.mem_append_right _ (List.mem_append_right _ (List.mem_append_left _ (List.mem_of_getElem? (l := gT_11) (i := 16) rfl))))))))))))
theorem m_677 : Cond.methodLink "DecimalDeskModel" 128 y_Model_rounded ∈ gT := List.mem_append_right _ (List.mem_append_right _ (List.mem_append_right _ (List.mem_append_right _ (List.mem_append_right _ (List.mem_append_right _ (List.mem_append_right _ (List.mem_append_right _ (List.mem_append_right _ (List.mem_append_right _ (List.mem_append_right _ (List.mem_append_left _ (List.mem_of_getElem? (l := gT_11) (i := 17) rfl))))))))))))
theorem m_678 : Cond.instanceMethod y_Model_rounded ∈ gT := List.mem_append_right _ (List.mem_append_right _ (List.mem_append_right _ (List.mem_append_right _ (List.mem_append_right _ (List.mem_append_right _ (List.mem_append_right _ (List.mem_append_right _ (List.mem_append_right _ (List.mem_append_right _ (List.mem_append_right _ (List.mem_append_left _ (List.mem_of_getElem? (l := gT_11) (i := 18) rfl))))))))))))
theorem m_679 : Cond.code y_Model_rounded prog_10_method_18_code 8 (some .long) ∈ gT := List.mem_append_right _ (List.mem_append_right _ (List.mem_append_right _ (List.mem_append_right _ (List.mem_append_right _ (List.mem_append_right _ (List.mem_append_right _ (List.mem_append_right _ (List.mem_append_right _ (List.mem_append_right _ (List.mem_append_right _ (List.mem_append_left _ (List.mem_of_getElem? (l := gT_11) (i := 19) rfl))))))))))))
theorem m_680 : Cond.methodLink "DecimalDeskModel" 59 y_Model_ahead ∈ gT := List.mem_append_right _ (List.mem_append_right _ (List.mem_append_right _ (List.mem_append_right _ (List.mem_append_right _ (List.mem_append_right _ (List.mem_append_right _ (List.mem_append_right _ (List.mem_append_right _ (List.mem_append_right _ (List.mem_append_right _ (List.mem_append_left _ (List.mem_of_getElem? (l := gT_11) (i := 20) rfl))))))))))))
theorem m_681 : Cond.instanceMethod y_Model_ahead ∈ gT := List.mem_append_right _ (List.mem_append_right _ (List.mem_append_right _ (List.mem_append_right _ (List.mem_append_right _ (List.mem_append_right _ (List.mem_append_right _ (List.mem_append_right _ (List.mem_append_right _ (List.mem_append_right _ (List.mem_append_right _ (List.mem_append_left _ (List.mem_of_getElem? (l := gT_11) (i := 21) rfl))))))))))))
theorem m_682 : Cond.code y_Model_ahead prog_10_method_13_code 1 (some .int) ∈ gT := List.mem_append_right _ (List.mem_append_right _ (List.mem_append_right _ (List.mem_append_right _ (List.mem_append_right _ (List.mem_append_right _ (List.mem_append_right _ (List.mem_append_right _ (List.mem_append_right _ (List.mem_append_right _ (List.mem_append_right _ (List.mem_append_left _ (List.mem_of_getElem? (l := gT_11) (i := 22) rfl))))))))))))
theorem m_683 : Cond.methodLink "DecimalDeskModel" 62 y_Model_half ∈ gT := List.mem_append_right _ (List.mem_append_right _ (List.mem_append_right _ (List.mem_append_right _ (List.mem_append_right _ (List.mem_append_right _ (List.mem_append_right _ (List.mem_append_right _ (List.mem_append_right _ (List.mem_append_right _ (List.mem_append_right _ (List.mem_append_left _ (List.mem_of_getElem? (l := gT_11) (i := 23) rfl))))))))))))
theorem m_684 : Cond.instanceMethod y_Model_half ∈ gT := List.mem_append_right _ (List.mem_append_right _ (List.mem_append_right _ (List.mem_append_right _ (List.mem_append_right _ (List.mem_append_right _ (List.mem_append_right _ (List.mem_append_right _ (List.mem_append_right _ (List.mem_append_right _ (List.mem_append_right _ (List.mem_append_left _ (List.mem_of_getElem? (l := gT_11) (i := 24) rfl))))))))))))
theorem m_685 : Cond.code y_Model_half prog_10_method_12_code 4 none ∈ gT := List.mem_append_right _ (List.mem_append_right _ (List.mem_append_right _ (List.mem_append_right _ (List.mem_append_right _ (List.mem_append_right _ (List.mem_append_right _ (List.mem_append_right _ (List.mem_append_right _ (List.mem_append_right _ (List.mem_append_right _ (List.mem_append_left _ (List.mem_of_getElem? (l := gT_11) (i := 25) rfl))))))))))))
theorem m_686 : Cond.methodLink "DecimalDeskModel" 65 y_Model_twice ∈ gT := List.mem_append_right _ (List.mem_append_right _ (List.mem_append_right _ (List.mem_append_right _ (List.mem_append_right _ (List.mem_append_right _ (List.mem_append_right _ (List.mem_append_right _ (List.mem_append_right _ (List.mem_append_right _ (List.mem_append_right _ (List.mem_append_left _ (List.mem_of_getElem? (l := gT_11) (i := 26) rfl))))))))))))
theorem m_687 : Cond.instanceMethod y_Model_twice ∈ gT := List.mem_append_right _ (List.mem_append_right _ (List.mem_append_right _ (List.mem_append_right _ (List.mem_append_right _ (List.mem_append_right _ (List.mem_append_right _ (List.mem_append_right _ (List.mem_append_right _ (List.mem_append_right _ (List.mem_append_right _ (List.mem_append_left _ (List.mem_of_getElem? (l := gT_11) (i := 27) rfl))))))))))))
theorem m_688 : Cond.code y_Model_twice prog_10_method_11_code 4 none ∈ gT := List.mem_append_right _ (List.mem_append_right _ (List.mem_append_right _ (List.mem_append_right _ (List.mem_append_right _ (List.mem_append_right _ (List.mem_append_right _ (List.mem_append_right _ (List.mem_append_right _ (List.mem_append_right _ (List.mem_append_right _ (List.mem_append_left _ (List.mem_of_getElem? (l := gT_11) (i := 28) rfl))))))))))))
theorem m_689 : Cond.methodLink "DecimalDeskModel" 74 y_Model_behind ∈ gT := List.mem_append_right _ (List.mem_append_right _ (List.mem_append_right _ (List.mem_append_right _ (List.mem_append_right _ (List.mem_append_right _ (List.mem_append_right _ (List.mem_append_right _ (List.mem_append_right _ (List.mem_append_right _ (List.mem_append_right _ (List.mem_append_left _ (List.mem_of_getElem? (l := gT_11) (i := 29) rfl))))))))))))
theorem m_690 : Cond.instanceMethod y_Model_behind ∈ gT := List.mem_append_right _ (List.mem_append_right _ (List.mem_append_right _ (List.mem_append_right _ (List.mem_append_right _ (List.mem_append_right _ (List.mem_append_right _ (List.mem_append_right _ (List.mem_append_right _ (List.mem_append_right _ (List.mem_append_right _ (List.mem_append_left _ (List.mem_of_getElem? (l := gT_11) (i := 30) rfl))))))))))))
theorem m_691 : Cond.code y_Model_behind prog_10_method_14_code 3 (some .int) ∈ gT := List.mem_append_right _ (List.mem_append_right _ (List.mem_append_right _ (List.mem_append_right _ (List.mem_append_right _ (List.mem_append_right _ (List.mem_append_right _ (List.mem_append_right _ (List.mem_append_right _ (List.mem_append_right _ (List.mem_append_right _ (List.mem_append_left _ (List.mem_of_getElem? (l := gT_11) (i := 31) rfl))))))))))))
theorem m_692 : Cond.methodLink "DecimalDeskLaw" 70 y_Model_exact ∈ gT := List.mem_append_right _ (List.mem_append_right _ (List.mem_append_right _ (List.mem_append_right _ (List.mem_append_right _ (List.mem_append_right _ (List.mem_append_right _ (List.mem_append_right _ (List.mem_append_right _ (List.mem_append_right _ (List.mem_append_right _ (List.mem_append_left _ (List.mem_of_getElem? (l := gT_11) (i := 32) rfl))))))))))))
theorem m_693 : Cond.instanceMethod y_Model_exact ∈ gT := List.mem_append_right _ (List.mem_append_right _ (List.mem_append_right _ (List.mem_append_right _ (List.mem_append_right _ (List.mem_append_right _ (List.mem_append_right _ (List.mem_append_right _ (List.mem_append_right _ (List.mem_append_right _ (List.mem_append_right _ (List.mem_append_left _ (List.mem_of_getElem? (l := gT_11) (i := 33) rfl))))))))))))
theorem m_694 : Cond.selects "DecimalDeskModel" y_Model_exact y_Model_exact ∈ gT := List.mem_append_right _ (List.mem_append_right _ (List.mem_append_right _ (List.mem_append_right _ (List.mem_append_right _ (List.mem_append_right _ (List.mem_append_right _ (List.mem_append_right _ (List.mem_append_right _ (List.mem_append_right _ (List.mem_append_right _ (List.mem_append_left _ (List.mem_of_getElem? (l := gT_11) (i := 34) rfl))))))))))))
theorem m_695 : Cond.code y_Model_exact prog_10_method_32_code 4 (some .int) ∈ gT := List.mem_append_right _ (List.mem_append_right _ (List.mem_append_right _ (List.mem_append_right _ (List.mem_append_right _ (List.mem_append_right _ (List.mem_append_right _ (List.mem_append_right _ (List.mem_append_right _ (List.mem_append_right _ (List.mem_append_right _ (List.mem_append_left _ (List.mem_of_getElem? (l := gT_11) (i := 35) rfl))))))))))))
theorem m_696 : Cond.methodLink "DecimalDeskModel" 160 y_Model_isPattern ∈ gT := List.mem_append_right _ (List.mem_append_right _ (List.mem_append_right _ (List.mem_append_right _ (List.mem_append_right _ (List.mem_append_right _ (List.mem_append_right _ (List.mem_append_right _ (List.mem_append_right _ (List.mem_append_right _ (List.mem_append_right _ (List.mem_append_left _ (List.mem_of_getElem? (l := gT_11) (i := 36) rfl))))))))))))
theorem m_697 : Cond.instanceMethod y_Model_isPattern ∈ gT := List.mem_append_right _ (List.mem_append_right _ (List.mem_append_right _ (List.mem_append_right _ (List.mem_append_right _ (List.mem_append_right _ (List.mem_append_right _ (List.mem_append_right _ (List.mem_append_right _ (List.mem_append_right _ (List.mem_append_right _ (List.mem_append_left _ (List.mem_of_getElem? (l := gT_11) (i := 37) rfl))))))))))))
theorem m_698 : Cond.code y_Model_isPattern prog_10_method_26_code 3 (some .boolean) ∈ gT := List.mem_append_right _ (List.mem_append_right _ (List.mem_append_right _ (List.mem_append_right _ (List.mem_append_right _ (List.mem_append_right _ (List.mem_append_right _ (List.mem_append_right _ (List.mem_append_right _ (List.mem_append_right _ (List.mem_append_right _ (List.mem_append_left _ (List.mem_of_getElem? (l := gT_11) (i := 38) rfl))))))))))))
theorem m_699 : Cond.methodLink "DecimalDeskModel" 163 y_Model_isStrange ∈ gT := List.mem_append_right _ (List.mem_append_right _ (List.mem_append_right _ (List.mem_append_right _ (List.mem_append_right _ (List.mem_append_right _ (List.mem_append_right _ (List.mem_append_right _ (List.mem_append_right _ (List.mem_append_right _ (List.mem_append_right _ (List.mem_append_left _ (List.mem_of_getElem? (l := gT_11) (i := 39) rfl))))))))))))
theorem m_700 : Cond.instanceMethod y_Model_isStrange ∈ gT := List.mem_append_right _ (List.mem_append_right _ (List.mem_append_right _ (List.mem_append_right _ (List.mem_append_right _ (List.mem_append_right _ (List.mem_append_right _ (List.mem_append_right _ (List.mem_append_right _ (List.mem_append_right _ (List.mem_append_right _ (List.mem_append_left _ (List.mem_of_getElem? (l := gT_11) (i := 40) rfl))))))))))))
theorem m_701 : Cond.code y_Model_isStrange prog_10_method_31_code 5 (some .boolean) ∈ gT := List.mem_append_right _ (List.mem_append_right _ (List.mem_append_right _ (List.mem_append_right _ (List.mem_append_right _ (List.mem_append_right _ (List.mem_append_right _ (List.mem_append_right _ (List.mem_append_right _ (List.mem_append_right _ (List.mem_append_right _ (List.mem_append_left _ (List.mem_of_getElem? (l := gT_11) (i := 41) rfl))))))))))))
theorem m_702 : Cond.methodLink "DecimalDeskModel" 143 y_Model_sizeOf ∈ gT := List.mem_append_right _ (List.mem_append_right _ (List.mem_append_right _ (List.mem_append_right _ (List.mem_append_right _ (List.mem_append_right _ (List.mem_append_right _ (List.mem_append_right _ (List.mem_append_right _ (List.mem_append_right _ (List.mem_append_right _ (List.mem_append_left _ (List.mem_of_getElem? (l := gT_11) (i := 42) rfl))))))))))))
theorem m_703 : Cond.instanceMethod y_Model_sizeOf ∈ gT := List.mem_append_right _ (List.mem_append_right _ (List.mem_append_right _ (List.mem_append_right _ (List.mem_append_right _ (List.mem_append_right _ (List.mem_append_right _ (List.mem_append_right _ (List.mem_append_right _ (List.mem_append_right _ (List.mem_append_right _ (List.mem_append_left _ (List.mem_of_getElem? (l := gT_11) (i := 43) rfl))))))))))))
theorem m_704 : Cond.code y_Model_sizeOf prog_10_method_27_code 3 (some .long) ∈ gT := List.mem_append_right _ (List.mem_append_right _ (List.mem_append_right _ (List.mem_append_right _ (List.mem_append_right _ (List.mem_append_right _ (List.mem_append_right _ (List.mem_append_right _ (List.mem_append_right _ (List.mem_append_right _ (List.mem_append_right _ (List.mem_append_left _ (List.mem_of_getElem? (l := gT_11) (i := 44) rfl))))))))))))
theorem m_705 : Cond.methodLink "DecimalDeskModel" 152 y_Model_isBelow ∈ gT := List.mem_append_right _ (List.mem_append_right _ (List.mem_append_right _ (List.mem_append_right _ (List.mem_append_right _ (List.mem_append_right _ (List.mem_append_right _ (List.mem_append_right _ (List.mem_append_right _ (List.mem_append_right _ (List.mem_append_right _ (List.mem_append_left _ (List.mem_of_getElem? (l := gT_11) (i := 45) rfl))))))))))))
theorem m_706 : Cond.instanceMethod y_Model_isBelow ∈ gT := List.mem_append_right _ (List.mem_append_right _ (List.mem_append_right _ (List.mem_append_right _ (List.mem_append_right _ (List.mem_append_right _ (List.mem_append_right _ (List.mem_append_right _ (List.mem_append_right _ (List.mem_append_right _ (List.mem_append_right _ (List.mem_append_left _ (List.mem_of_getElem? (l := gT_11) (i := 46) rfl))))))))))))
theorem m_707 : Cond.code y_Model_isBelow prog_10_method_28_code 3 (some .boolean) ∈ gT := List.mem_append_right _ (List.mem_append_right _ (List.mem_append_right _ (List.mem_append_right _ (List.mem_append_right _ (List.mem_append_right _ (List.mem_append_right _ (List.mem_append_right _ (List.mem_append_right _ (List.mem_append_right _ (List.mem_append_right _ (List.mem_append_left _ (List.mem_of_getElem? (l := gT_11) (i := 47) rfl))))))))))))
theorem m_708 : Cond.methodLink "DecimalDeskModel" 156 y_Model_say ∈ gT := List.mem_append_right _ (List.mem_append_right _ (List.mem_append_right _ (List.mem_append_right _ (List.mem_append_right _ (List.mem_append_right _ (List.mem_append_right _ (List.mem_append_right _ (List.mem_append_right _ (List.mem_append_right _ (List.mem_append_right _ (List.mem_append_left _ (List.mem_of_getElem? (l := gT_11) (i := 48) rfl))))))))))))
theorem m_709 : Cond.instanceMethod y_Model_say ∈ gT := List.mem_append_right _ (List.mem_append_right _ (List.mem_append_right _ (List.mem_append_right _ (List.mem_append_right _ (List.mem_append_right _ (List.mem_append_right _ (List.mem_append_right _ (List.mem_append_right _ (List.mem_append_right _ (List.mem_append_right _ (List.mem_append_left _ (List.mem_of_getElem? (l := gT_11) (i := 49) rfl))))))))))))
theorem m_710 : Cond.code y_Model_say prog_10_method_30_code 2 none ∈ gT := List.mem_append_right _ (List.mem_append_right _ (List.mem_append_right _ (List.mem_append_right _ (List.mem_append_right _ (List.mem_append_right _ (List.mem_append_right _ (List.mem_append_right _ (List.mem_append_right _ (List.mem_append_right _ (List.mem_append_right _ (List.mem_append_left _ (List.mem_of_getElem? (l := gT_11) (i := 50) rfl))))))))))))
theorem m_711 : Cond.methodLink "DecimalDeskModel" 166 y_Model_spread ∈ gT := List.mem_append_right _ (List.mem_append_right _ (List.mem_append_right _ (List.mem_append_right _ (List.mem_append_right _ (List.mem_append_right _ (List.mem_append_right _ (List.mem_append_right _ (List.mem_append_right _ (List.mem_append_right _ (List.mem_append_right _ (List.mem_append_left _ (List.mem_of_getElem? (l := gT_11) (i := 51) rfl))))))))))))
theorem m_712 : Cond.instanceMethod y_Model_spread ∈ gT := List.mem_append_right _ (List.mem_append_right _ (List.mem_append_right _ (List.mem_append_right _ (List.mem_append_right _ (List.mem_append_right _ (List.mem_append_right _ (List.mem_append_right _ (List.mem_append_right _ (List.mem_append_right _ (List.mem_append_right _ (List.mem_append_left _ (List.mem_of_getElem? (l := gT_11) (i := 52) rfl))))))))))))
theorem m_713 : Cond.code y_Model_spread prog_10_method_29_code 10 none ∈ gT := List.mem_append_right _ (List.mem_append_right _ (List.mem_append_right _ (List.mem_append_right _ (List.mem_append_right _ (List.mem_append_right _ (List.mem_append_right _ (List.mem_append_right _ (List.mem_append_right _ (List.mem_append_right _ (List.mem_append_right _ (List.mem_append_left _ (List.mem_of_getElem? (l := gT_11) (i := 53) rfl))))))))))))
theorem m_714 : Cond.constantLong "DecimalDeskModel" 147 10 ∈ gT := List.mem_append_right _ (List.mem_append_right _ (List.mem_append_right _ (List.mem_append_right _ (List.mem_append_right _ (List.mem_append_right _ (List.mem_append_right _ (List.mem_append_right _ (List.mem_append_right _ (List.mem_append_right _ (List.mem_append_right _ (List.mem_append_left _ (List.mem_of_getElem? (l := gT_11) (i := 54) rfl))))))))))))
theorem m_715 : Cond.methodLink "DecimalDeskLaw" 67 y_Model_shortest ∈ gT := List.mem_append_right _ (List.mem_append_right _ (List.mem_append_right _ (List.mem_append_right _ (List.mem_append_right _ (List.mem_append_right _ (List.mem_append_right _ (List.mem_append_right _ (List.mem_append_right _ (List.mem_append_right _ (List.mem_append_right _ (List.mem_append_left _ (List.mem_of_getElem? (l := gT_11) (i := 55) rfl))))))))))))
theorem m_716 : Cond.instanceMethod y_Model_shortest ∈ gT := List.mem_append_right _ (List.mem_append_right _ (List.mem_append_right _ (List.mem_append_right _ (List.mem_append_right _ (List.mem_append_right _ (List.mem_append_right _ (List.mem_append_right _ (List.mem_append_right _ (List.mem_append_right _ (List.mem_append_right _ (List.mem_append_left _ (List.mem_of_getElem? (l := gT_11) (i := 56) rfl))))))))))))
theorem m_717 : Cond.selects "DecimalDeskModel" y_Model_shortest y_Model_shortest ∈ gT := List.mem_append_right _ (List.mem_append_right _ (List.mem_append_right _ (List.mem_append_right _ (List.mem_append_right _ (List.mem_append_right _ (List.mem_append_right _ (List.mem_append_right _ (List.mem_append_right _ (List.mem_append_right _ (List.mem_append_right _ (List.mem_append_left _ (List.mem_of_getElem? (l := gT_11) (i := 57) rfl))))))))))))
theorem m_718 : Cond.code y_Model_shortest prog_10_method_38_code 8 (some .int) ∈ gT := List.mem_append_right _ (List.mem_append_right _ (List.mem_append_right _ (List.mem_append_right _ (List.mem_append_right _ (List.mem_append_right _ (List.mem_append_right _ (List.mem_append_right _ (List.mem_append_right _ (List.mem_append_right _ (List.mem_append_right _ (List.mem_append_left _ (List.mem_of_getElem? (l := gT_11) (i := 58) rfl))))))))))))
theorem m_719 : Cond.methodLink "DecimalDeskModel" 179 y_Model_keepWhole ∈ gT := List.mem_append_right _ (List.mem_append_right _ (List.mem_append_right _ (List.mem_append_right _ (List.mem_append_right _ (List.mem_append_right _ (List.mem_append_right _ (List.mem_append_right _ (List.mem_append_right _ (List.mem_append_right _ (List.mem_append_right _ (List.mem_append_left _ (List.mem_of_getElem? (l := gT_11) (i := 59) rfl))))))))))))
theorem m_720 : Cond.instanceMethod y_Model_keepWhole ∈ gT := List.mem_append_right _ (List.mem_append_right _ (List.mem_append_right _ (List.mem_append_right _ (List.mem_append_right _ (List.mem_append_right _ (List.mem_append_right _ (List.mem_append_right _ (List.mem_append_right _ (List.mem_append_right _ (List.mem_append_right _ (List.mem_append_right _ (List.mem_of_getElem? (l := gT_12) (i := 0) rfl))))))))))))
theorem m_721 : Cond.code y_Model_keepWhole prog_10_method_33_code 2 none ∈ gT := List.mem_append_right _ (List.mem_append_right _ (List.mem_append_right _ (List.mem_append_right _ (List.mem_append_right _ (List.mem_append_right _ (List.mem_append_right _ (List.mem_append_right _ (List.mem_append_right _ (List.mem_append_right _ (List.mem_append_right _ (List.mem_append_right _ (List.mem_of_getElem? (l := gT_12) (i := 1) rfl))))))))))))
theorem m_722 : Cond.methodLink "DecimalDeskModel" 182 y_Model_cut ∈ gT := List.mem_append_right _ (List.mem_append_right _ (List.mem_append_right _ (List.mem_append_right _ (List.mem_append_right _ (List.mem_append_right _ (List.mem_append_right _ (List.mem_append_right _ (List.mem_append_right _ (List.mem_append_right _ (List.mem_append_right _ (List.mem_append_right _ (List.mem_of_getElem? (l := gT_12) (i := 2) rfl))))))))))))
theorem m_723 : Cond.instanceMethod y_Model_cut ∈ gT := List.mem_append_right _ (List.mem_append_right _ (List.mem_append_right _ (List.mem_append_right _ (List.mem_append_right _ (List.mem_append_right _ (List.mem_append_right _ (List.mem_append_right _ (List.mem_append_right _ (List.mem_append_right _ (List.mem_append_right _ (List.mem_append_right _ (List.mem_of_getElem? (l := gT_12) (i := 3) rfl))))))))))))
theorem m_724 : Cond.code y_Model_cut prog_10_method_34_code 4 none ∈ gT := List.mem_append_right _ (List.mem_append_right _ (List.mem_append_right _ (List.mem_append_right _ (List.mem_append_right _ (List.mem_append_right _ (List.mem_append_right _ (List.mem_append_right _ (List.mem_append_right _ (List.mem_append_right _ (List.mem_append_right _ (List.mem_append_right _ (List.mem_of_getElem? (l := gT_12) (i := 4) rfl))))))))))))
theorem m_725 : Cond.methodLink "DecimalDeskModel" 186 y_Model_comesBack ∈ gT := List.mem_append_right _ (List.mem_append_right _ (List.mem_append_right _ (List.mem_append_right _ (List.mem_append_right _ (List.mem_append_right _ (List.mem_append_right _ (List.mem_append_right _ (List.mem_append_right _ (List.mem_append_right _ (List.mem_append_right _ (List.mem_append_right _ (List.mem_of_getElem? (l := gT_12) (i := 5) rfl))))))))))))
theorem m_726 : Cond.instanceMethod y_Model_comesBack ∈ gT := List.mem_append_right _ (List.mem_append_right _ (List.mem_append_right _ (List.mem_append_right _ (List.mem_append_right _ (List.mem_append_right _ (List.mem_append_right _ (List.mem_append_right _ (List.mem_append_right _ (List.mem_append_right _ (List.mem_append_right _ (List.mem_append_right _ (List.mem_of_getElem? (l := gT_12) (i := 6) rfl))))))))))))
theorem m_727 : Cond.code y_Model_comesBack prog_10_method_35_code 5 (some .boolean) ∈ gT := List.mem_append_right _ (List.mem_append_right _ (List.mem_append_right _ (List.mem_append_right _ (List.mem_append_right _ (List.mem_append_right _ (List.mem_append_right _ (List.mem_append_right _ (List.mem_append_right _ (List.mem_append_right _ (List.mem_append_right _ (List.mem_append_right _ (List.mem_of_getElem? (l := gT_12) (i := 7) rfl))))))))))))
theorem m_728 : Cond.methodLink "DecimalDeskModel" 190 y_Model_beside ∈ gT := List.mem_append_right _ (List.mem_append_right _ (List.mem_append_right _ (List.mem_append_right _ (List.mem_append_right _ (List.mem_append_right _ (List.mem_append_right _ (List.mem_append_right _ (List.mem_append_right _ (List.mem_append_right _ (List.mem_append_right _ (List.mem_append_right _ (List.mem_of_getElem? (l := gT_12) (i := 8) rfl))))))))))))
theorem m_729 : Cond.instanceMethod y_Model_beside ∈ gT := List.mem_append_right _ (List.mem_append_right _ (List.mem_append_right _ (List.mem_append_right _ (List.mem_append_right _ (List.mem_append_right _ (List.mem_append_right _ (List.mem_append_right _ (List.mem_append_right _ (List.mem_append_right _ (List.mem_append_right _ (List.mem_append_right _ (List.mem_of_getElem? (l := gT_12) (i := 9) rfl))))))))))))
theorem m_730 : Cond.code y_Model_beside prog_10_method_36_code 4 (some .int) ∈ gT := List.mem_append_right _ (List.mem_append_right _ (List.mem_append_right _ (List.mem_append_right _ (List.mem_append_right _ (List.mem_append_right _ (List.mem_append_right _ (List.mem_append_right _ (List.mem_append_right _ (List.mem_append_right _ (List.mem_append_right _ (List.mem_append_right _ (List.mem_of_getElem? (l := gT_12) (i := 10) rfl))))))))))))
theorem m_731 : Cond.methodLink "DecimalDeskModel" 193 y_Model_sayTried ∈ gT := List.mem_append_right _ (List.mem_append_right _ (List.mem_append_right _ (List.mem_append_right _ (List.mem_append_right _ (List.mem_append_right _ (List.mem_append_right _ (List.mem_append_right _ (List.mem_append_right _ (List.mem_append_right _ (List.mem_append_right _ (List.mem_append_right _ (List.mem_of_getElem? (l := gT_12) (i := 11) rfl))))))))))))
theorem m_732 : Cond.instanceMethod y_Model_sayTried ∈ gT := List.mem_append_right _ (List.mem_append_right _ (List.mem_append_right _ (List.mem_append_right _ (List.mem_append_right _ (List.mem_append_right _ (List.mem_append_right _ (List.mem_append_right _ (List.mem_append_right _ (List.mem_append_right _ (List.mem_append_right _ (List.mem_append_right _ (List.mem_of_getElem? (l := gT_12) (i := 12) rfl))))))))))))
theorem m_733 : Cond.code y_Model_sayTried prog_10_method_37_code 4 none ∈ gT := List.mem_append_right _ (List.mem_append_right _ (List.mem_append_right _ (List.mem_append_right _ (List.mem_append_right _ (List.mem_append_right _ (List.mem_append_right _ (List.mem_append_right _ (List.mem_append_right _ (List.mem_append_right _ (List.mem_append_right _ (List.mem_append_right _ (List.mem_of_getElem? (l := gT_12) (i := 13) rfl))))))))))))
theorem m_734 : Cond.methodLink "DecimalDeskLaw" 74 y_Model_letter ∈ gT := List.mem_append_right _ (List.mem_append_right _ (List.mem_append_right _ (List.mem_append_right _ (List.mem_append_right _ (List.mem_append_right _ (List.mem_append_right _ (List.mem_append_right _ (List.mem_append_right _ (List.mem_append_right _ (List.mem_append_right _ (List.mem_append_right _ (List.mem_of_getElem? (l := gT_12) (i := 14) rfl))))))))))))
theorem m_735 : Cond.instanceMethod y_Model_letter ∈ gT := List.mem_append_right _ (List.mem_append_right _ (List.mem_append_right _ (List.mem_append_right _ (List.mem_append_right _ (List.mem_append_right _ (List.mem_append_right _ (List.mem_append_right _ (List.mem_append_right _ (List.mem_append_right _ (List.mem_append_right _ (List.mem_append_right _ (List.mem_of_getElem? (l := gT_12) (i := 15) rfl))))))))))))
theorem m_736 : Cond.selects "DecimalDeskModel" y_Model_letter y_Model_letter ∈ gT := List.mem_append_right _ (List.mem_append_right _ (List.mem_append_right _ (List.mem_append_right _ (List.mem_append_right _ (List.mem_append_right _ (List.mem_append_right _ (List.mem_append_right _ (List.mem_append_right _ (List.mem_append_right _ (List.mem_append_right _ (List.mem_append_right _ (List.mem_of_getElem? (l := gT_12) (i := 16) rfl))))))))))))
theorem m_737 : Cond.code y_Model_letter prog_10_method_39_code 2 (some .int) ∈ gT := List.mem_append_right _ (List.mem_append_right _ (List.mem_append_right _ (List.mem_append_right _ (List.mem_append_right _ (List.mem_append_right _ (List.mem_append_right _ (List.mem_append_right _ (List.mem_append_right _ (List.mem_append_right _ (List.mem_append_right _ (List.mem_append_right _ (List.mem_of_getElem? (l := gT_12) (i := 17) rfl))))))))))))
theorem m_738 : Cond.methodLink "DecimalDeskLaw" 79 y_Model_next ∈ gT := List.mem_append_right _ (List.mem_append_right _ (List.mem_append_right _ (List.mem_append_right _ (List.mem_append_right _ (List.mem_append_right _ (List.mem_append_right _ (List.mem_append_right _ (List.mem_append_right _ (List.mem_append_right _ (List.mem_append_right _ (List.mem_append_right _ (List.mem_of_getElem? (l := gT_12) (i := 18) rfl))))))))))))
theorem m_739 : Cond.instanceMethod y_Model_next ∈ gT := List.mem_append_right _ (List.mem_append_right _ (List.mem_append_right _ (List.mem_append_right _ (List.mem_append_right _ (List.mem_append_right _ (List.mem_append_right _ (List.mem_append_right _ (List.mem_append_right _ (List.mem_append_right _ (List.mem_append_right _ (List.mem_append_right _ (List.mem_of_getElem? (l := gT_12) (i := 19) rfl))))))))))))
theorem m_740 : Cond.selects "DecimalDeskModel" y_Model_next y_Model_next ∈ gT := List.mem_append_right _ (List.mem_append_right _ (List.mem_append_right _ (List.mem_append_right _ (List.mem_append_right _ (List.mem_append_right _ (List.mem_append_right _ (List.mem_append_right _ (List.mem_append_right _ (List.mem_append_right _ (List.mem_append_right _ (List.mem_append_right _ (List.mem_of_getElem? (l := gT_12) (i := 20) rfl))))))))))))
theorem m_741 : Cond.code y_Model_next prog_10_method_40_code 10 (some .long) ∈ gT := List.mem_append_right _ (List.mem_append_right _ (List.mem_append_right _ (List.mem_append_right _ (List.mem_append_right _ (List.mem_append_right _ (List.mem_append_right _ (List.mem_append_right _ (List.mem_append_right _ (List.mem_append_right _ (List.mem_append_right _ (List.mem_append_right _ (List.mem_of_getElem? (l := gT_12) (i := 21) rfl))))))))))))
theorem m_742 : Cond.constantLong "DecimalDeskModel" 196 (-1) ∈ gT := List.mem_append_right _ (List.mem_append_right _ (List.mem_append_right _ (List.mem_append_right _ (List.mem_append_right _ (List.mem_append_right _ (List.mem_append_right _ (List.mem_append_right _ (List.mem_append_right _ (List.mem_append_right _ (List.mem_append_right _ (List.mem_append_right _ (List.mem_of_getElem? (l := gT_12) (i := 22) rfl))))))))))))
theorem m_743 : Cond.constantLong "DecimalDeskLaw" 42 4294967295 ∈ gT := List.mem_append_right _ (List.mem_append_right _ (List.mem_append_right _ (List.mem_append_right _ (List.mem_append_right _ (List.mem_append_right _ (List.mem_append_right _ (List.mem_append_right _ (List.mem_append_right _ (List.mem_append_right _ (List.mem_append_right _ (List.mem_append_right _ (List.mem_of_getElem? (l := gT_12) (i := 23) rfl))))))))))))
theorem m_744 : Cond.arrayClass .long ∈ gT := List.mem_append_right _ (List.mem_append_right _ (List.mem_append_right _ (List.mem_append_right _ (List.mem_append_right _ (List.mem_append_right _ (List.mem_append_right _ (List.mem_append_right _ (List.mem_append_right _ (List.mem_append_right _ (List.mem_append_right _ (List.mem_append_right _ (List.mem_of_getElem? (l := gT_12) (i := 24) rfl))))))))))))
abbrev w_Desk_init : List Cond := .code y_Desk_init prog_1_method_1_code 1 none :: gT
abbrev w_Desk_format : List Cond := .code y_Desk_format prog_1_method_2_code 3 (some .boolean) :: gT
abbrev w_Desk_mode : List Cond := .code y_Desk_mode prog_1_method_3_code 2 (some .boolean) :: gT
abbrev w_Desk_type : List Cond := .code y_Desk_type prog_1_method_4_code 4 (some .boolean) :: gT
abbrev w_Desk_read : List Cond := .code y_Desk_read prog_1_method_5_code 5 (some .long) :: gT
abbrev w_Desk_flags : List Cond := .code y_Desk_flags prog_1_method_6_code 1 (some .int) :: gT
abbrev w_Desk_clear : List Cond := .code y_Desk_clear prog_1_method_7_code 3 (some .int) :: gT
abbrev w_Desk_shortest : List Cond := .code y_Desk_shortest prog_1_method_8_code 3 (some .int) :: gT
abbrev w_Desk_exact : List Cond := .code y_Desk_exact prog_1_method_9_code 3 (some .int) :: gT
abbrev w_Desk_letter : List Cond := .code y_Desk_letter prog_1_method_10_code 2 (some .int) :: gT
abbrev w_Desk_next : List Cond := .code y_Desk_next prog_1_method_11_code 5 (some .long) :: gT
abbrev w_Desk_sizeByOverflow : List Cond := .code y_Desk_sizeByOverflow prog_1_method_12_code 3 (some .long) :: gT
abbrev w_Desk_raiseFlags : List Cond := .code y_Desk_raiseFlags prog_1_method_13_code 2 none :: gT
abbrev w_Desk_tellNotFinite : List Cond := .code y_Desk_tellNotFinite prog_1_method_14_code 5 (some .boolean) :: gT
abbrev w_Desk_tellShortest : List Cond := .code y_Desk_tellShortest prog_1_method_15_code 5 none :: gT
abbrev w_Desk_tellAllDigits : List Cond := .code y_Desk_tellAllDigits prog_1_method_16_code 8 none :: gT
abbrev w_Model_init : List Cond := .code y_Model_init prog_10_method_1_code 1 none :: gT
abbrev w_Model_raise : List Cond := .code y_Model_raise prog_10_method_3_code 2 (some .int) :: gT
abbrev w_Model_format : List Cond := .code y_Model_format prog_10_method_4_code 3 (some .boolean) :: gT
abbrev w_Model_mode : List Cond := .code y_Model_mode prog_10_method_5_code 2 (some .boolean) :: gT
abbrev w_Model_type : List Cond := .code y_Model_type prog_10_method_6_code 6 (some .boolean) :: gT
abbrev w_Model_flags : List Cond := .code y_Model_flags prog_10_method_7_code 1 (some .int) :: gT
abbrev w_Model_clear : List Cond := .code y_Model_clear prog_10_method_8_code 3 (some .int) :: gT
abbrev w_Model_wipe : List Cond := .code y_Model_wipe prog_10_method_9_code 2 none :: gT
abbrev w_Model_dig : List Cond := .code y_Model_dig prog_10_method_10_code 3 none :: gT
abbrev w_Model_twice : List Cond := .code y_Model_twice prog_10_method_11_code 4 none :: gT
abbrev w_Model_half : List Cond := .code y_Model_half prog_10_method_12_code 4 none :: gT
abbrev w_Model_ahead : List Cond := .code y_Model_ahead prog_10_method_13_code 1 (some .int) :: gT
abbrev w_Model_behind : List Cond := .code y_Model_behind prog_10_method_14_code 3 (some .int) :: gT
abbrev w_Model_bias : List Cond := .code y_Model_bias prog_10_method_15_code 1 (some .int) :: gT
abbrev w_Model_beyond : List Cond := .code y_Model_beyond prog_10_method_16_code 1 (some .long) :: gT
abbrev w_Model_goesUp : List Cond := .code y_Model_goesUp prog_10_method_17_code 6 (some .boolean) :: gT
abbrev w_Model_rounded : List Cond := .code y_Model_rounded prog_10_method_18_code 8 (some .long) :: gT
abbrev w_Model_packed : List Cond := .code y_Model_packed prog_10_method_19_code 14 (some .long) :: gT
abbrev w_Model_see : List Cond := .code y_Model_see prog_10_method_20_code 2 (some .int) :: gT
abbrev w_Model_isDigit : List Cond := .code y_Model_isDigit prog_10_method_21_code 1 (some .boolean) :: gT
abbrev w_Model_run : List Cond := .code y_Model_run prog_10_method_22_code 2 (some .int) :: gT
abbrev w_Model_isDecimal : List Cond := .code y_Model_isDecimal prog_10_method_23_code 3 (some .boolean) :: gT
abbrev w_Model_valued : List Cond := .code y_Model_valued prog_10_method_24_code 5 (some .long) :: gT
abbrev w_Model_read : List Cond := .code y_Model_read prog_10_method_25_code 4 (some .long) :: gT
abbrev w_Model_isPattern : List Cond := .code y_Model_isPattern prog_10_method_26_code 3 (some .boolean) :: gT
abbrev w_Model_sizeOf : List Cond := .code y_Model_sizeOf prog_10_method_27_code 3 (some .long) :: gT
abbrev w_Model_isBelow : List Cond := .code y_Model_isBelow prog_10_method_28_code 3 (some .boolean) :: gT
abbrev w_Model_spread : List Cond := .code y_Model_spread prog_10_method_29_code 10 none :: gT
abbrev w_Model_say : List Cond := .code y_Model_say prog_10_method_30_code 2 none :: gT
abbrev w_Model_isStrange : List Cond := .code y_Model_isStrange prog_10_method_31_code 5 (some .boolean) :: gT
abbrev w_Model_exact : List Cond := .code y_Model_exact prog_10_method_32_code 4 (some .int) :: gT
abbrev w_Model_keepWhole : List Cond := .code y_Model_keepWhole prog_10_method_33_code 2 none :: gT
abbrev w_Model_cut : List Cond := .code y_Model_cut prog_10_method_34_code 4 none :: gT
abbrev w_Model_comesBack : List Cond := .code y_Model_comesBack prog_10_method_35_code 5 (some .boolean) :: gT
abbrev w_Model_beside : List Cond := .code y_Model_beside prog_10_method_36_code 4 (some .int) :: gT
abbrev w_Model_sayTried : List Cond := .code y_Model_sayTried prog_10_method_37_code 4 none :: gT
abbrev w_Model_shortest : List Cond := .code y_Model_shortest prog_10_method_38_code 8 (some .int) :: gT
abbrev w_Model_letter : List Cond := .code y_Model_letter prog_10_method_39_code 2 (some .int) :: gT
abbrev w_Model_next : List Cond := .code y_Model_next prog_10_method_40_code 10 (some .long) :: gT
abbrev w_Decimal_init : List Cond := .code y_Decimal_init prog_2_method_1_code 1 none :: gT
abbrev w_Decimal_parse : List Cond := .code y_Decimal_parse prog_2_method_2_code 3 (some .boolean) :: gT
abbrev w_Decimal_takeDigits : List Cond := .code y_Decimal_takeDigits prog_2_method_3_code 7 (some .int) :: gT
abbrev w_Decimal_takePower : List Cond := .code y_Decimal_takePower prog_2_method_4_code 7 (some .boolean) :: gT
abbrev w_Decimal_isDigit : List Cond := .code y_Decimal_isDigit prog_2_method_5_code 1 (some .boolean) :: gT
abbrev w_Layout_init : List Cond := .code y_Layout_init prog_3_method_1_code 1 none :: gT
abbrev w_Layout_bias : List Cond := .code y_Layout_bias prog_3_method_2_code 1 (some .int) :: gT
abbrev w_Layout_lowestPower : List Cond := .code y_Layout_lowestPower prog_3_method_3_code 1 (some .int) :: gT
abbrev w_Layout_signBit : List Cond := .code y_Layout_signBit prog_3_method_4_code 1 (some .long) :: gT
abbrev w_Layout_infinity : List Cond := .code y_Layout_infinity prog_3_method_5_code 1 (some .long) :: gT
abbrev w_Layout_holds : List Cond := .code y_Layout_holds prog_3_method_6_code 3 (some .boolean) :: gT
abbrev w_Layout_isNegative : List Cond := .code y_Layout_isNegative prog_3_method_7_code 3 (some .boolean) :: gT
abbrev w_Layout_sizeOf : List Cond := .code y_Layout_sizeOf prog_3_method_8_code 3 (some .long) :: gT
abbrev w_Layout_fractionOf : List Cond := .code y_Layout_fractionOf prog_3_method_9_code 3 (some .long) :: gT
abbrev w_Layout_exponentOf : List Cond := .code y_Layout_exponentOf prog_3_method_10_code 3 (some .int) :: gT
abbrev w_Layout_significandOf : List Cond := .code y_Layout_significandOf prog_3_method_11_code 3 (some .long) :: gT
abbrev w_Layout_powerOf : List Cond := .code y_Layout_powerOf prog_3_method_12_code 3 (some .int) :: gT
abbrev w_Natural_init : List Cond := .code y_Natural_init prog_4_method_1_code 1 none :: gT
abbrev w_Natural_set : List Cond := .code y_Natural_set prog_4_method_2_code 4 none :: gT
abbrev w_Natural_copy : List Cond := .code y_Natural_copy prog_4_method_3_code 3 none :: gT
abbrev w_Natural_isZero : List Cond := .code y_Natural_isZero prog_4_method_4_code 2 (some .boolean) :: gT
abbrev w_Natural_against : List Cond := .code y_Natural_against prog_4_method_5_code 3 (some .int) :: gT
abbrev w_Natural_bitLength : List Cond := .code y_Natural_bitLength prog_4_method_6_code 2 (some .int) :: gT
abbrev w_Natural_add : List Cond := .code y_Natural_add prog_4_method_7_code 5 none :: gT
abbrev w_Natural_subtract : List Cond := .code y_Natural_subtract prog_4_method_8_code 5 none :: gT
abbrev w_Natural_timesPlus : List Cond := .code y_Natural_timesPlus prog_4_method_9_code 6 none :: gT
abbrev w_Natural_timesPowerOfTen : List Cond := .code y_Natural_timesPowerOfTen prog_4_method_10_code 2 none :: gT
abbrev w_Natural_timesPowerOfFive : List Cond := .code y_Natural_timesPowerOfFive prog_4_method_11_code 4 none :: gT
abbrev w_Natural_shiftLeft : List Cond := .code y_Natural_shiftLeft prog_4_method_12_code 9 none :: gT
abbrev w_Natural_divide : List Cond := .code y_Natural_divide prog_4_method_13_code 5 (some .int) :: gT
abbrev w_Natural_limbAt : List Cond := .code y_Natural_limbAt prog_4_method_14_code 2 (some .long) :: gT
abbrev w_Rounder_init : List Cond := .code y_Rounder_init prog_5_method_1_code 1 none :: gT
abbrev w_Rounder_round : List Cond := .code y_Rounder_round prog_5_method_2_code 12 none :: gT
abbrev w_Rounder_setFraction : List Cond := .code y_Rounder_setFraction prog_5_method_3_code 3 none :: gT
abbrev w_Rounder_normalise : List Cond := .code y_Rounder_normalise prog_5_method_4_code 2 (some .int) :: gT
abbrev w_Rounder_takeBits : List Cond := .code y_Rounder_takeBits prog_5_method_5_code 5 (some .long) :: gT
abbrev w_Rounder_goesFarther : List Cond := .code y_Rounder_goesFarther prog_5_method_6_code 4 (some .boolean) :: gT
abbrev w_Finder_init : List Cond := .code y_Finder_init prog_6_method_1_code 1 none :: gT
abbrev w_Finder_find : List Cond := .code y_Finder_find prog_6_method_2_code 7 none :: gT
abbrev w_Finder_setRange : List Cond := .code y_Finder_setRange prog_6_method_3_code 6 none :: gT
abbrev w_Finder_setPower : List Cond := .code y_Finder_setPower prog_6_method_4_code 5 none :: gT
abbrev w_Finder_timesTen : List Cond := .code y_Finder_timesTen prog_6_method_5_code 1 none :: gT
abbrev w_Finder_takeDigit : List Cond := .code y_Finder_takeDigit prog_6_method_6_code 2 (some .int) :: gT
abbrev w_Finder_choose : List Cond := .code y_Finder_choose prog_6_method_7_code 4 (some .boolean) :: gT
abbrev w_Finder_isWithin : List Cond := .code y_Finder_isWithin prog_6_method_8_code 2 (some .boolean) :: gT
abbrev w_Tape_init : List Cond := .code y_Tape_init prog_7_method_1_code 1 none :: gT
abbrev w_Tape_put : List Cond := .code y_Tape_put prog_7_method_2_code 6 (some .boolean) :: gT
abbrev w_Tape_wipe : List Cond := .code y_Tape_wipe prog_7_method_3_code 1 none :: gT
abbrev w_Tape_at : List Cond := .code y_Tape_at prog_7_method_4_code 2 (some .int) :: gT
abbrev w_Tape_byteOf : List Cond := .code y_Tape_byteOf prog_7_method_5_code 3 (some .int) :: gT
abbrev w_Told_init : List Cond := .code y_Told_init prog_8_method_1_code 1 none :: gT
abbrev w_Told_at : List Cond := .code y_Told_at prog_8_method_2_code 2 (some .int) :: gT
abbrev w_Told_start : List Cond := .code y_Told_start prog_8_method_3_code 2 none :: gT
abbrev w_Told_add : List Cond := .code y_Told_add prog_8_method_4_code 2 none :: gT
abbrev w_Told_addPower : List Cond := .code y_Told_addPower prog_8_method_5_code 4 none :: gT
abbrev w_Told_addDigits : List Cond := .code y_Told_addDigits prog_8_method_6_code 8 none :: gT
abbrev w_Told_addNatural : List Cond := .code y_Told_addNatural prog_8_method_7_code 6 none :: gT
abbrev w_Told_addReversed : List Cond := .code y_Told_addReversed prog_8_method_8_code 4 none :: gT
abbrev w_Exception_init : List Cond := .code y_Exception_init prog_11_method_2_code 2 none :: gT
abbrev w_IllegalArg_init : List Cond := .code y_IllegalArg_init prog_12_method_2_code 2 none :: gT
abbrev w_Integer_numberOfLeadingZeros : List Cond := .code y_Integer_numberOfLeadingZeros prog_13_method_47_code 2 (some .int) :: gT
abbrev w_Long_numberOfLeadingZeros : List Cond := .code y_Long_numberOfLeadingZeros prog_14_method_48_code 3 (some .int) :: gT
abbrev w_Math_abs : List Cond := .code y_Math_abs prog_15_method_59_code 1 (some .int) :: gT
abbrev w_Math_floorDiv : List Cond := .code y_Math_floorDiv prog_15_method_47_code 3 (some .int) :: gT
abbrev w_Math_max : List Cond := .code y_Math_max prog_15_method_65_code 2 (some .int) :: gT
abbrev w_Math_min : List Cond := .code y_Math_min prog_15_method_69_code 2 (some .int) :: gT
abbrev w_RuntimeEx_init : List Cond := .code y_RuntimeEx_init prog_16_method_2_code 2 none :: gT
abbrev w_Throwable_init : List Cond := .code y_Throwable_init prog_18_method_2_code 2 none :: gT
abbrev w_NoSuchEl_init : List Cond := .code y_NoSuchEl_init prog_19_method_4_code 2 none :: gT
theorem u_Layout : ∀ w ∈ u_ws R_Layout F_Layout 2, w ∈ gT := (List.forall_mem_cons.mpr ⟨(m_80 : Cond.lays "DecimalDesk$Layout" "DecimalDesk$Layout" "expBits" "I" ∈ gT), List.forall_mem_cons.mpr ⟨(m_81 : Cond.lays "DecimalDesk$Layout" "DecimalDesk$Layout" "fracBits" "I" ∈ gT), fun _ h => absurd h List.not_mem_nil⟩⟩ : ∀ w ∈ ([.lays "DecimalDesk$Layout" "DecimalDesk$Layout" "expBits" "I", .lays "DecimalDesk$Layout" "DecimalDesk$Layout" "fracBits" "I"] : List Cond), w ∈ gT)
theorem u_Natural : ∀ w ∈ u_ws R_Natural F_Natural 1, w ∈ gT := (List.forall_mem_cons.mpr ⟨(m_106 : Cond.laysFinal "DecimalDesk$Natural" "DecimalDesk$Natural" "limbs" "[I" ∈ gT), fun _ h => absurd h List.not_mem_nil⟩ : ∀ w ∈ ([.laysFinal "DecimalDesk$Natural" "DecimalDesk$Natural" "limbs" "[I"] : List Cond), w ∈ gT)
theorem u_Tape : ∀ w ∈ u_ws R_Tape F_Tape 2, w ∈ gT := (List.forall_mem_cons.mpr ⟨(m_90 : Cond.laysFinal "DecimalDesk$Tape" "DecimalDesk$Tape" "bytes" "[B" ∈ gT), List.forall_mem_cons.mpr ⟨(m_91 : Cond.lays "DecimalDesk$Tape" "DecimalDesk$Tape" "length" "I" ∈ gT), fun _ h => absurd h List.not_mem_nil⟩⟩ : ∀ w ∈ ([.laysFinal "DecimalDesk$Tape" "DecimalDesk$Tape" "bytes" "[B", .lays "DecimalDesk$Tape" "DecimalDesk$Tape" "length" "I"] : List Cond), w ∈ gT)
theorem u_Decimal : ∀ w ∈ u_ws R_Decimal F_Decimal 3, w ∈ gT := (List.forall_mem_cons.mpr ⟨(m_111 : Cond.laysFinal "DecimalDesk$Decimal" "DecimalDesk$Decimal" "digits" "LDecimalDesk$Natural;" ∈ gT), List.forall_mem_cons.mpr ⟨(m_112 : Cond.lays "DecimalDesk$Decimal" "DecimalDesk$Decimal" "negative" "Z" ∈ gT), List.forall_mem_cons.mpr ⟨(m_113 : Cond.lays "DecimalDesk$Decimal" "DecimalDesk$Decimal" "exponent" "I" ∈ gT), fun _ h => absurd h List.not_mem_nil⟩⟩⟩ : ∀ w ∈ ([.laysFinal "DecimalDesk$Decimal" "DecimalDesk$Decimal" "digits" "LDecimalDesk$Natural;", .lays "DecimalDesk$Decimal" "DecimalDesk$Decimal" "negative" "Z", .lays "DecimalDesk$Decimal" "DecimalDesk$Decimal" "exponent" "I"] : List Cond), w ∈ gT)
theorem u_Rounder : ∀ w ∈ u_ws R_Rounder F_Rounder 5, w ∈ gT := (List.forall_mem_cons.mpr ⟨(m_127 : Cond.laysFinal "DecimalDesk$Rounder" "DecimalDesk$Rounder" "top" "LDecimalDesk$Natural;" ∈ gT), List.forall_mem_cons.mpr ⟨(m_128 : Cond.laysFinal "DecimalDesk$Rounder" "DecimalDesk$Rounder" "bottom" "LDecimalDesk$Natural;" ∈ gT), List.forall_mem_cons.mpr ⟨(m_129 : Cond.lays "DecimalDesk$Rounder" "DecimalDesk$Rounder" "size" "J" ∈ gT), List.forall_mem_cons.mpr ⟨(m_130 : Cond.lays "DecimalDesk$Rounder" "DecimalDesk$Rounder" "inexact" "Z" ∈ gT), List.forall_mem_cons.mpr ⟨(m_131 : Cond.lays "DecimalDesk$Rounder" "DecimalDesk$Rounder" "tiny" "Z" ∈ gT), fun _ h => absurd h List.not_mem_nil⟩⟩⟩⟩⟩ : ∀ w ∈ ([.laysFinal "DecimalDesk$Rounder" "DecimalDesk$Rounder" "top" "LDecimalDesk$Natural;", .laysFinal "DecimalDesk$Rounder" "DecimalDesk$Rounder" "bottom" "LDecimalDesk$Natural;", .lays "DecimalDesk$Rounder" "DecimalDesk$Rounder" "size" "J", .lays "DecimalDesk$Rounder" "DecimalDesk$Rounder" "inexact" "Z", .lays "DecimalDesk$Rounder" "DecimalDesk$Rounder" "tiny" "Z"] : List Cond), w ∈ gT)
theorem u_Finder : ∀ w ∈ u_ws R_Finder F_Finder 9, w ∈ gT := (List.forall_mem_cons.mpr ⟨(m_149 : Cond.laysFinal "DecimalDesk$ShortestFinder" "DecimalDesk$ShortestFinder" "rest" "LDecimalDesk$Natural;" ∈ gT), List.forall_mem_cons.mpr ⟨(m_150 : Cond.laysFinal "DecimalDesk$ShortestFinder" "DecimalDesk$ShortestFinder" "unit" "LDecimalDesk$Natural;" ∈ gT), List.forall_mem_cons.mpr ⟨(m_151 : Cond.laysFinal "DecimalDesk$ShortestFinder" "DecimalDesk$ShortestFinder" "reachBelow" "LDecimalDesk$Natural;" ∈ gT), List.forall_mem_cons.mpr ⟨(m_152 : Cond.laysFinal "DecimalDesk$ShortestFinder" "DecimalDesk$ShortestFinder" "reachAbove" "LDecimalDesk$Natural;" ∈ gT), List.forall_mem_cons.mpr ⟨(m_153 : Cond.laysFinal "DecimalDesk$ShortestFinder" "DecimalDesk$ShortestFinder" "sum" "LDecimalDesk$Natural;" ∈ gT), List.forall_mem_cons.mpr ⟨(m_154 : Cond.lays "DecimalDesk$ShortestFinder" "DecimalDesk$ShortestFinder" "endsBelong" "Z" ∈ gT), List.forall_mem_cons.mpr ⟨(m_155 : Cond.lays "DecimalDesk$ShortestFinder" "DecimalDesk$ShortestFinder" "digits" "J" ∈ gT), List.forall_mem_cons.mpr ⟨(m_156 : Cond.lays "DecimalDesk$ShortestFinder" "DecimalDesk$ShortestFinder" "count" "I" ∈ gT), List.forall_mem_cons.mpr ⟨(m_157 : Cond.lays "DecimalDesk$ShortestFinder" "DecimalDesk$ShortestFinder" "power" "I" ∈ gT), fun _ h => absurd h List.not_mem_nil⟩⟩⟩⟩⟩⟩⟩⟩⟩ : ∀ w ∈ ([.laysFinal "DecimalDesk$ShortestFinder" "DecimalDesk$ShortestFinder" "rest" "LDecimalDesk$Natural;", .laysFinal "DecimalDesk$ShortestFinder" "DecimalDesk$ShortestFinder" "unit" "LDecimalDesk$Natural;", .laysFinal "DecimalDesk$ShortestFinder" "DecimalDesk$ShortestFinder" "reachBelow" "LDecimalDesk$Natural;", .laysFinal "DecimalDesk$ShortestFinder" "DecimalDesk$ShortestFinder" "reachAbove" "LDecimalDesk$Natural;", .laysFinal "DecimalDesk$ShortestFinder" "DecimalDesk$ShortestFinder" "sum" "LDecimalDesk$Natural;", .lays "DecimalDesk$ShortestFinder" "DecimalDesk$ShortestFinder" "endsBelong" "Z", .lays "DecimalDesk$ShortestFinder" "DecimalDesk$ShortestFinder" "digits" "J", .lays "DecimalDesk$ShortestFinder" "DecimalDesk$ShortestFinder" "count" "I", .lays "DecimalDesk$ShortestFinder" "DecimalDesk$ShortestFinder" "power" "I"] : List Cond), w ∈ gT)
theorem u_Told : ∀ w ∈ u_ws R_Told F_Told 3, w ∈ gT := (List.forall_mem_cons.mpr ⟨(m_169 : Cond.laysFinal "DecimalDesk$Told" "DecimalDesk$Told" "letters" "[B" ∈ gT), List.forall_mem_cons.mpr ⟨(m_170 : Cond.laysFinal "DecimalDesk$Told" "DecimalDesk$Told" "reversed" "[B" ∈ gT), List.forall_mem_cons.mpr ⟨(m_171 : Cond.lays "DecimalDesk$Told" "DecimalDesk$Told" "length" "I" ∈ gT), fun _ h => absurd h List.not_mem_nil⟩⟩⟩ : ∀ w ∈ ([.laysFinal "DecimalDesk$Told" "DecimalDesk$Told" "letters" "[B", .laysFinal "DecimalDesk$Told" "DecimalDesk$Told" "reversed" "[B", .lays "DecimalDesk$Told" "DecimalDesk$Told" "length" "I"] : List Cond), w ∈ gT)
theorem u_Desk : ∀ w ∈ u_ws R_Desk F_Desk 9, w ∈ gT := (List.forall_mem_cons.mpr ⟨(m_181 : Cond.laysFinal "DecimalDesk" "DecimalDesk" "layout" "LDecimalDesk$Layout;" ∈ gT), List.forall_mem_cons.mpr ⟨(m_182 : Cond.laysFinal "DecimalDesk" "DecimalDesk" "tape" "LDecimalDesk$Tape;" ∈ gT), List.forall_mem_cons.mpr ⟨(m_183 : Cond.laysFinal "DecimalDesk" "DecimalDesk" "decimal" "LDecimalDesk$Decimal;" ∈ gT), List.forall_mem_cons.mpr ⟨(m_184 : Cond.laysFinal "DecimalDesk" "DecimalDesk" "rounder" "LDecimalDesk$Rounder;" ∈ gT), List.forall_mem_cons.mpr ⟨(m_185 : Cond.laysFinal "DecimalDesk" "DecimalDesk" "finder" "LDecimalDesk$ShortestFinder;" ∈ gT), List.forall_mem_cons.mpr ⟨(m_186 : Cond.laysFinal "DecimalDesk" "DecimalDesk" "digits" "LDecimalDesk$Natural;" ∈ gT), List.forall_mem_cons.mpr ⟨(m_187 : Cond.laysFinal "DecimalDesk" "DecimalDesk" "told" "LDecimalDesk$Told;" ∈ gT), List.forall_mem_cons.mpr ⟨(m_188 : Cond.lays "DecimalDesk" "DecimalDesk" "mode" "I" ∈ gT), List.forall_mem_cons.mpr ⟨(m_189 : Cond.lays "DecimalDesk" "DecimalDesk" "flags" "I" ∈ gT), fun _ h => absurd h List.not_mem_nil⟩⟩⟩⟩⟩⟩⟩⟩⟩ : ∀ w ∈ ([.laysFinal "DecimalDesk" "DecimalDesk" "layout" "LDecimalDesk$Layout;", .laysFinal "DecimalDesk" "DecimalDesk" "tape" "LDecimalDesk$Tape;", .laysFinal "DecimalDesk" "DecimalDesk" "decimal" "LDecimalDesk$Decimal;", .laysFinal "DecimalDesk" "DecimalDesk" "rounder" "LDecimalDesk$Rounder;", .laysFinal "DecimalDesk" "DecimalDesk" "finder" "LDecimalDesk$ShortestFinder;", .laysFinal "DecimalDesk" "DecimalDesk" "digits" "LDecimalDesk$Natural;", .laysFinal "DecimalDesk" "DecimalDesk" "told" "LDecimalDesk$Told;", .lays "DecimalDesk" "DecimalDesk" "mode" "I", .lays "DecimalDesk" "DecimalDesk" "flags" "I"] : List Cond), w ∈ gT)
theorem u_Model : ∀ w ∈ u_ws R_Model F_Model 26, w ∈ gT := (List.forall_mem_cons.mpr ⟨(m_589 : Cond.lays "DecimalDeskModel" "DecimalDeskModel" "thrown" "I" ∈ gT), List.forall_mem_cons.mpr ⟨(m_590 : Cond.lays "DecimalDeskModel" "DecimalDeskModel" "widthE" "I" ∈ gT), List.forall_mem_cons.mpr ⟨(m_591 : Cond.lays "DecimalDeskModel" "DecimalDeskModel" "widthM" "I" ∈ gT), List.forall_mem_cons.mpr ⟨(m_592 : Cond.lays "DecimalDeskModel" "DecimalDeskModel" "way" "I" ∈ gT), List.forall_mem_cons.mpr ⟨(m_593 : Cond.lays "DecimalDeskModel" "DecimalDeskModel" "raised" "I" ∈ gT), List.forall_mem_cons.mpr ⟨(m_594 : Cond.laysFinal "DecimalDeskModel" "DecimalDeskModel" "tape" "[I" ∈ gT), List.forall_mem_cons.mpr ⟨(m_595 : Cond.lays "DecimalDeskModel" "DecimalDeskModel" "taped" "I" ∈ gT), List.forall_mem_cons.mpr ⟨(m_596 : Cond.laysFinal "DecimalDeskModel" "DecimalDeskModel" "told" "[I" ∈ gT), List.forall_mem_cons.mpr ⟨(m_597 : Cond.lays "DecimalDeskModel" "DecimalDeskModel" "toldLong" "I" ∈ gT), List.forall_mem_cons.mpr ⟨(m_598 : Cond.laysFinal "DecimalDeskModel" "DecimalDeskModel" "row" "[I" ∈ gT), List.forall_mem_cons.mpr ⟨(m_599 : Cond.lays "DecimalDeskModel" "DecimalDeskModel" "first" "I" ∈ gT), List.forall_mem_cons.mpr ⟨(m_600 : Cond.lays "DecimalDeskModel" "DecimalDeskModel" "last" "I" ∈ gT), List.forall_mem_cons.mpr ⟨(m_601 : Cond.laysFinal "DecimalDeskModel" "DecimalDeskModel" "whole" "[I" ∈ gT), List.forall_mem_cons.mpr ⟨(m_602 : Cond.lays "DecimalDeskModel" "DecimalDeskModel" "wholeFirst" "I" ∈ gT), List.forall_mem_cons.mpr ⟨(m_603 : Cond.lays "DecimalDeskModel" "DecimalDeskModel" "wholeLast" "I" ∈ gT), List.forall_mem_cons.mpr ⟨(m_604 : Cond.lays "DecimalDeskModel" "DecimalDeskModel" "lost" "Z" ∈ gT), List.forall_mem_cons.mpr ⟨(m_605 : Cond.lays "DecimalDeskModel" "DecimalDeskModel" "over" "Z" ∈ gT), List.forall_mem_cons.mpr ⟨(m_606 : Cond.lays "DecimalDeskModel" "DecimalDeskModel" "under" "Z" ∈ gT), List.forall_mem_cons.mpr ⟨(m_607 : Cond.lays "DecimalDeskModel" "DecimalDeskModel" "at" "I" ∈ gT), List.forall_mem_cons.mpr ⟨(m_608 : Cond.lays "DecimalDeskModel" "DecimalDeskModel" "minus" "Z" ∈ gT), List.forall_mem_cons.mpr ⟨(m_609 : Cond.lays "DecimalDeskModel" "DecimalDeskModel" "digits" "I" ∈ gT), List.forall_mem_cons.mpr ⟨(m_610 : Cond.laysFinal "DecimalDeskModel" "DecimalDeskModel" "digit" "[I" ∈ gT), List.forall_mem_cons.mpr ⟨(m_611 : Cond.lays "DecimalDeskModel" "DecimalDeskModel" "ahead0" "I" ∈ gT), List.forall_mem_cons.mpr ⟨(m_612 : Cond.lays "DecimalDeskModel" "DecimalDeskModel" "exponent" "I" ∈ gT), List.forall_mem_cons.mpr ⟨(m_613 : Cond.laysFinal "DecimalDeskModel" "DecimalDeskModel" "tried" "[I" ∈ gT), List.forall_mem_cons.mpr ⟨(m_614 : Cond.lays "DecimalDeskModel" "DecimalDeskModel" "ten" "I" ∈ gT), fun _ h => absurd h List.not_mem_nil⟩⟩⟩⟩⟩⟩⟩⟩⟩⟩⟩⟩⟩⟩⟩⟩⟩⟩⟩⟩⟩⟩⟩⟩⟩⟩ : ∀ w ∈ ([.lays "DecimalDeskModel" "DecimalDeskModel" "thrown" "I", .lays "DecimalDeskModel" "DecimalDeskModel" "widthE" "I", .lays "DecimalDeskModel" "DecimalDeskModel" "widthM" "I", .lays "DecimalDeskModel" "DecimalDeskModel" "way" "I", .lays "DecimalDeskModel" "DecimalDeskModel" "raised" "I", .laysFinal "DecimalDeskModel" "DecimalDeskModel" "tape" "[I", .lays "DecimalDeskModel" "DecimalDeskModel" "taped" "I", .laysFinal "DecimalDeskModel" "DecimalDeskModel" "told" "[I", .lays "DecimalDeskModel" "DecimalDeskModel" "toldLong" "I", .laysFinal "DecimalDeskModel" "DecimalDeskModel" "row" "[I", .lays "DecimalDeskModel" "DecimalDeskModel" "first" "I", .lays "DecimalDeskModel" "DecimalDeskModel" "last" "I", .laysFinal "DecimalDeskModel" "DecimalDeskModel" "whole" "[I", .lays "DecimalDeskModel" "DecimalDeskModel" "wholeFirst" "I", .lays "DecimalDeskModel" "DecimalDeskModel" "wholeLast" "I", .lays "DecimalDeskModel" "DecimalDeskModel" "lost" "Z", .lays "DecimalDeskModel" "DecimalDeskModel" "over" "Z", .lays "DecimalDeskModel" "DecimalDeskModel" "under" "Z", .lays "DecimalDeskModel" "DecimalDeskModel" "at" "I", .lays "DecimalDeskModel" "DecimalDeskModel" "minus" "Z", .lays "DecimalDeskModel" "DecimalDeskModel" "digits" "I", .laysFinal "DecimalDeskModel" "DecimalDeskModel" "digit" "[I", .lays "DecimalDeskModel" "DecimalDeskModel" "ahead0" "I", .lays "DecimalDeskModel" "DecimalDeskModel" "exponent" "I", .laysFinal "DecimalDeskModel" "DecimalDeskModel" "tried" "[I", .lays "DecimalDeskModel" "DecimalDeskModel" "ten" "I"] : List Cond), w ∈ gT)
abbrev vwCl : List vw_C := [(R_Layout, F_Layout, 2), (R_Natural, F_Natural, 1), (R_Tape, F_Tape, 2), (R_Decimal, F_Decimal, 3), (R_Rounder, F_Rounder, 5), (R_Finder, F_Finder, 9), (R_Told, F_Told, 3), (R_Desk, F_Desk, 9), (R_Model, F_Model, 26)]
def isNest : Cond → Bool
  | .fieldLinkNest _ _ _ _ _ _ => true
  | .methodLinkNest _ _ _ _ => true
  | _ => false
def nestG : List Cond := [.fieldLinkNest "DecimalDesk" 65 "DecimalDesk$Layout" "expBits" "I" "DecimalDesk", .fieldLinkNest "DecimalDesk" 68 "DecimalDesk$Layout" "fracBits" "I" "DecimalDesk", .fieldLinkNest "DecimalDesk$Rounder" 54 "DecimalDesk$Layout" "fracBits" "I" "DecimalDesk", .fieldLinkNest "DecimalDesk$Rounder" 32 "DecimalDesk$Decimal" "digits" "LDecimalDesk$Natural;" "DecimalDesk", .fieldLinkNest "DecimalDesk$Rounder" 75 "DecimalDesk$Decimal" "negative" "Z" "DecimalDesk", .fieldLinkNest "DecimalDesk" 101 "DecimalDesk$Decimal" "negative" "Z" "DecimalDesk", .fieldLinkNest "DecimalDesk$Rounder" 82 "DecimalDesk$Decimal" "exponent" "I" "DecimalDesk", .fieldLinkNest "DecimalDesk" 93 "DecimalDesk$Rounder" "size" "J" "DecimalDesk", .fieldLinkNest "DecimalDesk" 153 "DecimalDesk$Rounder" "inexact" "Z" "DecimalDesk", .fieldLinkNest "DecimalDesk" 156 "DecimalDesk$Rounder" "tiny" "Z" "DecimalDesk", .fieldLinkNest "DecimalDesk" 173 "DecimalDesk$ShortestFinder" "digits" "J" "DecimalDesk", .fieldLinkNest "DecimalDesk" 175 "DecimalDesk$ShortestFinder" "count" "I" "DecimalDesk", .fieldLinkNest "DecimalDesk" 182 "DecimalDesk$ShortestFinder" "power" "I" "DecimalDesk", .fieldLinkNest "DecimalDesk" 129 "DecimalDesk$Told" "length" "I" "DecimalDesk"]
theorem nestG_ok : ∀ w ∈ nestG, isNest w = true := fun w h => List.all_eq_true.mp (show nestG.all isNest = true by decide +kernel) w h
theorem nest_0 : Cond.fieldLinkNest "DecimalDesk" 65 "DecimalDesk$Layout" "expBits" "I" "DecimalDesk" ∈ nestG := List.mem_of_getElem? (i := 0) rfl
theorem nest_1 : Cond.fieldLinkNest "DecimalDesk" 68 "DecimalDesk$Layout" "fracBits" "I" "DecimalDesk" ∈ nestG := List.mem_of_getElem? (i := 1) rfl
theorem nest_2 : Cond.fieldLinkNest "DecimalDesk$Rounder" 54 "DecimalDesk$Layout" "fracBits" "I" "DecimalDesk" ∈ nestG := List.mem_of_getElem? (i := 2) rfl
theorem nest_3 : Cond.fieldLinkNest "DecimalDesk$Rounder" 32 "DecimalDesk$Decimal" "digits" "LDecimalDesk$Natural;" "DecimalDesk" ∈ nestG := List.mem_of_getElem? (i := 3) rfl
theorem nest_4 : Cond.fieldLinkNest "DecimalDesk$Rounder" 75 "DecimalDesk$Decimal" "negative" "Z" "DecimalDesk" ∈ nestG := List.mem_of_getElem? (i := 4) rfl
theorem nest_5 : Cond.fieldLinkNest "DecimalDesk" 101 "DecimalDesk$Decimal" "negative" "Z" "DecimalDesk" ∈ nestG := List.mem_of_getElem? (i := 5) rfl
theorem nest_6 : Cond.fieldLinkNest "DecimalDesk$Rounder" 82 "DecimalDesk$Decimal" "exponent" "I" "DecimalDesk" ∈ nestG := List.mem_of_getElem? (i := 6) rfl
theorem nest_7 : Cond.fieldLinkNest "DecimalDesk" 93 "DecimalDesk$Rounder" "size" "J" "DecimalDesk" ∈ nestG := List.mem_of_getElem? (i := 7) rfl
theorem nest_8 : Cond.fieldLinkNest "DecimalDesk" 153 "DecimalDesk$Rounder" "inexact" "Z" "DecimalDesk" ∈ nestG := List.mem_of_getElem? (i := 8) rfl
theorem nest_9 : Cond.fieldLinkNest "DecimalDesk" 156 "DecimalDesk$Rounder" "tiny" "Z" "DecimalDesk" ∈ nestG := List.mem_of_getElem? (i := 9) rfl
theorem nest_10 : Cond.fieldLinkNest "DecimalDesk" 173 "DecimalDesk$ShortestFinder" "digits" "J" "DecimalDesk" ∈ nestG := List.mem_of_getElem? (i := 10) rfl
theorem nest_11 : Cond.fieldLinkNest "DecimalDesk" 175 "DecimalDesk$ShortestFinder" "count" "I" "DecimalDesk" ∈ nestG := List.mem_of_getElem? (i := 11) rfl
theorem nest_12 : Cond.fieldLinkNest "DecimalDesk" 182 "DecimalDesk$ShortestFinder" "power" "I" "DecimalDesk" ∈ nestG := List.mem_of_getElem? (i := 12) rfl
theorem nest_13 : Cond.fieldLinkNest "DecimalDesk" 129 "DecimalDesk$Told" "length" "I" "DecimalDesk" ∈ nestG := List.mem_of_getElem? (i := 13) rfl
theorem gMem {w : Cond} (h : w ∈ gT) : w ∈ gT ∧ ((w.onTables && w.keeps) = true ∨ ∃ ty, w = .arrayClass ty) := ⟨h, good_of_word (gT_good w h)⟩
theorem gI {y : MethodName} {b : ByteArray} {n : Nat} {r : Option FieldType} (h : Cond.code y b n r ∈ gT) : GoodIn gT (Cond.code y b n r :: gT) := fun w hw => (List.mem_cons.mp hw).elim (fun e => by rw [e]; exact gMem h) gMem
theorem gV {own C : String} {idx : Nat} {y : MethodName} {b : ByteArray} {n : Nat} {r : Option FieldType} (h1 : Cond.methodLink own idx y ∈ gT) (h2 : Cond.instanceMethod y ∈ gT) (h3 : Cond.selects C y y ∈ gT) (h4 : Cond.initialized C ∈ gT) (h : Cond.code y b n r ∈ gT) : GoodIn gT (wsV own idx C y (Cond.code y b n r :: gT)) := by
  intro w hw
  rcases List.mem_append.mp hw with hw | hw
  · rcases List.mem_cons.mp hw with e | hw
    · rw [e]; exact gMem h1
    rcases List.mem_cons.mp hw with e | hw
    · rw [e]; exact gMem h2
    rcases List.mem_cons.mp hw with e | hw
    · rw [e]; exact gMem h3
    rcases List.mem_cons.mp hw with e | hw
    · rw [e]; exact gMem h4
    exact absurd hw List.not_mem_nil
  · exact gI h w hw
theorem gS {own : String} {idx : Nat} {y : MethodName} {b : ByteArray} {n : Nat} {r : Option FieldType} (h1 : Cond.methodLink own idx y ∈ gT) (h2 : Cond.static y ∈ gT) (h3 : Cond.initialized own ∈ gT) (h : Cond.code y b n r ∈ gT) : GoodIn gT (wsS own idx y (Cond.code y b n r :: gT)) := by
  intro w hw
  rcases List.mem_append.mp hw with hw | hw
  · rcases List.mem_cons.mp hw with e | hw
    · rw [e]; exact gMem h1
    rcases List.mem_cons.mp hw with e | hw
    · rw [e]; exact gMem h2
    rcases List.mem_cons.mp hw with e | hw
    · rw [e]; exact gMem h3
    exact absurd hw List.not_mem_nil
  · exact gI h w hw
/-- a static method of another class -/
theorem cwSx {R : Room} {s : State} {args : Array Value} {own : String} {index : Nat} {y : MethodName} {bytes : ByteArray} {maxL : Nat} {ret : Option FieldType} {rm : Room} (n : Nat) (ht : ∀ w ∈ gT, w.before args s = true) (h1 : Cond.methodLink own index y ∈ gT) (h2 : Cond.static y ∈ gT) (h3 : Cond.initialized y.cls ∈ gT) (h : Cond.code y bytes maxL ret ∈ gT)
    (hd : y.cls ≠ "java/lang/invoke/MethodHandle" ∧ y.cls ≠ "java/lang/invoke/VarHandle" ∧ (parseMethodDescriptor y.desc).map (fun d => d.parameters.length) = some n) (hR : rm.frames + 1 ≤ R.frames ∧ 8 + (maxL + 11) + rm.locals ≤ R.locals) :
    CallB R s args own index y bytes maxL ret (Cond.code y bytes maxL ret :: gT) rm rm.cells rm.slots n ∧ (Cond.static y).before args s = true :=
  ⟨callB_of n ht (gI h) rfl rfl rfl (ht _ h3) (ht _ h1) hd hR, ht _ h2⟩
end
section
theorem d_Natural_init_0 : decode b_Natural_init 0 = .ok (.aload_n 0, 1) := by decide +kernel
theorem d_Natural_init_1 : decode b_Natural_init 1 = .ok (.invokespecial 1, 3) := by decide +kernel
theorem d_Natural_init_4 : decode b_Natural_init 4 = .ok (.aload_n 0, 1) := by decide +kernel
theorem d_Natural_init_5 : decode b_Natural_init 5 = .ok (.bipush 12, 2) := by decide +kernel
theorem d_Natural_init_7 : decode b_Natural_init 7 = .ok (.newarray .int, 2) := by decide +kernel
theorem d_Natural_init_9 : decode b_Natural_init 9 = .ok (.putfield 9, 3) := by decide +kernel
theorem d_Natural_init_12 : decode b_Natural_init 12 = .ok (.return_, 1) := by decide +kernel
theorem d_Natural_set_0 : decode b_Natural_set 0 = .ok (.iconst 2, 1) := by decide +kernel
theorem d_Natural_set_1 : decode b_Natural_set 1 = .ok (.istore_n 3, 1) := by decide +kernel
theorem d_Natural_set_2 : decode b_Natural_set 2 = .ok (.iload_n 3, 1) := by decide +kernel
theorem d_Natural_set_3 : decode b_Natural_set 3 = .ok (.bipush 12, 2) := by decide +kernel
theorem d_Natural_set_5 : decode b_Natural_set 5 = .ok (.if_icmp .ge 16, 3) := by decide +kernel
theorem d_Natural_set_8 : decode b_Natural_set 8 = .ok (.aload_n 0, 1) := by decide +kernel
theorem d_Natural_set_9 : decode b_Natural_set 9 = .ok (.getfield 9, 3) := by decide +kernel
theorem d_Natural_set_12 : decode b_Natural_set 12 = .ok (.iload_n 3, 1) := by decide +kernel
theorem d_Natural_set_13 : decode b_Natural_set 13 = .ok (.iconst 0, 1) := by decide +kernel
theorem d_Natural_set_14 : decode b_Natural_set 14 = .ok (.iastore, 1) := by decide +kernel
theorem d_Natural_set_15 : decode b_Natural_set 15 = .ok (.iinc 3 1, 3) := by decide +kernel
theorem d_Natural_set_18 : decode b_Natural_set 18 = .ok (.goto (-16), 3) := by decide +kernel
theorem d_Natural_set_21 : decode b_Natural_set 21 = .ok (.aload_n 0, 1) := by decide +kernel
theorem d_Natural_set_22 : decode b_Natural_set 22 = .ok (.getfield 9, 3) := by decide +kernel
theorem d_Natural_set_25 : decode b_Natural_set 25 = .ok (.iconst 0, 1) := by decide +kernel
theorem d_Natural_set_26 : decode b_Natural_set 26 = .ok (.lload_n 1, 1) := by decide +kernel
theorem d_Natural_set_27 : decode b_Natural_set 27 = .ok (.l2i, 1) := by decide +kernel
theorem d_Natural_set_28 : decode b_Natural_set 28 = .ok (.iastore, 1) := by decide +kernel
theorem d_Natural_set_29 : decode b_Natural_set 29 = .ok (.aload_n 0, 1) := by decide +kernel
theorem d_Natural_set_30 : decode b_Natural_set 30 = .ok (.getfield 9, 3) := by decide +kernel
theorem d_Natural_set_33 : decode b_Natural_set 33 = .ok (.iconst 1, 1) := by decide +kernel
theorem d_Natural_set_34 : decode b_Natural_set 34 = .ok (.lload_n 1, 1) := by decide +kernel
theorem d_Natural_set_35 : decode b_Natural_set 35 = .ok (.bipush 32, 2) := by decide +kernel
theorem d_Natural_set_37 : decode b_Natural_set 37 = .ok (.lushr, 1) := by decide +kernel
theorem d_Natural_set_38 : decode b_Natural_set 38 = .ok (.l2i, 1) := by decide +kernel
theorem d_Natural_set_39 : decode b_Natural_set 39 = .ok (.iastore, 1) := by decide +kernel
theorem d_Natural_set_40 : decode b_Natural_set 40 = .ok (.return_, 1) := by decide +kernel
theorem d_Natural_copy_0 : decode b_Natural_copy 0 = .ok (.iconst 0, 1) := by decide +kernel
theorem d_Natural_copy_1 : decode b_Natural_copy 1 = .ok (.istore_n 2, 1) := by decide +kernel
theorem d_Natural_copy_2 : decode b_Natural_copy 2 = .ok (.iload_n 2, 1) := by decide +kernel
theorem d_Natural_copy_3 : decode b_Natural_copy 3 = .ok (.bipush 12, 2) := by decide +kernel
theorem d_Natural_copy_5 : decode b_Natural_copy 5 = .ok (.if_icmp .ge 21, 3) := by decide +kernel
theorem d_Natural_copy_8 : decode b_Natural_copy 8 = .ok (.aload_n 0, 1) := by decide +kernel
theorem d_Natural_copy_9 : decode b_Natural_copy 9 = .ok (.getfield 9, 3) := by decide +kernel
theorem d_Natural_copy_12 : decode b_Natural_copy 12 = .ok (.iload_n 2, 1) := by decide +kernel
theorem d_Natural_copy_13 : decode b_Natural_copy 13 = .ok (.aload_n 1, 1) := by decide +kernel
theorem d_Natural_copy_14 : decode b_Natural_copy 14 = .ok (.getfield 9, 3) := by decide +kernel
theorem d_Natural_copy_17 : decode b_Natural_copy 17 = .ok (.iload_n 2, 1) := by decide +kernel
theorem d_Natural_copy_18 : decode b_Natural_copy 18 = .ok (.iaload, 1) := by decide +kernel
theorem d_Natural_copy_19 : decode b_Natural_copy 19 = .ok (.iastore, 1) := by decide +kernel
theorem d_Natural_copy_20 : decode b_Natural_copy 20 = .ok (.iinc 2 1, 3) := by decide +kernel
theorem d_Natural_copy_23 : decode b_Natural_copy 23 = .ok (.goto (-21), 3) := by decide +kernel
theorem d_Natural_copy_26 : decode b_Natural_copy 26 = .ok (.return_, 1) := by decide +kernel
theorem d_Natural_isZero_0 : decode b_Natural_isZero 0 = .ok (.iconst 0, 1) := by decide +kernel
theorem d_Natural_isZero_1 : decode b_Natural_isZero 1 = .ok (.istore_n 1, 1) := by decide +kernel
theorem d_Natural_isZero_2 : decode b_Natural_isZero 2 = .ok (.iload_n 1, 1) := by decide +kernel
theorem d_Natural_isZero_3 : decode b_Natural_isZero 3 = .ok (.bipush 12, 2) := by decide +kernel
theorem d_Natural_isZero_5 : decode b_Natural_isZero 5 = .ok (.if_icmp .ge 20, 3) := by decide +kernel
theorem d_Natural_isZero_8 : decode b_Natural_isZero 8 = .ok (.aload_n 0, 1) := by decide +kernel
theorem d_Natural_isZero_9 : decode b_Natural_isZero 9 = .ok (.getfield 9, 3) := by decide +kernel
theorem d_Natural_isZero_12 : decode b_Natural_isZero 12 = .ok (.iload_n 1, 1) := by decide +kernel
theorem d_Natural_isZero_13 : decode b_Natural_isZero 13 = .ok (.iaload, 1) := by decide +kernel
theorem d_Natural_isZero_14 : decode b_Natural_isZero 14 = .ok (.ifCond .eq 5, 3) := by decide +kernel
theorem d_Natural_isZero_17 : decode b_Natural_isZero 17 = .ok (.iconst 0, 1) := by decide +kernel
theorem d_Natural_isZero_18 : decode b_Natural_isZero 18 = .ok (.ireturn, 1) := by decide +kernel
theorem d_Natural_isZero_19 : decode b_Natural_isZero 19 = .ok (.iinc 1 1, 3) := by decide +kernel
theorem d_Natural_isZero_22 : decode b_Natural_isZero 22 = .ok (.goto (-20), 3) := by decide +kernel
theorem d_Natural_isZero_25 : decode b_Natural_isZero 25 = .ok (.iconst 1, 1) := by decide +kernel
theorem d_Natural_isZero_26 : decode b_Natural_isZero 26 = .ok (.ireturn, 1) := by decide +kernel
theorem d_Natural_against_0 : decode b_Natural_against 0 = .ok (.bipush 11, 2) := by decide +kernel
theorem d_Natural_against_2 : decode b_Natural_against 2 = .ok (.istore_n 2, 1) := by decide +kernel
theorem d_Natural_against_3 : decode b_Natural_against 3 = .ok (.iload_n 2, 1) := by decide +kernel
theorem d_Natural_against_4 : decode b_Natural_against 4 = .ok (.ifCond .lt 56, 3) := by decide +kernel
theorem d_Natural_against_7 : decode b_Natural_against 7 = .ok (.aload_n 0, 1) := by decide +kernel
theorem d_Natural_against_8 : decode b_Natural_against 8 = .ok (.getfield 9, 3) := by decide +kernel
theorem d_Natural_against_11 : decode b_Natural_against 11 = .ok (.iload_n 2, 1) := by decide +kernel
theorem d_Natural_against_12 : decode b_Natural_against 12 = .ok (.iaload, 1) := by decide +kernel
theorem d_Natural_against_13 : decode b_Natural_against 13 = .ok (.aload_n 1, 1) := by decide +kernel
theorem d_Natural_against_14 : decode b_Natural_against 14 = .ok (.getfield 9, 3) := by decide +kernel
theorem d_Natural_against_17 : decode b_Natural_against 17 = .ok (.iload_n 2, 1) := by decide +kernel
theorem d_Natural_against_18 : decode b_Natural_against 18 = .ok (.iaload, 1) := by decide +kernel
theorem d_Natural_against_19 : decode b_Natural_against 19 = .ok (.if_icmp .eq 35, 3) := by decide +kernel
theorem d_Natural_against_22 : decode b_Natural_against 22 = .ok (.aload_n 0, 1) := by decide +kernel
theorem d_Natural_against_23 : decode b_Natural_against 23 = .ok (.getfield 9, 3) := by decide +kernel
theorem d_Natural_against_26 : decode b_Natural_against 26 = .ok (.iload_n 2, 1) := by decide +kernel
theorem d_Natural_against_27 : decode b_Natural_against 27 = .ok (.iaload, 1) := by decide +kernel
theorem d_Natural_against_28 : decode b_Natural_against 28 = .ok (.i2l, 1) := by decide +kernel
theorem d_Natural_against_29 : decode b_Natural_against 29 = .ok (.ldc2_w 13, 3) := by decide +kernel
theorem d_Natural_against_32 : decode b_Natural_against 32 = .ok (.land, 1) := by decide +kernel
theorem d_Natural_against_33 : decode b_Natural_against 33 = .ok (.aload_n 1, 1) := by decide +kernel
theorem d_Natural_against_34 : decode b_Natural_against 34 = .ok (.getfield 9, 3) := by decide +kernel
theorem d_Natural_against_37 : decode b_Natural_against 37 = .ok (.iload_n 2, 1) := by decide +kernel
theorem d_Natural_against_38 : decode b_Natural_against 38 = .ok (.iaload, 1) := by decide +kernel
theorem d_Natural_against_39 : decode b_Natural_against 39 = .ok (.i2l, 1) := by decide +kernel
theorem d_Natural_against_40 : decode b_Natural_against 40 = .ok (.ldc2_w 13, 3) := by decide +kernel
theorem d_Natural_against_43 : decode b_Natural_against 43 = .ok (.land, 1) := by decide +kernel
theorem d_Natural_against_44 : decode b_Natural_against 44 = .ok (.lcmp, 1) := by decide +kernel
theorem d_Natural_against_45 : decode b_Natural_against 45 = .ok (.ifCond .ge 7, 3) := by decide +kernel
theorem d_Natural_against_48 : decode b_Natural_against 48 = .ok (.iconst (-1), 1) := by decide +kernel
theorem d_Natural_against_49 : decode b_Natural_against 49 = .ok (.goto 4, 3) := by decide +kernel
theorem d_Natural_against_52 : decode b_Natural_against 52 = .ok (.iconst 1, 1) := by decide +kernel
theorem d_Natural_against_53 : decode b_Natural_against 53 = .ok (.ireturn, 1) := by decide +kernel
theorem d_Natural_against_54 : decode b_Natural_against 54 = .ok (.iinc 2 (-1), 3) := by decide +kernel
theorem d_Natural_against_57 : decode b_Natural_against 57 = .ok (.goto (-54), 3) := by decide +kernel
theorem d_Natural_against_60 : decode b_Natural_against 60 = .ok (.iconst 0, 1) := by decide +kernel
theorem d_Natural_against_61 : decode b_Natural_against 61 = .ok (.ireturn, 1) := by decide +kernel
theorem d_Natural_bitLength_0 : decode b_Natural_bitLength 0 = .ok (.bipush 11, 2) := by decide +kernel
theorem d_Natural_bitLength_2 : decode b_Natural_bitLength 2 = .ok (.istore_n 1, 1) := by decide +kernel
theorem d_Natural_bitLength_3 : decode b_Natural_bitLength 3 = .ok (.iload_n 1, 1) := by decide +kernel
theorem d_Natural_bitLength_4 : decode b_Natural_bitLength 4 = .ok (.ifCond .lt 36, 3) := by decide +kernel
theorem d_Natural_bitLength_7 : decode b_Natural_bitLength 7 = .ok (.aload_n 0, 1) := by decide +kernel
theorem d_Natural_bitLength_8 : decode b_Natural_bitLength 8 = .ok (.getfield 9, 3) := by decide +kernel
theorem d_Natural_bitLength_11 : decode b_Natural_bitLength 11 = .ok (.iload_n 1, 1) := by decide +kernel
theorem d_Natural_bitLength_12 : decode b_Natural_bitLength 12 = .ok (.iaload, 1) := by decide +kernel
theorem d_Natural_bitLength_13 : decode b_Natural_bitLength 13 = .ok (.ifCond .eq 21, 3) := by decide +kernel
theorem d_Natural_bitLength_16 : decode b_Natural_bitLength 16 = .ok (.bipush 32, 2) := by decide +kernel
theorem d_Natural_bitLength_18 : decode b_Natural_bitLength 18 = .ok (.iload_n 1, 1) := by decide +kernel
theorem d_Natural_bitLength_19 : decode b_Natural_bitLength 19 = .ok (.imul, 1) := by decide +kernel
theorem d_Natural_bitLength_20 : decode b_Natural_bitLength 20 = .ok (.bipush 32, 2) := by decide +kernel
theorem d_Natural_bitLength_22 : decode b_Natural_bitLength 22 = .ok (.iadd, 1) := by decide +kernel
theorem d_Natural_bitLength_23 : decode b_Natural_bitLength 23 = .ok (.aload_n 0, 1) := by decide +kernel
theorem d_Natural_bitLength_24 : decode b_Natural_bitLength 24 = .ok (.getfield 9, 3) := by decide +kernel
theorem d_Natural_bitLength_27 : decode b_Natural_bitLength 27 = .ok (.iload_n 1, 1) := by decide +kernel
theorem d_Natural_bitLength_28 : decode b_Natural_bitLength 28 = .ok (.iaload, 1) := by decide +kernel
theorem d_Natural_bitLength_29 : decode b_Natural_bitLength 29 = .ok (.invokestatic 15, 3) := by decide +kernel
theorem d_Natural_bitLength_32 : decode b_Natural_bitLength 32 = .ok (.isub, 1) := by decide +kernel
theorem d_Natural_bitLength_33 : decode b_Natural_bitLength 33 = .ok (.ireturn, 1) := by decide +kernel
theorem d_Natural_bitLength_34 : decode b_Natural_bitLength 34 = .ok (.iinc 1 (-1), 3) := by decide +kernel
theorem d_Natural_bitLength_37 : decode b_Natural_bitLength 37 = .ok (.goto (-34), 3) := by decide +kernel
theorem d_Natural_bitLength_40 : decode b_Natural_bitLength 40 = .ok (.iconst 0, 1) := by decide +kernel
theorem d_Natural_bitLength_41 : decode b_Natural_bitLength 41 = .ok (.ireturn, 1) := by decide +kernel
theorem d_Natural_add_0 : decode b_Natural_add 0 = .ok (.lconst 0, 1) := by decide +kernel
theorem d_Natural_add_1 : decode b_Natural_add 1 = .ok (.lstore_n 2, 1) := by decide +kernel
theorem d_Natural_add_2 : decode b_Natural_add 2 = .ok (.iconst 0, 1) := by decide +kernel
theorem d_Natural_add_3 : decode b_Natural_add 3 = .ok (.istore 4, 2) := by decide +kernel
theorem d_Natural_add_5 : decode b_Natural_add 5 = .ok (.iload 4, 2) := by decide +kernel
theorem d_Natural_add_7 : decode b_Natural_add 7 = .ok (.bipush 12, 2) := by decide +kernel
theorem d_Natural_add_9 : decode b_Natural_add 9 = .ok (.if_icmp .ge 51, 3) := by decide +kernel
theorem d_Natural_add_12 : decode b_Natural_add 12 = .ok (.lload_n 2, 1) := by decide +kernel
theorem d_Natural_add_13 : decode b_Natural_add 13 = .ok (.aload_n 0, 1) := by decide +kernel
theorem d_Natural_add_14 : decode b_Natural_add 14 = .ok (.getfield 9, 3) := by decide +kernel
theorem d_Natural_add_17 : decode b_Natural_add 17 = .ok (.iload 4, 2) := by decide +kernel
theorem d_Natural_add_19 : decode b_Natural_add 19 = .ok (.iaload, 1) := by decide +kernel
theorem d_Natural_add_20 : decode b_Natural_add 20 = .ok (.i2l, 1) := by decide +kernel
theorem d_Natural_add_21 : decode b_Natural_add 21 = .ok (.ldc2_w 13, 3) := by decide +kernel
theorem d_Natural_add_24 : decode b_Natural_add 24 = .ok (.land, 1) := by decide +kernel
theorem d_Natural_add_25 : decode b_Natural_add 25 = .ok (.ladd, 1) := by decide +kernel
theorem d_Natural_add_26 : decode b_Natural_add 26 = .ok (.aload_n 1, 1) := by decide +kernel
theorem d_Natural_add_27 : decode b_Natural_add 27 = .ok (.getfield 9, 3) := by decide +kernel
theorem d_Natural_add_30 : decode b_Natural_add 30 = .ok (.iload 4, 2) := by decide +kernel
theorem d_Natural_add_32 : decode b_Natural_add 32 = .ok (.iaload, 1) := by decide +kernel
theorem d_Natural_add_33 : decode b_Natural_add 33 = .ok (.i2l, 1) := by decide +kernel
theorem d_Natural_add_34 : decode b_Natural_add 34 = .ok (.ldc2_w 13, 3) := by decide +kernel
theorem d_Natural_add_37 : decode b_Natural_add 37 = .ok (.land, 1) := by decide +kernel
theorem d_Natural_add_38 : decode b_Natural_add 38 = .ok (.ladd, 1) := by decide +kernel
theorem d_Natural_add_39 : decode b_Natural_add 39 = .ok (.lstore_n 2, 1) := by decide +kernel
theorem d_Natural_add_40 : decode b_Natural_add 40 = .ok (.aload_n 0, 1) := by decide +kernel
theorem d_Natural_add_41 : decode b_Natural_add 41 = .ok (.getfield 9, 3) := by decide +kernel
theorem d_Natural_add_44 : decode b_Natural_add 44 = .ok (.iload 4, 2) := by decide +kernel
theorem d_Natural_add_46 : decode b_Natural_add 46 = .ok (.lload_n 2, 1) := by decide +kernel
theorem d_Natural_add_47 : decode b_Natural_add 47 = .ok (.l2i, 1) := by decide +kernel
theorem d_Natural_add_48 : decode b_Natural_add 48 = .ok (.iastore, 1) := by decide +kernel
theorem d_Natural_add_49 : decode b_Natural_add 49 = .ok (.lload_n 2, 1) := by decide +kernel
theorem d_Natural_add_50 : decode b_Natural_add 50 = .ok (.bipush 32, 2) := by decide +kernel
theorem d_Natural_add_52 : decode b_Natural_add 52 = .ok (.lushr, 1) := by decide +kernel
theorem d_Natural_add_53 : decode b_Natural_add 53 = .ok (.lstore_n 2, 1) := by decide +kernel
theorem d_Natural_add_54 : decode b_Natural_add 54 = .ok (.iinc 4 1, 3) := by decide +kernel
theorem d_Natural_add_57 : decode b_Natural_add 57 = .ok (.goto (-52), 3) := by decide +kernel
theorem d_Natural_add_60 : decode b_Natural_add 60 = .ok (.return_, 1) := by decide +kernel
theorem d_Natural_subtract_0 : decode b_Natural_subtract 0 = .ok (.lconst 0, 1) := by decide +kernel
theorem d_Natural_subtract_1 : decode b_Natural_subtract 1 = .ok (.lstore_n 2, 1) := by decide +kernel
theorem d_Natural_subtract_2 : decode b_Natural_subtract 2 = .ok (.iconst 0, 1) := by decide +kernel
theorem d_Natural_subtract_3 : decode b_Natural_subtract 3 = .ok (.istore 4, 2) := by decide +kernel
theorem d_Natural_subtract_5 : decode b_Natural_subtract 5 = .ok (.iload 4, 2) := by decide +kernel
theorem d_Natural_subtract_7 : decode b_Natural_subtract 7 = .ok (.bipush 12, 2) := by decide +kernel
theorem d_Natural_subtract_9 : decode b_Natural_subtract 9 = .ok (.if_icmp .ge 51, 3) := by decide +kernel
theorem d_Natural_subtract_12 : decode b_Natural_subtract 12 = .ok (.lload_n 2, 1) := by decide +kernel
theorem d_Natural_subtract_13 : decode b_Natural_subtract 13 = .ok (.aload_n 0, 1) := by decide +kernel
theorem d_Natural_subtract_14 : decode b_Natural_subtract 14 = .ok (.getfield 9, 3) := by decide +kernel
theorem d_Natural_subtract_17 : decode b_Natural_subtract 17 = .ok (.iload 4, 2) := by decide +kernel
theorem d_Natural_subtract_19 : decode b_Natural_subtract 19 = .ok (.iaload, 1) := by decide +kernel
theorem d_Natural_subtract_20 : decode b_Natural_subtract 20 = .ok (.i2l, 1) := by decide +kernel
theorem d_Natural_subtract_21 : decode b_Natural_subtract 21 = .ok (.ldc2_w 13, 3) := by decide +kernel
theorem d_Natural_subtract_24 : decode b_Natural_subtract 24 = .ok (.land, 1) := by decide +kernel
theorem d_Natural_subtract_25 : decode b_Natural_subtract 25 = .ok (.ladd, 1) := by decide +kernel
theorem d_Natural_subtract_26 : decode b_Natural_subtract 26 = .ok (.aload_n 1, 1) := by decide +kernel
theorem d_Natural_subtract_27 : decode b_Natural_subtract 27 = .ok (.getfield 9, 3) := by decide +kernel
theorem d_Natural_subtract_30 : decode b_Natural_subtract 30 = .ok (.iload 4, 2) := by decide +kernel
theorem d_Natural_subtract_32 : decode b_Natural_subtract 32 = .ok (.iaload, 1) := by decide +kernel
theorem d_Natural_subtract_33 : decode b_Natural_subtract 33 = .ok (.i2l, 1) := by decide +kernel
theorem d_Natural_subtract_34 : decode b_Natural_subtract 34 = .ok (.ldc2_w 13, 3) := by decide +kernel
theorem d_Natural_subtract_37 : decode b_Natural_subtract 37 = .ok (.land, 1) := by decide +kernel
theorem d_Natural_subtract_38 : decode b_Natural_subtract 38 = .ok (.lsub, 1) := by decide +kernel
theorem d_Natural_subtract_39 : decode b_Natural_subtract 39 = .ok (.lstore_n 2, 1) := by decide +kernel
theorem d_Natural_subtract_40 : decode b_Natural_subtract 40 = .ok (.aload_n 0, 1) := by decide +kernel
theorem d_Natural_subtract_41 : decode b_Natural_subtract 41 = .ok (.getfield 9, 3) := by decide +kernel
theorem d_Natural_subtract_44 : decode b_Natural_subtract 44 = .ok (.iload 4, 2) := by decide +kernel
theorem d_Natural_subtract_46 : decode b_Natural_subtract 46 = .ok (.lload_n 2, 1) := by decide +kernel
theorem d_Natural_subtract_47 : decode b_Natural_subtract 47 = .ok (.l2i, 1) := by decide +kernel
theorem d_Natural_subtract_48 : decode b_Natural_subtract 48 = .ok (.iastore, 1) := by decide +kernel
theorem d_Natural_subtract_49 : decode b_Natural_subtract 49 = .ok (.lload_n 2, 1) := by decide +kernel
theorem d_Natural_subtract_50 : decode b_Natural_subtract 50 = .ok (.bipush 32, 2) := by decide +kernel
theorem d_Natural_subtract_52 : decode b_Natural_subtract 52 = .ok (.lshr, 1) := by decide +kernel
theorem d_Natural_subtract_53 : decode b_Natural_subtract 53 = .ok (.lstore_n 2, 1) := by decide +kernel
theorem d_Natural_subtract_54 : decode b_Natural_subtract 54 = .ok (.iinc 4 1, 3) := by decide +kernel
theorem d_Natural_subtract_57 : decode b_Natural_subtract 57 = .ok (.goto (-52), 3) := by decide +kernel
theorem d_Natural_subtract_60 : decode b_Natural_subtract 60 = .ok (.return_, 1) := by decide +kernel
theorem d_Natural_timesPlus_0 : decode b_Natural_timesPlus 0 = .ok (.iload_n 2, 1) := by decide +kernel
theorem d_Natural_timesPlus_1 : decode b_Natural_timesPlus 1 = .ok (.i2l, 1) := by decide +kernel
theorem d_Natural_timesPlus_2 : decode b_Natural_timesPlus 2 = .ok (.lstore_n 3, 1) := by decide +kernel
theorem d_Natural_timesPlus_3 : decode b_Natural_timesPlus 3 = .ok (.iconst 0, 1) := by decide +kernel
theorem d_Natural_timesPlus_4 : decode b_Natural_timesPlus 4 = .ok (.istore 5, 2) := by decide +kernel
theorem d_Natural_timesPlus_6 : decode b_Natural_timesPlus 6 = .ok (.iload 5, 2) := by decide +kernel
theorem d_Natural_timesPlus_8 : decode b_Natural_timesPlus 8 = .ok (.bipush 12, 2) := by decide +kernel
theorem d_Natural_timesPlus_10 : decode b_Natural_timesPlus 10 = .ok (.if_icmp .ge 41, 3) := by decide +kernel
theorem d_Natural_timesPlus_13 : decode b_Natural_timesPlus 13 = .ok (.lload_n 3, 1) := by decide +kernel
theorem d_Natural_timesPlus_14 : decode b_Natural_timesPlus 14 = .ok (.aload_n 0, 1) := by decide +kernel
theorem d_Natural_timesPlus_15 : decode b_Natural_timesPlus 15 = .ok (.getfield 9, 3) := by decide +kernel
theorem d_Natural_timesPlus_18 : decode b_Natural_timesPlus 18 = .ok (.iload 5, 2) := by decide +kernel
theorem d_Natural_timesPlus_20 : decode b_Natural_timesPlus 20 = .ok (.iaload, 1) := by decide +kernel
theorem d_Natural_timesPlus_21 : decode b_Natural_timesPlus 21 = .ok (.i2l, 1) := by decide +kernel
theorem d_Natural_timesPlus_22 : decode b_Natural_timesPlus 22 = .ok (.ldc2_w 13, 3) := by decide +kernel
theorem d_Natural_timesPlus_25 : decode b_Natural_timesPlus 25 = .ok (.land, 1) := by decide +kernel
theorem d_Natural_timesPlus_26 : decode b_Natural_timesPlus 26 = .ok (.iload_n 1, 1) := by decide +kernel
theorem d_Natural_timesPlus_27 : decode b_Natural_timesPlus 27 = .ok (.i2l, 1) := by decide +kernel
theorem d_Natural_timesPlus_28 : decode b_Natural_timesPlus 28 = .ok (.lmul, 1) := by decide +kernel
theorem d_Natural_timesPlus_29 : decode b_Natural_timesPlus 29 = .ok (.ladd, 1) := by decide +kernel
theorem d_Natural_timesPlus_30 : decode b_Natural_timesPlus 30 = .ok (.lstore_n 3, 1) := by decide +kernel
theorem d_Natural_timesPlus_31 : decode b_Natural_timesPlus 31 = .ok (.aload_n 0, 1) := by decide +kernel
theorem d_Natural_timesPlus_32 : decode b_Natural_timesPlus 32 = .ok (.getfield 9, 3) := by decide +kernel
theorem d_Natural_timesPlus_35 : decode b_Natural_timesPlus 35 = .ok (.iload 5, 2) := by decide +kernel
theorem d_Natural_timesPlus_37 : decode b_Natural_timesPlus 37 = .ok (.lload_n 3, 1) := by decide +kernel
theorem d_Natural_timesPlus_38 : decode b_Natural_timesPlus 38 = .ok (.l2i, 1) := by decide +kernel
theorem d_Natural_timesPlus_39 : decode b_Natural_timesPlus 39 = .ok (.iastore, 1) := by decide +kernel
theorem d_Natural_timesPlus_40 : decode b_Natural_timesPlus 40 = .ok (.lload_n 3, 1) := by decide +kernel
theorem d_Natural_timesPlus_41 : decode b_Natural_timesPlus 41 = .ok (.bipush 32, 2) := by decide +kernel
theorem d_Natural_timesPlus_43 : decode b_Natural_timesPlus 43 = .ok (.lushr, 1) := by decide +kernel
theorem d_Natural_timesPlus_44 : decode b_Natural_timesPlus 44 = .ok (.lstore_n 3, 1) := by decide +kernel
theorem d_Natural_timesPlus_45 : decode b_Natural_timesPlus 45 = .ok (.iinc 5 1, 3) := by decide +kernel
theorem d_Natural_timesPlus_48 : decode b_Natural_timesPlus 48 = .ok (.goto (-42), 3) := by decide +kernel
theorem d_Natural_timesPlus_51 : decode b_Natural_timesPlus 51 = .ok (.return_, 1) := by decide +kernel
theorem d_Natural_timesPowerOfTen_0 : decode b_Natural_timesPowerOfTen 0 = .ok (.aload_n 0, 1) := by decide +kernel
theorem d_Natural_timesPowerOfTen_1 : decode b_Natural_timesPowerOfTen 1 = .ok (.iload_n 1, 1) := by decide +kernel
theorem d_Natural_timesPowerOfTen_2 : decode b_Natural_timesPowerOfTen 2 = .ok (.invokevirtual 21, 3) := by decide +kernel
theorem d_Natural_timesPowerOfTen_5 : decode b_Natural_timesPowerOfTen 5 = .ok (.aload_n 0, 1) := by decide +kernel
theorem d_Natural_timesPowerOfTen_6 : decode b_Natural_timesPowerOfTen 6 = .ok (.iload_n 1, 1) := by decide +kernel
theorem d_Natural_timesPowerOfTen_7 : decode b_Natural_timesPowerOfTen 7 = .ok (.invokevirtual 25, 3) := by decide +kernel
theorem d_Natural_timesPowerOfTen_10 : decode b_Natural_timesPowerOfTen 10 = .ok (.return_, 1) := by decide +kernel
theorem d_Natural_timesPowerOfFive_0 : decode b_Natural_timesPowerOfFive 0 = .ok (.iload_n 1, 1) := by decide +kernel
theorem d_Natural_timesPowerOfFive_1 : decode b_Natural_timesPowerOfFive 1 = .ok (.istore_n 2, 1) := by decide +kernel
theorem d_Natural_timesPowerOfFive_2 : decode b_Natural_timesPowerOfFive 2 = .ok (.iload_n 2, 1) := by decide +kernel
theorem d_Natural_timesPowerOfFive_3 : decode b_Natural_timesPowerOfFive 3 = .ok (.bipush 13, 2) := by decide +kernel
theorem d_Natural_timesPowerOfFive_5 : decode b_Natural_timesPowerOfFive 5 = .ok (.if_icmp .lt 18, 3) := by decide +kernel
theorem d_Natural_timesPowerOfFive_8 : decode b_Natural_timesPowerOfFive 8 = .ok (.aload_n 0, 1) := by decide +kernel
theorem d_Natural_timesPowerOfFive_9 : decode b_Natural_timesPowerOfFive 9 = .ok (.ldc 28, 2) := by decide +kernel
theorem d_Natural_timesPowerOfFive_11 : decode b_Natural_timesPowerOfFive 11 = .ok (.iconst 0, 1) := by decide +kernel
theorem d_Natural_timesPowerOfFive_12 : decode b_Natural_timesPowerOfFive 12 = .ok (.invokevirtual 29, 3) := by decide +kernel
theorem d_Natural_timesPowerOfFive_15 : decode b_Natural_timesPowerOfFive 15 = .ok (.iload_n 2, 1) := by decide +kernel
theorem d_Natural_timesPowerOfFive_16 : decode b_Natural_timesPowerOfFive 16 = .ok (.bipush 13, 2) := by decide +kernel
theorem d_Natural_timesPowerOfFive_18 : decode b_Natural_timesPowerOfFive 18 = .ok (.isub, 1) := by decide +kernel
theorem d_Natural_timesPowerOfFive_19 : decode b_Natural_timesPowerOfFive 19 = .ok (.istore_n 2, 1) := by decide +kernel
theorem d_Natural_timesPowerOfFive_20 : decode b_Natural_timesPowerOfFive 20 = .ok (.goto (-18), 3) := by decide +kernel
theorem d_Natural_timesPowerOfFive_23 : decode b_Natural_timesPowerOfFive 23 = .ok (.iconst 1, 1) := by decide +kernel
theorem d_Natural_timesPowerOfFive_24 : decode b_Natural_timesPowerOfFive 24 = .ok (.istore_n 3, 1) := by decide +kernel
theorem d_Natural_timesPowerOfFive_25 : decode b_Natural_timesPowerOfFive 25 = .ok (.iload_n 2, 1) := by decide +kernel
theorem d_Natural_timesPowerOfFive_26 : decode b_Natural_timesPowerOfFive 26 = .ok (.ifCond .le 13, 3) := by decide +kernel
theorem d_Natural_timesPowerOfFive_29 : decode b_Natural_timesPowerOfFive 29 = .ok (.iload_n 3, 1) := by decide +kernel
theorem d_Natural_timesPowerOfFive_30 : decode b_Natural_timesPowerOfFive 30 = .ok (.iconst 5, 1) := by decide +kernel
theorem d_Natural_timesPowerOfFive_31 : decode b_Natural_timesPowerOfFive 31 = .ok (.imul, 1) := by decide +kernel
theorem d_Natural_timesPowerOfFive_32 : decode b_Natural_timesPowerOfFive 32 = .ok (.istore_n 3, 1) := by decide +kernel
theorem d_Natural_timesPowerOfFive_33 : decode b_Natural_timesPowerOfFive 33 = .ok (.iinc 2 (-1), 3) := by decide +kernel
theorem d_Natural_timesPowerOfFive_36 : decode b_Natural_timesPowerOfFive 36 = .ok (.goto (-11), 3) := by decide +kernel
theorem d_Natural_timesPowerOfFive_39 : decode b_Natural_timesPowerOfFive 39 = .ok (.aload_n 0, 1) := by decide +kernel
theorem d_Natural_timesPowerOfFive_40 : decode b_Natural_timesPowerOfFive 40 = .ok (.iload_n 3, 1) := by decide +kernel
theorem d_Natural_timesPowerOfFive_41 : decode b_Natural_timesPowerOfFive 41 = .ok (.iconst 0, 1) := by decide +kernel
theorem d_Natural_timesPowerOfFive_42 : decode b_Natural_timesPowerOfFive 42 = .ok (.invokevirtual 29, 3) := by decide +kernel
theorem d_Natural_timesPowerOfFive_45 : decode b_Natural_timesPowerOfFive 45 = .ok (.return_, 1) := by decide +kernel
theorem d_Natural_shiftLeft_0 : decode b_Natural_shiftLeft 0 = .ok (.iload_n 1, 1) := by decide +kernel
theorem d_Natural_shiftLeft_1 : decode b_Natural_shiftLeft 1 = .ok (.ifCond .gt 4, 3) := by decide +kernel
theorem d_Natural_shiftLeft_4 : decode b_Natural_shiftLeft 4 = .ok (.return_, 1) := by decide +kernel
theorem d_Natural_shiftLeft_5 : decode b_Natural_shiftLeft 5 = .ok (.iload_n 1, 1) := by decide +kernel
theorem d_Natural_shiftLeft_6 : decode b_Natural_shiftLeft 6 = .ok (.iconst 5, 1) := by decide +kernel
theorem d_Natural_shiftLeft_7 : decode b_Natural_shiftLeft 7 = .ok (.ishr, 1) := by decide +kernel
theorem d_Natural_shiftLeft_8 : decode b_Natural_shiftLeft 8 = .ok (.istore_n 2, 1) := by decide +kernel
theorem d_Natural_shiftLeft_9 : decode b_Natural_shiftLeft 9 = .ok (.iload_n 1, 1) := by decide +kernel
theorem d_Natural_shiftLeft_10 : decode b_Natural_shiftLeft 10 = .ok (.bipush 31, 2) := by decide +kernel
theorem d_Natural_shiftLeft_12 : decode b_Natural_shiftLeft 12 = .ok (.iand, 1) := by decide +kernel
theorem d_Natural_shiftLeft_13 : decode b_Natural_shiftLeft 13 = .ok (.istore_n 3, 1) := by decide +kernel
theorem d_Natural_shiftLeft_14 : decode b_Natural_shiftLeft 14 = .ok (.bipush 11, 2) := by decide +kernel
theorem d_Natural_shiftLeft_16 : decode b_Natural_shiftLeft 16 = .ok (.istore 4, 2) := by decide +kernel
theorem d_Natural_shiftLeft_18 : decode b_Natural_shiftLeft 18 = .ok (.iload 4, 2) := by decide +kernel
theorem d_Natural_shiftLeft_20 : decode b_Natural_shiftLeft 20 = .ok (.ifCond .lt 51, 3) := by decide +kernel
theorem d_Natural_shiftLeft_23 : decode b_Natural_shiftLeft 23 = .ok (.aload_n 0, 1) := by decide +kernel
theorem d_Natural_shiftLeft_24 : decode b_Natural_shiftLeft 24 = .ok (.iload 4, 2) := by decide +kernel
theorem d_Natural_shiftLeft_26 : decode b_Natural_shiftLeft 26 = .ok (.iload_n 2, 1) := by decide +kernel
theorem d_Natural_shiftLeft_27 : decode b_Natural_shiftLeft 27 = .ok (.isub, 1) := by decide +kernel
theorem d_Natural_shiftLeft_28 : decode b_Natural_shiftLeft 28 = .ok (.invokevirtual 33, 3) := by decide +kernel
theorem d_Natural_shiftLeft_31 : decode b_Natural_shiftLeft 31 = .ok (.iload_n 3, 1) := by decide +kernel
theorem d_Natural_shiftLeft_32 : decode b_Natural_shiftLeft 32 = .ok (.lshl, 1) := by decide +kernel
theorem d_Natural_shiftLeft_33 : decode b_Natural_shiftLeft 33 = .ok (.lstore 5, 2) := by decide +kernel
theorem d_Natural_shiftLeft_35 : decode b_Natural_shiftLeft 35 = .ok (.aload_n 0, 1) := by decide +kernel
theorem d_Natural_shiftLeft_36 : decode b_Natural_shiftLeft 36 = .ok (.iload 4, 2) := by decide +kernel
theorem d_Natural_shiftLeft_38 : decode b_Natural_shiftLeft 38 = .ok (.iload_n 2, 1) := by decide +kernel
theorem d_Natural_shiftLeft_39 : decode b_Natural_shiftLeft 39 = .ok (.isub, 1) := by decide +kernel
theorem d_Natural_shiftLeft_40 : decode b_Natural_shiftLeft 40 = .ok (.iconst 1, 1) := by decide +kernel
theorem d_Natural_shiftLeft_41 : decode b_Natural_shiftLeft 41 = .ok (.isub, 1) := by decide +kernel
theorem d_Natural_shiftLeft_42 : decode b_Natural_shiftLeft 42 = .ok (.invokevirtual 33, 3) := by decide +kernel
theorem d_Natural_shiftLeft_45 : decode b_Natural_shiftLeft 45 = .ok (.bipush 32, 2) := by decide +kernel
theorem d_Natural_shiftLeft_47 : decode b_Natural_shiftLeft 47 = .ok (.iload_n 3, 1) := by decide +kernel
theorem d_Natural_shiftLeft_48 : decode b_Natural_shiftLeft 48 = .ok (.isub, 1) := by decide +kernel
theorem d_Natural_shiftLeft_49 : decode b_Natural_shiftLeft 49 = .ok (.lushr, 1) := by decide +kernel
theorem d_Natural_shiftLeft_50 : decode b_Natural_shiftLeft 50 = .ok (.lstore 7, 2) := by decide +kernel
theorem d_Natural_shiftLeft_52 : decode b_Natural_shiftLeft 52 = .ok (.aload_n 0, 1) := by decide +kernel
theorem d_Natural_shiftLeft_53 : decode b_Natural_shiftLeft 53 = .ok (.getfield 9, 3) := by decide +kernel
theorem d_Natural_shiftLeft_56 : decode b_Natural_shiftLeft 56 = .ok (.iload 4, 2) := by decide +kernel
theorem d_Natural_shiftLeft_58 : decode b_Natural_shiftLeft 58 = .ok (.lload 5, 2) := by decide +kernel
theorem d_Natural_shiftLeft_60 : decode b_Natural_shiftLeft 60 = .ok (.lload 7, 2) := by decide +kernel
theorem d_Natural_shiftLeft_62 : decode b_Natural_shiftLeft 62 = .ok (.lor, 1) := by decide +kernel
theorem d_Natural_shiftLeft_63 : decode b_Natural_shiftLeft 63 = .ok (.l2i, 1) := by decide +kernel
theorem d_Natural_shiftLeft_64 : decode b_Natural_shiftLeft 64 = .ok (.iastore, 1) := by decide +kernel
theorem d_Natural_shiftLeft_65 : decode b_Natural_shiftLeft 65 = .ok (.iinc 4 (-1), 3) := by decide +kernel
theorem d_Natural_shiftLeft_68 : decode b_Natural_shiftLeft 68 = .ok (.goto (-50), 3) := by decide +kernel
theorem d_Natural_shiftLeft_71 : decode b_Natural_shiftLeft 71 = .ok (.return_, 1) := by decide +kernel
theorem d_Natural_divide_0 : decode b_Natural_divide 0 = .ok (.iload_n 1, 1) := by decide +kernel
theorem d_Natural_divide_1 : decode b_Natural_divide 1 = .ok (.ifCond .gt 5, 3) := by decide +kernel
theorem d_Natural_divide_4 : decode b_Natural_divide 4 = .ok (.iconst 0, 1) := by decide +kernel
theorem d_Natural_divide_5 : decode b_Natural_divide 5 = .ok (.ireturn, 1) := by decide +kernel
theorem d_Natural_divide_6 : decode b_Natural_divide 6 = .ok (.lconst 0, 1) := by decide +kernel
theorem d_Natural_divide_7 : decode b_Natural_divide 7 = .ok (.lstore_n 2, 1) := by decide +kernel
theorem d_Natural_divide_8 : decode b_Natural_divide 8 = .ok (.bipush 11, 2) := by decide +kernel
theorem d_Natural_divide_10 : decode b_Natural_divide 10 = .ok (.istore 4, 2) := by decide +kernel
theorem d_Natural_divide_12 : decode b_Natural_divide 12 = .ok (.iload 4, 2) := by decide +kernel
theorem d_Natural_divide_14 : decode b_Natural_divide 14 = .ok (.ifCond .lt 44, 3) := by decide +kernel
theorem d_Natural_divide_17 : decode b_Natural_divide 17 = .ok (.lload_n 2, 1) := by decide +kernel
theorem d_Natural_divide_18 : decode b_Natural_divide 18 = .ok (.bipush 32, 2) := by decide +kernel
theorem d_Natural_divide_20 : decode b_Natural_divide 20 = .ok (.lshl, 1) := by decide +kernel
theorem d_Natural_divide_21 : decode b_Natural_divide 21 = .ok (.aload_n 0, 1) := by decide +kernel
theorem d_Natural_divide_22 : decode b_Natural_divide 22 = .ok (.getfield 9, 3) := by decide +kernel
theorem d_Natural_divide_25 : decode b_Natural_divide 25 = .ok (.iload 4, 2) := by decide +kernel
theorem d_Natural_divide_27 : decode b_Natural_divide 27 = .ok (.iaload, 1) := by decide +kernel
theorem d_Natural_divide_28 : decode b_Natural_divide 28 = .ok (.i2l, 1) := by decide +kernel
theorem d_Natural_divide_29 : decode b_Natural_divide 29 = .ok (.ldc2_w 13, 3) := by decide +kernel
theorem d_Natural_divide_32 : decode b_Natural_divide 32 = .ok (.land, 1) := by decide +kernel
theorem d_Natural_divide_33 : decode b_Natural_divide 33 = .ok (.ladd, 1) := by decide +kernel
theorem d_Natural_divide_34 : decode b_Natural_divide 34 = .ok (.lstore_n 2, 1) := by decide +kernel
theorem d_Natural_divide_35 : decode b_Natural_divide 35 = .ok (.aload_n 0, 1) := by decide +kernel
theorem d_Natural_divide_36 : decode b_Natural_divide 36 = .ok (.getfield 9, 3) := by decide +kernel
theorem d_Natural_divide_39 : decode b_Natural_divide 39 = .ok (.iload 4, 2) := by decide +kernel
theorem d_Natural_divide_41 : decode b_Natural_divide 41 = .ok (.lload_n 2, 1) := by decide +kernel
theorem d_Natural_divide_42 : decode b_Natural_divide 42 = .ok (.iload_n 1, 1) := by decide +kernel
theorem d_Natural_divide_43 : decode b_Natural_divide 43 = .ok (.i2l, 1) := by decide +kernel
theorem d_Natural_divide_44 : decode b_Natural_divide 44 = .ok (.ldiv, 1) := by decide +kernel
theorem d_Natural_divide_45 : decode b_Natural_divide 45 = .ok (.l2i, 1) := by decide +kernel
theorem d_Natural_divide_46 : decode b_Natural_divide 46 = .ok (.iastore, 1) := by decide +kernel
theorem d_Natural_divide_47 : decode b_Natural_divide 47 = .ok (.lload_n 2, 1) := by decide +kernel
theorem d_Natural_divide_48 : decode b_Natural_divide 48 = .ok (.iload_n 1, 1) := by decide +kernel
theorem d_Natural_divide_49 : decode b_Natural_divide 49 = .ok (.i2l, 1) := by decide +kernel
theorem d_Natural_divide_50 : decode b_Natural_divide 50 = .ok (.lrem, 1) := by decide +kernel
theorem d_Natural_divide_51 : decode b_Natural_divide 51 = .ok (.lstore_n 2, 1) := by decide +kernel
theorem d_Natural_divide_52 : decode b_Natural_divide 52 = .ok (.iinc 4 (-1), 3) := by decide +kernel
theorem d_Natural_divide_55 : decode b_Natural_divide 55 = .ok (.goto (-43), 3) := by decide +kernel
theorem d_Natural_divide_58 : decode b_Natural_divide 58 = .ok (.lload_n 2, 1) := by decide +kernel
theorem d_Natural_divide_59 : decode b_Natural_divide 59 = .ok (.l2i, 1) := by decide +kernel
theorem d_Natural_divide_60 : decode b_Natural_divide 60 = .ok (.ireturn, 1) := by decide +kernel
theorem d_Natural_limbAt_0 : decode b_Natural_limbAt 0 = .ok (.iload_n 1, 1) := by decide +kernel
theorem d_Natural_limbAt_1 : decode b_Natural_limbAt 1 = .ok (.ifCond .lt 23, 3) := by decide +kernel
theorem d_Natural_limbAt_4 : decode b_Natural_limbAt 4 = .ok (.iload_n 1, 1) := by decide +kernel
theorem d_Natural_limbAt_5 : decode b_Natural_limbAt 5 = .ok (.bipush 12, 2) := by decide +kernel
theorem d_Natural_limbAt_7 : decode b_Natural_limbAt 7 = .ok (.if_icmp .ge 17, 3) := by decide +kernel
theorem d_Natural_limbAt_10 : decode b_Natural_limbAt 10 = .ok (.aload_n 0, 1) := by decide +kernel
theorem d_Natural_limbAt_11 : decode b_Natural_limbAt 11 = .ok (.getfield 9, 3) := by decide +kernel
theorem d_Natural_limbAt_14 : decode b_Natural_limbAt 14 = .ok (.iload_n 1, 1) := by decide +kernel
theorem d_Natural_limbAt_15 : decode b_Natural_limbAt 15 = .ok (.iaload, 1) := by decide +kernel
theorem d_Natural_limbAt_16 : decode b_Natural_limbAt 16 = .ok (.i2l, 1) := by decide +kernel
theorem d_Natural_limbAt_17 : decode b_Natural_limbAt 17 = .ok (.ldc2_w 13, 3) := by decide +kernel
theorem d_Natural_limbAt_20 : decode b_Natural_limbAt 20 = .ok (.land, 1) := by decide +kernel
theorem d_Natural_limbAt_21 : decode b_Natural_limbAt 21 = .ok (.goto 4, 3) := by decide +kernel
theorem d_Natural_limbAt_24 : decode b_Natural_limbAt 24 = .ok (.lconst 0, 1) := by decide +kernel
theorem d_Natural_limbAt_25 : decode b_Natural_limbAt 25 = .ok (.lreturn, 1) := by decide +kernel
theorem d_Layout_init_0 : decode b_Layout_init 0 = .ok (.aload_n 0, 1) := by decide +kernel
theorem d_Layout_init_1 : decode b_Layout_init 1 = .ok (.invokespecial 1, 3) := by decide +kernel
theorem d_Layout_init_4 : decode b_Layout_init 4 = .ok (.aload_n 0, 1) := by decide +kernel
theorem d_Layout_init_5 : decode b_Layout_init 5 = .ok (.bipush 8, 2) := by decide +kernel
theorem d_Layout_init_7 : decode b_Layout_init 7 = .ok (.putfield 7, 3) := by decide +kernel
theorem d_Layout_init_10 : decode b_Layout_init 10 = .ok (.aload_n 0, 1) := by decide +kernel
theorem d_Layout_init_11 : decode b_Layout_init 11 = .ok (.bipush 23, 2) := by decide +kernel
theorem d_Layout_init_13 : decode b_Layout_init 13 = .ok (.putfield 13, 3) := by decide +kernel
theorem d_Layout_init_16 : decode b_Layout_init 16 = .ok (.return_, 1) := by decide +kernel
theorem d_Layout_bias_0 : decode b_Layout_bias 0 = .ok (.iconst 1, 1) := by decide +kernel
theorem d_Layout_bias_1 : decode b_Layout_bias 1 = .ok (.aload_n 0, 1) := by decide +kernel
theorem d_Layout_bias_2 : decode b_Layout_bias 2 = .ok (.getfield 7, 3) := by decide +kernel
theorem d_Layout_bias_5 : decode b_Layout_bias 5 = .ok (.iconst 1, 1) := by decide +kernel
theorem d_Layout_bias_6 : decode b_Layout_bias 6 = .ok (.isub, 1) := by decide +kernel
theorem d_Layout_bias_7 : decode b_Layout_bias 7 = .ok (.ishl, 1) := by decide +kernel
theorem d_Layout_bias_8 : decode b_Layout_bias 8 = .ok (.iconst 1, 1) := by decide +kernel
theorem d_Layout_bias_9 : decode b_Layout_bias 9 = .ok (.isub, 1) := by decide +kernel
theorem d_Layout_bias_10 : decode b_Layout_bias 10 = .ok (.ireturn, 1) := by decide +kernel
theorem d_Layout_lowestPower_0 : decode b_Layout_lowestPower 0 = .ok (.iconst 1, 1) := by decide +kernel
theorem d_Layout_lowestPower_1 : decode b_Layout_lowestPower 1 = .ok (.aload_n 0, 1) := by decide +kernel
theorem d_Layout_lowestPower_2 : decode b_Layout_lowestPower 2 = .ok (.invokevirtual 16, 3) := by decide +kernel
theorem d_Layout_lowestPower_5 : decode b_Layout_lowestPower 5 = .ok (.isub, 1) := by decide +kernel
theorem d_Layout_lowestPower_6 : decode b_Layout_lowestPower 6 = .ok (.aload_n 0, 1) := by decide +kernel
theorem d_Layout_lowestPower_7 : decode b_Layout_lowestPower 7 = .ok (.getfield 13, 3) := by decide +kernel
theorem d_Layout_lowestPower_10 : decode b_Layout_lowestPower 10 = .ok (.isub, 1) := by decide +kernel
theorem d_Layout_lowestPower_11 : decode b_Layout_lowestPower 11 = .ok (.ireturn, 1) := by decide +kernel
theorem d_Layout_signBit_0 : decode b_Layout_signBit 0 = .ok (.lconst 1, 1) := by decide +kernel
theorem d_Layout_signBit_1 : decode b_Layout_signBit 1 = .ok (.aload_n 0, 1) := by decide +kernel
theorem d_Layout_signBit_2 : decode b_Layout_signBit 2 = .ok (.getfield 7, 3) := by decide +kernel
theorem d_Layout_signBit_5 : decode b_Layout_signBit 5 = .ok (.aload_n 0, 1) := by decide +kernel
theorem d_Layout_signBit_6 : decode b_Layout_signBit 6 = .ok (.getfield 13, 3) := by decide +kernel
theorem d_Layout_signBit_9 : decode b_Layout_signBit 9 = .ok (.iadd, 1) := by decide +kernel
theorem d_Layout_signBit_10 : decode b_Layout_signBit 10 = .ok (.lshl, 1) := by decide +kernel
theorem d_Layout_signBit_11 : decode b_Layout_signBit 11 = .ok (.lreturn, 1) := by decide +kernel
theorem d_Layout_infinity_0 : decode b_Layout_infinity 0 = .ok (.lconst 1, 1) := by decide +kernel
theorem d_Layout_infinity_1 : decode b_Layout_infinity 1 = .ok (.aload_n 0, 1) := by decide +kernel
theorem d_Layout_infinity_2 : decode b_Layout_infinity 2 = .ok (.getfield 7, 3) := by decide +kernel
theorem d_Layout_infinity_5 : decode b_Layout_infinity 5 = .ok (.lshl, 1) := by decide +kernel
theorem d_Layout_infinity_6 : decode b_Layout_infinity 6 = .ok (.lconst 1, 1) := by decide +kernel
theorem d_Layout_infinity_7 : decode b_Layout_infinity 7 = .ok (.lsub, 1) := by decide +kernel
theorem d_Layout_infinity_8 : decode b_Layout_infinity 8 = .ok (.aload_n 0, 1) := by decide +kernel
theorem d_Layout_infinity_9 : decode b_Layout_infinity 9 = .ok (.getfield 13, 3) := by decide +kernel
theorem d_Layout_infinity_12 : decode b_Layout_infinity 12 = .ok (.lshl, 1) := by decide +kernel
theorem d_Layout_infinity_13 : decode b_Layout_infinity 13 = .ok (.lreturn, 1) := by decide +kernel
theorem d_Layout_holds_0 : decode b_Layout_holds 0 = .ok (.lload_n 1, 1) := by decide +kernel
theorem d_Layout_holds_1 : decode b_Layout_holds 1 = .ok (.lconst 0, 1) := by decide +kernel
theorem d_Layout_holds_2 : decode b_Layout_holds 2 = .ok (.lcmp, 1) := by decide +kernel
theorem d_Layout_holds_3 : decode b_Layout_holds 3 = .ok (.ifCond .lt 20, 3) := by decide +kernel
theorem d_Layout_holds_6 : decode b_Layout_holds 6 = .ok (.lload_n 1, 1) := by decide +kernel
theorem d_Layout_holds_7 : decode b_Layout_holds 7 = .ok (.ldc2_w 20, 3) := by decide +kernel
theorem d_Layout_holds_10 : decode b_Layout_holds 10 = .ok (.aload_n 0, 1) := by decide +kernel
theorem d_Layout_holds_11 : decode b_Layout_holds 11 = .ok (.invokevirtual 22, 3) := by decide +kernel
theorem d_Layout_holds_14 : decode b_Layout_holds 14 = .ok (.lmul, 1) := by decide +kernel
theorem d_Layout_holds_15 : decode b_Layout_holds 15 = .ok (.lcmp, 1) := by decide +kernel
theorem d_Layout_holds_16 : decode b_Layout_holds 16 = .ok (.ifCond .ge 7, 3) := by decide +kernel
theorem d_Layout_holds_19 : decode b_Layout_holds 19 = .ok (.iconst 1, 1) := by decide +kernel
theorem d_Layout_holds_20 : decode b_Layout_holds 20 = .ok (.goto 4, 3) := by decide +kernel
theorem d_Layout_holds_23 : decode b_Layout_holds 23 = .ok (.iconst 0, 1) := by decide +kernel
theorem d_Layout_holds_24 : decode b_Layout_holds 24 = .ok (.ireturn, 1) := by decide +kernel
theorem d_Layout_isNegative_0 : decode b_Layout_isNegative 0 = .ok (.lload_n 1, 1) := by decide +kernel
theorem d_Layout_isNegative_1 : decode b_Layout_isNegative 1 = .ok (.aload_n 0, 1) := by decide +kernel
theorem d_Layout_isNegative_2 : decode b_Layout_isNegative 2 = .ok (.invokevirtual 22, 3) := by decide +kernel
theorem d_Layout_isNegative_5 : decode b_Layout_isNegative 5 = .ok (.lcmp, 1) := by decide +kernel
theorem d_Layout_isNegative_6 : decode b_Layout_isNegative 6 = .ok (.ifCond .lt 7, 3) := by decide +kernel
theorem d_Layout_isNegative_9 : decode b_Layout_isNegative 9 = .ok (.iconst 1, 1) := by decide +kernel
theorem d_Layout_isNegative_10 : decode b_Layout_isNegative 10 = .ok (.goto 4, 3) := by decide +kernel
theorem d_Layout_isNegative_13 : decode b_Layout_isNegative 13 = .ok (.iconst 0, 1) := by decide +kernel
theorem d_Layout_isNegative_14 : decode b_Layout_isNegative 14 = .ok (.ireturn, 1) := by decide +kernel
theorem d_Layout_sizeOf_0 : decode b_Layout_sizeOf 0 = .ok (.lload_n 1, 1) := by decide +kernel
theorem d_Layout_sizeOf_1 : decode b_Layout_sizeOf 1 = .ok (.aload_n 0, 1) := by decide +kernel
theorem d_Layout_sizeOf_2 : decode b_Layout_sizeOf 2 = .ok (.invokevirtual 22, 3) := by decide +kernel
theorem d_Layout_sizeOf_5 : decode b_Layout_sizeOf 5 = .ok (.lconst 1, 1) := by decide +kernel
theorem d_Layout_sizeOf_6 : decode b_Layout_sizeOf 6 = .ok (.lsub, 1) := by decide +kernel
theorem d_Layout_sizeOf_7 : decode b_Layout_sizeOf 7 = .ok (.land, 1) := by decide +kernel
theorem d_Layout_sizeOf_8 : decode b_Layout_sizeOf 8 = .ok (.lreturn, 1) := by decide +kernel
theorem d_Layout_fractionOf_0 : decode b_Layout_fractionOf 0 = .ok (.lload_n 1, 1) := by decide +kernel
theorem d_Layout_fractionOf_1 : decode b_Layout_fractionOf 1 = .ok (.lconst 1, 1) := by decide +kernel
theorem d_Layout_fractionOf_2 : decode b_Layout_fractionOf 2 = .ok (.aload_n 0, 1) := by decide +kernel
theorem d_Layout_fractionOf_3 : decode b_Layout_fractionOf 3 = .ok (.getfield 13, 3) := by decide +kernel
theorem d_Layout_fractionOf_6 : decode b_Layout_fractionOf 6 = .ok (.lshl, 1) := by decide +kernel
theorem d_Layout_fractionOf_7 : decode b_Layout_fractionOf 7 = .ok (.lconst 1, 1) := by decide +kernel
theorem d_Layout_fractionOf_8 : decode b_Layout_fractionOf 8 = .ok (.lsub, 1) := by decide +kernel
theorem d_Layout_fractionOf_9 : decode b_Layout_fractionOf 9 = .ok (.land, 1) := by decide +kernel
theorem d_Layout_fractionOf_10 : decode b_Layout_fractionOf 10 = .ok (.lreturn, 1) := by decide +kernel
theorem d_Layout_exponentOf_0 : decode b_Layout_exponentOf 0 = .ok (.lload_n 1, 1) := by decide +kernel
theorem d_Layout_exponentOf_1 : decode b_Layout_exponentOf 1 = .ok (.aload_n 0, 1) := by decide +kernel
theorem d_Layout_exponentOf_2 : decode b_Layout_exponentOf 2 = .ok (.getfield 13, 3) := by decide +kernel
theorem d_Layout_exponentOf_5 : decode b_Layout_exponentOf 5 = .ok (.lshr, 1) := by decide +kernel
theorem d_Layout_exponentOf_6 : decode b_Layout_exponentOf 6 = .ok (.l2i, 1) := by decide +kernel
theorem d_Layout_exponentOf_7 : decode b_Layout_exponentOf 7 = .ok (.ireturn, 1) := by decide +kernel
theorem d_Layout_significandOf_0 : decode b_Layout_significandOf 0 = .ok (.aload_n 0, 1) := by decide +kernel
theorem d_Layout_significandOf_1 : decode b_Layout_significandOf 1 = .ok (.lload_n 1, 1) := by decide +kernel
theorem d_Layout_significandOf_2 : decode b_Layout_significandOf 2 = .ok (.invokevirtual 26, 3) := by decide +kernel
theorem d_Layout_significandOf_5 : decode b_Layout_significandOf 5 = .ok (.ifCond .ne 7, 3) := by decide +kernel
theorem d_Layout_significandOf_8 : decode b_Layout_significandOf 8 = .ok (.lload_n 1, 1) := by decide +kernel
theorem d_Layout_significandOf_9 : decode b_Layout_significandOf 9 = .ok (.goto 15, 3) := by decide +kernel
theorem d_Layout_significandOf_12 : decode b_Layout_significandOf 12 = .ok (.lconst 1, 1) := by decide +kernel
theorem d_Layout_significandOf_13 : decode b_Layout_significandOf 13 = .ok (.aload_n 0, 1) := by decide +kernel
theorem d_Layout_significandOf_14 : decode b_Layout_significandOf 14 = .ok (.getfield 13, 3) := by decide +kernel
theorem d_Layout_significandOf_17 : decode b_Layout_significandOf 17 = .ok (.lshl, 1) := by decide +kernel
theorem d_Layout_significandOf_18 : decode b_Layout_significandOf 18 = .ok (.aload_n 0, 1) := by decide +kernel
theorem d_Layout_significandOf_19 : decode b_Layout_significandOf 19 = .ok (.lload_n 1, 1) := by decide +kernel
theorem d_Layout_significandOf_20 : decode b_Layout_significandOf 20 = .ok (.invokevirtual 30, 3) := by decide +kernel
theorem d_Layout_significandOf_23 : decode b_Layout_significandOf 23 = .ok (.ladd, 1) := by decide +kernel
theorem d_Layout_significandOf_24 : decode b_Layout_significandOf 24 = .ok (.lreturn, 1) := by decide +kernel
theorem d_Layout_powerOf_0 : decode b_Layout_powerOf 0 = .ok (.aload_n 0, 1) := by decide +kernel
theorem d_Layout_powerOf_1 : decode b_Layout_powerOf 1 = .ok (.invokevirtual 34, 3) := by decide +kernel
theorem d_Layout_powerOf_4 : decode b_Layout_powerOf 4 = .ok (.aload_n 0, 1) := by decide +kernel
theorem d_Layout_powerOf_5 : decode b_Layout_powerOf 5 = .ok (.lload_n 1, 1) := by decide +kernel
theorem d_Layout_powerOf_6 : decode b_Layout_powerOf 6 = .ok (.invokevirtual 26, 3) := by decide +kernel
theorem d_Layout_powerOf_9 : decode b_Layout_powerOf 9 = .ok (.iconst 1, 1) := by decide +kernel
theorem d_Layout_powerOf_10 : decode b_Layout_powerOf 10 = .ok (.isub, 1) := by decide +kernel
theorem d_Layout_powerOf_11 : decode b_Layout_powerOf 11 = .ok (.iconst 0, 1) := by decide +kernel
theorem d_Layout_powerOf_12 : decode b_Layout_powerOf 12 = .ok (.invokestatic 37, 3) := by decide +kernel
theorem d_Layout_powerOf_15 : decode b_Layout_powerOf 15 = .ok (.iadd, 1) := by decide +kernel
theorem d_Layout_powerOf_16 : decode b_Layout_powerOf 16 = .ok (.ireturn, 1) := by decide +kernel
theorem d_Tape_init_0 : decode b_Tape_init 0 = .ok (.aload_n 0, 1) := by decide +kernel
theorem d_Tape_init_1 : decode b_Tape_init 1 = .ok (.invokespecial 1, 3) := by decide +kernel
theorem d_Tape_init_4 : decode b_Tape_init 4 = .ok (.aload_n 0, 1) := by decide +kernel
theorem d_Tape_init_5 : decode b_Tape_init 5 = .ok (.bipush 60, 2) := by decide +kernel
theorem d_Tape_init_7 : decode b_Tape_init 7 = .ok (.newarray .byte, 2) := by decide +kernel
theorem d_Tape_init_9 : decode b_Tape_init 9 = .ok (.putfield 9, 3) := by decide +kernel
theorem d_Tape_init_12 : decode b_Tape_init 12 = .ok (.aload_n 0, 1) := by decide +kernel
theorem d_Tape_init_13 : decode b_Tape_init 13 = .ok (.iconst 0, 1) := by decide +kernel
theorem d_Tape_init_14 : decode b_Tape_init 14 = .ok (.putfield 13, 3) := by decide +kernel
theorem d_Tape_init_17 : decode b_Tape_init 17 = .ok (.return_, 1) := by decide +kernel
theorem d_Tape_put_0 : decode b_Tape_put 0 = .ok (.iload_n 3, 1) := by decide +kernel
theorem d_Tape_put_1 : decode b_Tape_put 1 = .ok (.iconst 1, 1) := by decide +kernel
theorem d_Tape_put_2 : decode b_Tape_put 2 = .ok (.if_icmp .lt 20, 3) := by decide +kernel
theorem d_Tape_put_5 : decode b_Tape_put 5 = .ok (.iload_n 3, 1) := by decide +kernel
theorem d_Tape_put_6 : decode b_Tape_put 6 = .ok (.bipush 8, 2) := by decide +kernel
theorem d_Tape_put_8 : decode b_Tape_put 8 = .ok (.if_icmp .gt 14, 3) := by decide +kernel
theorem d_Tape_put_11 : decode b_Tape_put 11 = .ok (.aload_n 0, 1) := by decide +kernel
theorem d_Tape_put_12 : decode b_Tape_put 12 = .ok (.getfield 13, 3) := by decide +kernel
theorem d_Tape_put_15 : decode b_Tape_put 15 = .ok (.iload_n 3, 1) := by decide +kernel
theorem d_Tape_put_16 : decode b_Tape_put 16 = .ok (.iadd, 1) := by decide +kernel
theorem d_Tape_put_17 : decode b_Tape_put 17 = .ok (.bipush 60, 2) := by decide +kernel
theorem d_Tape_put_19 : decode b_Tape_put 19 = .ok (.if_icmp .le 5, 3) := by decide +kernel
theorem d_Tape_put_22 : decode b_Tape_put 22 = .ok (.iconst 0, 1) := by decide +kernel
theorem d_Tape_put_23 : decode b_Tape_put 23 = .ok (.ireturn, 1) := by decide +kernel
theorem d_Tape_put_24 : decode b_Tape_put 24 = .ok (.iconst 0, 1) := by decide +kernel
theorem d_Tape_put_25 : decode b_Tape_put 25 = .ok (.istore 4, 2) := by decide +kernel
theorem d_Tape_put_27 : decode b_Tape_put 27 = .ok (.iload 4, 2) := by decide +kernel
theorem d_Tape_put_29 : decode b_Tape_put 29 = .ok (.iload_n 3, 1) := by decide +kernel
theorem d_Tape_put_30 : decode b_Tape_put 30 = .ok (.if_icmp .ge 33, 3) := by decide +kernel
theorem d_Tape_put_33 : decode b_Tape_put 33 = .ok (.lload_n 1, 1) := by decide +kernel
theorem d_Tape_put_34 : decode b_Tape_put 34 = .ok (.iload 4, 2) := by decide +kernel
theorem d_Tape_put_36 : decode b_Tape_put 36 = .ok (.invokestatic 17, 3) := by decide +kernel
theorem d_Tape_put_39 : decode b_Tape_put 39 = .ok (.istore 5, 2) := by decide +kernel
theorem d_Tape_put_41 : decode b_Tape_put 41 = .ok (.iload 5, 2) := by decide +kernel
theorem d_Tape_put_43 : decode b_Tape_put 43 = .ok (.bipush 33, 2) := by decide +kernel
theorem d_Tape_put_45 : decode b_Tape_put 45 = .ok (.if_icmp .lt 10, 3) := by decide +kernel
theorem d_Tape_put_48 : decode b_Tape_put 48 = .ok (.iload 5, 2) := by decide +kernel
theorem d_Tape_put_50 : decode b_Tape_put 50 = .ok (.bipush 126, 2) := by decide +kernel
theorem d_Tape_put_52 : decode b_Tape_put 52 = .ok (.if_icmp .le 5, 3) := by decide +kernel
theorem d_Tape_put_55 : decode b_Tape_put 55 = .ok (.iconst 0, 1) := by decide +kernel
theorem d_Tape_put_56 : decode b_Tape_put 56 = .ok (.ireturn, 1) := by decide +kernel
theorem d_Tape_put_57 : decode b_Tape_put 57 = .ok (.iinc 4 1, 3) := by decide +kernel
theorem d_Tape_put_60 : decode b_Tape_put 60 = .ok (.goto (-33), 3) := by decide +kernel
theorem d_Tape_put_63 : decode b_Tape_put 63 = .ok (.iload_n 3, 1) := by decide +kernel
theorem d_Tape_put_64 : decode b_Tape_put 64 = .ok (.iconst 1, 1) := by decide +kernel
theorem d_Tape_put_65 : decode b_Tape_put 65 = .ok (.isub, 1) := by decide +kernel
theorem d_Tape_put_66 : decode b_Tape_put 66 = .ok (.istore 4, 2) := by decide +kernel
theorem d_Tape_put_68 : decode b_Tape_put 68 = .ok (.iload 4, 2) := by decide +kernel
theorem d_Tape_put_70 : decode b_Tape_put 70 = .ok (.ifCond .lt 51, 3) := by decide +kernel
theorem d_Tape_put_73 : decode b_Tape_put 73 = .ok (.aload_n 0, 1) := by decide +kernel
theorem d_Tape_put_74 : decode b_Tape_put 74 = .ok (.getfield 13, 3) := by decide +kernel
theorem d_Tape_put_77 : decode b_Tape_put 77 = .ok (.ifCond .lt 38, 3) := by decide +kernel
theorem d_Tape_put_80 : decode b_Tape_put 80 = .ok (.aload_n 0, 1) := by decide +kernel
theorem d_Tape_put_81 : decode b_Tape_put 81 = .ok (.getfield 13, 3) := by decide +kernel
theorem d_Tape_put_84 : decode b_Tape_put 84 = .ok (.bipush 60, 2) := by decide +kernel
theorem d_Tape_put_86 : decode b_Tape_put 86 = .ok (.if_icmp .ge 29, 3) := by decide +kernel
theorem d_Tape_put_89 : decode b_Tape_put 89 = .ok (.aload_n 0, 1) := by decide +kernel
theorem d_Tape_put_90 : decode b_Tape_put 90 = .ok (.getfield 9, 3) := by decide +kernel
theorem d_Tape_put_93 : decode b_Tape_put 93 = .ok (.aload_n 0, 1) := by decide +kernel
theorem d_Tape_put_94 : decode b_Tape_put 94 = .ok (.getfield 13, 3) := by decide +kernel
theorem d_Tape_put_97 : decode b_Tape_put 97 = .ok (.lload_n 1, 1) := by decide +kernel
theorem d_Tape_put_98 : decode b_Tape_put 98 = .ok (.iload 4, 2) := by decide +kernel
theorem d_Tape_put_100 : decode b_Tape_put 100 = .ok (.invokestatic 17, 3) := by decide +kernel
theorem d_Tape_put_103 : decode b_Tape_put 103 = .ok (.i2b, 1) := by decide +kernel
theorem d_Tape_put_104 : decode b_Tape_put 104 = .ok (.bastore, 1) := by decide +kernel
theorem d_Tape_put_105 : decode b_Tape_put 105 = .ok (.aload_n 0, 1) := by decide +kernel
theorem d_Tape_put_106 : decode b_Tape_put 106 = .ok (.dup, 1) := by decide +kernel
theorem d_Tape_put_107 : decode b_Tape_put 107 = .ok (.getfield 13, 3) := by decide +kernel
theorem d_Tape_put_110 : decode b_Tape_put 110 = .ok (.iconst 1, 1) := by decide +kernel
theorem d_Tape_put_111 : decode b_Tape_put 111 = .ok (.iadd, 1) := by decide +kernel
theorem d_Tape_put_112 : decode b_Tape_put 112 = .ok (.putfield 13, 3) := by decide +kernel
theorem d_Tape_put_115 : decode b_Tape_put 115 = .ok (.iinc 4 (-1), 3) := by decide +kernel
theorem d_Tape_put_118 : decode b_Tape_put 118 = .ok (.goto (-50), 3) := by decide +kernel
theorem d_Tape_put_121 : decode b_Tape_put 121 = .ok (.iconst 1, 1) := by decide +kernel
theorem d_Tape_put_122 : decode b_Tape_put 122 = .ok (.ireturn, 1) := by decide +kernel
theorem d_Tape_wipe_0 : decode b_Tape_wipe 0 = .ok (.aload_n 0, 1) := by decide +kernel
theorem d_Tape_wipe_1 : decode b_Tape_wipe 1 = .ok (.iconst 0, 1) := by decide +kernel
theorem d_Tape_wipe_2 : decode b_Tape_wipe 2 = .ok (.putfield 13, 3) := by decide +kernel
theorem d_Tape_wipe_5 : decode b_Tape_wipe 5 = .ok (.return_, 1) := by decide +kernel
theorem d_Tape_at_0 : decode b_Tape_at 0 = .ok (.iload_n 1, 1) := by decide +kernel
theorem d_Tape_at_1 : decode b_Tape_at 1 = .ok (.ifCond .lt 26, 3) := by decide +kernel
theorem d_Tape_at_4 : decode b_Tape_at 4 = .ok (.iload_n 1, 1) := by decide +kernel
theorem d_Tape_at_5 : decode b_Tape_at 5 = .ok (.aload_n 0, 1) := by decide +kernel
theorem d_Tape_at_6 : decode b_Tape_at 6 = .ok (.getfield 13, 3) := by decide +kernel
theorem d_Tape_at_9 : decode b_Tape_at 9 = .ok (.if_icmp .ge 18, 3) := by decide +kernel
theorem d_Tape_at_12 : decode b_Tape_at 12 = .ok (.iload_n 1, 1) := by decide +kernel
theorem d_Tape_at_13 : decode b_Tape_at 13 = .ok (.bipush 60, 2) := by decide +kernel
theorem d_Tape_at_15 : decode b_Tape_at 15 = .ok (.if_icmp .ge 12, 3) := by decide +kernel
theorem d_Tape_at_18 : decode b_Tape_at 18 = .ok (.aload_n 0, 1) := by decide +kernel
theorem d_Tape_at_19 : decode b_Tape_at 19 = .ok (.getfield 9, 3) := by decide +kernel
theorem d_Tape_at_22 : decode b_Tape_at 22 = .ok (.iload_n 1, 1) := by decide +kernel
theorem d_Tape_at_23 : decode b_Tape_at 23 = .ok (.baload, 1) := by decide +kernel
theorem d_Tape_at_24 : decode b_Tape_at 24 = .ok (.goto 4, 3) := by decide +kernel
theorem d_Tape_at_27 : decode b_Tape_at 27 = .ok (.iconst (-1), 1) := by decide +kernel
theorem d_Tape_at_28 : decode b_Tape_at 28 = .ok (.ireturn, 1) := by decide +kernel
theorem d_Tape_byteOf_0 : decode b_Tape_byteOf 0 = .ok (.lload_n 0, 1) := by decide +kernel
theorem d_Tape_byteOf_1 : decode b_Tape_byteOf 1 = .ok (.bipush 8, 2) := by decide +kernel
theorem d_Tape_byteOf_3 : decode b_Tape_byteOf 3 = .ok (.iload_n 2, 1) := by decide +kernel
theorem d_Tape_byteOf_4 : decode b_Tape_byteOf 4 = .ok (.imul, 1) := by decide +kernel
theorem d_Tape_byteOf_5 : decode b_Tape_byteOf 5 = .ok (.lushr, 1) := by decide +kernel
theorem d_Tape_byteOf_6 : decode b_Tape_byteOf 6 = .ok (.l2i, 1) := by decide +kernel
theorem d_Tape_byteOf_7 : decode b_Tape_byteOf 7 = .ok (.sipush 255, 3) := by decide +kernel
theorem d_Tape_byteOf_10 : decode b_Tape_byteOf 10 = .ok (.iand, 1) := by decide +kernel
theorem d_Tape_byteOf_11 : decode b_Tape_byteOf 11 = .ok (.ireturn, 1) := by decide +kernel
theorem d_Decimal_init_0 : decode b_Decimal_init 0 = .ok (.aload_n 0, 1) := by decide +kernel
theorem d_Decimal_init_1 : decode b_Decimal_init 1 = .ok (.invokespecial 1, 3) := by decide +kernel
theorem d_Decimal_init_4 : decode b_Decimal_init 4 = .ok (.aload_n 0, 1) := by decide +kernel
theorem d_Decimal_init_5 : decode b_Decimal_init 5 = .ok (.new 7, 3) := by decide +kernel
theorem d_Decimal_init_8 : decode b_Decimal_init 8 = .ok (.dup, 1) := by decide +kernel
theorem d_Decimal_init_9 : decode b_Decimal_init 9 = .ok (.invokespecial 9, 3) := by decide +kernel
theorem d_Decimal_init_12 : decode b_Decimal_init 12 = .ok (.putfield 10, 3) := by decide +kernel
theorem d_Decimal_init_15 : decode b_Decimal_init 15 = .ok (.aload_n 0, 1) := by decide +kernel
theorem d_Decimal_init_16 : decode b_Decimal_init 16 = .ok (.iconst 0, 1) := by decide +kernel
theorem d_Decimal_init_17 : decode b_Decimal_init 17 = .ok (.putfield 16, 3) := by decide +kernel
theorem d_Decimal_init_20 : decode b_Decimal_init 20 = .ok (.aload_n 0, 1) := by decide +kernel
theorem d_Decimal_init_21 : decode b_Decimal_init 21 = .ok (.iconst 0, 1) := by decide +kernel
theorem d_Decimal_init_22 : decode b_Decimal_init 22 = .ok (.putfield 20, 3) := by decide +kernel
theorem d_Decimal_init_25 : decode b_Decimal_init 25 = .ok (.return_, 1) := by decide +kernel
theorem d_Decimal_parse_0 : decode b_Decimal_parse 0 = .ok (.aload_n 0, 1) := by decide +kernel
theorem d_Decimal_parse_1 : decode b_Decimal_parse 1 = .ok (.getfield 10, 3) := by decide +kernel
theorem d_Decimal_parse_4 : decode b_Decimal_parse 4 = .ok (.lconst 0, 1) := by decide +kernel
theorem d_Decimal_parse_5 : decode b_Decimal_parse 5 = .ok (.invokevirtual 24, 3) := by decide +kernel
theorem d_Decimal_parse_8 : decode b_Decimal_parse 8 = .ok (.aload_n 0, 1) := by decide +kernel
theorem d_Decimal_parse_9 : decode b_Decimal_parse 9 = .ok (.iconst 0, 1) := by decide +kernel
theorem d_Decimal_parse_10 : decode b_Decimal_parse 10 = .ok (.putfield 20, 3) := by decide +kernel
theorem d_Decimal_parse_13 : decode b_Decimal_parse 13 = .ok (.aload_n 0, 1) := by decide +kernel
theorem d_Decimal_parse_14 : decode b_Decimal_parse 14 = .ok (.aload_n 1, 1) := by decide +kernel
theorem d_Decimal_parse_15 : decode b_Decimal_parse 15 = .ok (.iconst 0, 1) := by decide +kernel
theorem d_Decimal_parse_16 : decode b_Decimal_parse 16 = .ok (.invokevirtual 28, 3) := by decide +kernel
theorem d_Decimal_parse_19 : decode b_Decimal_parse 19 = .ok (.bipush 45, 2) := by decide +kernel
theorem d_Decimal_parse_21 : decode b_Decimal_parse 21 = .ok (.if_icmp .ne 7, 3) := by decide +kernel
theorem d_Decimal_parse_24 : decode b_Decimal_parse 24 = .ok (.iconst 1, 1) := by decide +kernel
theorem d_Decimal_parse_25 : decode b_Decimal_parse 25 = .ok (.goto 4, 3) := by decide +kernel
theorem d_Decimal_parse_28 : decode b_Decimal_parse 28 = .ok (.iconst 0, 1) := by decide +kernel
theorem d_Decimal_parse_29 : decode b_Decimal_parse 29 = .ok (.putfield 16, 3) := by decide +kernel
theorem d_Decimal_parse_32 : decode b_Decimal_parse 32 = .ok (.aload_n 0, 1) := by decide +kernel
theorem d_Decimal_parse_33 : decode b_Decimal_parse 33 = .ok (.aload_n 1, 1) := by decide +kernel
theorem d_Decimal_parse_34 : decode b_Decimal_parse 34 = .ok (.aload_n 0, 1) := by decide +kernel
theorem d_Decimal_parse_35 : decode b_Decimal_parse 35 = .ok (.getfield 16, 3) := by decide +kernel
theorem d_Decimal_parse_38 : decode b_Decimal_parse 38 = .ok (.ifCond .eq 7, 3) := by decide +kernel
theorem d_Decimal_parse_41 : decode b_Decimal_parse 41 = .ok (.iconst 1, 1) := by decide +kernel
theorem d_Decimal_parse_42 : decode b_Decimal_parse 42 = .ok (.goto 4, 3) := by decide +kernel
theorem d_Decimal_parse_45 : decode b_Decimal_parse 45 = .ok (.iconst 0, 1) := by decide +kernel
theorem d_Decimal_parse_46 : decode b_Decimal_parse 46 = .ok (.invokevirtual 34, 3) := by decide +kernel
theorem d_Decimal_parse_49 : decode b_Decimal_parse 49 = .ok (.istore_n 2, 1) := by decide +kernel
theorem d_Decimal_parse_50 : decode b_Decimal_parse 50 = .ok (.iload_n 2, 1) := by decide +kernel
theorem d_Decimal_parse_51 : decode b_Decimal_parse 51 = .ok (.iconst (-1), 1) := by decide +kernel
theorem d_Decimal_parse_52 : decode b_Decimal_parse 52 = .ok (.if_icmp .eq 16, 3) := by decide +kernel
theorem d_Decimal_parse_55 : decode b_Decimal_parse 55 = .ok (.aload_n 0, 1) := by decide +kernel
theorem d_Decimal_parse_56 : decode b_Decimal_parse 56 = .ok (.aload_n 1, 1) := by decide +kernel
theorem d_Decimal_parse_57 : decode b_Decimal_parse 57 = .ok (.iload_n 2, 1) := by decide +kernel
theorem d_Decimal_parse_58 : decode b_Decimal_parse 58 = .ok (.invokevirtual 38, 3) := by decide +kernel
theorem d_Decimal_parse_61 : decode b_Decimal_parse 61 = .ok (.ifCond .eq 7, 3) := by decide +kernel
theorem d_Decimal_parse_64 : decode b_Decimal_parse 64 = .ok (.iconst 1, 1) := by decide +kernel
theorem d_Decimal_parse_65 : decode b_Decimal_parse 65 = .ok (.goto 4, 3) := by decide +kernel
theorem d_Decimal_parse_68 : decode b_Decimal_parse 68 = .ok (.iconst 0, 1) := by decide +kernel
theorem d_Decimal_parse_69 : decode b_Decimal_parse 69 = .ok (.ireturn, 1) := by decide +kernel
theorem d_Decimal_takeDigits_0 : decode b_Decimal_takeDigits 0 = .ok (.iconst 0, 1) := by decide +kernel
theorem d_Decimal_takeDigits_1 : decode b_Decimal_takeDigits 1 = .ok (.istore_n 3, 1) := by decide +kernel
theorem d_Decimal_takeDigits_2 : decode b_Decimal_takeDigits 2 = .ok (.iconst (-1), 1) := by decide +kernel
theorem d_Decimal_takeDigits_3 : decode b_Decimal_takeDigits 3 = .ok (.istore 4, 2) := by decide +kernel
theorem d_Decimal_takeDigits_5 : decode b_Decimal_takeDigits 5 = .ok (.iload_n 2, 1) := by decide +kernel
theorem d_Decimal_takeDigits_6 : decode b_Decimal_takeDigits 6 = .ok (.istore 5, 2) := by decide +kernel
theorem d_Decimal_takeDigits_8 : decode b_Decimal_takeDigits 8 = .ok (.iload 5, 2) := by decide +kernel
theorem d_Decimal_takeDigits_10 : decode b_Decimal_takeDigits 10 = .ok (.bipush 60, 2) := by decide +kernel
theorem d_Decimal_takeDigits_12 : decode b_Decimal_takeDigits 12 = .ok (.if_icmp .ge 65, 3) := by decide +kernel
theorem d_Decimal_takeDigits_15 : decode b_Decimal_takeDigits 15 = .ok (.aload_n 1, 1) := by decide +kernel
theorem d_Decimal_takeDigits_16 : decode b_Decimal_takeDigits 16 = .ok (.iload 5, 2) := by decide +kernel
theorem d_Decimal_takeDigits_18 : decode b_Decimal_takeDigits 18 = .ok (.invokevirtual 28, 3) := by decide +kernel
theorem d_Decimal_takeDigits_21 : decode b_Decimal_takeDigits 21 = .ok (.istore 6, 2) := by decide +kernel
theorem d_Decimal_takeDigits_23 : decode b_Decimal_takeDigits 23 = .ok (.iload 6, 2) := by decide +kernel
theorem d_Decimal_takeDigits_25 : decode b_Decimal_takeDigits 25 = .ok (.invokestatic 42, 3) := by decide +kernel
theorem d_Decimal_takeDigits_28 : decode b_Decimal_takeDigits 28 = .ok (.ifCond .eq 23, 3) := by decide +kernel
theorem d_Decimal_takeDigits_31 : decode b_Decimal_takeDigits 31 = .ok (.aload_n 0, 1) := by decide +kernel
theorem d_Decimal_takeDigits_32 : decode b_Decimal_takeDigits 32 = .ok (.getfield 10, 3) := by decide +kernel
theorem d_Decimal_takeDigits_35 : decode b_Decimal_takeDigits 35 = .ok (.bipush 10, 2) := by decide +kernel
theorem d_Decimal_takeDigits_37 : decode b_Decimal_takeDigits 37 = .ok (.iload 6, 2) := by decide +kernel
theorem d_Decimal_takeDigits_39 : decode b_Decimal_takeDigits 39 = .ok (.bipush 48, 2) := by decide +kernel
theorem d_Decimal_takeDigits_41 : decode b_Decimal_takeDigits 41 = .ok (.isub, 1) := by decide +kernel
theorem d_Decimal_takeDigits_42 : decode b_Decimal_takeDigits 42 = .ok (.invokevirtual 46, 3) := by decide +kernel
theorem d_Decimal_takeDigits_45 : decode b_Decimal_takeDigits 45 = .ok (.iinc 3 1, 3) := by decide +kernel
theorem d_Decimal_takeDigits_48 : decode b_Decimal_takeDigits 48 = .ok (.goto 23, 3) := by decide +kernel
theorem d_Decimal_takeDigits_51 : decode b_Decimal_takeDigits 51 = .ok (.iload 6, 2) := by decide +kernel
theorem d_Decimal_takeDigits_53 : decode b_Decimal_takeDigits 53 = .ok (.bipush 46, 2) := by decide +kernel
theorem d_Decimal_takeDigits_55 : decode b_Decimal_takeDigits 55 = .ok (.if_icmp .ne 22, 3) := by decide +kernel
theorem d_Decimal_takeDigits_58 : decode b_Decimal_takeDigits 58 = .ok (.iload 4, 2) := by decide +kernel
theorem d_Decimal_takeDigits_60 : decode b_Decimal_takeDigits 60 = .ok (.iconst (-1), 1) := by decide +kernel
theorem d_Decimal_takeDigits_61 : decode b_Decimal_takeDigits 61 = .ok (.if_icmp .ne 16, 3) := by decide +kernel
theorem d_Decimal_takeDigits_64 : decode b_Decimal_takeDigits 64 = .ok (.iload_n 3, 1) := by decide +kernel
theorem d_Decimal_takeDigits_65 : decode b_Decimal_takeDigits 65 = .ok (.ifCond .le 12, 3) := by decide +kernel
theorem d_Decimal_takeDigits_68 : decode b_Decimal_takeDigits 68 = .ok (.iload_n 3, 1) := by decide +kernel
theorem d_Decimal_takeDigits_69 : decode b_Decimal_takeDigits 69 = .ok (.istore 4, 2) := by decide +kernel
theorem d_Decimal_takeDigits_71 : decode b_Decimal_takeDigits 71 = .ok (.iinc 5 1, 3) := by decide +kernel
theorem d_Decimal_takeDigits_74 : decode b_Decimal_takeDigits 74 = .ok (.goto (-66), 3) := by decide +kernel
theorem d_Decimal_takeDigits_77 : decode b_Decimal_takeDigits 77 = .ok (.iload_n 3, 1) := by decide +kernel
theorem d_Decimal_takeDigits_78 : decode b_Decimal_takeDigits 78 = .ok (.ifCond .eq 15, 3) := by decide +kernel
theorem d_Decimal_takeDigits_81 : decode b_Decimal_takeDigits 81 = .ok (.iload_n 3, 1) := by decide +kernel
theorem d_Decimal_takeDigits_82 : decode b_Decimal_takeDigits 82 = .ok (.bipush 40, 2) := by decide +kernel
theorem d_Decimal_takeDigits_84 : decode b_Decimal_takeDigits 84 = .ok (.if_icmp .gt 9, 3) := by decide +kernel
theorem d_Decimal_takeDigits_87 : decode b_Decimal_takeDigits 87 = .ok (.iload 4, 2) := by decide +kernel
theorem d_Decimal_takeDigits_89 : decode b_Decimal_takeDigits 89 = .ok (.iload_n 3, 1) := by decide +kernel
theorem d_Decimal_takeDigits_90 : decode b_Decimal_takeDigits 90 = .ok (.if_icmp .ne 5, 3) := by decide +kernel
theorem d_Decimal_takeDigits_93 : decode b_Decimal_takeDigits 93 = .ok (.iconst (-1), 1) := by decide +kernel
theorem d_Decimal_takeDigits_94 : decode b_Decimal_takeDigits 94 = .ok (.ireturn, 1) := by decide +kernel
theorem d_Decimal_takeDigits_95 : decode b_Decimal_takeDigits 95 = .ok (.aload_n 0, 1) := by decide +kernel
theorem d_Decimal_takeDigits_96 : decode b_Decimal_takeDigits 96 = .ok (.iload 4, 2) := by decide +kernel
theorem d_Decimal_takeDigits_98 : decode b_Decimal_takeDigits 98 = .ok (.iconst (-1), 1) := by decide +kernel
theorem d_Decimal_takeDigits_99 : decode b_Decimal_takeDigits 99 = .ok (.if_icmp .ne 7, 3) := by decide +kernel
end
section
theorem d_Decimal_takeDigits_102 : decode b_Decimal_takeDigits 102 = .ok (.iconst 0, 1) := by decide +kernel
theorem d_Decimal_takeDigits_103 : decode b_Decimal_takeDigits 103 = .ok (.goto 7, 3) := by decide +kernel
theorem d_Decimal_takeDigits_106 : decode b_Decimal_takeDigits 106 = .ok (.iload 4, 2) := by decide +kernel
theorem d_Decimal_takeDigits_108 : decode b_Decimal_takeDigits 108 = .ok (.iload_n 3, 1) := by decide +kernel
theorem d_Decimal_takeDigits_109 : decode b_Decimal_takeDigits 109 = .ok (.isub, 1) := by decide +kernel
theorem d_Decimal_takeDigits_110 : decode b_Decimal_takeDigits 110 = .ok (.putfield 20, 3) := by decide +kernel
theorem d_Decimal_takeDigits_113 : decode b_Decimal_takeDigits 113 = .ok (.iload 5, 2) := by decide +kernel
theorem d_Decimal_takeDigits_115 : decode b_Decimal_takeDigits 115 = .ok (.ireturn, 1) := by decide +kernel
theorem d_Decimal_takePower_0 : decode b_Decimal_takePower 0 = .ok (.aload_n 1, 1) := by decide +kernel
theorem d_Decimal_takePower_1 : decode b_Decimal_takePower 1 = .ok (.iload_n 2, 1) := by decide +kernel
theorem d_Decimal_takePower_2 : decode b_Decimal_takePower 2 = .ok (.invokevirtual 28, 3) := by decide +kernel
theorem d_Decimal_takePower_5 : decode b_Decimal_takePower 5 = .ok (.iconst (-1), 1) := by decide +kernel
theorem d_Decimal_takePower_6 : decode b_Decimal_takePower 6 = .ok (.if_icmp .ne 5, 3) := by decide +kernel
theorem d_Decimal_takePower_9 : decode b_Decimal_takePower 9 = .ok (.iconst 1, 1) := by decide +kernel
theorem d_Decimal_takePower_10 : decode b_Decimal_takePower 10 = .ok (.ireturn, 1) := by decide +kernel
theorem d_Decimal_takePower_11 : decode b_Decimal_takePower 11 = .ok (.aload_n 1, 1) := by decide +kernel
theorem d_Decimal_takePower_12 : decode b_Decimal_takePower 12 = .ok (.iload_n 2, 1) := by decide +kernel
theorem d_Decimal_takePower_13 : decode b_Decimal_takePower 13 = .ok (.invokevirtual 28, 3) := by decide +kernel
theorem d_Decimal_takePower_16 : decode b_Decimal_takePower 16 = .ok (.bipush 101, 2) := by decide +kernel
theorem d_Decimal_takePower_18 : decode b_Decimal_takePower 18 = .ok (.if_icmp .eq 5, 3) := by decide +kernel
theorem d_Decimal_takePower_21 : decode b_Decimal_takePower 21 = .ok (.iconst 0, 1) := by decide +kernel
theorem d_Decimal_takePower_22 : decode b_Decimal_takePower 22 = .ok (.ireturn, 1) := by decide +kernel
theorem d_Decimal_takePower_23 : decode b_Decimal_takePower 23 = .ok (.iload_n 2, 1) := by decide +kernel
theorem d_Decimal_takePower_24 : decode b_Decimal_takePower 24 = .ok (.iconst 1, 1) := by decide +kernel
theorem d_Decimal_takePower_25 : decode b_Decimal_takePower 25 = .ok (.iadd, 1) := by decide +kernel
theorem d_Decimal_takePower_26 : decode b_Decimal_takePower 26 = .ok (.istore_n 3, 1) := by decide +kernel
theorem d_Decimal_takePower_27 : decode b_Decimal_takePower 27 = .ok (.aload_n 1, 1) := by decide +kernel
theorem d_Decimal_takePower_28 : decode b_Decimal_takePower 28 = .ok (.iload_n 3, 1) := by decide +kernel
theorem d_Decimal_takePower_29 : decode b_Decimal_takePower 29 = .ok (.invokevirtual 28, 3) := by decide +kernel
theorem d_Decimal_takePower_32 : decode b_Decimal_takePower 32 = .ok (.bipush 45, 2) := by decide +kernel
theorem d_Decimal_takePower_34 : decode b_Decimal_takePower 34 = .ok (.if_icmp .ne 7, 3) := by decide +kernel
theorem d_Decimal_takePower_37 : decode b_Decimal_takePower 37 = .ok (.iconst 1, 1) := by decide +kernel
theorem d_Decimal_takePower_38 : decode b_Decimal_takePower 38 = .ok (.goto 4, 3) := by decide +kernel
theorem d_Decimal_takePower_41 : decode b_Decimal_takePower 41 = .ok (.iconst 0, 1) := by decide +kernel
theorem d_Decimal_takePower_42 : decode b_Decimal_takePower 42 = .ok (.istore 4, 2) := by decide +kernel
theorem d_Decimal_takePower_44 : decode b_Decimal_takePower 44 = .ok (.iload 4, 2) := by decide +kernel
theorem d_Decimal_takePower_46 : decode b_Decimal_takePower 46 = .ok (.ifCond .ne 13, 3) := by decide +kernel
theorem d_Decimal_takePower_49 : decode b_Decimal_takePower 49 = .ok (.aload_n 1, 1) := by decide +kernel
theorem d_Decimal_takePower_50 : decode b_Decimal_takePower 50 = .ok (.iload_n 3, 1) := by decide +kernel
theorem d_Decimal_takePower_51 : decode b_Decimal_takePower 51 = .ok (.invokevirtual 28, 3) := by decide +kernel
theorem d_Decimal_takePower_54 : decode b_Decimal_takePower 54 = .ok (.bipush 43, 2) := by decide +kernel
theorem d_Decimal_takePower_56 : decode b_Decimal_takePower 56 = .ok (.if_icmp .ne 6, 3) := by decide +kernel
theorem d_Decimal_takePower_59 : decode b_Decimal_takePower 59 = .ok (.iinc 3 1, 3) := by decide +kernel
theorem d_Decimal_takePower_62 : decode b_Decimal_takePower 62 = .ok (.iconst 0, 1) := by decide +kernel
theorem d_Decimal_takePower_63 : decode b_Decimal_takePower 63 = .ok (.istore 5, 2) := by decide +kernel
theorem d_Decimal_takePower_65 : decode b_Decimal_takePower 65 = .ok (.iconst 0, 1) := by decide +kernel
theorem d_Decimal_takePower_66 : decode b_Decimal_takePower 66 = .ok (.istore 6, 2) := by decide +kernel
theorem d_Decimal_takePower_68 : decode b_Decimal_takePower 68 = .ok (.iload 6, 2) := by decide +kernel
theorem d_Decimal_takePower_70 : decode b_Decimal_takePower 70 = .ok (.iconst 3, 1) := by decide +kernel
theorem d_Decimal_takePower_71 : decode b_Decimal_takePower 71 = .ok (.if_icmp .ge 39, 3) := by decide +kernel
theorem d_Decimal_takePower_74 : decode b_Decimal_takePower 74 = .ok (.aload_n 1, 1) := by decide +kernel
theorem d_Decimal_takePower_75 : decode b_Decimal_takePower 75 = .ok (.iload_n 3, 1) := by decide +kernel
theorem d_Decimal_takePower_76 : decode b_Decimal_takePower 76 = .ok (.invokevirtual 28, 3) := by decide +kernel
theorem d_Decimal_takePower_79 : decode b_Decimal_takePower 79 = .ok (.invokestatic 42, 3) := by decide +kernel
theorem d_Decimal_takePower_82 : decode b_Decimal_takePower 82 = .ok (.ifCond .eq 28, 3) := by decide +kernel
theorem d_Decimal_takePower_85 : decode b_Decimal_takePower 85 = .ok (.iload 5, 2) := by decide +kernel
theorem d_Decimal_takePower_87 : decode b_Decimal_takePower 87 = .ok (.bipush 10, 2) := by decide +kernel
theorem d_Decimal_takePower_89 : decode b_Decimal_takePower 89 = .ok (.imul, 1) := by decide +kernel
theorem d_Decimal_takePower_90 : decode b_Decimal_takePower 90 = .ok (.aload_n 1, 1) := by decide +kernel
theorem d_Decimal_takePower_91 : decode b_Decimal_takePower 91 = .ok (.iload_n 3, 1) := by decide +kernel
theorem d_Decimal_takePower_92 : decode b_Decimal_takePower 92 = .ok (.invokevirtual 28, 3) := by decide +kernel
theorem d_Decimal_takePower_95 : decode b_Decimal_takePower 95 = .ok (.iadd, 1) := by decide +kernel
theorem d_Decimal_takePower_96 : decode b_Decimal_takePower 96 = .ok (.bipush 48, 2) := by decide +kernel
theorem d_Decimal_takePower_98 : decode b_Decimal_takePower 98 = .ok (.isub, 1) := by decide +kernel
theorem d_Decimal_takePower_99 : decode b_Decimal_takePower 99 = .ok (.istore 5, 2) := by decide +kernel
theorem d_Decimal_takePower_101 : decode b_Decimal_takePower 101 = .ok (.iinc 3 1, 3) := by decide +kernel
theorem d_Decimal_takePower_104 : decode b_Decimal_takePower 104 = .ok (.iinc 6 1, 3) := by decide +kernel
theorem d_Decimal_takePower_107 : decode b_Decimal_takePower 107 = .ok (.goto (-39), 3) := by decide +kernel
theorem d_Decimal_takePower_110 : decode b_Decimal_takePower 110 = .ok (.aload_n 0, 1) := by decide +kernel
theorem d_Decimal_takePower_111 : decode b_Decimal_takePower 111 = .ok (.iload 4, 2) := by decide +kernel
theorem d_Decimal_takePower_113 : decode b_Decimal_takePower 113 = .ok (.ifCond .eq 13, 3) := by decide +kernel
theorem d_Decimal_takePower_116 : decode b_Decimal_takePower 116 = .ok (.aload_n 0, 1) := by decide +kernel
theorem d_Decimal_takePower_117 : decode b_Decimal_takePower 117 = .ok (.getfield 20, 3) := by decide +kernel
theorem d_Decimal_takePower_120 : decode b_Decimal_takePower 120 = .ok (.iload 5, 2) := by decide +kernel
theorem d_Decimal_takePower_122 : decode b_Decimal_takePower 122 = .ok (.isub, 1) := by decide +kernel
theorem d_Decimal_takePower_123 : decode b_Decimal_takePower 123 = .ok (.goto 10, 3) := by decide +kernel
theorem d_Decimal_takePower_126 : decode b_Decimal_takePower 126 = .ok (.aload_n 0, 1) := by decide +kernel
theorem d_Decimal_takePower_127 : decode b_Decimal_takePower 127 = .ok (.getfield 20, 3) := by decide +kernel
theorem d_Decimal_takePower_130 : decode b_Decimal_takePower 130 = .ok (.iload 5, 2) := by decide +kernel
theorem d_Decimal_takePower_132 : decode b_Decimal_takePower 132 = .ok (.iadd, 1) := by decide +kernel
theorem d_Decimal_takePower_133 : decode b_Decimal_takePower 133 = .ok (.putfield 20, 3) := by decide +kernel
theorem d_Decimal_takePower_136 : decode b_Decimal_takePower 136 = .ok (.iload 6, 2) := by decide +kernel
theorem d_Decimal_takePower_138 : decode b_Decimal_takePower 138 = .ok (.ifCond .le 16, 3) := by decide +kernel
theorem d_Decimal_takePower_141 : decode b_Decimal_takePower 141 = .ok (.aload_n 1, 1) := by decide +kernel
theorem d_Decimal_takePower_142 : decode b_Decimal_takePower 142 = .ok (.iload_n 3, 1) := by decide +kernel
theorem d_Decimal_takePower_143 : decode b_Decimal_takePower 143 = .ok (.invokevirtual 28, 3) := by decide +kernel
theorem d_Decimal_takePower_146 : decode b_Decimal_takePower 146 = .ok (.iconst (-1), 1) := by decide +kernel
theorem d_Decimal_takePower_147 : decode b_Decimal_takePower 147 = .ok (.if_icmp .ne 7, 3) := by decide +kernel
theorem d_Decimal_takePower_150 : decode b_Decimal_takePower 150 = .ok (.iconst 1, 1) := by decide +kernel
theorem d_Decimal_takePower_151 : decode b_Decimal_takePower 151 = .ok (.goto 4, 3) := by decide +kernel
theorem d_Decimal_takePower_154 : decode b_Decimal_takePower 154 = .ok (.iconst 0, 1) := by decide +kernel
theorem d_Decimal_takePower_155 : decode b_Decimal_takePower 155 = .ok (.ireturn, 1) := by decide +kernel
theorem d_Decimal_isDigit_0 : decode b_Decimal_isDigit 0 = .ok (.iload_n 0, 1) := by decide +kernel
theorem d_Decimal_isDigit_1 : decode b_Decimal_isDigit 1 = .ok (.bipush 48, 2) := by decide +kernel
theorem d_Decimal_isDigit_3 : decode b_Decimal_isDigit 3 = .ok (.if_icmp .lt 13, 3) := by decide +kernel
theorem d_Decimal_isDigit_6 : decode b_Decimal_isDigit 6 = .ok (.iload_n 0, 1) := by decide +kernel
theorem d_Decimal_isDigit_7 : decode b_Decimal_isDigit 7 = .ok (.bipush 57, 2) := by decide +kernel
theorem d_Decimal_isDigit_9 : decode b_Decimal_isDigit 9 = .ok (.if_icmp .gt 7, 3) := by decide +kernel
theorem d_Decimal_isDigit_12 : decode b_Decimal_isDigit 12 = .ok (.iconst 1, 1) := by decide +kernel
theorem d_Decimal_isDigit_13 : decode b_Decimal_isDigit 13 = .ok (.goto 4, 3) := by decide +kernel
theorem d_Decimal_isDigit_16 : decode b_Decimal_isDigit 16 = .ok (.iconst 0, 1) := by decide +kernel
theorem d_Decimal_isDigit_17 : decode b_Decimal_isDigit 17 = .ok (.ireturn, 1) := by decide +kernel
theorem d_Rounder_init_0 : decode b_Rounder_init 0 = .ok (.aload_n 0, 1) := by decide +kernel
theorem d_Rounder_init_1 : decode b_Rounder_init 1 = .ok (.invokespecial 3, 3) := by decide +kernel
theorem d_Rounder_init_4 : decode b_Rounder_init 4 = .ok (.aload_n 0, 1) := by decide +kernel
theorem d_Rounder_init_5 : decode b_Rounder_init 5 = .ok (.new 9, 3) := by decide +kernel
theorem d_Rounder_init_8 : decode b_Rounder_init 8 = .ok (.dup, 1) := by decide +kernel
theorem d_Rounder_init_9 : decode b_Rounder_init 9 = .ok (.invokespecial 11, 3) := by decide +kernel
theorem d_Rounder_init_12 : decode b_Rounder_init 12 = .ok (.putfield 12, 3) := by decide +kernel
theorem d_Rounder_init_15 : decode b_Rounder_init 15 = .ok (.aload_n 0, 1) := by decide +kernel
theorem d_Rounder_init_16 : decode b_Rounder_init 16 = .ok (.new 9, 3) := by decide +kernel
theorem d_Rounder_init_19 : decode b_Rounder_init 19 = .ok (.dup, 1) := by decide +kernel
theorem d_Rounder_init_20 : decode b_Rounder_init 20 = .ok (.invokespecial 11, 3) := by decide +kernel
theorem d_Rounder_init_23 : decode b_Rounder_init 23 = .ok (.putfield 18, 3) := by decide +kernel
theorem d_Rounder_init_26 : decode b_Rounder_init 26 = .ok (.aload_n 0, 1) := by decide +kernel
theorem d_Rounder_init_27 : decode b_Rounder_init 27 = .ok (.lconst 0, 1) := by decide +kernel
theorem d_Rounder_init_28 : decode b_Rounder_init 28 = .ok (.putfield 21, 3) := by decide +kernel
theorem d_Rounder_init_31 : decode b_Rounder_init 31 = .ok (.aload_n 0, 1) := by decide +kernel
theorem d_Rounder_init_32 : decode b_Rounder_init 32 = .ok (.iconst 0, 1) := by decide +kernel
theorem d_Rounder_init_33 : decode b_Rounder_init 33 = .ok (.putfield 25, 3) := by decide +kernel
theorem d_Rounder_init_36 : decode b_Rounder_init 36 = .ok (.aload_n 0, 1) := by decide +kernel
theorem d_Rounder_init_37 : decode b_Rounder_init 37 = .ok (.iconst 0, 1) := by decide +kernel
theorem d_Rounder_init_38 : decode b_Rounder_init 38 = .ok (.putfield 29, 3) := by decide +kernel
theorem d_Rounder_init_41 : decode b_Rounder_init 41 = .ok (.return_, 1) := by decide +kernel
theorem d_Rounder_round_0 : decode b_Rounder_round 0 = .ok (.aload_n 0, 1) := by decide +kernel
theorem d_Rounder_round_1 : decode b_Rounder_round 1 = .ok (.lconst 0, 1) := by decide +kernel
theorem d_Rounder_round_2 : decode b_Rounder_round 2 = .ok (.putfield 21, 3) := by decide +kernel
theorem d_Rounder_round_5 : decode b_Rounder_round 5 = .ok (.aload_n 0, 1) := by decide +kernel
theorem d_Rounder_round_6 : decode b_Rounder_round 6 = .ok (.iconst 0, 1) := by decide +kernel
theorem d_Rounder_round_7 : decode b_Rounder_round 7 = .ok (.putfield 25, 3) := by decide +kernel
theorem d_Rounder_round_10 : decode b_Rounder_round 10 = .ok (.aload_n 0, 1) := by decide +kernel
theorem d_Rounder_round_11 : decode b_Rounder_round 11 = .ok (.iconst 0, 1) := by decide +kernel
theorem d_Rounder_round_12 : decode b_Rounder_round 12 = .ok (.putfield 29, 3) := by decide +kernel
theorem d_Rounder_round_15 : decode b_Rounder_round 15 = .ok (.aload_n 1, 1) := by decide +kernel
theorem d_Rounder_round_16 : decode b_Rounder_round 16 = .ok (.getfield 32, 3) := by decide +kernel
theorem d_Rounder_round_19 : decode b_Rounder_round 19 = .ok (.invokevirtual 37, 3) := by decide +kernel
theorem d_Rounder_round_22 : decode b_Rounder_round 22 = .ok (.ifCond .eq 4, 3) := by decide +kernel
theorem d_Rounder_round_25 : decode b_Rounder_round 25 = .ok (.return_, 1) := by decide +kernel
theorem d_Rounder_round_26 : decode b_Rounder_round 26 = .ok (.aload_n 0, 1) := by decide +kernel
theorem d_Rounder_round_27 : decode b_Rounder_round 27 = .ok (.aload_n 1, 1) := by decide +kernel
theorem d_Rounder_round_28 : decode b_Rounder_round 28 = .ok (.invokevirtual 41, 3) := by decide +kernel
theorem d_Rounder_round_31 : decode b_Rounder_round 31 = .ok (.aload_n 0, 1) := by decide +kernel
theorem d_Rounder_round_32 : decode b_Rounder_round 32 = .ok (.invokevirtual 45, 3) := by decide +kernel
theorem d_Rounder_round_35 : decode b_Rounder_round 35 = .ok (.istore 4, 2) := by decide +kernel
theorem d_Rounder_round_37 : decode b_Rounder_round 37 = .ok (.aload_n 2, 1) := by decide +kernel
theorem d_Rounder_round_38 : decode b_Rounder_round 38 = .ok (.invokevirtual 49, 3) := by decide +kernel
theorem d_Rounder_round_41 : decode b_Rounder_round 41 = .ok (.istore 5, 2) := by decide +kernel
theorem d_Rounder_round_43 : decode b_Rounder_round 43 = .ok (.iload 4, 2) := by decide +kernel
theorem d_Rounder_round_45 : decode b_Rounder_round 45 = .ok (.aload_n 2, 1) := by decide +kernel
theorem d_Rounder_round_46 : decode b_Rounder_round 46 = .ok (.getfield 54, 3) := by decide +kernel
theorem d_Rounder_round_49 : decode b_Rounder_round 49 = .ok (.isub, 1) := by decide +kernel
theorem d_Rounder_round_50 : decode b_Rounder_round 50 = .ok (.iload 5, 2) := by decide +kernel
theorem d_Rounder_round_52 : decode b_Rounder_round 52 = .ok (.invokestatic 58, 3) := by decide +kernel
theorem d_Rounder_round_55 : decode b_Rounder_round 55 = .ok (.istore 6, 2) := by decide +kernel
theorem d_Rounder_round_57 : decode b_Rounder_round 57 = .ok (.iload 4, 2) := by decide +kernel
theorem d_Rounder_round_59 : decode b_Rounder_round 59 = .ok (.iload 6, 2) := by decide +kernel
theorem d_Rounder_round_61 : decode b_Rounder_round 61 = .ok (.isub, 1) := by decide +kernel
theorem d_Rounder_round_62 : decode b_Rounder_round 62 = .ok (.iconst 1, 1) := by decide +kernel
theorem d_Rounder_round_63 : decode b_Rounder_round 63 = .ok (.iadd, 1) := by decide +kernel
theorem d_Rounder_round_64 : decode b_Rounder_round 64 = .ok (.istore 7, 2) := by decide +kernel
theorem d_Rounder_round_66 : decode b_Rounder_round 66 = .ok (.aload_n 0, 1) := by decide +kernel
theorem d_Rounder_round_67 : decode b_Rounder_round 67 = .ok (.iload 7, 2) := by decide +kernel
theorem d_Rounder_round_69 : decode b_Rounder_round 69 = .ok (.invokevirtual 64, 3) := by decide +kernel
theorem d_Rounder_round_72 : decode b_Rounder_round 72 = .ok (.lstore 8, 2) := by decide +kernel
theorem d_Rounder_round_74 : decode b_Rounder_round 74 = .ok (.iload 7, 2) := by decide +kernel
theorem d_Rounder_round_76 : decode b_Rounder_round 76 = .ok (.ifCond .ge 7, 3) := by decide +kernel
theorem d_Rounder_round_79 : decode b_Rounder_round 79 = .ok (.iconst (-1), 1) := by decide +kernel
theorem d_Rounder_round_80 : decode b_Rounder_round 80 = .ok (.goto 14, 3) := by decide +kernel
theorem d_Rounder_round_83 : decode b_Rounder_round 83 = .ok (.aload_n 0, 1) := by decide +kernel
theorem d_Rounder_round_84 : decode b_Rounder_round 84 = .ok (.getfield 12, 3) := by decide +kernel
theorem d_Rounder_round_87 : decode b_Rounder_round 87 = .ok (.aload_n 0, 1) := by decide +kernel
theorem d_Rounder_round_88 : decode b_Rounder_round 88 = .ok (.getfield 18, 3) := by decide +kernel
theorem d_Rounder_round_91 : decode b_Rounder_round 91 = .ok (.invokevirtual 68, 3) := by decide +kernel
theorem d_Rounder_round_94 : decode b_Rounder_round 94 = .ok (.istore 10, 2) := by decide +kernel
theorem d_Rounder_round_96 : decode b_Rounder_round 96 = .ok (.aload_n 0, 1) := by decide +kernel
theorem d_Rounder_round_97 : decode b_Rounder_round 97 = .ok (.aload_n 0, 1) := by decide +kernel
theorem d_Rounder_round_98 : decode b_Rounder_round 98 = .ok (.getfield 12, 3) := by decide +kernel
theorem d_Rounder_round_101 : decode b_Rounder_round 101 = .ok (.invokevirtual 37, 3) := by decide +kernel
theorem d_Rounder_round_104 : decode b_Rounder_round 104 = .ok (.ifCond .ne 7, 3) := by decide +kernel
theorem d_Rounder_round_107 : decode b_Rounder_round 107 = .ok (.iconst 1, 1) := by decide +kernel
theorem d_Rounder_round_108 : decode b_Rounder_round 108 = .ok (.goto 4, 3) := by decide +kernel
theorem d_Rounder_round_111 : decode b_Rounder_round 111 = .ok (.iconst 0, 1) := by decide +kernel
theorem d_Rounder_round_112 : decode b_Rounder_round 112 = .ok (.putfield 25, 3) := by decide +kernel
theorem d_Rounder_round_115 : decode b_Rounder_round 115 = .ok (.aload_n 0, 1) := by decide +kernel
theorem d_Rounder_round_116 : decode b_Rounder_round 116 = .ok (.iload 4, 2) := by decide +kernel
theorem d_Rounder_round_118 : decode b_Rounder_round 118 = .ok (.iconst 1, 1) := by decide +kernel
theorem d_Rounder_round_119 : decode b_Rounder_round 119 = .ok (.aload_n 2, 1) := by decide +kernel
theorem d_Rounder_round_120 : decode b_Rounder_round 120 = .ok (.invokevirtual 72, 3) := by decide +kernel
theorem d_Rounder_round_123 : decode b_Rounder_round 123 = .ok (.isub, 1) := by decide +kernel
theorem d_Rounder_round_124 : decode b_Rounder_round 124 = .ok (.if_icmp .ge 7, 3) := by decide +kernel
theorem d_Rounder_round_127 : decode b_Rounder_round 127 = .ok (.iconst 1, 1) := by decide +kernel
theorem d_Rounder_round_128 : decode b_Rounder_round 128 = .ok (.goto 4, 3) := by decide +kernel
theorem d_Rounder_round_131 : decode b_Rounder_round 131 = .ok (.iconst 0, 1) := by decide +kernel
theorem d_Rounder_round_132 : decode b_Rounder_round 132 = .ok (.putfield 29, 3) := by decide +kernel
theorem d_Rounder_round_135 : decode b_Rounder_round 135 = .ok (.lload 8, 2) := by decide +kernel
theorem d_Rounder_round_137 : decode b_Rounder_round 137 = .ok (.lconst 1, 1) := by decide +kernel
theorem d_Rounder_round_138 : decode b_Rounder_round 138 = .ok (.land, 1) := by decide +kernel
theorem d_Rounder_round_139 : decode b_Rounder_round 139 = .ok (.lconst 1, 1) := by decide +kernel
theorem d_Rounder_round_140 : decode b_Rounder_round 140 = .ok (.lcmp, 1) := by decide +kernel
theorem d_Rounder_round_141 : decode b_Rounder_round 141 = .ok (.ifCond .ne 7, 3) := by decide +kernel
theorem d_Rounder_round_144 : decode b_Rounder_round 144 = .ok (.iconst 1, 1) := by decide +kernel
theorem d_Rounder_round_145 : decode b_Rounder_round 145 = .ok (.goto 4, 3) := by decide +kernel
theorem d_Rounder_round_148 : decode b_Rounder_round 148 = .ok (.iconst 0, 1) := by decide +kernel
theorem d_Rounder_round_149 : decode b_Rounder_round 149 = .ok (.istore 11, 2) := by decide +kernel
theorem d_Rounder_round_151 : decode b_Rounder_round 151 = .ok (.aload_n 0, 1) := by decide +kernel
theorem d_Rounder_round_152 : decode b_Rounder_round 152 = .ok (.getfield 25, 3) := by decide +kernel
theorem d_Rounder_round_155 : decode b_Rounder_round 155 = .ok (.ifCond .eq 24, 3) := by decide +kernel
theorem d_Rounder_round_158 : decode b_Rounder_round 158 = .ok (.iload_n 3, 1) := by decide +kernel
theorem d_Rounder_round_159 : decode b_Rounder_round 159 = .ok (.aload_n 1, 1) := by decide +kernel
theorem d_Rounder_round_160 : decode b_Rounder_round 160 = .ok (.getfield 75, 3) := by decide +kernel
theorem d_Rounder_round_163 : decode b_Rounder_round 163 = .ok (.iload 11, 2) := by decide +kernel
theorem d_Rounder_round_165 : decode b_Rounder_round 165 = .ok (.iload 10, 2) := by decide +kernel
theorem d_Rounder_round_167 : decode b_Rounder_round 167 = .ok (.invokestatic 78, 3) := by decide +kernel
theorem d_Rounder_round_170 : decode b_Rounder_round 170 = .ok (.ifCond .eq 9, 3) := by decide +kernel
theorem d_Rounder_round_173 : decode b_Rounder_round 173 = .ok (.lload 8, 2) := by decide +kernel
theorem d_Rounder_round_175 : decode b_Rounder_round 175 = .ok (.lconst 1, 1) := by decide +kernel
theorem d_Rounder_round_176 : decode b_Rounder_round 176 = .ok (.ladd, 1) := by decide +kernel
theorem d_Rounder_round_177 : decode b_Rounder_round 177 = .ok (.lstore 8, 2) := by decide +kernel
theorem d_Rounder_round_179 : decode b_Rounder_round 179 = .ok (.aload_n 0, 1) := by decide +kernel
theorem d_Rounder_round_180 : decode b_Rounder_round 180 = .ok (.iload 6, 2) := by decide +kernel
theorem d_Rounder_round_182 : decode b_Rounder_round 182 = .ok (.iload 5, 2) := by decide +kernel
theorem d_Rounder_round_184 : decode b_Rounder_round 184 = .ok (.isub, 1) := by decide +kernel
theorem d_Rounder_round_185 : decode b_Rounder_round 185 = .ok (.i2l, 1) := by decide +kernel
theorem d_Rounder_round_186 : decode b_Rounder_round 186 = .ok (.aload_n 2, 1) := by decide +kernel
theorem d_Rounder_round_187 : decode b_Rounder_round 187 = .ok (.getfield 54, 3) := by decide +kernel
theorem d_Rounder_round_190 : decode b_Rounder_round 190 = .ok (.lshl, 1) := by decide +kernel
theorem d_Rounder_round_191 : decode b_Rounder_round 191 = .ok (.lload 8, 2) := by decide +kernel
theorem d_Rounder_round_193 : decode b_Rounder_round 193 = .ok (.ladd, 1) := by decide +kernel
theorem d_Rounder_round_194 : decode b_Rounder_round 194 = .ok (.putfield 21, 3) := by decide +kernel
theorem d_Rounder_round_197 : decode b_Rounder_round 197 = .ok (.return_, 1) := by decide +kernel
theorem d_Rounder_setFraction_0 : decode b_Rounder_setFraction 0 = .ok (.aload_n 1, 1) := by decide +kernel
theorem d_Rounder_setFraction_1 : decode b_Rounder_setFraction 1 = .ok (.getfield 82, 3) := by decide +kernel
theorem d_Rounder_setFraction_4 : decode b_Rounder_setFraction 4 = .ok (.bipush (-90), 2) := by decide +kernel
theorem d_Rounder_setFraction_6 : decode b_Rounder_setFraction 6 = .ok (.invokestatic 58, 3) := by decide +kernel
theorem d_Rounder_setFraction_9 : decode b_Rounder_setFraction 9 = .ok (.bipush 40, 2) := by decide +kernel
theorem d_Rounder_setFraction_11 : decode b_Rounder_setFraction 11 = .ok (.invokestatic 85, 3) := by decide +kernel
theorem d_Rounder_setFraction_14 : decode b_Rounder_setFraction 14 = .ok (.istore_n 2, 1) := by decide +kernel
theorem d_Rounder_setFraction_15 : decode b_Rounder_setFraction 15 = .ok (.aload_n 0, 1) := by decide +kernel
theorem d_Rounder_setFraction_16 : decode b_Rounder_setFraction 16 = .ok (.getfield 12, 3) := by decide +kernel
theorem d_Rounder_setFraction_19 : decode b_Rounder_setFraction 19 = .ok (.aload_n 1, 1) := by decide +kernel
theorem d_Rounder_setFraction_20 : decode b_Rounder_setFraction 20 = .ok (.getfield 32, 3) := by decide +kernel
theorem d_Rounder_setFraction_23 : decode b_Rounder_setFraction 23 = .ok (.invokevirtual 88, 3) := by decide +kernel
theorem d_Rounder_setFraction_26 : decode b_Rounder_setFraction 26 = .ok (.aload_n 0, 1) := by decide +kernel
theorem d_Rounder_setFraction_27 : decode b_Rounder_setFraction 27 = .ok (.getfield 18, 3) := by decide +kernel
theorem d_Rounder_setFraction_30 : decode b_Rounder_setFraction 30 = .ok (.lconst 1, 1) := by decide +kernel
theorem d_Rounder_setFraction_31 : decode b_Rounder_setFraction 31 = .ok (.invokevirtual 92, 3) := by decide +kernel
theorem d_Rounder_setFraction_34 : decode b_Rounder_setFraction 34 = .ok (.iload_n 2, 1) := by decide +kernel
theorem d_Rounder_setFraction_35 : decode b_Rounder_setFraction 35 = .ok (.ifCond .lt 14, 3) := by decide +kernel
theorem d_Rounder_setFraction_38 : decode b_Rounder_setFraction 38 = .ok (.aload_n 0, 1) := by decide +kernel
theorem d_Rounder_setFraction_39 : decode b_Rounder_setFraction 39 = .ok (.getfield 12, 3) := by decide +kernel
theorem d_Rounder_setFraction_42 : decode b_Rounder_setFraction 42 = .ok (.iload_n 2, 1) := by decide +kernel
theorem d_Rounder_setFraction_43 : decode b_Rounder_setFraction 43 = .ok (.invokevirtual 96, 3) := by decide +kernel
theorem d_Rounder_setFraction_46 : decode b_Rounder_setFraction 46 = .ok (.goto 12, 3) := by decide +kernel
theorem d_Rounder_setFraction_49 : decode b_Rounder_setFraction 49 = .ok (.aload_n 0, 1) := by decide +kernel
theorem d_Rounder_setFraction_50 : decode b_Rounder_setFraction 50 = .ok (.getfield 18, 3) := by decide +kernel
theorem d_Rounder_setFraction_53 : decode b_Rounder_setFraction 53 = .ok (.iload_n 2, 1) := by decide +kernel
theorem d_Rounder_setFraction_54 : decode b_Rounder_setFraction 54 = .ok (.ineg, 1) := by decide +kernel
theorem d_Rounder_setFraction_55 : decode b_Rounder_setFraction 55 = .ok (.invokevirtual 96, 3) := by decide +kernel
theorem d_Rounder_setFraction_58 : decode b_Rounder_setFraction 58 = .ok (.return_, 1) := by decide +kernel
theorem d_Rounder_normalise_0 : decode b_Rounder_normalise 0 = .ok (.aload_n 0, 1) := by decide +kernel
theorem d_Rounder_normalise_1 : decode b_Rounder_normalise 1 = .ok (.getfield 12, 3) := by decide +kernel
theorem d_Rounder_normalise_4 : decode b_Rounder_normalise 4 = .ok (.invokevirtual 100, 3) := by decide +kernel
theorem d_Rounder_normalise_7 : decode b_Rounder_normalise 7 = .ok (.aload_n 0, 1) := by decide +kernel
theorem d_Rounder_normalise_8 : decode b_Rounder_normalise 8 = .ok (.getfield 18, 3) := by decide +kernel
theorem d_Rounder_normalise_11 : decode b_Rounder_normalise 11 = .ok (.invokevirtual 100, 3) := by decide +kernel
theorem d_Rounder_normalise_14 : decode b_Rounder_normalise 14 = .ok (.isub, 1) := by decide +kernel
theorem d_Rounder_normalise_15 : decode b_Rounder_normalise 15 = .ok (.istore_n 1, 1) := by decide +kernel
theorem d_Rounder_normalise_16 : decode b_Rounder_normalise 16 = .ok (.iload_n 1, 1) := by decide +kernel
theorem d_Rounder_normalise_17 : decode b_Rounder_normalise 17 = .ok (.ifCond .lt 14, 3) := by decide +kernel
theorem d_Rounder_normalise_20 : decode b_Rounder_normalise 20 = .ok (.aload_n 0, 1) := by decide +kernel
theorem d_Rounder_normalise_21 : decode b_Rounder_normalise 21 = .ok (.getfield 18, 3) := by decide +kernel
theorem d_Rounder_normalise_24 : decode b_Rounder_normalise 24 = .ok (.iload_n 1, 1) := by decide +kernel
theorem d_Rounder_normalise_25 : decode b_Rounder_normalise 25 = .ok (.invokevirtual 103, 3) := by decide +kernel
theorem d_Rounder_normalise_28 : decode b_Rounder_normalise 28 = .ok (.goto 12, 3) := by decide +kernel
theorem d_Rounder_normalise_31 : decode b_Rounder_normalise 31 = .ok (.aload_n 0, 1) := by decide +kernel
theorem d_Rounder_normalise_32 : decode b_Rounder_normalise 32 = .ok (.getfield 12, 3) := by decide +kernel
theorem d_Rounder_normalise_35 : decode b_Rounder_normalise 35 = .ok (.iload_n 1, 1) := by decide +kernel
theorem d_Rounder_normalise_36 : decode b_Rounder_normalise 36 = .ok (.ineg, 1) := by decide +kernel
theorem d_Rounder_normalise_37 : decode b_Rounder_normalise 37 = .ok (.invokevirtual 103, 3) := by decide +kernel
theorem d_Rounder_normalise_40 : decode b_Rounder_normalise 40 = .ok (.aload_n 0, 1) := by decide +kernel
theorem d_Rounder_normalise_41 : decode b_Rounder_normalise 41 = .ok (.getfield 12, 3) := by decide +kernel
theorem d_Rounder_normalise_44 : decode b_Rounder_normalise 44 = .ok (.aload_n 0, 1) := by decide +kernel
theorem d_Rounder_normalise_45 : decode b_Rounder_normalise 45 = .ok (.getfield 18, 3) := by decide +kernel
theorem d_Rounder_normalise_48 : decode b_Rounder_normalise 48 = .ok (.invokevirtual 68, 3) := by decide +kernel
theorem d_Rounder_normalise_51 : decode b_Rounder_normalise 51 = .ok (.ifCond .ge 15, 3) := by decide +kernel
theorem d_Rounder_normalise_54 : decode b_Rounder_normalise 54 = .ok (.aload_n 0, 1) := by decide +kernel
theorem d_Rounder_normalise_55 : decode b_Rounder_normalise 55 = .ok (.getfield 12, 3) := by decide +kernel
theorem d_Rounder_normalise_58 : decode b_Rounder_normalise 58 = .ok (.iconst 2, 1) := by decide +kernel
theorem d_Rounder_normalise_59 : decode b_Rounder_normalise 59 = .ok (.iconst 0, 1) := by decide +kernel
theorem d_Rounder_normalise_60 : decode b_Rounder_normalise 60 = .ok (.invokevirtual 106, 3) := by decide +kernel
theorem d_Rounder_normalise_63 : decode b_Rounder_normalise 63 = .ok (.iinc 1 (-1), 3) := by decide +kernel
theorem d_Rounder_normalise_66 : decode b_Rounder_normalise 66 = .ok (.iload_n 1, 1) := by decide +kernel
theorem d_Rounder_normalise_67 : decode b_Rounder_normalise 67 = .ok (.ireturn, 1) := by decide +kernel
theorem d_Rounder_takeBits_0 : decode b_Rounder_takeBits 0 = .ok (.lconst 0, 1) := by decide +kernel
theorem d_Rounder_takeBits_1 : decode b_Rounder_takeBits 1 = .ok (.lstore_n 2, 1) := by decide +kernel
theorem d_Rounder_takeBits_2 : decode b_Rounder_takeBits 2 = .ok (.iconst 0, 1) := by decide +kernel
theorem d_Rounder_takeBits_3 : decode b_Rounder_takeBits 3 = .ok (.istore 4, 2) := by decide +kernel
theorem d_Rounder_takeBits_5 : decode b_Rounder_takeBits 5 = .ok (.iload 4, 2) := by decide +kernel
theorem d_Rounder_takeBits_7 : decode b_Rounder_takeBits 7 = .ok (.iload_n 1, 1) := by decide +kernel
theorem d_Rounder_takeBits_8 : decode b_Rounder_takeBits 8 = .ok (.if_icmp .ge 51, 3) := by decide +kernel
theorem d_Rounder_takeBits_11 : decode b_Rounder_takeBits 11 = .ok (.lload_n 2, 1) := by decide +kernel
theorem d_Rounder_takeBits_12 : decode b_Rounder_takeBits 12 = .ok (.iconst 1, 1) := by decide +kernel
theorem d_Rounder_takeBits_13 : decode b_Rounder_takeBits 13 = .ok (.lshl, 1) := by decide +kernel
theorem d_Rounder_takeBits_14 : decode b_Rounder_takeBits 14 = .ok (.lstore_n 2, 1) := by decide +kernel
theorem d_Rounder_takeBits_15 : decode b_Rounder_takeBits 15 = .ok (.aload_n 0, 1) := by decide +kernel
theorem d_Rounder_takeBits_16 : decode b_Rounder_takeBits 16 = .ok (.getfield 12, 3) := by decide +kernel
theorem d_Rounder_takeBits_19 : decode b_Rounder_takeBits 19 = .ok (.aload_n 0, 1) := by decide +kernel
theorem d_Rounder_takeBits_20 : decode b_Rounder_takeBits 20 = .ok (.getfield 18, 3) := by decide +kernel
theorem d_Rounder_takeBits_23 : decode b_Rounder_takeBits 23 = .ok (.invokevirtual 68, 3) := by decide +kernel
theorem d_Rounder_takeBits_26 : decode b_Rounder_takeBits 26 = .ok (.ifCond .lt 18, 3) := by decide +kernel
theorem d_Rounder_takeBits_29 : decode b_Rounder_takeBits 29 = .ok (.aload_n 0, 1) := by decide +kernel
theorem d_Rounder_takeBits_30 : decode b_Rounder_takeBits 30 = .ok (.getfield 12, 3) := by decide +kernel
theorem d_Rounder_takeBits_33 : decode b_Rounder_takeBits 33 = .ok (.aload_n 0, 1) := by decide +kernel
theorem d_Rounder_takeBits_34 : decode b_Rounder_takeBits 34 = .ok (.getfield 18, 3) := by decide +kernel
theorem d_Rounder_takeBits_37 : decode b_Rounder_takeBits 37 = .ok (.invokevirtual 110, 3) := by decide +kernel
theorem d_Rounder_takeBits_40 : decode b_Rounder_takeBits 40 = .ok (.lload_n 2, 1) := by decide +kernel
theorem d_Rounder_takeBits_41 : decode b_Rounder_takeBits 41 = .ok (.lconst 1, 1) := by decide +kernel
theorem d_Rounder_takeBits_42 : decode b_Rounder_takeBits 42 = .ok (.ladd, 1) := by decide +kernel
theorem d_Rounder_takeBits_43 : decode b_Rounder_takeBits 43 = .ok (.lstore_n 2, 1) := by decide +kernel
theorem d_Rounder_takeBits_44 : decode b_Rounder_takeBits 44 = .ok (.aload_n 0, 1) := by decide +kernel
theorem d_Rounder_takeBits_45 : decode b_Rounder_takeBits 45 = .ok (.getfield 12, 3) := by decide +kernel
theorem d_Rounder_takeBits_48 : decode b_Rounder_takeBits 48 = .ok (.iconst 2, 1) := by decide +kernel
theorem d_Rounder_takeBits_49 : decode b_Rounder_takeBits 49 = .ok (.iconst 0, 1) := by decide +kernel
theorem d_Rounder_takeBits_50 : decode b_Rounder_takeBits 50 = .ok (.invokevirtual 106, 3) := by decide +kernel
theorem d_Rounder_takeBits_53 : decode b_Rounder_takeBits 53 = .ok (.iinc 4 1, 3) := by decide +kernel
theorem d_Rounder_takeBits_56 : decode b_Rounder_takeBits 56 = .ok (.goto (-51), 3) := by decide +kernel
theorem d_Rounder_takeBits_59 : decode b_Rounder_takeBits 59 = .ok (.lload_n 2, 1) := by decide +kernel
theorem d_Rounder_takeBits_60 : decode b_Rounder_takeBits 60 = .ok (.lreturn, 1) := by decide +kernel
theorem d_Rounder_goesFarther_0 : decode b_Rounder_goesFarther 0 = .ok (.iload_n 0, 1) := by decide +kernel
theorem d_Rounder_goesFarther_1 : decode b_Rounder_goesFarther 1 = .ok (.tableswitch 55 1 4 #[31, 33, 43, 45], 31) := by decide +kernel
theorem d_Rounder_goesFarther_32 : decode b_Rounder_goesFarther 32 = .ok (.iconst 0, 1) := by decide +kernel
theorem d_Rounder_goesFarther_33 : decode b_Rounder_goesFarther 33 = .ok (.ireturn, 1) := by decide +kernel
theorem d_Rounder_goesFarther_34 : decode b_Rounder_goesFarther 34 = .ok (.iload_n 1, 1) := by decide +kernel
theorem d_Rounder_goesFarther_35 : decode b_Rounder_goesFarther 35 = .ok (.ifCond .ne 7, 3) := by decide +kernel
theorem d_Rounder_goesFarther_38 : decode b_Rounder_goesFarther 38 = .ok (.iconst 1, 1) := by decide +kernel
theorem d_Rounder_goesFarther_39 : decode b_Rounder_goesFarther 39 = .ok (.goto 4, 3) := by decide +kernel
theorem d_Rounder_goesFarther_42 : decode b_Rounder_goesFarther 42 = .ok (.iconst 0, 1) := by decide +kernel
theorem d_Rounder_goesFarther_43 : decode b_Rounder_goesFarther 43 = .ok (.ireturn, 1) := by decide +kernel
theorem d_Rounder_goesFarther_44 : decode b_Rounder_goesFarther 44 = .ok (.iload_n 1, 1) := by decide +kernel
theorem d_Rounder_goesFarther_45 : decode b_Rounder_goesFarther 45 = .ok (.ireturn, 1) := by decide +kernel
theorem d_Rounder_goesFarther_46 : decode b_Rounder_goesFarther 46 = .ok (.iload_n 3, 1) := by decide +kernel
theorem d_Rounder_goesFarther_47 : decode b_Rounder_goesFarther 47 = .ok (.ifCond .lt 7, 3) := by decide +kernel
theorem d_Rounder_goesFarther_50 : decode b_Rounder_goesFarther 50 = .ok (.iconst 1, 1) := by decide +kernel
theorem d_Rounder_goesFarther_51 : decode b_Rounder_goesFarther 51 = .ok (.goto 4, 3) := by decide +kernel
theorem d_Rounder_goesFarther_54 : decode b_Rounder_goesFarther 54 = .ok (.iconst 0, 1) := by decide +kernel
theorem d_Rounder_goesFarther_55 : decode b_Rounder_goesFarther 55 = .ok (.ireturn, 1) := by decide +kernel
theorem d_Rounder_goesFarther_56 : decode b_Rounder_goesFarther 56 = .ok (.iload_n 3, 1) := by decide +kernel
theorem d_Rounder_goesFarther_57 : decode b_Rounder_goesFarther 57 = .ok (.ifCond .gt 11, 3) := by decide +kernel
theorem d_Rounder_goesFarther_60 : decode b_Rounder_goesFarther 60 = .ok (.iload_n 3, 1) := by decide +kernel
theorem d_Rounder_goesFarther_61 : decode b_Rounder_goesFarther 61 = .ok (.ifCond .ne 11, 3) := by decide +kernel
theorem d_Rounder_goesFarther_64 : decode b_Rounder_goesFarther 64 = .ok (.iload_n 2, 1) := by decide +kernel
theorem d_Rounder_goesFarther_65 : decode b_Rounder_goesFarther 65 = .ok (.ifCond .eq 7, 3) := by decide +kernel
theorem d_Rounder_goesFarther_68 : decode b_Rounder_goesFarther 68 = .ok (.iconst 1, 1) := by decide +kernel
theorem d_Rounder_goesFarther_69 : decode b_Rounder_goesFarther 69 = .ok (.goto 4, 3) := by decide +kernel
theorem d_Rounder_goesFarther_72 : decode b_Rounder_goesFarther 72 = .ok (.iconst 0, 1) := by decide +kernel
theorem d_Rounder_goesFarther_73 : decode b_Rounder_goesFarther 73 = .ok (.ireturn, 1) := by decide +kernel
theorem d_Finder_init_0 : decode b_Finder_init 0 = .ok (.aload_n 0, 1) := by decide +kernel
theorem d_Finder_init_1 : decode b_Finder_init 1 = .ok (.invokespecial 1, 3) := by decide +kernel
theorem d_Finder_init_4 : decode b_Finder_init 4 = .ok (.aload_n 0, 1) := by decide +kernel
theorem d_Finder_init_5 : decode b_Finder_init 5 = .ok (.new 7, 3) := by decide +kernel
theorem d_Finder_init_8 : decode b_Finder_init 8 = .ok (.dup, 1) := by decide +kernel
theorem d_Finder_init_9 : decode b_Finder_init 9 = .ok (.invokespecial 9, 3) := by decide +kernel
theorem d_Finder_init_12 : decode b_Finder_init 12 = .ok (.putfield 10, 3) := by decide +kernel
theorem d_Finder_init_15 : decode b_Finder_init 15 = .ok (.aload_n 0, 1) := by decide +kernel
theorem d_Finder_init_16 : decode b_Finder_init 16 = .ok (.new 7, 3) := by decide +kernel
theorem d_Finder_init_19 : decode b_Finder_init 19 = .ok (.dup, 1) := by decide +kernel
theorem d_Finder_init_20 : decode b_Finder_init 20 = .ok (.invokespecial 9, 3) := by decide +kernel
theorem d_Finder_init_23 : decode b_Finder_init 23 = .ok (.putfield 16, 3) := by decide +kernel
theorem d_Finder_init_26 : decode b_Finder_init 26 = .ok (.aload_n 0, 1) := by decide +kernel
theorem d_Finder_init_27 : decode b_Finder_init 27 = .ok (.new 7, 3) := by decide +kernel
theorem d_Finder_init_30 : decode b_Finder_init 30 = .ok (.dup, 1) := by decide +kernel
theorem d_Finder_init_31 : decode b_Finder_init 31 = .ok (.invokespecial 9, 3) := by decide +kernel
theorem d_Finder_init_34 : decode b_Finder_init 34 = .ok (.putfield 19, 3) := by decide +kernel
theorem d_Finder_init_37 : decode b_Finder_init 37 = .ok (.aload_n 0, 1) := by decide +kernel
theorem d_Finder_init_38 : decode b_Finder_init 38 = .ok (.new 7, 3) := by decide +kernel
theorem d_Finder_init_41 : decode b_Finder_init 41 = .ok (.dup, 1) := by decide +kernel
theorem d_Finder_init_42 : decode b_Finder_init 42 = .ok (.invokespecial 9, 3) := by decide +kernel
theorem d_Finder_init_45 : decode b_Finder_init 45 = .ok (.putfield 22, 3) := by decide +kernel
theorem d_Finder_init_48 : decode b_Finder_init 48 = .ok (.aload_n 0, 1) := by decide +kernel
theorem d_Finder_init_49 : decode b_Finder_init 49 = .ok (.new 7, 3) := by decide +kernel
theorem d_Finder_init_52 : decode b_Finder_init 52 = .ok (.dup, 1) := by decide +kernel
theorem d_Finder_init_53 : decode b_Finder_init 53 = .ok (.invokespecial 9, 3) := by decide +kernel
theorem d_Finder_init_56 : decode b_Finder_init 56 = .ok (.putfield 25, 3) := by decide +kernel
theorem d_Finder_init_59 : decode b_Finder_init 59 = .ok (.aload_n 0, 1) := by decide +kernel
theorem d_Finder_init_60 : decode b_Finder_init 60 = .ok (.iconst 0, 1) := by decide +kernel
theorem d_Finder_init_61 : decode b_Finder_init 61 = .ok (.putfield 28, 3) := by decide +kernel
theorem d_Finder_init_64 : decode b_Finder_init 64 = .ok (.aload_n 0, 1) := by decide +kernel
theorem d_Finder_init_65 : decode b_Finder_init 65 = .ok (.lconst 0, 1) := by decide +kernel
theorem d_Finder_init_66 : decode b_Finder_init 66 = .ok (.putfield 32, 3) := by decide +kernel
theorem d_Finder_init_69 : decode b_Finder_init 69 = .ok (.aload_n 0, 1) := by decide +kernel
theorem d_Finder_init_70 : decode b_Finder_init 70 = .ok (.iconst 0, 1) := by decide +kernel
theorem d_Finder_init_71 : decode b_Finder_init 71 = .ok (.putfield 36, 3) := by decide +kernel
theorem d_Finder_init_74 : decode b_Finder_init 74 = .ok (.aload_n 0, 1) := by decide +kernel
theorem d_Finder_init_75 : decode b_Finder_init 75 = .ok (.iconst 0, 1) := by decide +kernel
theorem d_Finder_init_76 : decode b_Finder_init 76 = .ok (.putfield 40, 3) := by decide +kernel
theorem d_Finder_init_79 : decode b_Finder_init 79 = .ok (.return_, 1) := by decide +kernel
theorem d_Finder_find_0 : decode b_Finder_find 0 = .ok (.aload_n 0, 1) := by decide +kernel
theorem d_Finder_find_1 : decode b_Finder_find 1 = .ok (.lload_n 1, 1) := by decide +kernel
theorem d_Finder_find_2 : decode b_Finder_find 2 = .ok (.aload_n 3, 1) := by decide +kernel
theorem d_Finder_find_3 : decode b_Finder_find 3 = .ok (.invokevirtual 43, 3) := by decide +kernel
theorem d_Finder_find_6 : decode b_Finder_find 6 = .ok (.aload_n 0, 1) := by decide +kernel
theorem d_Finder_find_7 : decode b_Finder_find 7 = .ok (.lload_n 1, 1) := by decide +kernel
theorem d_Finder_find_8 : decode b_Finder_find 8 = .ok (.aload_n 3, 1) := by decide +kernel
theorem d_Finder_find_9 : decode b_Finder_find 9 = .ok (.invokevirtual 47, 3) := by decide +kernel
theorem d_Finder_find_12 : decode b_Finder_find 12 = .ok (.aload_n 0, 1) := by decide +kernel
theorem d_Finder_find_13 : decode b_Finder_find 13 = .ok (.lconst 0, 1) := by decide +kernel
theorem d_Finder_find_14 : decode b_Finder_find 14 = .ok (.putfield 32, 3) := by decide +kernel
theorem d_Finder_find_17 : decode b_Finder_find 17 = .ok (.aload_n 0, 1) := by decide +kernel
theorem d_Finder_find_18 : decode b_Finder_find 18 = .ok (.iconst 0, 1) := by decide +kernel
theorem d_Finder_find_19 : decode b_Finder_find 19 = .ok (.putfield 36, 3) := by decide +kernel
theorem d_Finder_find_22 : decode b_Finder_find 22 = .ok (.lconst 1, 1) := by decide +kernel
theorem d_Finder_find_23 : decode b_Finder_find 23 = .ok (.lstore 4, 2) := by decide +kernel
theorem d_Finder_find_25 : decode b_Finder_find 25 = .ok (.iconst 0, 1) := by decide +kernel
theorem d_Finder_find_26 : decode b_Finder_find 26 = .ok (.istore 6, 2) := by decide +kernel
theorem d_Finder_find_28 : decode b_Finder_find 28 = .ok (.iload 6, 2) := by decide +kernel
theorem d_Finder_find_30 : decode b_Finder_find 30 = .ok (.ifCond .ne 68, 3) := by decide +kernel
theorem d_Finder_find_33 : decode b_Finder_find 33 = .ok (.aload_n 0, 1) := by decide +kernel
theorem d_Finder_find_34 : decode b_Finder_find 34 = .ok (.getfield 36, 3) := by decide +kernel
theorem d_Finder_find_37 : decode b_Finder_find 37 = .ok (.bipush 17, 2) := by decide +kernel
theorem d_Finder_find_39 : decode b_Finder_find 39 = .ok (.if_icmp .ge 59, 3) := by decide +kernel
theorem d_Finder_find_42 : decode b_Finder_find 42 = .ok (.aload_n 0, 1) := by decide +kernel
theorem d_Finder_find_43 : decode b_Finder_find 43 = .ok (.getfield 36, 3) := by decide +kernel
theorem d_Finder_find_46 : decode b_Finder_find 46 = .ok (.ifCond .le 7, 3) := by decide +kernel
theorem d_Finder_find_49 : decode b_Finder_find 49 = .ok (.aload_n 0, 1) := by decide +kernel
theorem d_Finder_find_50 : decode b_Finder_find 50 = .ok (.invokevirtual 50, 3) := by decide +kernel
theorem d_Finder_find_53 : decode b_Finder_find 53 = .ok (.aload_n 0, 1) := by decide +kernel
theorem d_Finder_find_54 : decode b_Finder_find 54 = .ok (.aload_n 0, 1) := by decide +kernel
theorem d_Finder_find_55 : decode b_Finder_find 55 = .ok (.getfield 32, 3) := by decide +kernel
theorem d_Finder_find_58 : decode b_Finder_find 58 = .ok (.ldc2_w 53, 3) := by decide +kernel
theorem d_Finder_find_61 : decode b_Finder_find 61 = .ok (.lmul, 1) := by decide +kernel
theorem d_Finder_find_62 : decode b_Finder_find 62 = .ok (.aload_n 0, 1) := by decide +kernel
theorem d_Finder_find_63 : decode b_Finder_find 63 = .ok (.invokevirtual 55, 3) := by decide +kernel
theorem d_Finder_find_66 : decode b_Finder_find 66 = .ok (.i2l, 1) := by decide +kernel
theorem d_Finder_find_67 : decode b_Finder_find 67 = .ok (.ladd, 1) := by decide +kernel
theorem d_Finder_find_68 : decode b_Finder_find 68 = .ok (.putfield 32, 3) := by decide +kernel
theorem d_Finder_find_71 : decode b_Finder_find 71 = .ok (.lload 4, 2) := by decide +kernel
theorem d_Finder_find_73 : decode b_Finder_find 73 = .ok (.ldc2_w 53, 3) := by decide +kernel
theorem d_Finder_find_76 : decode b_Finder_find 76 = .ok (.lmul, 1) := by decide +kernel
theorem d_Finder_find_77 : decode b_Finder_find 77 = .ok (.lstore 4, 2) := by decide +kernel
theorem d_Finder_find_79 : decode b_Finder_find 79 = .ok (.aload_n 0, 1) := by decide +kernel
theorem d_Finder_find_80 : decode b_Finder_find 80 = .ok (.dup, 1) := by decide +kernel
theorem d_Finder_find_81 : decode b_Finder_find 81 = .ok (.getfield 36, 3) := by decide +kernel
theorem d_Finder_find_84 : decode b_Finder_find 84 = .ok (.iconst 1, 1) := by decide +kernel
theorem d_Finder_find_85 : decode b_Finder_find 85 = .ok (.iadd, 1) := by decide +kernel
theorem d_Finder_find_86 : decode b_Finder_find 86 = .ok (.putfield 36, 3) := by decide +kernel
theorem d_Finder_find_89 : decode b_Finder_find 89 = .ok (.aload_n 0, 1) := by decide +kernel
theorem d_Finder_find_90 : decode b_Finder_find 90 = .ok (.invokevirtual 59, 3) := by decide +kernel
theorem d_Finder_find_93 : decode b_Finder_find 93 = .ok (.istore 6, 2) := by decide +kernel
theorem d_Finder_find_95 : decode b_Finder_find 95 = .ok (.goto (-67), 3) := by decide +kernel
theorem d_Finder_find_98 : decode b_Finder_find 98 = .ok (.aload_n 0, 1) := by decide +kernel
theorem d_Finder_find_99 : decode b_Finder_find 99 = .ok (.getfield 32, 3) := by decide +kernel
theorem d_Finder_find_102 : decode b_Finder_find 102 = .ok (.lload 4, 2) := by decide +kernel
theorem d_Finder_find_104 : decode b_Finder_find 104 = .ok (.lcmp, 1) := by decide +kernel
theorem d_Finder_find_105 : decode b_Finder_find 105 = .ok (.ifCond .lt 23, 3) := by decide +kernel
theorem d_Finder_find_108 : decode b_Finder_find 108 = .ok (.aload_n 0, 1) := by decide +kernel
theorem d_Finder_find_109 : decode b_Finder_find 109 = .ok (.lload 4, 2) := by decide +kernel
theorem d_Finder_find_111 : decode b_Finder_find 111 = .ok (.ldc2_w 53, 3) := by decide +kernel
theorem d_Finder_find_114 : decode b_Finder_find 114 = .ok (.ldiv, 1) := by decide +kernel
theorem d_Finder_find_115 : decode b_Finder_find 115 = .ok (.putfield 32, 3) := by decide +kernel
theorem d_Finder_find_118 : decode b_Finder_find 118 = .ok (.aload_n 0, 1) := by decide +kernel
theorem d_Finder_find_119 : decode b_Finder_find 119 = .ok (.dup, 1) := by decide +kernel
theorem d_Finder_find_120 : decode b_Finder_find 120 = .ok (.getfield 40, 3) := by decide +kernel
theorem d_Finder_find_123 : decode b_Finder_find 123 = .ok (.iconst 1, 1) := by decide +kernel
theorem d_Finder_find_124 : decode b_Finder_find 124 = .ok (.iadd, 1) := by decide +kernel
theorem d_Finder_find_125 : decode b_Finder_find 125 = .ok (.putfield 40, 3) := by decide +kernel
theorem d_Finder_find_128 : decode b_Finder_find 128 = .ok (.return_, 1) := by decide +kernel
theorem d_Finder_setRange_0 : decode b_Finder_setRange 0 = .ok (.aload_n 3, 1) := by decide +kernel
theorem d_Finder_setRange_1 : decode b_Finder_setRange 1 = .ok (.lload_n 1, 1) := by decide +kernel
theorem d_Finder_setRange_2 : decode b_Finder_setRange 2 = .ok (.invokevirtual 63, 3) := by decide +kernel
theorem d_Finder_setRange_5 : decode b_Finder_setRange 5 = .ok (.lconst 0, 1) := by decide +kernel
theorem d_Finder_setRange_6 : decode b_Finder_setRange 6 = .ok (.lcmp, 1) := by decide +kernel
theorem d_Finder_setRange_7 : decode b_Finder_setRange 7 = .ok (.ifCond .ne 16, 3) := by decide +kernel
theorem d_Finder_setRange_10 : decode b_Finder_setRange 10 = .ok (.aload_n 3, 1) := by decide +kernel
theorem d_Finder_setRange_11 : decode b_Finder_setRange 11 = .ok (.lload_n 1, 1) := by decide +kernel
theorem d_Finder_setRange_12 : decode b_Finder_setRange 12 = .ok (.invokevirtual 69, 3) := by decide +kernel
theorem d_Finder_setRange_15 : decode b_Finder_setRange 15 = .ok (.iconst 1, 1) := by decide +kernel
theorem d_Finder_setRange_16 : decode b_Finder_setRange 16 = .ok (.if_icmp .le 7, 3) := by decide +kernel
theorem d_Finder_setRange_19 : decode b_Finder_setRange 19 = .ok (.iconst 1, 1) := by decide +kernel
theorem d_Finder_setRange_20 : decode b_Finder_setRange 20 = .ok (.goto 4, 3) := by decide +kernel
theorem d_Finder_setRange_23 : decode b_Finder_setRange 23 = .ok (.iconst 0, 1) := by decide +kernel
theorem d_Finder_setRange_24 : decode b_Finder_setRange 24 = .ok (.istore 4, 2) := by decide +kernel
theorem d_Finder_setRange_26 : decode b_Finder_setRange 26 = .ok (.aload_n 0, 1) := by decide +kernel
theorem d_Finder_setRange_27 : decode b_Finder_setRange 27 = .ok (.lload_n 1, 1) := by decide +kernel
theorem d_Finder_setRange_28 : decode b_Finder_setRange 28 = .ok (.lconst 1, 1) := by decide +kernel
theorem d_Finder_setRange_29 : decode b_Finder_setRange 29 = .ok (.land, 1) := by decide +kernel
theorem d_Finder_setRange_30 : decode b_Finder_setRange 30 = .ok (.lconst 0, 1) := by decide +kernel
theorem d_Finder_setRange_31 : decode b_Finder_setRange 31 = .ok (.lcmp, 1) := by decide +kernel
theorem d_Finder_setRange_32 : decode b_Finder_setRange 32 = .ok (.ifCond .ne 7, 3) := by decide +kernel
theorem d_Finder_setRange_35 : decode b_Finder_setRange 35 = .ok (.iconst 1, 1) := by decide +kernel
theorem d_Finder_setRange_36 : decode b_Finder_setRange 36 = .ok (.goto 4, 3) := by decide +kernel
theorem d_Finder_setRange_39 : decode b_Finder_setRange 39 = .ok (.iconst 0, 1) := by decide +kernel
theorem d_Finder_setRange_40 : decode b_Finder_setRange 40 = .ok (.putfield 28, 3) := by decide +kernel
theorem d_Finder_setRange_43 : decode b_Finder_setRange 43 = .ok (.aload_n 0, 1) := by decide +kernel
theorem d_Finder_setRange_44 : decode b_Finder_setRange 44 = .ok (.getfield 10, 3) := by decide +kernel
theorem d_Finder_setRange_47 : decode b_Finder_setRange 47 = .ok (.aload_n 3, 1) := by decide +kernel
theorem d_Finder_setRange_48 : decode b_Finder_setRange 48 = .ok (.lload_n 1, 1) := by decide +kernel
theorem d_Finder_setRange_49 : decode b_Finder_setRange 49 = .ok (.invokevirtual 73, 3) := by decide +kernel
theorem d_Finder_setRange_52 : decode b_Finder_setRange 52 = .ok (.ldc2_w 76, 3) := by decide +kernel
theorem d_Finder_setRange_55 : decode b_Finder_setRange 55 = .ok (.lmul, 1) := by decide +kernel
theorem d_Finder_setRange_56 : decode b_Finder_setRange 56 = .ok (.invokevirtual 78, 3) := by decide +kernel
theorem d_Finder_setRange_59 : decode b_Finder_setRange 59 = .ok (.aload_n 0, 1) := by decide +kernel
theorem d_Finder_setRange_60 : decode b_Finder_setRange 60 = .ok (.getfield 22, 3) := by decide +kernel
theorem d_Finder_setRange_63 : decode b_Finder_setRange 63 = .ok (.ldc2_w 82, 3) := by decide +kernel
theorem d_Finder_setRange_66 : decode b_Finder_setRange 66 = .ok (.invokevirtual 78, 3) := by decide +kernel
theorem d_Finder_setRange_69 : decode b_Finder_setRange 69 = .ok (.aload_n 0, 1) := by decide +kernel
theorem d_Finder_setRange_70 : decode b_Finder_setRange 70 = .ok (.getfield 19, 3) := by decide +kernel
theorem d_Finder_setRange_73 : decode b_Finder_setRange 73 = .ok (.iload 4, 2) := by decide +kernel
theorem d_Finder_setRange_75 : decode b_Finder_setRange 75 = .ok (.ifCond .eq 7, 3) := by decide +kernel
theorem d_Finder_setRange_78 : decode b_Finder_setRange 78 = .ok (.lconst 1, 1) := by decide +kernel
theorem d_Finder_setRange_79 : decode b_Finder_setRange 79 = .ok (.goto 6, 3) := by decide +kernel
theorem d_Finder_setRange_82 : decode b_Finder_setRange 82 = .ok (.ldc2_w 82, 3) := by decide +kernel
theorem d_Finder_setRange_85 : decode b_Finder_setRange 85 = .ok (.invokevirtual 78, 3) := by decide +kernel
theorem d_Finder_setRange_88 : decode b_Finder_setRange 88 = .ok (.aload_n 0, 1) := by decide +kernel
theorem d_Finder_setRange_89 : decode b_Finder_setRange 89 = .ok (.getfield 16, 3) := by decide +kernel
theorem d_Finder_setRange_92 : decode b_Finder_setRange 92 = .ok (.lconst 1, 1) := by decide +kernel
theorem d_Finder_setRange_93 : decode b_Finder_setRange 93 = .ok (.invokevirtual 78, 3) := by decide +kernel
theorem d_Finder_setRange_96 : decode b_Finder_setRange 96 = .ok (.aload_n 3, 1) := by decide +kernel
theorem d_Finder_setRange_97 : decode b_Finder_setRange 97 = .ok (.lload_n 1, 1) := by decide +kernel
theorem d_Finder_setRange_98 : decode b_Finder_setRange 98 = .ok (.invokevirtual 84, 3) := by decide +kernel
theorem d_Finder_setRange_101 : decode b_Finder_setRange 101 = .ok (.iconst 2, 1) := by decide +kernel
theorem d_Finder_setRange_102 : decode b_Finder_setRange 102 = .ok (.isub, 1) := by decide +kernel
theorem d_Finder_setRange_103 : decode b_Finder_setRange 103 = .ok (.istore 5, 2) := by decide +kernel
theorem d_Finder_setRange_105 : decode b_Finder_setRange 105 = .ok (.iload 5, 2) := by decide +kernel
theorem d_Finder_setRange_107 : decode b_Finder_setRange 107 = .ok (.ifCond .lt 33, 3) := by decide +kernel
theorem d_Finder_setRange_110 : decode b_Finder_setRange 110 = .ok (.aload_n 0, 1) := by decide +kernel
theorem d_Finder_setRange_111 : decode b_Finder_setRange 111 = .ok (.getfield 10, 3) := by decide +kernel
theorem d_Finder_setRange_114 : decode b_Finder_setRange 114 = .ok (.iload 5, 2) := by decide +kernel
theorem d_Finder_setRange_116 : decode b_Finder_setRange 116 = .ok (.invokevirtual 87, 3) := by decide +kernel
theorem d_Finder_setRange_119 : decode b_Finder_setRange 119 = .ok (.aload_n 0, 1) := by decide +kernel
theorem d_Finder_setRange_120 : decode b_Finder_setRange 120 = .ok (.getfield 22, 3) := by decide +kernel
theorem d_Finder_setRange_123 : decode b_Finder_setRange 123 = .ok (.iload 5, 2) := by decide +kernel
theorem d_Finder_setRange_125 : decode b_Finder_setRange 125 = .ok (.invokevirtual 87, 3) := by decide +kernel
theorem d_Finder_setRange_128 : decode b_Finder_setRange 128 = .ok (.aload_n 0, 1) := by decide +kernel
theorem d_Finder_setRange_129 : decode b_Finder_setRange 129 = .ok (.getfield 19, 3) := by decide +kernel
theorem d_Finder_setRange_132 : decode b_Finder_setRange 132 = .ok (.iload 5, 2) := by decide +kernel
theorem d_Finder_setRange_134 : decode b_Finder_setRange 134 = .ok (.invokevirtual 87, 3) := by decide +kernel
theorem d_Finder_setRange_137 : decode b_Finder_setRange 137 = .ok (.goto 13, 3) := by decide +kernel
theorem d_Finder_setRange_140 : decode b_Finder_setRange 140 = .ok (.aload_n 0, 1) := by decide +kernel
theorem d_Finder_setRange_141 : decode b_Finder_setRange 141 = .ok (.getfield 16, 3) := by decide +kernel
theorem d_Finder_setRange_144 : decode b_Finder_setRange 144 = .ok (.iload 5, 2) := by decide +kernel
theorem d_Finder_setRange_146 : decode b_Finder_setRange 146 = .ok (.ineg, 1) := by decide +kernel
theorem d_Finder_setRange_147 : decode b_Finder_setRange 147 = .ok (.invokevirtual 87, 3) := by decide +kernel
theorem d_Finder_setRange_150 : decode b_Finder_setRange 150 = .ok (.return_, 1) := by decide +kernel
theorem d_Finder_setPower_0 : decode b_Finder_setPower 0 = .ok (.aload_n 3, 1) := by decide +kernel
theorem d_Finder_setPower_1 : decode b_Finder_setPower 1 = .ok (.lload_n 1, 1) := by decide +kernel
theorem d_Finder_setPower_2 : decode b_Finder_setPower 2 = .ok (.invokevirtual 84, 3) := by decide +kernel
theorem d_Finder_setPower_5 : decode b_Finder_setPower 5 = .ok (.bipush 63, 2) := by decide +kernel
theorem d_Finder_setPower_7 : decode b_Finder_setPower 7 = .ok (.iadd, 1) := by decide +kernel
theorem d_Finder_setPower_8 : decode b_Finder_setPower 8 = .ok (.aload_n 3, 1) := by decide +kernel
theorem d_Finder_setPower_9 : decode b_Finder_setPower 9 = .ok (.lload_n 1, 1) := by decide +kernel
theorem d_Finder_setPower_10 : decode b_Finder_setPower 10 = .ok (.invokevirtual 73, 3) := by decide +kernel
theorem d_Finder_setPower_13 : decode b_Finder_setPower 13 = .ok (.invokestatic 91, 3) := by decide +kernel
theorem d_Finder_setPower_16 : decode b_Finder_setPower 16 = .ok (.isub, 1) := by decide +kernel
theorem d_Finder_setPower_17 : decode b_Finder_setPower 17 = .ok (.istore 4, 2) := by decide +kernel
theorem d_Finder_setPower_19 : decode b_Finder_setPower 19 = .ok (.aload_n 0, 1) := by decide +kernel
theorem d_Finder_setPower_20 : decode b_Finder_setPower 20 = .ok (.iload 4, 2) := by decide +kernel
theorem d_Finder_setPower_22 : decode b_Finder_setPower 22 = .ok (.sipush 30103, 3) := by decide +kernel
theorem d_Finder_setPower_25 : decode b_Finder_setPower 25 = .ok (.imul, 1) := by decide +kernel
theorem d_Finder_setPower_26 : decode b_Finder_setPower 26 = .ok (.ldc 96, 2) := by decide +kernel
theorem d_Finder_setPower_28 : decode b_Finder_setPower 28 = .ok (.invokestatic 97, 3) := by decide +kernel
theorem d_Finder_setPower_31 : decode b_Finder_setPower 31 = .ok (.putfield 40, 3) := by decide +kernel
theorem d_Finder_setPower_34 : decode b_Finder_setPower 34 = .ok (.aload_n 0, 1) := by decide +kernel
theorem d_Finder_setPower_35 : decode b_Finder_setPower 35 = .ok (.getfield 40, 3) := by decide +kernel
theorem d_Finder_setPower_38 : decode b_Finder_setPower 38 = .ok (.ifCond .lt 17, 3) := by decide +kernel
theorem d_Finder_setPower_41 : decode b_Finder_setPower 41 = .ok (.aload_n 0, 1) := by decide +kernel
theorem d_Finder_setPower_42 : decode b_Finder_setPower 42 = .ok (.getfield 16, 3) := by decide +kernel
theorem d_Finder_setPower_45 : decode b_Finder_setPower 45 = .ok (.aload_n 0, 1) := by decide +kernel
theorem d_Finder_setPower_46 : decode b_Finder_setPower 46 = .ok (.getfield 40, 3) := by decide +kernel
theorem d_Finder_setPower_49 : decode b_Finder_setPower 49 = .ok (.invokevirtual 103, 3) := by decide +kernel
theorem d_Finder_setPower_52 : decode b_Finder_setPower 52 = .ok (.goto 39, 3) := by decide +kernel
theorem d_Finder_setPower_55 : decode b_Finder_setPower 55 = .ok (.aload_n 0, 1) := by decide +kernel
theorem d_Finder_setPower_56 : decode b_Finder_setPower 56 = .ok (.getfield 10, 3) := by decide +kernel
theorem d_Finder_setPower_59 : decode b_Finder_setPower 59 = .ok (.aload_n 0, 1) := by decide +kernel
theorem d_Finder_setPower_60 : decode b_Finder_setPower 60 = .ok (.getfield 40, 3) := by decide +kernel
theorem d_Finder_setPower_63 : decode b_Finder_setPower 63 = .ok (.ineg, 1) := by decide +kernel
theorem d_Finder_setPower_64 : decode b_Finder_setPower 64 = .ok (.invokevirtual 103, 3) := by decide +kernel
theorem d_Finder_setPower_67 : decode b_Finder_setPower 67 = .ok (.aload_n 0, 1) := by decide +kernel
theorem d_Finder_setPower_68 : decode b_Finder_setPower 68 = .ok (.getfield 22, 3) := by decide +kernel
theorem d_Finder_setPower_71 : decode b_Finder_setPower 71 = .ok (.aload_n 0, 1) := by decide +kernel
theorem d_Finder_setPower_72 : decode b_Finder_setPower 72 = .ok (.getfield 40, 3) := by decide +kernel
theorem d_Finder_setPower_75 : decode b_Finder_setPower 75 = .ok (.ineg, 1) := by decide +kernel
theorem d_Finder_setPower_76 : decode b_Finder_setPower 76 = .ok (.invokevirtual 103, 3) := by decide +kernel
theorem d_Finder_setPower_79 : decode b_Finder_setPower 79 = .ok (.aload_n 0, 1) := by decide +kernel
theorem d_Finder_setPower_80 : decode b_Finder_setPower 80 = .ok (.getfield 19, 3) := by decide +kernel
theorem d_Finder_setPower_83 : decode b_Finder_setPower 83 = .ok (.aload_n 0, 1) := by decide +kernel
theorem d_Finder_setPower_84 : decode b_Finder_setPower 84 = .ok (.getfield 40, 3) := by decide +kernel
theorem d_Finder_setPower_87 : decode b_Finder_setPower 87 = .ok (.ineg, 1) := by decide +kernel
theorem d_Finder_setPower_88 : decode b_Finder_setPower 88 = .ok (.invokevirtual 103, 3) := by decide +kernel
theorem d_Finder_setPower_91 : decode b_Finder_setPower 91 = .ok (.aload_n 0, 1) := by decide +kernel
theorem d_Finder_setPower_92 : decode b_Finder_setPower 92 = .ok (.getfield 25, 3) := by decide +kernel
theorem d_Finder_setPower_95 : decode b_Finder_setPower 95 = .ok (.aload_n 0, 1) := by decide +kernel
theorem d_Finder_setPower_96 : decode b_Finder_setPower 96 = .ok (.getfield 16, 3) := by decide +kernel
theorem d_Finder_setPower_99 : decode b_Finder_setPower 99 = .ok (.invokevirtual 106, 3) := by decide +kernel
theorem d_Finder_setPower_102 : decode b_Finder_setPower 102 = .ok (.aload_n 0, 1) := by decide +kernel
theorem d_Finder_setPower_103 : decode b_Finder_setPower 103 = .ok (.getfield 25, 3) := by decide +kernel
theorem d_Finder_setPower_106 : decode b_Finder_setPower 106 = .ok (.bipush 10, 2) := by decide +kernel
theorem d_Finder_setPower_108 : decode b_Finder_setPower 108 = .ok (.iconst 0, 1) := by decide +kernel
theorem d_Finder_setPower_109 : decode b_Finder_setPower 109 = .ok (.invokevirtual 110, 3) := by decide +kernel
theorem d_Finder_setPower_112 : decode b_Finder_setPower 112 = .ok (.aload_n 0, 1) := by decide +kernel
theorem d_Finder_setPower_113 : decode b_Finder_setPower 113 = .ok (.getfield 10, 3) := by decide +kernel
theorem d_Finder_setPower_116 : decode b_Finder_setPower 116 = .ok (.aload_n 0, 1) := by decide +kernel
theorem d_Finder_setPower_117 : decode b_Finder_setPower 117 = .ok (.getfield 25, 3) := by decide +kernel
theorem d_Finder_setPower_120 : decode b_Finder_setPower 120 = .ok (.invokevirtual 114, 3) := by decide +kernel
theorem d_Finder_setPower_123 : decode b_Finder_setPower 123 = .ok (.ifCond .lt 24, 3) := by decide +kernel
theorem d_Finder_setPower_126 : decode b_Finder_setPower 126 = .ok (.aload_n 0, 1) := by decide +kernel
theorem d_Finder_setPower_127 : decode b_Finder_setPower 127 = .ok (.getfield 16, 3) := by decide +kernel
theorem d_Finder_setPower_130 : decode b_Finder_setPower 130 = .ok (.aload_n 0, 1) := by decide +kernel
theorem d_Finder_setPower_131 : decode b_Finder_setPower 131 = .ok (.getfield 25, 3) := by decide +kernel
theorem d_Finder_setPower_134 : decode b_Finder_setPower 134 = .ok (.invokevirtual 106, 3) := by decide +kernel
theorem d_Finder_setPower_137 : decode b_Finder_setPower 137 = .ok (.aload_n 0, 1) := by decide +kernel
theorem d_Finder_setPower_138 : decode b_Finder_setPower 138 = .ok (.dup, 1) := by decide +kernel
theorem d_Finder_setPower_139 : decode b_Finder_setPower 139 = .ok (.getfield 40, 3) := by decide +kernel
theorem d_Finder_setPower_142 : decode b_Finder_setPower 142 = .ok (.iconst 1, 1) := by decide +kernel
theorem d_Finder_setPower_143 : decode b_Finder_setPower 143 = .ok (.iadd, 1) := by decide +kernel
theorem d_Finder_setPower_144 : decode b_Finder_setPower 144 = .ok (.putfield 40, 3) := by decide +kernel
theorem d_Finder_setPower_147 : decode b_Finder_setPower 147 = .ok (.return_, 1) := by decide +kernel
theorem d_Finder_timesTen_0 : decode b_Finder_timesTen 0 = .ok (.aload_n 0, 1) := by decide +kernel
theorem d_Finder_timesTen_1 : decode b_Finder_timesTen 1 = .ok (.getfield 10, 3) := by decide +kernel
theorem d_Finder_timesTen_4 : decode b_Finder_timesTen 4 = .ok (.bipush 10, 2) := by decide +kernel
theorem d_Finder_timesTen_6 : decode b_Finder_timesTen 6 = .ok (.iconst 0, 1) := by decide +kernel
theorem d_Finder_timesTen_7 : decode b_Finder_timesTen 7 = .ok (.invokevirtual 110, 3) := by decide +kernel
theorem d_Finder_timesTen_10 : decode b_Finder_timesTen 10 = .ok (.aload_n 0, 1) := by decide +kernel
theorem d_Finder_timesTen_11 : decode b_Finder_timesTen 11 = .ok (.getfield 22, 3) := by decide +kernel
theorem d_Finder_timesTen_14 : decode b_Finder_timesTen 14 = .ok (.bipush 10, 2) := by decide +kernel
theorem d_Finder_timesTen_16 : decode b_Finder_timesTen 16 = .ok (.iconst 0, 1) := by decide +kernel
theorem d_Finder_timesTen_17 : decode b_Finder_timesTen 17 = .ok (.invokevirtual 110, 3) := by decide +kernel
theorem d_Finder_timesTen_20 : decode b_Finder_timesTen 20 = .ok (.aload_n 0, 1) := by decide +kernel
theorem d_Finder_timesTen_21 : decode b_Finder_timesTen 21 = .ok (.getfield 19, 3) := by decide +kernel
theorem d_Finder_timesTen_24 : decode b_Finder_timesTen 24 = .ok (.bipush 10, 2) := by decide +kernel
theorem d_Finder_timesTen_26 : decode b_Finder_timesTen 26 = .ok (.iconst 0, 1) := by decide +kernel
theorem d_Finder_timesTen_27 : decode b_Finder_timesTen 27 = .ok (.invokevirtual 110, 3) := by decide +kernel
theorem d_Finder_timesTen_30 : decode b_Finder_timesTen 30 = .ok (.return_, 1) := by decide +kernel
theorem d_Finder_takeDigit_0 : decode b_Finder_takeDigit 0 = .ok (.iconst 0, 1) := by decide +kernel
theorem d_Finder_takeDigit_1 : decode b_Finder_takeDigit 1 = .ok (.istore_n 1, 1) := by decide +kernel
theorem d_Finder_takeDigit_2 : decode b_Finder_takeDigit 2 = .ok (.iload_n 1, 1) := by decide +kernel
theorem d_Finder_takeDigit_3 : decode b_Finder_takeDigit 3 = .ok (.bipush 9, 2) := by decide +kernel
theorem d_Finder_takeDigit_5 : decode b_Finder_takeDigit 5 = .ok (.if_icmp .ge 34, 3) := by decide +kernel
theorem d_Finder_takeDigit_8 : decode b_Finder_takeDigit 8 = .ok (.aload_n 0, 1) := by decide +kernel
theorem d_Finder_takeDigit_9 : decode b_Finder_takeDigit 9 = .ok (.getfield 10, 3) := by decide +kernel
theorem d_Finder_takeDigit_12 : decode b_Finder_takeDigit 12 = .ok (.aload_n 0, 1) := by decide +kernel
theorem d_Finder_takeDigit_13 : decode b_Finder_takeDigit 13 = .ok (.getfield 16, 3) := by decide +kernel
theorem d_Finder_takeDigit_16 : decode b_Finder_takeDigit 16 = .ok (.invokevirtual 114, 3) := by decide +kernel
theorem d_Finder_takeDigit_19 : decode b_Finder_takeDigit 19 = .ok (.ifCond .lt 20, 3) := by decide +kernel
theorem d_Finder_takeDigit_22 : decode b_Finder_takeDigit 22 = .ok (.aload_n 0, 1) := by decide +kernel
theorem d_Finder_takeDigit_23 : decode b_Finder_takeDigit 23 = .ok (.getfield 10, 3) := by decide +kernel
theorem d_Finder_takeDigit_26 : decode b_Finder_takeDigit 26 = .ok (.aload_n 0, 1) := by decide +kernel
theorem d_Finder_takeDigit_27 : decode b_Finder_takeDigit 27 = .ok (.getfield 16, 3) := by decide +kernel
theorem d_Finder_takeDigit_30 : decode b_Finder_takeDigit 30 = .ok (.invokevirtual 118, 3) := by decide +kernel
theorem d_Finder_takeDigit_33 : decode b_Finder_takeDigit 33 = .ok (.iinc 1 1, 3) := by decide +kernel
theorem d_Finder_takeDigit_36 : decode b_Finder_takeDigit 36 = .ok (.goto (-34), 3) := by decide +kernel
theorem d_Finder_takeDigit_39 : decode b_Finder_takeDigit 39 = .ok (.iload_n 1, 1) := by decide +kernel
theorem d_Finder_takeDigit_40 : decode b_Finder_takeDigit 40 = .ok (.ireturn, 1) := by decide +kernel
theorem d_Finder_choose_0 : decode b_Finder_choose 0 = .ok (.aload_n 0, 1) := by decide +kernel
theorem d_Finder_choose_1 : decode b_Finder_choose 1 = .ok (.aload_n 0, 1) := by decide +kernel
theorem d_Finder_choose_2 : decode b_Finder_choose 2 = .ok (.getfield 10, 3) := by decide +kernel
theorem d_Finder_choose_5 : decode b_Finder_choose 5 = .ok (.aload_n 0, 1) := by decide +kernel
theorem d_Finder_choose_6 : decode b_Finder_choose 6 = .ok (.getfield 19, 3) := by decide +kernel
theorem d_Finder_choose_9 : decode b_Finder_choose 9 = .ok (.invokevirtual 114, 3) := by decide +kernel
theorem d_Finder_choose_12 : decode b_Finder_choose 12 = .ok (.invokevirtual 121, 3) := by decide +kernel
theorem d_Finder_choose_15 : decode b_Finder_choose 15 = .ok (.istore_n 1, 1) := by decide +kernel
theorem d_Finder_choose_16 : decode b_Finder_choose 16 = .ok (.aload_n 0, 1) := by decide +kernel
theorem d_Finder_choose_17 : decode b_Finder_choose 17 = .ok (.getfield 25, 3) := by decide +kernel
theorem d_Finder_choose_20 : decode b_Finder_choose 20 = .ok (.aload_n 0, 1) := by decide +kernel
theorem d_Finder_choose_21 : decode b_Finder_choose 21 = .ok (.getfield 10, 3) := by decide +kernel
theorem d_Finder_choose_24 : decode b_Finder_choose 24 = .ok (.invokevirtual 106, 3) := by decide +kernel
theorem d_Finder_choose_27 : decode b_Finder_choose 27 = .ok (.aload_n 0, 1) := by decide +kernel
theorem d_Finder_choose_28 : decode b_Finder_choose 28 = .ok (.getfield 25, 3) := by decide +kernel
theorem d_Finder_choose_31 : decode b_Finder_choose 31 = .ok (.aload_n 0, 1) := by decide +kernel
theorem d_Finder_choose_32 : decode b_Finder_choose 32 = .ok (.getfield 22, 3) := by decide +kernel
theorem d_Finder_choose_35 : decode b_Finder_choose 35 = .ok (.invokevirtual 125, 3) := by decide +kernel
theorem d_Finder_choose_38 : decode b_Finder_choose 38 = .ok (.aload_n 0, 1) := by decide +kernel
theorem d_Finder_choose_39 : decode b_Finder_choose 39 = .ok (.aload_n 0, 1) := by decide +kernel
theorem d_Finder_choose_40 : decode b_Finder_choose 40 = .ok (.getfield 16, 3) := by decide +kernel
theorem d_Finder_choose_43 : decode b_Finder_choose 43 = .ok (.aload_n 0, 1) := by decide +kernel
theorem d_Finder_choose_44 : decode b_Finder_choose 44 = .ok (.getfield 25, 3) := by decide +kernel
theorem d_Finder_choose_47 : decode b_Finder_choose 47 = .ok (.invokevirtual 114, 3) := by decide +kernel
theorem d_Finder_choose_50 : decode b_Finder_choose 50 = .ok (.invokevirtual 121, 3) := by decide +kernel
theorem d_Finder_choose_53 : decode b_Finder_choose 53 = .ok (.istore_n 2, 1) := by decide +kernel
theorem d_Finder_choose_54 : decode b_Finder_choose 54 = .ok (.aload_n 0, 1) := by decide +kernel
theorem d_Finder_choose_55 : decode b_Finder_choose 55 = .ok (.getfield 25, 3) := by decide +kernel
theorem d_Finder_choose_58 : decode b_Finder_choose 58 = .ok (.aload_n 0, 1) := by decide +kernel
theorem d_Finder_choose_59 : decode b_Finder_choose 59 = .ok (.getfield 10, 3) := by decide +kernel
theorem d_Finder_choose_62 : decode b_Finder_choose 62 = .ok (.invokevirtual 106, 3) := by decide +kernel
theorem d_Finder_choose_65 : decode b_Finder_choose 65 = .ok (.aload_n 0, 1) := by decide +kernel
theorem d_Finder_choose_66 : decode b_Finder_choose 66 = .ok (.getfield 25, 3) := by decide +kernel
theorem d_Finder_choose_69 : decode b_Finder_choose 69 = .ok (.iconst 2, 1) := by decide +kernel
theorem d_Finder_choose_70 : decode b_Finder_choose 70 = .ok (.iconst 0, 1) := by decide +kernel
theorem d_Finder_choose_71 : decode b_Finder_choose 71 = .ok (.invokevirtual 110, 3) := by decide +kernel
theorem d_Finder_choose_74 : decode b_Finder_choose 74 = .ok (.aload_n 0, 1) := by decide +kernel
theorem d_Finder_choose_75 : decode b_Finder_choose 75 = .ok (.getfield 25, 3) := by decide +kernel
theorem d_Finder_choose_78 : decode b_Finder_choose 78 = .ok (.aload_n 0, 1) := by decide +kernel
theorem d_Finder_choose_79 : decode b_Finder_choose 79 = .ok (.getfield 16, 3) := by decide +kernel
theorem d_Finder_choose_82 : decode b_Finder_choose 82 = .ok (.invokevirtual 114, 3) := by decide +kernel
theorem d_Finder_choose_85 : decode b_Finder_choose 85 = .ok (.ifCond .le 7, 3) := by decide +kernel
theorem d_Finder_choose_88 : decode b_Finder_choose 88 = .ok (.iconst 1, 1) := by decide +kernel
theorem d_Finder_choose_89 : decode b_Finder_choose 89 = .ok (.goto 4, 3) := by decide +kernel
theorem d_Finder_choose_92 : decode b_Finder_choose 92 = .ok (.iconst 0, 1) := by decide +kernel
theorem d_Finder_choose_93 : decode b_Finder_choose 93 = .ok (.istore_n 3, 1) := by decide +kernel
theorem d_Finder_choose_94 : decode b_Finder_choose 94 = .ok (.iload_n 2, 1) := by decide +kernel
theorem d_Finder_choose_95 : decode b_Finder_choose 95 = .ok (.ifCond .eq 21, 3) := by decide +kernel
end
section
theorem d_Finder_choose_98 : decode b_Finder_choose 98 = .ok (.iload_n 1, 1) := by decide +kernel
theorem d_Finder_choose_99 : decode b_Finder_choose 99 = .ok (.ifCond .eq 7, 3) := by decide +kernel
theorem d_Finder_choose_102 : decode b_Finder_choose 102 = .ok (.iload_n 3, 1) := by decide +kernel
theorem d_Finder_choose_103 : decode b_Finder_choose 103 = .ok (.ifCond .eq 13, 3) := by decide +kernel
theorem d_Finder_choose_106 : decode b_Finder_choose 106 = .ok (.aload_n 0, 1) := by decide +kernel
theorem d_Finder_choose_107 : decode b_Finder_choose 107 = .ok (.dup, 1) := by decide +kernel
theorem d_Finder_choose_108 : decode b_Finder_choose 108 = .ok (.getfield 32, 3) := by decide +kernel
theorem d_Finder_choose_111 : decode b_Finder_choose 111 = .ok (.lconst 1, 1) := by decide +kernel
theorem d_Finder_choose_112 : decode b_Finder_choose 112 = .ok (.ladd, 1) := by decide +kernel
theorem d_Finder_choose_113 : decode b_Finder_choose 113 = .ok (.putfield 32, 3) := by decide +kernel
theorem d_Finder_choose_116 : decode b_Finder_choose 116 = .ok (.iload_n 1, 1) := by decide +kernel
theorem d_Finder_choose_117 : decode b_Finder_choose 117 = .ok (.ifCond .ne 7, 3) := by decide +kernel
theorem d_Finder_choose_120 : decode b_Finder_choose 120 = .ok (.iload_n 2, 1) := by decide +kernel
theorem d_Finder_choose_121 : decode b_Finder_choose 121 = .ok (.ifCond .eq 7, 3) := by decide +kernel
theorem d_Finder_choose_124 : decode b_Finder_choose 124 = .ok (.iconst 1, 1) := by decide +kernel
theorem d_Finder_choose_125 : decode b_Finder_choose 125 = .ok (.goto 4, 3) := by decide +kernel
theorem d_Finder_choose_128 : decode b_Finder_choose 128 = .ok (.iconst 0, 1) := by decide +kernel
theorem d_Finder_choose_129 : decode b_Finder_choose 129 = .ok (.ireturn, 1) := by decide +kernel
theorem d_Finder_isWithin_0 : decode b_Finder_isWithin 0 = .ok (.iload_n 1, 1) := by decide +kernel
theorem d_Finder_isWithin_1 : decode b_Finder_isWithin 1 = .ok (.ifCond .lt 14, 3) := by decide +kernel
theorem d_Finder_isWithin_4 : decode b_Finder_isWithin 4 = .ok (.iload_n 1, 1) := by decide +kernel
theorem d_Finder_isWithin_5 : decode b_Finder_isWithin 5 = .ok (.ifCond .ne 14, 3) := by decide +kernel
theorem d_Finder_isWithin_8 : decode b_Finder_isWithin 8 = .ok (.aload_n 0, 1) := by decide +kernel
theorem d_Finder_isWithin_9 : decode b_Finder_isWithin 9 = .ok (.getfield 28, 3) := by decide +kernel
theorem d_Finder_isWithin_12 : decode b_Finder_isWithin 12 = .ok (.ifCond .eq 7, 3) := by decide +kernel
theorem d_Finder_isWithin_15 : decode b_Finder_isWithin 15 = .ok (.iconst 1, 1) := by decide +kernel
theorem d_Finder_isWithin_16 : decode b_Finder_isWithin 16 = .ok (.goto 4, 3) := by decide +kernel
theorem d_Finder_isWithin_19 : decode b_Finder_isWithin 19 = .ok (.iconst 0, 1) := by decide +kernel
theorem d_Finder_isWithin_20 : decode b_Finder_isWithin 20 = .ok (.ireturn, 1) := by decide +kernel
theorem d_Told_init_0 : decode b_Told_init 0 = .ok (.aload_n 0, 1) := by decide +kernel
theorem d_Told_init_1 : decode b_Told_init 1 = .ok (.invokespecial 1, 3) := by decide +kernel
theorem d_Told_init_4 : decode b_Told_init 4 = .ok (.aload_n 0, 1) := by decide +kernel
theorem d_Told_init_5 : decode b_Told_init 5 = .ok (.sipush 160, 3) := by decide +kernel
theorem d_Told_init_8 : decode b_Told_init 8 = .ok (.newarray .byte, 2) := by decide +kernel
theorem d_Told_init_10 : decode b_Told_init 10 = .ok (.putfield 9, 3) := by decide +kernel
theorem d_Told_init_13 : decode b_Told_init 13 = .ok (.aload_n 0, 1) := by decide +kernel
theorem d_Told_init_14 : decode b_Told_init 14 = .ok (.sipush 160, 3) := by decide +kernel
theorem d_Told_init_17 : decode b_Told_init 17 = .ok (.newarray .byte, 2) := by decide +kernel
theorem d_Told_init_19 : decode b_Told_init 19 = .ok (.putfield 13, 3) := by decide +kernel
theorem d_Told_init_22 : decode b_Told_init 22 = .ok (.aload_n 0, 1) := by decide +kernel
theorem d_Told_init_23 : decode b_Told_init 23 = .ok (.iconst 0, 1) := by decide +kernel
theorem d_Told_init_24 : decode b_Told_init 24 = .ok (.putfield 16, 3) := by decide +kernel
theorem d_Told_init_27 : decode b_Told_init 27 = .ok (.return_, 1) := by decide +kernel
theorem d_Told_at_0 : decode b_Told_at 0 = .ok (.iload_n 1, 1) := by decide +kernel
theorem d_Told_at_1 : decode b_Told_at 1 = .ok (.ifCond .lt 19, 3) := by decide +kernel
theorem d_Told_at_4 : decode b_Told_at 4 = .ok (.iload_n 1, 1) := by decide +kernel
theorem d_Told_at_5 : decode b_Told_at 5 = .ok (.sipush 160, 3) := by decide +kernel
theorem d_Told_at_8 : decode b_Told_at 8 = .ok (.if_icmp .ge 12, 3) := by decide +kernel
theorem d_Told_at_11 : decode b_Told_at 11 = .ok (.aload_n 0, 1) := by decide +kernel
theorem d_Told_at_12 : decode b_Told_at 12 = .ok (.getfield 9, 3) := by decide +kernel
theorem d_Told_at_15 : decode b_Told_at 15 = .ok (.iload_n 1, 1) := by decide +kernel
theorem d_Told_at_16 : decode b_Told_at 16 = .ok (.baload, 1) := by decide +kernel
theorem d_Told_at_17 : decode b_Told_at 17 = .ok (.goto 4, 3) := by decide +kernel
theorem d_Told_at_20 : decode b_Told_at 20 = .ok (.iconst 0, 1) := by decide +kernel
theorem d_Told_at_21 : decode b_Told_at 21 = .ok (.ireturn, 1) := by decide +kernel
theorem d_Told_start_0 : decode b_Told_start 0 = .ok (.aload_n 0, 1) := by decide +kernel
theorem d_Told_start_1 : decode b_Told_start 1 = .ok (.iconst 0, 1) := by decide +kernel
theorem d_Told_start_2 : decode b_Told_start 2 = .ok (.putfield 16, 3) := by decide +kernel
theorem d_Told_start_5 : decode b_Told_start 5 = .ok (.iload_n 1, 1) := by decide +kernel
theorem d_Told_start_6 : decode b_Told_start 6 = .ok (.ifCond .eq 9, 3) := by decide +kernel
theorem d_Told_start_9 : decode b_Told_start 9 = .ok (.aload_n 0, 1) := by decide +kernel
theorem d_Told_start_10 : decode b_Told_start 10 = .ok (.bipush 45, 2) := by decide +kernel
theorem d_Told_start_12 : decode b_Told_start 12 = .ok (.invokevirtual 20, 3) := by decide +kernel
theorem d_Told_start_15 : decode b_Told_start 15 = .ok (.return_, 1) := by decide +kernel
theorem d_Told_add_0 : decode b_Told_add 0 = .ok (.aload_n 0, 1) := by decide +kernel
theorem d_Told_add_1 : decode b_Told_add 1 = .ok (.getfield 16, 3) := by decide +kernel
theorem d_Told_add_4 : decode b_Told_add 4 = .ok (.ifCond .lt 34, 3) := by decide +kernel
theorem d_Told_add_7 : decode b_Told_add 7 = .ok (.aload_n 0, 1) := by decide +kernel
theorem d_Told_add_8 : decode b_Told_add 8 = .ok (.getfield 16, 3) := by decide +kernel
theorem d_Told_add_11 : decode b_Told_add 11 = .ok (.sipush 160, 3) := by decide +kernel
theorem d_Told_add_14 : decode b_Told_add 14 = .ok (.if_icmp .ge 24, 3) := by decide +kernel
theorem d_Told_add_17 : decode b_Told_add 17 = .ok (.aload_n 0, 1) := by decide +kernel
theorem d_Told_add_18 : decode b_Told_add 18 = .ok (.getfield 9, 3) := by decide +kernel
theorem d_Told_add_21 : decode b_Told_add 21 = .ok (.aload_n 0, 1) := by decide +kernel
theorem d_Told_add_22 : decode b_Told_add 22 = .ok (.getfield 16, 3) := by decide +kernel
theorem d_Told_add_25 : decode b_Told_add 25 = .ok (.iload_n 1, 1) := by decide +kernel
theorem d_Told_add_26 : decode b_Told_add 26 = .ok (.i2b, 1) := by decide +kernel
theorem d_Told_add_27 : decode b_Told_add 27 = .ok (.bastore, 1) := by decide +kernel
theorem d_Told_add_28 : decode b_Told_add 28 = .ok (.aload_n 0, 1) := by decide +kernel
theorem d_Told_add_29 : decode b_Told_add 29 = .ok (.dup, 1) := by decide +kernel
theorem d_Told_add_30 : decode b_Told_add 30 = .ok (.getfield 16, 3) := by decide +kernel
theorem d_Told_add_33 : decode b_Told_add 33 = .ok (.iconst 1, 1) := by decide +kernel
theorem d_Told_add_34 : decode b_Told_add 34 = .ok (.iadd, 1) := by decide +kernel
theorem d_Told_add_35 : decode b_Told_add 35 = .ok (.putfield 16, 3) := by decide +kernel
theorem d_Told_add_38 : decode b_Told_add 38 = .ok (.return_, 1) := by decide +kernel
theorem d_Told_addPower_0 : decode b_Told_addPower 0 = .ok (.aload_n 0, 1) := by decide +kernel
theorem d_Told_addPower_1 : decode b_Told_addPower 1 = .ok (.bipush 101, 2) := by decide +kernel
theorem d_Told_addPower_3 : decode b_Told_addPower 3 = .ok (.invokevirtual 20, 3) := by decide +kernel
theorem d_Told_addPower_6 : decode b_Told_addPower 6 = .ok (.iload_n 1, 1) := by decide +kernel
theorem d_Told_addPower_7 : decode b_Told_addPower 7 = .ok (.ifCond .ge 9, 3) := by decide +kernel
theorem d_Told_addPower_10 : decode b_Told_addPower 10 = .ok (.aload_n 0, 1) := by decide +kernel
theorem d_Told_addPower_11 : decode b_Told_addPower 11 = .ok (.bipush 45, 2) := by decide +kernel
theorem d_Told_addPower_13 : decode b_Told_addPower 13 = .ok (.invokevirtual 20, 3) := by decide +kernel
theorem d_Told_addPower_16 : decode b_Told_addPower 16 = .ok (.iload_n 1, 1) := by decide +kernel
theorem d_Told_addPower_17 : decode b_Told_addPower 17 = .ok (.invokestatic 24, 3) := by decide +kernel
theorem d_Told_addPower_20 : decode b_Told_addPower 20 = .ok (.istore_n 2, 1) := by decide +kernel
theorem d_Told_addPower_21 : decode b_Told_addPower 21 = .ok (.iload_n 2, 1) := by decide +kernel
theorem d_Told_addPower_22 : decode b_Told_addPower 22 = .ok (.bipush 10, 2) := by decide +kernel
theorem d_Told_addPower_24 : decode b_Told_addPower 24 = .ok (.if_icmp .lt 7, 3) := by decide +kernel
theorem d_Told_addPower_27 : decode b_Told_addPower 27 = .ok (.iconst 2, 1) := by decide +kernel
theorem d_Told_addPower_28 : decode b_Told_addPower 28 = .ok (.goto 4, 3) := by decide +kernel
theorem d_Told_addPower_31 : decode b_Told_addPower 31 = .ok (.iconst 1, 1) := by decide +kernel
theorem d_Told_addPower_32 : decode b_Told_addPower 32 = .ok (.istore_n 3, 1) := by decide +kernel
theorem d_Told_addPower_33 : decode b_Told_addPower 33 = .ok (.aload_n 0, 1) := by decide +kernel
theorem d_Told_addPower_34 : decode b_Told_addPower 34 = .ok (.iload_n 2, 1) := by decide +kernel
theorem d_Told_addPower_35 : decode b_Told_addPower 35 = .ok (.i2l, 1) := by decide +kernel
theorem d_Told_addPower_36 : decode b_Told_addPower 36 = .ok (.iload_n 3, 1) := by decide +kernel
theorem d_Told_addPower_37 : decode b_Told_addPower 37 = .ok (.iload_n 3, 1) := by decide +kernel
theorem d_Told_addPower_38 : decode b_Told_addPower 38 = .ok (.invokevirtual 30, 3) := by decide +kernel
theorem d_Told_addPower_41 : decode b_Told_addPower 41 = .ok (.return_, 1) := by decide +kernel
theorem d_Told_addDigits_0 : decode b_Told_addDigits 0 = .ok (.lload_n 1, 1) := by decide +kernel
theorem d_Told_addDigits_1 : decode b_Told_addDigits 1 = .ok (.lstore 5, 2) := by decide +kernel
theorem d_Told_addDigits_3 : decode b_Told_addDigits 3 = .ok (.iconst 0, 1) := by decide +kernel
theorem d_Told_addDigits_4 : decode b_Told_addDigits 4 = .ok (.istore 7, 2) := by decide +kernel
theorem d_Told_addDigits_6 : decode b_Told_addDigits 6 = .ok (.iload 7, 2) := by decide +kernel
theorem d_Told_addDigits_8 : decode b_Told_addDigits 8 = .ok (.iload_n 3, 1) := by decide +kernel
theorem d_Told_addDigits_9 : decode b_Told_addDigits 9 = .ok (.if_icmp .ge 44, 3) := by decide +kernel
theorem d_Told_addDigits_12 : decode b_Told_addDigits 12 = .ok (.iload 7, 2) := by decide +kernel
theorem d_Told_addDigits_14 : decode b_Told_addDigits 14 = .ok (.sipush 160, 3) := by decide +kernel
theorem d_Told_addDigits_17 : decode b_Told_addDigits 17 = .ok (.if_icmp .ge 36, 3) := by decide +kernel
theorem d_Told_addDigits_20 : decode b_Told_addDigits 20 = .ok (.aload_n 0, 1) := by decide +kernel
theorem d_Told_addDigits_21 : decode b_Told_addDigits 21 = .ok (.getfield 13, 3) := by decide +kernel
theorem d_Told_addDigits_24 : decode b_Told_addDigits 24 = .ok (.iload 7, 2) := by decide +kernel
theorem d_Told_addDigits_26 : decode b_Told_addDigits 26 = .ok (.ldc2_w 34, 3) := by decide +kernel
theorem d_Told_addDigits_29 : decode b_Told_addDigits 29 = .ok (.lload 5, 2) := by decide +kernel
theorem d_Told_addDigits_31 : decode b_Told_addDigits 31 = .ok (.ldc2_w 36, 3) := by decide +kernel
theorem d_Told_addDigits_34 : decode b_Told_addDigits 34 = .ok (.lrem, 1) := by decide +kernel
theorem d_Told_addDigits_35 : decode b_Told_addDigits 35 = .ok (.ladd, 1) := by decide +kernel
theorem d_Told_addDigits_36 : decode b_Told_addDigits 36 = .ok (.l2i, 1) := by decide +kernel
theorem d_Told_addDigits_37 : decode b_Told_addDigits 37 = .ok (.i2b, 1) := by decide +kernel
theorem d_Told_addDigits_38 : decode b_Told_addDigits 38 = .ok (.bastore, 1) := by decide +kernel
theorem d_Told_addDigits_39 : decode b_Told_addDigits 39 = .ok (.lload 5, 2) := by decide +kernel
theorem d_Told_addDigits_41 : decode b_Told_addDigits 41 = .ok (.ldc2_w 36, 3) := by decide +kernel
theorem d_Told_addDigits_44 : decode b_Told_addDigits 44 = .ok (.ldiv, 1) := by decide +kernel
theorem d_Told_addDigits_45 : decode b_Told_addDigits 45 = .ok (.lstore 5, 2) := by decide +kernel
theorem d_Told_addDigits_47 : decode b_Told_addDigits 47 = .ok (.iinc 7 1, 3) := by decide +kernel
theorem d_Told_addDigits_50 : decode b_Told_addDigits 50 = .ok (.goto (-44), 3) := by decide +kernel
theorem d_Told_addDigits_53 : decode b_Told_addDigits 53 = .ok (.aload_n 0, 1) := by decide +kernel
theorem d_Told_addDigits_54 : decode b_Told_addDigits 54 = .ok (.iload_n 3, 1) := by decide +kernel
theorem d_Told_addDigits_55 : decode b_Told_addDigits 55 = .ok (.iload_n 3, 1) := by decide +kernel
theorem d_Told_addDigits_56 : decode b_Told_addDigits 56 = .ok (.iload 4, 2) := by decide +kernel
theorem d_Told_addDigits_58 : decode b_Told_addDigits 58 = .ok (.isub, 1) := by decide +kernel
theorem d_Told_addDigits_59 : decode b_Told_addDigits 59 = .ok (.invokevirtual 38, 3) := by decide +kernel
theorem d_Told_addDigits_62 : decode b_Told_addDigits 62 = .ok (.return_, 1) := by decide +kernel
theorem d_Told_addNatural_0 : decode b_Told_addNatural 0 = .ok (.iconst 0, 1) := by decide +kernel
theorem d_Told_addNatural_1 : decode b_Told_addNatural 1 = .ok (.istore_n 3, 1) := by decide +kernel
theorem d_Told_addNatural_2 : decode b_Told_addNatural 2 = .ok (.iload_n 3, 1) := by decide +kernel
theorem d_Told_addNatural_3 : decode b_Told_addNatural 3 = .ok (.sipush 160, 3) := by decide +kernel
theorem d_Told_addNatural_6 : decode b_Told_addNatural 6 = .ok (.if_icmp .ge 69, 3) := by decide +kernel
theorem d_Told_addNatural_9 : decode b_Told_addNatural 9 = .ok (.aload_n 1, 1) := by decide +kernel
theorem d_Told_addNatural_10 : decode b_Told_addNatural 10 = .ok (.invokevirtual 42, 3) := by decide +kernel
theorem d_Told_addNatural_13 : decode b_Told_addNatural 13 = .ok (.ifCond .ne 62, 3) := by decide +kernel
theorem d_Told_addNatural_16 : decode b_Told_addNatural 16 = .ok (.aload_n 1, 1) := by decide +kernel
theorem d_Told_addNatural_17 : decode b_Told_addNatural 17 = .ok (.ldc 48, 2) := by decide +kernel
theorem d_Told_addNatural_19 : decode b_Told_addNatural 19 = .ok (.invokevirtual 49, 3) := by decide +kernel
theorem d_Told_addNatural_22 : decode b_Told_addNatural 22 = .ok (.istore 4, 2) := by decide +kernel
theorem d_Told_addNatural_24 : decode b_Told_addNatural 24 = .ok (.iconst 0, 1) := by decide +kernel
theorem d_Told_addNatural_25 : decode b_Told_addNatural 25 = .ok (.istore 5, 2) := by decide +kernel
theorem d_Told_addNatural_27 : decode b_Told_addNatural 27 = .ok (.iload 5, 2) := by decide +kernel
theorem d_Told_addNatural_29 : decode b_Told_addNatural 29 = .ok (.bipush 9, 2) := by decide +kernel
theorem d_Told_addNatural_31 : decode b_Told_addNatural 31 = .ok (.if_icmp .ge 41, 3) := by decide +kernel
theorem d_Told_addNatural_34 : decode b_Told_addNatural 34 = .ok (.iload_n 3, 1) := by decide +kernel
theorem d_Told_addNatural_35 : decode b_Told_addNatural 35 = .ok (.sipush 160, 3) := by decide +kernel
theorem d_Told_addNatural_38 : decode b_Told_addNatural 38 = .ok (.if_icmp .ge 34, 3) := by decide +kernel
theorem d_Told_addNatural_41 : decode b_Told_addNatural 41 = .ok (.aload_n 0, 1) := by decide +kernel
theorem d_Told_addNatural_42 : decode b_Told_addNatural 42 = .ok (.getfield 13, 3) := by decide +kernel
theorem d_Told_addNatural_45 : decode b_Told_addNatural 45 = .ok (.iload_n 3, 1) := by decide +kernel
theorem d_Told_addNatural_46 : decode b_Told_addNatural 46 = .ok (.bipush 48, 2) := by decide +kernel
theorem d_Told_addNatural_48 : decode b_Told_addNatural 48 = .ok (.iload 4, 2) := by decide +kernel
theorem d_Told_addNatural_50 : decode b_Told_addNatural 50 = .ok (.bipush 10, 2) := by decide +kernel
theorem d_Told_addNatural_52 : decode b_Told_addNatural 52 = .ok (.irem, 1) := by decide +kernel
theorem d_Told_addNatural_53 : decode b_Told_addNatural 53 = .ok (.iadd, 1) := by decide +kernel
theorem d_Told_addNatural_54 : decode b_Told_addNatural 54 = .ok (.i2b, 1) := by decide +kernel
theorem d_Told_addNatural_55 : decode b_Told_addNatural 55 = .ok (.bastore, 1) := by decide +kernel
theorem d_Told_addNatural_56 : decode b_Told_addNatural 56 = .ok (.iload 4, 2) := by decide +kernel
theorem d_Told_addNatural_58 : decode b_Told_addNatural 58 = .ok (.bipush 10, 2) := by decide +kernel
theorem d_Told_addNatural_60 : decode b_Told_addNatural 60 = .ok (.idiv, 1) := by decide +kernel
theorem d_Told_addNatural_61 : decode b_Told_addNatural 61 = .ok (.istore 4, 2) := by decide +kernel
theorem d_Told_addNatural_63 : decode b_Told_addNatural 63 = .ok (.iinc 3 1, 3) := by decide +kernel
theorem d_Told_addNatural_66 : decode b_Told_addNatural 66 = .ok (.iinc 5 1, 3) := by decide +kernel
theorem d_Told_addNatural_69 : decode b_Told_addNatural 69 = .ok (.goto (-42), 3) := by decide +kernel
theorem d_Told_addNatural_72 : decode b_Told_addNatural 72 = .ok (.goto (-70), 3) := by decide +kernel
theorem d_Told_addNatural_75 : decode b_Told_addNatural 75 = .ok (.iload_n 3, 1) := by decide +kernel
theorem d_Told_addNatural_76 : decode b_Told_addNatural 76 = .ok (.sipush 160, 3) := by decide +kernel
theorem d_Told_addNatural_79 : decode b_Told_addNatural 79 = .ok (.if_icmp .ge 22, 3) := by decide +kernel
theorem d_Told_addNatural_82 : decode b_Told_addNatural 82 = .ok (.iload_n 3, 1) := by decide +kernel
theorem d_Told_addNatural_83 : decode b_Told_addNatural 83 = .ok (.iload_n 2, 1) := by decide +kernel
theorem d_Told_addNatural_84 : decode b_Told_addNatural 84 = .ok (.if_icmp .gt 17, 3) := by decide +kernel
theorem d_Told_addNatural_87 : decode b_Told_addNatural 87 = .ok (.aload_n 0, 1) := by decide +kernel
theorem d_Told_addNatural_88 : decode b_Told_addNatural 88 = .ok (.getfield 13, 3) := by decide +kernel
theorem d_Told_addNatural_91 : decode b_Told_addNatural 91 = .ok (.iload_n 3, 1) := by decide +kernel
theorem d_Told_addNatural_92 : decode b_Told_addNatural 92 = .ok (.bipush 48, 2) := by decide +kernel
theorem d_Told_addNatural_94 : decode b_Told_addNatural 94 = .ok (.bastore, 1) := by decide +kernel
theorem d_Told_addNatural_95 : decode b_Told_addNatural 95 = .ok (.iinc 3 1, 3) := by decide +kernel
theorem d_Told_addNatural_98 : decode b_Told_addNatural 98 = .ok (.goto (-23), 3) := by decide +kernel
theorem d_Told_addNatural_101 : decode b_Told_addNatural 101 = .ok (.iload_n 3, 1) := by decide +kernel
theorem d_Told_addNatural_102 : decode b_Told_addNatural 102 = .ok (.iconst 1, 1) := by decide +kernel
theorem d_Told_addNatural_103 : decode b_Told_addNatural 103 = .ok (.if_icmp .le 36, 3) := by decide +kernel
theorem d_Told_addNatural_106 : decode b_Told_addNatural 106 = .ok (.iload_n 3, 1) := by decide +kernel
theorem d_Told_addNatural_107 : decode b_Told_addNatural 107 = .ok (.iload_n 2, 1) := by decide +kernel
theorem d_Told_addNatural_108 : decode b_Told_addNatural 108 = .ok (.iconst 1, 1) := by decide +kernel
theorem d_Told_addNatural_109 : decode b_Told_addNatural 109 = .ok (.iadd, 1) := by decide +kernel
theorem d_Told_addNatural_110 : decode b_Told_addNatural 110 = .ok (.if_icmp .le 29, 3) := by decide +kernel
theorem d_Told_addNatural_113 : decode b_Told_addNatural 113 = .ok (.iload_n 3, 1) := by decide +kernel
theorem d_Told_addNatural_114 : decode b_Told_addNatural 114 = .ok (.sipush 160, 3) := by decide +kernel
theorem d_Told_addNatural_117 : decode b_Told_addNatural 117 = .ok (.if_icmp .gt 22, 3) := by decide +kernel
theorem d_Told_addNatural_120 : decode b_Told_addNatural 120 = .ok (.aload_n 0, 1) := by decide +kernel
theorem d_Told_addNatural_121 : decode b_Told_addNatural 121 = .ok (.getfield 13, 3) := by decide +kernel
theorem d_Told_addNatural_124 : decode b_Told_addNatural 124 = .ok (.iload_n 3, 1) := by decide +kernel
theorem d_Told_addNatural_125 : decode b_Told_addNatural 125 = .ok (.iconst 1, 1) := by decide +kernel
theorem d_Told_addNatural_126 : decode b_Told_addNatural 126 = .ok (.isub, 1) := by decide +kernel
theorem d_Told_addNatural_127 : decode b_Told_addNatural 127 = .ok (.baload, 1) := by decide +kernel
theorem d_Told_addNatural_128 : decode b_Told_addNatural 128 = .ok (.bipush 48, 2) := by decide +kernel
theorem d_Told_addNatural_130 : decode b_Told_addNatural 130 = .ok (.if_icmp .ne 9, 3) := by decide +kernel
theorem d_Told_addNatural_133 : decode b_Told_addNatural 133 = .ok (.iinc 3 (-1), 3) := by decide +kernel
theorem d_Told_addNatural_136 : decode b_Told_addNatural 136 = .ok (.goto (-35), 3) := by decide +kernel
theorem d_Told_addNatural_139 : decode b_Told_addNatural 139 = .ok (.aload_n 0, 1) := by decide +kernel
theorem d_Told_addNatural_140 : decode b_Told_addNatural 140 = .ok (.iload_n 3, 1) := by decide +kernel
theorem d_Told_addNatural_141 : decode b_Told_addNatural 141 = .ok (.iload_n 2, 1) := by decide +kernel
theorem d_Told_addNatural_142 : decode b_Told_addNatural 142 = .ok (.invokevirtual 38, 3) := by decide +kernel
theorem d_Told_addNatural_145 : decode b_Told_addNatural 145 = .ok (.return_, 1) := by decide +kernel
theorem d_Told_addReversed_0 : decode b_Told_addReversed 0 = .ok (.iload_n 1, 1) := by decide +kernel
theorem d_Told_addReversed_1 : decode b_Told_addReversed 1 = .ok (.sipush 160, 3) := by decide +kernel
theorem d_Told_addReversed_4 : decode b_Told_addReversed 4 = .ok (.invokestatic 52, 3) := by decide +kernel
theorem d_Told_addReversed_7 : decode b_Told_addReversed 7 = .ok (.iconst 1, 1) := by decide +kernel
theorem d_Told_addReversed_8 : decode b_Told_addReversed 8 = .ok (.isub, 1) := by decide +kernel
theorem d_Told_addReversed_9 : decode b_Told_addReversed 9 = .ok (.istore_n 3, 1) := by decide +kernel
theorem d_Told_addReversed_10 : decode b_Told_addReversed 10 = .ok (.iload_n 3, 1) := by decide +kernel
theorem d_Told_addReversed_11 : decode b_Told_addReversed 11 = .ok (.ifCond .lt 34, 3) := by decide +kernel
theorem d_Told_addReversed_14 : decode b_Told_addReversed 14 = .ok (.aload_n 0, 1) := by decide +kernel
theorem d_Told_addReversed_15 : decode b_Told_addReversed 15 = .ok (.aload_n 0, 1) := by decide +kernel
theorem d_Told_addReversed_16 : decode b_Told_addReversed 16 = .ok (.getfield 13, 3) := by decide +kernel
theorem d_Told_addReversed_19 : decode b_Told_addReversed 19 = .ok (.iload_n 3, 1) := by decide +kernel
theorem d_Told_addReversed_20 : decode b_Told_addReversed 20 = .ok (.baload, 1) := by decide +kernel
theorem d_Told_addReversed_21 : decode b_Told_addReversed 21 = .ok (.invokevirtual 20, 3) := by decide +kernel
theorem d_Told_addReversed_24 : decode b_Told_addReversed 24 = .ok (.iload_n 3, 1) := by decide +kernel
theorem d_Told_addReversed_25 : decode b_Told_addReversed 25 = .ok (.iload_n 2, 1) := by decide +kernel
theorem d_Told_addReversed_26 : decode b_Told_addReversed 26 = .ok (.if_icmp .ne 13, 3) := by decide +kernel
theorem d_Told_addReversed_29 : decode b_Told_addReversed 29 = .ok (.iload_n 3, 1) := by decide +kernel
theorem d_Told_addReversed_30 : decode b_Told_addReversed 30 = .ok (.ifCond .le 9, 3) := by decide +kernel
theorem d_Told_addReversed_33 : decode b_Told_addReversed 33 = .ok (.aload_n 0, 1) := by decide +kernel
theorem d_Told_addReversed_34 : decode b_Told_addReversed 34 = .ok (.bipush 46, 2) := by decide +kernel
theorem d_Told_addReversed_36 : decode b_Told_addReversed 36 = .ok (.invokevirtual 20, 3) := by decide +kernel
theorem d_Told_addReversed_39 : decode b_Told_addReversed 39 = .ok (.iinc 3 (-1), 3) := by decide +kernel
theorem d_Told_addReversed_42 : decode b_Told_addReversed 42 = .ok (.goto (-32), 3) := by decide +kernel
theorem d_Told_addReversed_45 : decode b_Told_addReversed 45 = .ok (.return_, 1) := by decide +kernel
theorem d_Desk_init_0 : decode b_Desk_init 0 = .ok (.aload_n 0, 1) := by decide +kernel
theorem d_Desk_init_1 : decode b_Desk_init 1 = .ok (.invokespecial 1, 3) := by decide +kernel
theorem d_Desk_init_4 : decode b_Desk_init 4 = .ok (.aload_n 0, 1) := by decide +kernel
theorem d_Desk_init_5 : decode b_Desk_init 5 = .ok (.new 7, 3) := by decide +kernel
theorem d_Desk_init_8 : decode b_Desk_init 8 = .ok (.dup, 1) := by decide +kernel
theorem d_Desk_init_9 : decode b_Desk_init 9 = .ok (.invokespecial 9, 3) := by decide +kernel
theorem d_Desk_init_12 : decode b_Desk_init 12 = .ok (.putfield 10, 3) := by decide +kernel
theorem d_Desk_init_15 : decode b_Desk_init 15 = .ok (.aload_n 0, 1) := by decide +kernel
theorem d_Desk_init_16 : decode b_Desk_init 16 = .ok (.new 16, 3) := by decide +kernel
theorem d_Desk_init_19 : decode b_Desk_init 19 = .ok (.dup, 1) := by decide +kernel
theorem d_Desk_init_20 : decode b_Desk_init 20 = .ok (.invokespecial 18, 3) := by decide +kernel
theorem d_Desk_init_23 : decode b_Desk_init 23 = .ok (.putfield 19, 3) := by decide +kernel
theorem d_Desk_init_26 : decode b_Desk_init 26 = .ok (.aload_n 0, 1) := by decide +kernel
theorem d_Desk_init_27 : decode b_Desk_init 27 = .ok (.new 23, 3) := by decide +kernel
theorem d_Desk_init_30 : decode b_Desk_init 30 = .ok (.dup, 1) := by decide +kernel
theorem d_Desk_init_31 : decode b_Desk_init 31 = .ok (.invokespecial 25, 3) := by decide +kernel
theorem d_Desk_init_34 : decode b_Desk_init 34 = .ok (.putfield 26, 3) := by decide +kernel
theorem d_Desk_init_37 : decode b_Desk_init 37 = .ok (.aload_n 0, 1) := by decide +kernel
theorem d_Desk_init_38 : decode b_Desk_init 38 = .ok (.new 30, 3) := by decide +kernel
theorem d_Desk_init_41 : decode b_Desk_init 41 = .ok (.dup, 1) := by decide +kernel
theorem d_Desk_init_42 : decode b_Desk_init 42 = .ok (.invokespecial 32, 3) := by decide +kernel
theorem d_Desk_init_45 : decode b_Desk_init 45 = .ok (.putfield 33, 3) := by decide +kernel
theorem d_Desk_init_48 : decode b_Desk_init 48 = .ok (.aload_n 0, 1) := by decide +kernel
theorem d_Desk_init_49 : decode b_Desk_init 49 = .ok (.new 37, 3) := by decide +kernel
theorem d_Desk_init_52 : decode b_Desk_init 52 = .ok (.dup, 1) := by decide +kernel
theorem d_Desk_init_53 : decode b_Desk_init 53 = .ok (.invokespecial 39, 3) := by decide +kernel
theorem d_Desk_init_56 : decode b_Desk_init 56 = .ok (.putfield 40, 3) := by decide +kernel
theorem d_Desk_init_59 : decode b_Desk_init 59 = .ok (.aload_n 0, 1) := by decide +kernel
theorem d_Desk_init_60 : decode b_Desk_init 60 = .ok (.new 44, 3) := by decide +kernel
theorem d_Desk_init_63 : decode b_Desk_init 63 = .ok (.dup, 1) := by decide +kernel
theorem d_Desk_init_64 : decode b_Desk_init 64 = .ok (.invokespecial 46, 3) := by decide +kernel
theorem d_Desk_init_67 : decode b_Desk_init 67 = .ok (.putfield 47, 3) := by decide +kernel
theorem d_Desk_init_70 : decode b_Desk_init 70 = .ok (.aload_n 0, 1) := by decide +kernel
theorem d_Desk_init_71 : decode b_Desk_init 71 = .ok (.new 51, 3) := by decide +kernel
theorem d_Desk_init_74 : decode b_Desk_init 74 = .ok (.dup, 1) := by decide +kernel
theorem d_Desk_init_75 : decode b_Desk_init 75 = .ok (.invokespecial 53, 3) := by decide +kernel
theorem d_Desk_init_78 : decode b_Desk_init 78 = .ok (.putfield 54, 3) := by decide +kernel
theorem d_Desk_init_81 : decode b_Desk_init 81 = .ok (.aload_n 0, 1) := by decide +kernel
theorem d_Desk_init_82 : decode b_Desk_init 82 = .ok (.iconst 0, 1) := by decide +kernel
theorem d_Desk_init_83 : decode b_Desk_init 83 = .ok (.putfield 58, 3) := by decide +kernel
theorem d_Desk_init_86 : decode b_Desk_init 86 = .ok (.aload_n 0, 1) := by decide +kernel
theorem d_Desk_init_87 : decode b_Desk_init 87 = .ok (.iconst 0, 1) := by decide +kernel
theorem d_Desk_init_88 : decode b_Desk_init 88 = .ok (.putfield 62, 3) := by decide +kernel
theorem d_Desk_init_91 : decode b_Desk_init 91 = .ok (.return_, 1) := by decide +kernel
theorem d_Desk_format_0 : decode b_Desk_format 0 = .ok (.iload_n 1, 1) := by decide +kernel
theorem d_Desk_format_1 : decode b_Desk_format 1 = .ok (.iconst 2, 1) := by decide +kernel
theorem d_Desk_format_2 : decode b_Desk_format 2 = .ok (.if_icmp .lt 20, 3) := by decide +kernel
theorem d_Desk_format_5 : decode b_Desk_format 5 = .ok (.iload_n 1, 1) := by decide +kernel
theorem d_Desk_format_6 : decode b_Desk_format 6 = .ok (.bipush 8, 2) := by decide +kernel
theorem d_Desk_format_8 : decode b_Desk_format 8 = .ok (.if_icmp .gt 14, 3) := by decide +kernel
theorem d_Desk_format_11 : decode b_Desk_format 11 = .ok (.iload_n 2, 1) := by decide +kernel
theorem d_Desk_format_12 : decode b_Desk_format 12 = .ok (.iconst 1, 1) := by decide +kernel
theorem d_Desk_format_13 : decode b_Desk_format 13 = .ok (.if_icmp .lt 9, 3) := by decide +kernel
theorem d_Desk_format_16 : decode b_Desk_format 16 = .ok (.iload_n 2, 1) := by decide +kernel
theorem d_Desk_format_17 : decode b_Desk_format 17 = .ok (.bipush 23, 2) := by decide +kernel
theorem d_Desk_format_19 : decode b_Desk_format 19 = .ok (.if_icmp .le 5, 3) := by decide +kernel
theorem d_Desk_format_22 : decode b_Desk_format 22 = .ok (.iconst 0, 1) := by decide +kernel
theorem d_Desk_format_23 : decode b_Desk_format 23 = .ok (.ireturn, 1) := by decide +kernel
theorem d_Desk_format_24 : decode b_Desk_format 24 = .ok (.aload_n 0, 1) := by decide +kernel
theorem d_Desk_format_25 : decode b_Desk_format 25 = .ok (.getfield 10, 3) := by decide +kernel
theorem d_Desk_format_28 : decode b_Desk_format 28 = .ok (.iload_n 1, 1) := by decide +kernel
theorem d_Desk_format_29 : decode b_Desk_format 29 = .ok (.putfield 65, 3) := by decide +kernel
theorem d_Desk_format_32 : decode b_Desk_format 32 = .ok (.aload_n 0, 1) := by decide +kernel
theorem d_Desk_format_33 : decode b_Desk_format 33 = .ok (.getfield 10, 3) := by decide +kernel
theorem d_Desk_format_36 : decode b_Desk_format 36 = .ok (.iload_n 2, 1) := by decide +kernel
theorem d_Desk_format_37 : decode b_Desk_format 37 = .ok (.putfield 68, 3) := by decide +kernel
theorem d_Desk_format_40 : decode b_Desk_format 40 = .ok (.iconst 1, 1) := by decide +kernel
theorem d_Desk_format_41 : decode b_Desk_format 41 = .ok (.ireturn, 1) := by decide +kernel
theorem d_Desk_mode_0 : decode b_Desk_mode 0 = .ok (.iload_n 1, 1) := by decide +kernel
theorem d_Desk_mode_1 : decode b_Desk_mode 1 = .ok (.ifCond .lt 8, 3) := by decide +kernel
theorem d_Desk_mode_4 : decode b_Desk_mode 4 = .ok (.iload_n 1, 1) := by decide +kernel
theorem d_Desk_mode_5 : decode b_Desk_mode 5 = .ok (.iconst 4, 1) := by decide +kernel
theorem d_Desk_mode_6 : decode b_Desk_mode 6 = .ok (.if_icmp .le 5, 3) := by decide +kernel
theorem d_Desk_mode_9 : decode b_Desk_mode 9 = .ok (.iconst 0, 1) := by decide +kernel
theorem d_Desk_mode_10 : decode b_Desk_mode 10 = .ok (.ireturn, 1) := by decide +kernel
theorem d_Desk_mode_11 : decode b_Desk_mode 11 = .ok (.aload_n 0, 1) := by decide +kernel
theorem d_Desk_mode_12 : decode b_Desk_mode 12 = .ok (.iload_n 1, 1) := by decide +kernel
theorem d_Desk_mode_13 : decode b_Desk_mode 13 = .ok (.putfield 58, 3) := by decide +kernel
theorem d_Desk_mode_16 : decode b_Desk_mode 16 = .ok (.iconst 1, 1) := by decide +kernel
theorem d_Desk_mode_17 : decode b_Desk_mode 17 = .ok (.ireturn, 1) := by decide +kernel
theorem d_Desk_type_0 : decode b_Desk_type 0 = .ok (.aload_n 0, 1) := by decide +kernel
theorem d_Desk_type_1 : decode b_Desk_type 1 = .ok (.getfield 19, 3) := by decide +kernel
theorem d_Desk_type_4 : decode b_Desk_type 4 = .ok (.lload_n 1, 1) := by decide +kernel
theorem d_Desk_type_5 : decode b_Desk_type 5 = .ok (.iload_n 3, 1) := by decide +kernel
theorem d_Desk_type_6 : decode b_Desk_type 6 = .ok (.invokevirtual 71, 3) := by decide +kernel
theorem d_Desk_type_9 : decode b_Desk_type 9 = .ok (.ireturn, 1) := by decide +kernel
theorem d_Desk_read_0 : decode b_Desk_read 0 = .ok (.aload_n 0, 1) := by decide +kernel
theorem d_Desk_read_1 : decode b_Desk_read 1 = .ok (.getfield 26, 3) := by decide +kernel
theorem d_Desk_read_4 : decode b_Desk_read 4 = .ok (.aload_n 0, 1) := by decide +kernel
theorem d_Desk_read_5 : decode b_Desk_read 5 = .ok (.getfield 19, 3) := by decide +kernel
theorem d_Desk_read_8 : decode b_Desk_read 8 = .ok (.invokevirtual 75, 3) := by decide +kernel
theorem d_Desk_read_11 : decode b_Desk_read 11 = .ok (.istore_n 1, 1) := by decide +kernel
theorem d_Desk_read_12 : decode b_Desk_read 12 = .ok (.aload_n 0, 1) := by decide +kernel
theorem d_Desk_read_13 : decode b_Desk_read 13 = .ok (.getfield 19, 3) := by decide +kernel
theorem d_Desk_read_16 : decode b_Desk_read 16 = .ok (.invokevirtual 79, 3) := by decide +kernel
theorem d_Desk_read_19 : decode b_Desk_read 19 = .ok (.iload_n 1, 1) := by decide +kernel
theorem d_Desk_read_20 : decode b_Desk_read 20 = .ok (.ifCond .ne 13, 3) := by decide +kernel
theorem d_Desk_read_23 : decode b_Desk_read 23 = .ok (.new 82, 3) := by decide +kernel
theorem d_Desk_read_26 : decode b_Desk_read 26 = .ok (.dup, 1) := by decide +kernel
theorem d_Desk_read_27 : decode b_Desk_read 27 = .ok (.ldc 84, 2) := by decide +kernel
theorem d_Desk_read_29 : decode b_Desk_read 29 = .ok (.invokespecial 86, 3) := by decide +kernel
theorem d_Desk_read_32 : decode b_Desk_read 32 = .ok (.athrow, 1) := by decide +kernel
theorem d_Desk_read_33 : decode b_Desk_read 33 = .ok (.aload_n 0, 1) := by decide +kernel
theorem d_Desk_read_34 : decode b_Desk_read 34 = .ok (.getfield 33, 3) := by decide +kernel
theorem d_Desk_read_37 : decode b_Desk_read 37 = .ok (.aload_n 0, 1) := by decide +kernel
theorem d_Desk_read_38 : decode b_Desk_read 38 = .ok (.getfield 26, 3) := by decide +kernel
theorem d_Desk_read_41 : decode b_Desk_read 41 = .ok (.aload_n 0, 1) := by decide +kernel
theorem d_Desk_read_42 : decode b_Desk_read 42 = .ok (.getfield 10, 3) := by decide +kernel
theorem d_Desk_read_45 : decode b_Desk_read 45 = .ok (.aload_n 0, 1) := by decide +kernel
theorem d_Desk_read_46 : decode b_Desk_read 46 = .ok (.getfield 58, 3) := by decide +kernel
theorem d_Desk_read_49 : decode b_Desk_read 49 = .ok (.invokevirtual 89, 3) := by decide +kernel
theorem d_Desk_read_52 : decode b_Desk_read 52 = .ok (.aload_n 0, 1) := by decide +kernel
theorem d_Desk_read_53 : decode b_Desk_read 53 = .ok (.getfield 33, 3) := by decide +kernel
theorem d_Desk_read_56 : decode b_Desk_read 56 = .ok (.getfield 93, 3) := by decide +kernel
theorem d_Desk_read_59 : decode b_Desk_read 59 = .ok (.lstore_n 2, 1) := by decide +kernel
theorem d_Desk_read_60 : decode b_Desk_read 60 = .ok (.lload_n 2, 1) := by decide +kernel
theorem d_Desk_read_61 : decode b_Desk_read 61 = .ok (.aload_n 0, 1) := by decide +kernel
theorem d_Desk_read_62 : decode b_Desk_read 62 = .ok (.getfield 10, 3) := by decide +kernel
theorem d_Desk_read_65 : decode b_Desk_read 65 = .ok (.invokevirtual 97, 3) := by decide +kernel
theorem d_Desk_read_68 : decode b_Desk_read 68 = .ok (.lcmp, 1) := by decide +kernel
theorem d_Desk_read_69 : decode b_Desk_read 69 = .ok (.ifCond .lt 7, 3) := by decide +kernel
theorem d_Desk_read_72 : decode b_Desk_read 72 = .ok (.iconst 1, 1) := by decide +kernel
theorem d_Desk_read_73 : decode b_Desk_read 73 = .ok (.goto 4, 3) := by decide +kernel
theorem d_Desk_read_76 : decode b_Desk_read 76 = .ok (.iconst 0, 1) := by decide +kernel
theorem d_Desk_read_77 : decode b_Desk_read 77 = .ok (.istore 4, 2) := by decide +kernel
theorem d_Desk_read_79 : decode b_Desk_read 79 = .ok (.iload 4, 2) := by decide +kernel
theorem d_Desk_read_81 : decode b_Desk_read 81 = .ok (.ifCond .eq 15, 3) := by decide +kernel
theorem d_Desk_read_84 : decode b_Desk_read 84 = .ok (.aload_n 0, 1) := by decide +kernel
theorem d_Desk_read_85 : decode b_Desk_read 85 = .ok (.aload_n 0, 1) := by decide +kernel
theorem d_Desk_read_86 : decode b_Desk_read 86 = .ok (.getfield 26, 3) := by decide +kernel
theorem d_Desk_read_89 : decode b_Desk_read 89 = .ok (.getfield 101, 3) := by decide +kernel
theorem d_Desk_read_92 : decode b_Desk_read 92 = .ok (.invokevirtual 105, 3) := by decide +kernel
theorem d_Desk_read_95 : decode b_Desk_read 95 = .ok (.lstore_n 2, 1) := by decide +kernel
theorem d_Desk_read_96 : decode b_Desk_read 96 = .ok (.aload_n 0, 1) := by decide +kernel
theorem d_Desk_read_97 : decode b_Desk_read 97 = .ok (.iload 4, 2) := by decide +kernel
theorem d_Desk_read_99 : decode b_Desk_read 99 = .ok (.invokevirtual 109, 3) := by decide +kernel
theorem d_Desk_read_102 : decode b_Desk_read 102 = .ok (.aload_n 0, 1) := by decide +kernel
theorem d_Desk_read_103 : decode b_Desk_read 103 = .ok (.getfield 26, 3) := by decide +kernel
theorem d_Desk_read_106 : decode b_Desk_read 106 = .ok (.getfield 101, 3) := by decide +kernel
theorem d_Desk_read_109 : decode b_Desk_read 109 = .ok (.ifCond .eq 15, 3) := by decide +kernel
theorem d_Desk_read_112 : decode b_Desk_read 112 = .ok (.aload_n 0, 1) := by decide +kernel
theorem d_Desk_read_113 : decode b_Desk_read 113 = .ok (.getfield 10, 3) := by decide +kernel
theorem d_Desk_read_116 : decode b_Desk_read 116 = .ok (.invokevirtual 113, 3) := by decide +kernel
theorem d_Desk_read_119 : decode b_Desk_read 119 = .ok (.lload_n 2, 1) := by decide +kernel
theorem d_Desk_read_120 : decode b_Desk_read 120 = .ok (.ladd, 1) := by decide +kernel
theorem d_Desk_read_121 : decode b_Desk_read 121 = .ok (.goto 4, 3) := by decide +kernel
theorem d_Desk_read_124 : decode b_Desk_read 124 = .ok (.lload_n 2, 1) := by decide +kernel
theorem d_Desk_read_125 : decode b_Desk_read 125 = .ok (.lreturn, 1) := by decide +kernel
theorem d_Desk_flags_0 : decode b_Desk_flags 0 = .ok (.aload_n 0, 1) := by decide +kernel
theorem d_Desk_flags_1 : decode b_Desk_flags 1 = .ok (.getfield 62, 3) := by decide +kernel
theorem d_Desk_flags_4 : decode b_Desk_flags 4 = .ok (.ireturn, 1) := by decide +kernel
theorem d_Desk_clear_0 : decode b_Desk_clear 0 = .ok (.aload_n 0, 1) := by decide +kernel
theorem d_Desk_clear_1 : decode b_Desk_clear 1 = .ok (.getfield 62, 3) := by decide +kernel
theorem d_Desk_clear_4 : decode b_Desk_clear 4 = .ok (.iload_n 1, 1) := by decide +kernel
theorem d_Desk_clear_5 : decode b_Desk_clear 5 = .ok (.iand, 1) := by decide +kernel
theorem d_Desk_clear_6 : decode b_Desk_clear 6 = .ok (.istore_n 2, 1) := by decide +kernel
theorem d_Desk_clear_7 : decode b_Desk_clear 7 = .ok (.aload_n 0, 1) := by decide +kernel
theorem d_Desk_clear_8 : decode b_Desk_clear 8 = .ok (.aload_n 0, 1) := by decide +kernel
theorem d_Desk_clear_9 : decode b_Desk_clear 9 = .ok (.getfield 62, 3) := by decide +kernel
theorem d_Desk_clear_12 : decode b_Desk_clear 12 = .ok (.iload_n 1, 1) := by decide +kernel
theorem d_Desk_clear_13 : decode b_Desk_clear 13 = .ok (.iconst (-1), 1) := by decide +kernel
theorem d_Desk_clear_14 : decode b_Desk_clear 14 = .ok (.ixor, 1) := by decide +kernel
theorem d_Desk_clear_15 : decode b_Desk_clear 15 = .ok (.iand, 1) := by decide +kernel
theorem d_Desk_clear_16 : decode b_Desk_clear 16 = .ok (.putfield 62, 3) := by decide +kernel
theorem d_Desk_clear_19 : decode b_Desk_clear 19 = .ok (.iload_n 2, 1) := by decide +kernel
theorem d_Desk_clear_20 : decode b_Desk_clear 20 = .ok (.ireturn, 1) := by decide +kernel
theorem d_Desk_shortest_0 : decode b_Desk_shortest 0 = .ok (.aload_n 0, 1) := by decide +kernel
theorem d_Desk_shortest_1 : decode b_Desk_shortest 1 = .ok (.getfield 10, 3) := by decide +kernel
theorem d_Desk_shortest_4 : decode b_Desk_shortest 4 = .ok (.lload_n 1, 1) := by decide +kernel
theorem d_Desk_shortest_5 : decode b_Desk_shortest 5 = .ok (.invokevirtual 116, 3) := by decide +kernel
theorem d_Desk_shortest_8 : decode b_Desk_shortest 8 = .ok (.ifCond .ne 13, 3) := by decide +kernel
theorem d_Desk_shortest_11 : decode b_Desk_shortest 11 = .ok (.new 82, 3) := by decide +kernel
theorem d_Desk_shortest_14 : decode b_Desk_shortest 14 = .ok (.dup, 1) := by decide +kernel
theorem d_Desk_shortest_15 : decode b_Desk_shortest 15 = .ok (.ldc 120, 2) := by decide +kernel
theorem d_Desk_shortest_17 : decode b_Desk_shortest 17 = .ok (.invokespecial 86, 3) := by decide +kernel
theorem d_Desk_shortest_20 : decode b_Desk_shortest 20 = .ok (.athrow, 1) := by decide +kernel
theorem d_Desk_shortest_21 : decode b_Desk_shortest 21 = .ok (.aload_n 0, 1) := by decide +kernel
theorem d_Desk_shortest_22 : decode b_Desk_shortest 22 = .ok (.lload_n 1, 1) := by decide +kernel
theorem d_Desk_shortest_23 : decode b_Desk_shortest 23 = .ok (.invokevirtual 122, 3) := by decide +kernel
theorem d_Desk_shortest_26 : decode b_Desk_shortest 26 = .ok (.ifCond .ne 8, 3) := by decide +kernel
theorem d_Desk_shortest_29 : decode b_Desk_shortest 29 = .ok (.aload_n 0, 1) := by decide +kernel
theorem d_Desk_shortest_30 : decode b_Desk_shortest 30 = .ok (.lload_n 1, 1) := by decide +kernel
theorem d_Desk_shortest_31 : decode b_Desk_shortest 31 = .ok (.invokevirtual 125, 3) := by decide +kernel
theorem d_Desk_shortest_34 : decode b_Desk_shortest 34 = .ok (.aload_n 0, 1) := by decide +kernel
theorem d_Desk_shortest_35 : decode b_Desk_shortest 35 = .ok (.getfield 54, 3) := by decide +kernel
theorem d_Desk_shortest_38 : decode b_Desk_shortest 38 = .ok (.getfield 129, 3) := by decide +kernel
theorem d_Desk_shortest_41 : decode b_Desk_shortest 41 = .ok (.ireturn, 1) := by decide +kernel
theorem d_Desk_exact_0 : decode b_Desk_exact 0 = .ok (.aload_n 0, 1) := by decide +kernel
theorem d_Desk_exact_1 : decode b_Desk_exact 1 = .ok (.getfield 10, 3) := by decide +kernel
theorem d_Desk_exact_4 : decode b_Desk_exact 4 = .ok (.lload_n 1, 1) := by decide +kernel
theorem d_Desk_exact_5 : decode b_Desk_exact 5 = .ok (.invokevirtual 116, 3) := by decide +kernel
theorem d_Desk_exact_8 : decode b_Desk_exact 8 = .ok (.ifCond .ne 13, 3) := by decide +kernel
theorem d_Desk_exact_11 : decode b_Desk_exact 11 = .ok (.new 82, 3) := by decide +kernel
theorem d_Desk_exact_14 : decode b_Desk_exact 14 = .ok (.dup, 1) := by decide +kernel
theorem d_Desk_exact_15 : decode b_Desk_exact 15 = .ok (.ldc 120, 2) := by decide +kernel
theorem d_Desk_exact_17 : decode b_Desk_exact 17 = .ok (.invokespecial 86, 3) := by decide +kernel
theorem d_Desk_exact_20 : decode b_Desk_exact 20 = .ok (.athrow, 1) := by decide +kernel
theorem d_Desk_exact_21 : decode b_Desk_exact 21 = .ok (.aload_n 0, 1) := by decide +kernel
theorem d_Desk_exact_22 : decode b_Desk_exact 22 = .ok (.lload_n 1, 1) := by decide +kernel
theorem d_Desk_exact_23 : decode b_Desk_exact 23 = .ok (.invokevirtual 122, 3) := by decide +kernel
theorem d_Desk_exact_26 : decode b_Desk_exact 26 = .ok (.ifCond .ne 8, 3) := by decide +kernel
theorem d_Desk_exact_29 : decode b_Desk_exact 29 = .ok (.aload_n 0, 1) := by decide +kernel
theorem d_Desk_exact_30 : decode b_Desk_exact 30 = .ok (.lload_n 1, 1) := by decide +kernel
theorem d_Desk_exact_31 : decode b_Desk_exact 31 = .ok (.invokevirtual 132, 3) := by decide +kernel
theorem d_Desk_exact_34 : decode b_Desk_exact 34 = .ok (.aload_n 0, 1) := by decide +kernel
theorem d_Desk_exact_35 : decode b_Desk_exact 35 = .ok (.getfield 54, 3) := by decide +kernel
theorem d_Desk_exact_38 : decode b_Desk_exact 38 = .ok (.getfield 129, 3) := by decide +kernel
theorem d_Desk_exact_41 : decode b_Desk_exact 41 = .ok (.ireturn, 1) := by decide +kernel
theorem d_Desk_letter_0 : decode b_Desk_letter 0 = .ok (.iload_n 1, 1) := by decide +kernel
theorem d_Desk_letter_1 : decode b_Desk_letter 1 = .ok (.ifCond .lt 14, 3) := by decide +kernel
theorem d_Desk_letter_4 : decode b_Desk_letter 4 = .ok (.iload_n 1, 1) := by decide +kernel
theorem d_Desk_letter_5 : decode b_Desk_letter 5 = .ok (.aload_n 0, 1) := by decide +kernel
theorem d_Desk_letter_6 : decode b_Desk_letter 6 = .ok (.getfield 54, 3) := by decide +kernel
theorem d_Desk_letter_9 : decode b_Desk_letter 9 = .ok (.getfield 129, 3) := by decide +kernel
theorem d_Desk_letter_12 : decode b_Desk_letter 12 = .ok (.if_icmp .lt 13, 3) := by decide +kernel
theorem d_Desk_letter_15 : decode b_Desk_letter 15 = .ok (.new 135, 3) := by decide +kernel
theorem d_Desk_letter_18 : decode b_Desk_letter 18 = .ok (.dup, 1) := by decide +kernel
theorem d_Desk_letter_19 : decode b_Desk_letter 19 = .ok (.ldc 137, 2) := by decide +kernel
theorem d_Desk_letter_21 : decode b_Desk_letter 21 = .ok (.invokespecial 139, 3) := by decide +kernel
theorem d_Desk_letter_24 : decode b_Desk_letter 24 = .ok (.athrow, 1) := by decide +kernel
theorem d_Desk_letter_25 : decode b_Desk_letter 25 = .ok (.aload_n 0, 1) := by decide +kernel
theorem d_Desk_letter_26 : decode b_Desk_letter 26 = .ok (.getfield 54, 3) := by decide +kernel
theorem d_Desk_letter_29 : decode b_Desk_letter 29 = .ok (.iload_n 1, 1) := by decide +kernel
theorem d_Desk_letter_30 : decode b_Desk_letter 30 = .ok (.invokevirtual 140, 3) := by decide +kernel
theorem d_Desk_letter_33 : decode b_Desk_letter 33 = .ok (.ireturn, 1) := by decide +kernel
theorem d_Desk_next_0 : decode b_Desk_next 0 = .ok (.aload_n 0, 1) := by decide +kernel
theorem d_Desk_next_1 : decode b_Desk_next 1 = .ok (.getfield 10, 3) := by decide +kernel
theorem d_Desk_next_4 : decode b_Desk_next 4 = .ok (.lload_n 1, 1) := by decide +kernel
theorem d_Desk_next_5 : decode b_Desk_next 5 = .ok (.invokevirtual 116, 3) := by decide +kernel
theorem d_Desk_next_8 : decode b_Desk_next 8 = .ok (.ifCond .eq 22, 3) := by decide +kernel
theorem d_Desk_next_11 : decode b_Desk_next 11 = .ok (.aload_n 0, 1) := by decide +kernel
theorem d_Desk_next_12 : decode b_Desk_next 12 = .ok (.getfield 10, 3) := by decide +kernel
theorem d_Desk_next_15 : decode b_Desk_next 15 = .ok (.lload_n 1, 1) := by decide +kernel
theorem d_Desk_next_16 : decode b_Desk_next 16 = .ok (.invokevirtual 144, 3) := by decide +kernel
theorem d_Desk_next_19 : decode b_Desk_next 19 = .ok (.aload_n 0, 1) := by decide +kernel
theorem d_Desk_next_20 : decode b_Desk_next 20 = .ok (.getfield 10, 3) := by decide +kernel
theorem d_Desk_next_23 : decode b_Desk_next 23 = .ok (.invokevirtual 97, 3) := by decide +kernel
theorem d_Desk_next_26 : decode b_Desk_next 26 = .ok (.lcmp, 1) := by decide +kernel
theorem d_Desk_next_27 : decode b_Desk_next 27 = .ok (.ifCond .lt 7, 3) := by decide +kernel
theorem d_Desk_next_30 : decode b_Desk_next 30 = .ok (.ldc2_w 148, 3) := by decide +kernel
theorem d_Desk_next_33 : decode b_Desk_next 33 = .ok (.lreturn, 1) := by decide +kernel
theorem d_Desk_next_34 : decode b_Desk_next 34 = .ok (.aload_n 0, 1) := by decide +kernel
theorem d_Desk_next_35 : decode b_Desk_next 35 = .ok (.getfield 10, 3) := by decide +kernel
theorem d_Desk_next_38 : decode b_Desk_next 38 = .ok (.lload_n 1, 1) := by decide +kernel
theorem d_Desk_next_39 : decode b_Desk_next 39 = .ok (.invokevirtual 144, 3) := by decide +kernel
theorem d_Desk_next_42 : decode b_Desk_next 42 = .ok (.lconst 0, 1) := by decide +kernel
theorem d_Desk_next_43 : decode b_Desk_next 43 = .ok (.lcmp, 1) := by decide +kernel
theorem d_Desk_next_44 : decode b_Desk_next 44 = .ok (.ifCond .ne 21, 3) := by decide +kernel
theorem d_Desk_next_47 : decode b_Desk_next 47 = .ok (.iload_n 3, 1) := by decide +kernel
theorem d_Desk_next_48 : decode b_Desk_next 48 = .ok (.ifCond .eq 7, 3) := by decide +kernel
theorem d_Desk_next_51 : decode b_Desk_next 51 = .ok (.lconst 1, 1) := by decide +kernel
theorem d_Desk_next_52 : decode b_Desk_next 52 = .ok (.goto 12, 3) := by decide +kernel
theorem d_Desk_next_55 : decode b_Desk_next 55 = .ok (.aload_n 0, 1) := by decide +kernel
theorem d_Desk_next_56 : decode b_Desk_next 56 = .ok (.getfield 10, 3) := by decide +kernel
theorem d_Desk_next_59 : decode b_Desk_next 59 = .ok (.invokevirtual 113, 3) := by decide +kernel
theorem d_Desk_next_62 : decode b_Desk_next 62 = .ok (.lconst 1, 1) := by decide +kernel
theorem d_Desk_next_63 : decode b_Desk_next 63 = .ok (.ladd, 1) := by decide +kernel
theorem d_Desk_next_64 : decode b_Desk_next 64 = .ok (.lreturn, 1) := by decide +kernel
theorem d_Desk_next_65 : decode b_Desk_next 65 = .ok (.iload_n 3, 1) := by decide +kernel
theorem d_Desk_next_66 : decode b_Desk_next 66 = .ok (.aload_n 0, 1) := by decide +kernel
theorem d_Desk_next_67 : decode b_Desk_next 67 = .ok (.getfield 10, 3) := by decide +kernel
theorem d_Desk_next_70 : decode b_Desk_next 70 = .ok (.lload_n 1, 1) := by decide +kernel
theorem d_Desk_next_71 : decode b_Desk_next 71 = .ok (.invokevirtual 150, 3) := by decide +kernel
theorem d_Desk_next_74 : decode b_Desk_next 74 = .ok (.if_icmp .eq 7, 3) := by decide +kernel
theorem d_Desk_next_77 : decode b_Desk_next 77 = .ok (.iconst 1, 1) := by decide +kernel
theorem d_Desk_next_78 : decode b_Desk_next 78 = .ok (.goto 4, 3) := by decide +kernel
theorem d_Desk_next_81 : decode b_Desk_next 81 = .ok (.iconst 0, 1) := by decide +kernel
theorem d_Desk_next_82 : decode b_Desk_next 82 = .ok (.istore 4, 2) := by decide +kernel
theorem d_Desk_next_84 : decode b_Desk_next 84 = .ok (.iload 4, 2) := by decide +kernel
theorem d_Desk_next_86 : decode b_Desk_next 86 = .ok (.ifCond .eq 9, 3) := by decide +kernel
theorem d_Desk_next_89 : decode b_Desk_next 89 = .ok (.lload_n 1, 1) := by decide +kernel
theorem d_Desk_next_90 : decode b_Desk_next 90 = .ok (.lconst 1, 1) := by decide +kernel
theorem d_Desk_next_91 : decode b_Desk_next 91 = .ok (.ladd, 1) := by decide +kernel
theorem d_Desk_next_92 : decode b_Desk_next 92 = .ok (.goto 6, 3) := by decide +kernel
theorem d_Desk_next_95 : decode b_Desk_next 95 = .ok (.lload_n 1, 1) := by decide +kernel
theorem d_Desk_next_96 : decode b_Desk_next 96 = .ok (.lconst 1, 1) := by decide +kernel
theorem d_Desk_next_97 : decode b_Desk_next 97 = .ok (.lsub, 1) := by decide +kernel
theorem d_Desk_next_98 : decode b_Desk_next 98 = .ok (.lreturn, 1) := by decide +kernel
theorem d_Desk_sizeByOverflow_0 : decode b_Desk_sizeByOverflow 0 = .ok (.aload_n 0, 1) := by decide +kernel
theorem d_Desk_sizeByOverflow_1 : decode b_Desk_sizeByOverflow 1 = .ok (.getfield 58, 3) := by decide +kernel
theorem d_Desk_sizeByOverflow_4 : decode b_Desk_sizeByOverflow 4 = .ok (.iconst 1, 1) := by decide +kernel
theorem d_Desk_sizeByOverflow_5 : decode b_Desk_sizeByOverflow 5 = .ok (.if_icmp .eq 27, 3) := by decide +kernel
theorem d_Desk_sizeByOverflow_8 : decode b_Desk_sizeByOverflow 8 = .ok (.aload_n 0, 1) := by decide +kernel
theorem d_Desk_sizeByOverflow_9 : decode b_Desk_sizeByOverflow 9 = .ok (.getfield 58, 3) := by decide +kernel
theorem d_Desk_sizeByOverflow_12 : decode b_Desk_sizeByOverflow 12 = .ok (.iconst 2, 1) := by decide +kernel
theorem d_Desk_sizeByOverflow_13 : decode b_Desk_sizeByOverflow 13 = .ok (.if_icmp .ne 7, 3) := by decide +kernel
theorem d_Desk_sizeByOverflow_16 : decode b_Desk_sizeByOverflow 16 = .ok (.iload_n 1, 1) := by decide +kernel
theorem d_Desk_sizeByOverflow_17 : decode b_Desk_sizeByOverflow 17 = .ok (.ifCond .ne 15, 3) := by decide +kernel
theorem d_Desk_sizeByOverflow_20 : decode b_Desk_sizeByOverflow 20 = .ok (.aload_n 0, 1) := by decide +kernel
theorem d_Desk_sizeByOverflow_21 : decode b_Desk_sizeByOverflow 21 = .ok (.getfield 58, 3) := by decide +kernel
theorem d_Desk_sizeByOverflow_24 : decode b_Desk_sizeByOverflow 24 = .ok (.iconst 3, 1) := by decide +kernel
theorem d_Desk_sizeByOverflow_25 : decode b_Desk_sizeByOverflow 25 = .ok (.if_icmp .ne 11, 3) := by decide +kernel
theorem d_Desk_sizeByOverflow_28 : decode b_Desk_sizeByOverflow 28 = .ok (.iload_n 1, 1) := by decide +kernel
theorem d_Desk_sizeByOverflow_29 : decode b_Desk_sizeByOverflow 29 = .ok (.ifCond .ne 7, 3) := by decide +kernel
theorem d_Desk_sizeByOverflow_32 : decode b_Desk_sizeByOverflow 32 = .ok (.iconst 1, 1) := by decide +kernel
theorem d_Desk_sizeByOverflow_33 : decode b_Desk_sizeByOverflow 33 = .ok (.goto 4, 3) := by decide +kernel
theorem d_Desk_sizeByOverflow_36 : decode b_Desk_sizeByOverflow 36 = .ok (.iconst 0, 1) := by decide +kernel
theorem d_Desk_sizeByOverflow_37 : decode b_Desk_sizeByOverflow 37 = .ok (.istore_n 2, 1) := by decide +kernel
theorem d_Desk_sizeByOverflow_38 : decode b_Desk_sizeByOverflow 38 = .ok (.iload_n 2, 1) := by decide +kernel
theorem d_Desk_sizeByOverflow_39 : decode b_Desk_sizeByOverflow 39 = .ok (.ifCond .eq 15, 3) := by decide +kernel
theorem d_Desk_sizeByOverflow_42 : decode b_Desk_sizeByOverflow 42 = .ok (.aload_n 0, 1) := by decide +kernel
theorem d_Desk_sizeByOverflow_43 : decode b_Desk_sizeByOverflow 43 = .ok (.getfield 10, 3) := by decide +kernel
theorem d_Desk_sizeByOverflow_46 : decode b_Desk_sizeByOverflow 46 = .ok (.invokevirtual 97, 3) := by decide +kernel
theorem d_Desk_sizeByOverflow_49 : decode b_Desk_sizeByOverflow 49 = .ok (.lconst 1, 1) := by decide +kernel
theorem d_Desk_sizeByOverflow_50 : decode b_Desk_sizeByOverflow 50 = .ok (.lsub, 1) := by decide +kernel
theorem d_Desk_sizeByOverflow_51 : decode b_Desk_sizeByOverflow 51 = .ok (.goto 10, 3) := by decide +kernel
theorem d_Desk_sizeByOverflow_54 : decode b_Desk_sizeByOverflow 54 = .ok (.aload_n 0, 1) := by decide +kernel
theorem d_Desk_sizeByOverflow_55 : decode b_Desk_sizeByOverflow 55 = .ok (.getfield 10, 3) := by decide +kernel
theorem d_Desk_sizeByOverflow_58 : decode b_Desk_sizeByOverflow 58 = .ok (.invokevirtual 97, 3) := by decide +kernel
theorem d_Desk_sizeByOverflow_61 : decode b_Desk_sizeByOverflow 61 = .ok (.lreturn, 1) := by decide +kernel
theorem d_Desk_raiseFlags_0 : decode b_Desk_raiseFlags 0 = .ok (.iload_n 1, 1) := by decide +kernel
theorem d_Desk_raiseFlags_1 : decode b_Desk_raiseFlags 1 = .ok (.ifCond .eq 15, 3) := by decide +kernel
theorem d_Desk_raiseFlags_4 : decode b_Desk_raiseFlags 4 = .ok (.aload_n 0, 1) := by decide +kernel
theorem d_Desk_raiseFlags_5 : decode b_Desk_raiseFlags 5 = .ok (.aload_n 0, 1) := by decide +kernel
theorem d_Desk_raiseFlags_6 : decode b_Desk_raiseFlags 6 = .ok (.getfield 62, 3) := by decide +kernel
theorem d_Desk_raiseFlags_9 : decode b_Desk_raiseFlags 9 = .ok (.iconst 1, 1) := by decide +kernel
theorem d_Desk_raiseFlags_10 : decode b_Desk_raiseFlags 10 = .ok (.ior, 1) := by decide +kernel
theorem d_Desk_raiseFlags_11 : decode b_Desk_raiseFlags 11 = .ok (.iconst 2, 1) := by decide +kernel
theorem d_Desk_raiseFlags_12 : decode b_Desk_raiseFlags 12 = .ok (.ior, 1) := by decide +kernel
theorem d_Desk_raiseFlags_13 : decode b_Desk_raiseFlags 13 = .ok (.putfield 62, 3) := by decide +kernel
theorem d_Desk_raiseFlags_16 : decode b_Desk_raiseFlags 16 = .ok (.aload_n 0, 1) := by decide +kernel
theorem d_Desk_raiseFlags_17 : decode b_Desk_raiseFlags 17 = .ok (.getfield 33, 3) := by decide +kernel
theorem d_Desk_raiseFlags_20 : decode b_Desk_raiseFlags 20 = .ok (.getfield 153, 3) := by decide +kernel
theorem d_Desk_raiseFlags_23 : decode b_Desk_raiseFlags 23 = .ok (.ifCond .eq 33, 3) := by decide +kernel
theorem d_Desk_raiseFlags_26 : decode b_Desk_raiseFlags 26 = .ok (.aload_n 0, 1) := by decide +kernel
theorem d_Desk_raiseFlags_27 : decode b_Desk_raiseFlags 27 = .ok (.aload_n 0, 1) := by decide +kernel
theorem d_Desk_raiseFlags_28 : decode b_Desk_raiseFlags 28 = .ok (.getfield 62, 3) := by decide +kernel
theorem d_Desk_raiseFlags_31 : decode b_Desk_raiseFlags 31 = .ok (.iconst 1, 1) := by decide +kernel
theorem d_Desk_raiseFlags_32 : decode b_Desk_raiseFlags 32 = .ok (.ior, 1) := by decide +kernel
theorem d_Desk_raiseFlags_33 : decode b_Desk_raiseFlags 33 = .ok (.putfield 62, 3) := by decide +kernel
theorem d_Desk_raiseFlags_36 : decode b_Desk_raiseFlags 36 = .ok (.aload_n 0, 1) := by decide +kernel
theorem d_Desk_raiseFlags_37 : decode b_Desk_raiseFlags 37 = .ok (.getfield 33, 3) := by decide +kernel
theorem d_Desk_raiseFlags_40 : decode b_Desk_raiseFlags 40 = .ok (.getfield 156, 3) := by decide +kernel
theorem d_Desk_raiseFlags_43 : decode b_Desk_raiseFlags 43 = .ok (.ifCond .eq 13, 3) := by decide +kernel
theorem d_Desk_raiseFlags_46 : decode b_Desk_raiseFlags 46 = .ok (.aload_n 0, 1) := by decide +kernel
theorem d_Desk_raiseFlags_47 : decode b_Desk_raiseFlags 47 = .ok (.aload_n 0, 1) := by decide +kernel
theorem d_Desk_raiseFlags_48 : decode b_Desk_raiseFlags 48 = .ok (.getfield 62, 3) := by decide +kernel
theorem d_Desk_raiseFlags_51 : decode b_Desk_raiseFlags 51 = .ok (.iconst 4, 1) := by decide +kernel
theorem d_Desk_raiseFlags_52 : decode b_Desk_raiseFlags 52 = .ok (.ior, 1) := by decide +kernel
theorem d_Desk_raiseFlags_53 : decode b_Desk_raiseFlags 53 = .ok (.putfield 62, 3) := by decide +kernel
theorem d_Desk_raiseFlags_56 : decode b_Desk_raiseFlags 56 = .ok (.return_, 1) := by decide +kernel
theorem d_Desk_tellNotFinite_0 : decode b_Desk_tellNotFinite 0 = .ok (.aload_n 0, 1) := by decide +kernel
theorem d_Desk_tellNotFinite_1 : decode b_Desk_tellNotFinite 1 = .ok (.getfield 10, 3) := by decide +kernel
theorem d_Desk_tellNotFinite_4 : decode b_Desk_tellNotFinite 4 = .ok (.lload_n 1, 1) := by decide +kernel
theorem d_Desk_tellNotFinite_5 : decode b_Desk_tellNotFinite 5 = .ok (.invokevirtual 144, 3) := by decide +kernel
theorem d_Desk_tellNotFinite_8 : decode b_Desk_tellNotFinite 8 = .ok (.lstore_n 3, 1) := by decide +kernel
theorem d_Desk_tellNotFinite_9 : decode b_Desk_tellNotFinite 9 = .ok (.lload_n 3, 1) := by decide +kernel
theorem d_Desk_tellNotFinite_10 : decode b_Desk_tellNotFinite 10 = .ok (.aload_n 0, 1) := by decide +kernel
theorem d_Desk_tellNotFinite_11 : decode b_Desk_tellNotFinite 11 = .ok (.getfield 10, 3) := by decide +kernel
theorem d_Desk_tellNotFinite_14 : decode b_Desk_tellNotFinite 14 = .ok (.invokevirtual 97, 3) := by decide +kernel
theorem d_Desk_tellNotFinite_17 : decode b_Desk_tellNotFinite 17 = .ok (.lcmp, 1) := by decide +kernel
theorem d_Desk_tellNotFinite_18 : decode b_Desk_tellNotFinite 18 = .ok (.ifCond .ge 5, 3) := by decide +kernel
theorem d_Desk_tellNotFinite_21 : decode b_Desk_tellNotFinite 21 = .ok (.iconst 0, 1) := by decide +kernel
theorem d_Desk_tellNotFinite_22 : decode b_Desk_tellNotFinite 22 = .ok (.ireturn, 1) := by decide +kernel
theorem d_Desk_tellNotFinite_23 : decode b_Desk_tellNotFinite 23 = .ok (.aload_n 0, 1) := by decide +kernel
theorem d_Desk_tellNotFinite_24 : decode b_Desk_tellNotFinite 24 = .ok (.getfield 54, 3) := by decide +kernel
theorem d_Desk_tellNotFinite_27 : decode b_Desk_tellNotFinite 27 = .ok (.lload_n 3, 1) := by decide +kernel
theorem d_Desk_tellNotFinite_28 : decode b_Desk_tellNotFinite 28 = .ok (.aload_n 0, 1) := by decide +kernel
theorem d_Desk_tellNotFinite_29 : decode b_Desk_tellNotFinite 29 = .ok (.getfield 10, 3) := by decide +kernel
theorem d_Desk_tellNotFinite_32 : decode b_Desk_tellNotFinite 32 = .ok (.invokevirtual 97, 3) := by decide +kernel
theorem d_Desk_tellNotFinite_35 : decode b_Desk_tellNotFinite 35 = .ok (.lcmp, 1) := by decide +kernel
theorem d_Desk_tellNotFinite_36 : decode b_Desk_tellNotFinite 36 = .ok (.ifCond .ne 18, 3) := by decide +kernel
theorem d_Desk_tellNotFinite_39 : decode b_Desk_tellNotFinite 39 = .ok (.aload_n 0, 1) := by decide +kernel
theorem d_Desk_tellNotFinite_40 : decode b_Desk_tellNotFinite 40 = .ok (.getfield 10, 3) := by decide +kernel
theorem d_Desk_tellNotFinite_43 : decode b_Desk_tellNotFinite 43 = .ok (.lload_n 1, 1) := by decide +kernel
theorem d_Desk_tellNotFinite_44 : decode b_Desk_tellNotFinite 44 = .ok (.invokevirtual 150, 3) := by decide +kernel
theorem d_Desk_tellNotFinite_47 : decode b_Desk_tellNotFinite 47 = .ok (.ifCond .eq 7, 3) := by decide +kernel
theorem d_Desk_tellNotFinite_50 : decode b_Desk_tellNotFinite 50 = .ok (.iconst 1, 1) := by decide +kernel
theorem d_Desk_tellNotFinite_51 : decode b_Desk_tellNotFinite 51 = .ok (.goto 4, 3) := by decide +kernel
theorem d_Desk_tellNotFinite_54 : decode b_Desk_tellNotFinite 54 = .ok (.iconst 0, 1) := by decide +kernel
theorem d_Desk_tellNotFinite_55 : decode b_Desk_tellNotFinite 55 = .ok (.invokevirtual 159, 3) := by decide +kernel
theorem d_Desk_tellNotFinite_58 : decode b_Desk_tellNotFinite 58 = .ok (.lload_n 3, 1) := by decide +kernel
theorem d_Desk_tellNotFinite_59 : decode b_Desk_tellNotFinite 59 = .ok (.aload_n 0, 1) := by decide +kernel
theorem d_Desk_tellNotFinite_60 : decode b_Desk_tellNotFinite 60 = .ok (.getfield 10, 3) := by decide +kernel
theorem d_Desk_tellNotFinite_63 : decode b_Desk_tellNotFinite 63 = .ok (.invokevirtual 97, 3) := by decide +kernel
theorem d_Desk_tellNotFinite_66 : decode b_Desk_tellNotFinite 66 = .ok (.lcmp, 1) := by decide +kernel
theorem d_Desk_tellNotFinite_67 : decode b_Desk_tellNotFinite 67 = .ok (.ifCond .ne 33, 3) := by decide +kernel
theorem d_Desk_tellNotFinite_70 : decode b_Desk_tellNotFinite 70 = .ok (.aload_n 0, 1) := by decide +kernel
theorem d_Desk_tellNotFinite_71 : decode b_Desk_tellNotFinite 71 = .ok (.getfield 54, 3) := by decide +kernel
theorem d_Desk_tellNotFinite_74 : decode b_Desk_tellNotFinite 74 = .ok (.bipush 105, 2) := by decide +kernel
theorem d_Desk_tellNotFinite_76 : decode b_Desk_tellNotFinite 76 = .ok (.invokevirtual 162, 3) := by decide +kernel
theorem d_Desk_tellNotFinite_79 : decode b_Desk_tellNotFinite 79 = .ok (.aload_n 0, 1) := by decide +kernel
theorem d_Desk_tellNotFinite_80 : decode b_Desk_tellNotFinite 80 = .ok (.getfield 54, 3) := by decide +kernel
theorem d_Desk_tellNotFinite_83 : decode b_Desk_tellNotFinite 83 = .ok (.bipush 110, 2) := by decide +kernel
theorem d_Desk_tellNotFinite_85 : decode b_Desk_tellNotFinite 85 = .ok (.invokevirtual 162, 3) := by decide +kernel
theorem d_Desk_tellNotFinite_88 : decode b_Desk_tellNotFinite 88 = .ok (.aload_n 0, 1) := by decide +kernel
theorem d_Desk_tellNotFinite_89 : decode b_Desk_tellNotFinite 89 = .ok (.getfield 54, 3) := by decide +kernel
theorem d_Desk_tellNotFinite_92 : decode b_Desk_tellNotFinite 92 = .ok (.bipush 102, 2) := by decide +kernel
theorem d_Desk_tellNotFinite_94 : decode b_Desk_tellNotFinite 94 = .ok (.invokevirtual 162, 3) := by decide +kernel
theorem d_Desk_tellNotFinite_97 : decode b_Desk_tellNotFinite 97 = .ok (.goto 30, 3) := by decide +kernel
theorem d_Desk_tellNotFinite_100 : decode b_Desk_tellNotFinite 100 = .ok (.aload_n 0, 1) := by decide +kernel
theorem d_Desk_tellNotFinite_101 : decode b_Desk_tellNotFinite 101 = .ok (.getfield 54, 3) := by decide +kernel
theorem d_Desk_tellNotFinite_104 : decode b_Desk_tellNotFinite 104 = .ok (.bipush 110, 2) := by decide +kernel
theorem d_Desk_tellNotFinite_106 : decode b_Desk_tellNotFinite 106 = .ok (.invokevirtual 162, 3) := by decide +kernel
theorem d_Desk_tellNotFinite_109 : decode b_Desk_tellNotFinite 109 = .ok (.aload_n 0, 1) := by decide +kernel
theorem d_Desk_tellNotFinite_110 : decode b_Desk_tellNotFinite 110 = .ok (.getfield 54, 3) := by decide +kernel
theorem d_Desk_tellNotFinite_113 : decode b_Desk_tellNotFinite 113 = .ok (.bipush 97, 2) := by decide +kernel
theorem d_Desk_tellNotFinite_115 : decode b_Desk_tellNotFinite 115 = .ok (.invokevirtual 162, 3) := by decide +kernel
theorem d_Desk_tellNotFinite_118 : decode b_Desk_tellNotFinite 118 = .ok (.aload_n 0, 1) := by decide +kernel
theorem d_Desk_tellNotFinite_119 : decode b_Desk_tellNotFinite 119 = .ok (.getfield 54, 3) := by decide +kernel
theorem d_Desk_tellNotFinite_122 : decode b_Desk_tellNotFinite 122 = .ok (.bipush 110, 2) := by decide +kernel
theorem d_Desk_tellNotFinite_124 : decode b_Desk_tellNotFinite 124 = .ok (.invokevirtual 162, 3) := by decide +kernel
theorem d_Desk_tellNotFinite_127 : decode b_Desk_tellNotFinite 127 = .ok (.iconst 1, 1) := by decide +kernel
theorem d_Desk_tellNotFinite_128 : decode b_Desk_tellNotFinite 128 = .ok (.ireturn, 1) := by decide +kernel
theorem d_Desk_tellShortest_0 : decode b_Desk_tellShortest 0 = .ok (.aload_n 0, 1) := by decide +kernel
theorem d_Desk_tellShortest_1 : decode b_Desk_tellShortest 1 = .ok (.getfield 54, 3) := by decide +kernel
theorem d_Desk_tellShortest_4 : decode b_Desk_tellShortest 4 = .ok (.aload_n 0, 1) := by decide +kernel
theorem d_Desk_tellShortest_5 : decode b_Desk_tellShortest 5 = .ok (.getfield 10, 3) := by decide +kernel
theorem d_Desk_tellShortest_8 : decode b_Desk_tellShortest 8 = .ok (.lload_n 1, 1) := by decide +kernel
theorem d_Desk_tellShortest_9 : decode b_Desk_tellShortest 9 = .ok (.invokevirtual 150, 3) := by decide +kernel
theorem d_Desk_tellShortest_12 : decode b_Desk_tellShortest 12 = .ok (.invokevirtual 159, 3) := by decide +kernel
theorem d_Desk_tellShortest_15 : decode b_Desk_tellShortest 15 = .ok (.aload_n 0, 1) := by decide +kernel
theorem d_Desk_tellShortest_16 : decode b_Desk_tellShortest 16 = .ok (.getfield 10, 3) := by decide +kernel
theorem d_Desk_tellShortest_19 : decode b_Desk_tellShortest 19 = .ok (.lload_n 1, 1) := by decide +kernel
theorem d_Desk_tellShortest_20 : decode b_Desk_tellShortest 20 = .ok (.invokevirtual 144, 3) := by decide +kernel
theorem d_Desk_tellShortest_23 : decode b_Desk_tellShortest 23 = .ok (.lstore_n 3, 1) := by decide +kernel
theorem d_Desk_tellShortest_24 : decode b_Desk_tellShortest 24 = .ok (.lload_n 3, 1) := by decide +kernel
theorem d_Desk_tellShortest_25 : decode b_Desk_tellShortest 25 = .ok (.lconst 0, 1) := by decide +kernel
theorem d_Desk_tellShortest_26 : decode b_Desk_tellShortest 26 = .ok (.lcmp, 1) := by decide +kernel
theorem d_Desk_tellShortest_27 : decode b_Desk_tellShortest 27 = .ok (.ifCond .ne 21, 3) := by decide +kernel
theorem d_Desk_tellShortest_30 : decode b_Desk_tellShortest 30 = .ok (.aload_n 0, 1) := by decide +kernel
theorem d_Desk_tellShortest_31 : decode b_Desk_tellShortest 31 = .ok (.getfield 54, 3) := by decide +kernel
theorem d_Desk_tellShortest_34 : decode b_Desk_tellShortest 34 = .ok (.bipush 48, 2) := by decide +kernel
theorem d_Desk_tellShortest_36 : decode b_Desk_tellShortest 36 = .ok (.invokevirtual 162, 3) := by decide +kernel
theorem d_Desk_tellShortest_39 : decode b_Desk_tellShortest 39 = .ok (.aload_n 0, 1) := by decide +kernel
theorem d_Desk_tellShortest_40 : decode b_Desk_tellShortest 40 = .ok (.getfield 54, 3) := by decide +kernel
theorem d_Desk_tellShortest_43 : decode b_Desk_tellShortest 43 = .ok (.iconst 0, 1) := by decide +kernel
theorem d_Desk_tellShortest_44 : decode b_Desk_tellShortest 44 = .ok (.invokevirtual 166, 3) := by decide +kernel
theorem d_Desk_tellShortest_47 : decode b_Desk_tellShortest 47 = .ok (.return_, 1) := by decide +kernel
theorem d_Desk_tellShortest_48 : decode b_Desk_tellShortest 48 = .ok (.aload_n 0, 1) := by decide +kernel
theorem d_Desk_tellShortest_49 : decode b_Desk_tellShortest 49 = .ok (.getfield 40, 3) := by decide +kernel
theorem d_Desk_tellShortest_52 : decode b_Desk_tellShortest 52 = .ok (.lload_n 3, 1) := by decide +kernel
theorem d_Desk_tellShortest_53 : decode b_Desk_tellShortest 53 = .ok (.aload_n 0, 1) := by decide +kernel
theorem d_Desk_tellShortest_54 : decode b_Desk_tellShortest 54 = .ok (.getfield 10, 3) := by decide +kernel
theorem d_Desk_tellShortest_57 : decode b_Desk_tellShortest 57 = .ok (.invokevirtual 169, 3) := by decide +kernel
theorem d_Desk_tellShortest_60 : decode b_Desk_tellShortest 60 = .ok (.aload_n 0, 1) := by decide +kernel
theorem d_Desk_tellShortest_61 : decode b_Desk_tellShortest 61 = .ok (.getfield 54, 3) := by decide +kernel
theorem d_Desk_tellShortest_64 : decode b_Desk_tellShortest 64 = .ok (.aload_n 0, 1) := by decide +kernel
theorem d_Desk_tellShortest_65 : decode b_Desk_tellShortest 65 = .ok (.getfield 40, 3) := by decide +kernel
theorem d_Desk_tellShortest_68 : decode b_Desk_tellShortest 68 = .ok (.getfield 173, 3) := by decide +kernel
theorem d_Desk_tellShortest_71 : decode b_Desk_tellShortest 71 = .ok (.aload_n 0, 1) := by decide +kernel
theorem d_Desk_tellShortest_72 : decode b_Desk_tellShortest 72 = .ok (.getfield 40, 3) := by decide +kernel
theorem d_Desk_tellShortest_75 : decode b_Desk_tellShortest 75 = .ok (.getfield 175, 3) := by decide +kernel
theorem d_Desk_tellShortest_78 : decode b_Desk_tellShortest 78 = .ok (.iconst 1, 1) := by decide +kernel
theorem d_Desk_tellShortest_79 : decode b_Desk_tellShortest 79 = .ok (.invokevirtual 178, 3) := by decide +kernel
theorem d_Desk_tellShortest_82 : decode b_Desk_tellShortest 82 = .ok (.aload_n 0, 1) := by decide +kernel
theorem d_Desk_tellShortest_83 : decode b_Desk_tellShortest 83 = .ok (.getfield 54, 3) := by decide +kernel
theorem d_Desk_tellShortest_86 : decode b_Desk_tellShortest 86 = .ok (.aload_n 0, 1) := by decide +kernel
theorem d_Desk_tellShortest_87 : decode b_Desk_tellShortest 87 = .ok (.getfield 40, 3) := by decide +kernel
theorem d_Desk_tellShortest_90 : decode b_Desk_tellShortest 90 = .ok (.getfield 182, 3) := by decide +kernel
theorem d_Desk_tellShortest_93 : decode b_Desk_tellShortest 93 = .ok (.invokevirtual 166, 3) := by decide +kernel
theorem d_Desk_tellShortest_96 : decode b_Desk_tellShortest 96 = .ok (.return_, 1) := by decide +kernel
theorem d_Desk_tellAllDigits_0 : decode b_Desk_tellAllDigits 0 = .ok (.aload_n 0, 1) := by decide +kernel
theorem d_Desk_tellAllDigits_1 : decode b_Desk_tellAllDigits 1 = .ok (.getfield 54, 3) := by decide +kernel
end
section
theorem d_Desk_tellAllDigits_4 : decode b_Desk_tellAllDigits 4 = .ok (.aload_n 0, 1) := by decide +kernel
theorem d_Desk_tellAllDigits_5 : decode b_Desk_tellAllDigits 5 = .ok (.getfield 10, 3) := by decide +kernel
theorem d_Desk_tellAllDigits_8 : decode b_Desk_tellAllDigits 8 = .ok (.lload_n 1, 1) := by decide +kernel
theorem d_Desk_tellAllDigits_9 : decode b_Desk_tellAllDigits 9 = .ok (.invokevirtual 150, 3) := by decide +kernel
theorem d_Desk_tellAllDigits_12 : decode b_Desk_tellAllDigits 12 = .ok (.invokevirtual 159, 3) := by decide +kernel
theorem d_Desk_tellAllDigits_15 : decode b_Desk_tellAllDigits 15 = .ok (.aload_n 0, 1) := by decide +kernel
theorem d_Desk_tellAllDigits_16 : decode b_Desk_tellAllDigits 16 = .ok (.getfield 10, 3) := by decide +kernel
theorem d_Desk_tellAllDigits_19 : decode b_Desk_tellAllDigits 19 = .ok (.lload_n 1, 1) := by decide +kernel
theorem d_Desk_tellAllDigits_20 : decode b_Desk_tellAllDigits 20 = .ok (.invokevirtual 144, 3) := by decide +kernel
theorem d_Desk_tellAllDigits_23 : decode b_Desk_tellAllDigits 23 = .ok (.lstore_n 3, 1) := by decide +kernel
theorem d_Desk_tellAllDigits_24 : decode b_Desk_tellAllDigits 24 = .ok (.aload_n 0, 1) := by decide +kernel
theorem d_Desk_tellAllDigits_25 : decode b_Desk_tellAllDigits 25 = .ok (.getfield 10, 3) := by decide +kernel
theorem d_Desk_tellAllDigits_28 : decode b_Desk_tellAllDigits 28 = .ok (.lload_n 3, 1) := by decide +kernel
theorem d_Desk_tellAllDigits_29 : decode b_Desk_tellAllDigits 29 = .ok (.invokevirtual 185, 3) := by decide +kernel
theorem d_Desk_tellAllDigits_32 : decode b_Desk_tellAllDigits 32 = .ok (.lstore 5, 2) := by decide +kernel
theorem d_Desk_tellAllDigits_34 : decode b_Desk_tellAllDigits 34 = .ok (.aload_n 0, 1) := by decide +kernel
theorem d_Desk_tellAllDigits_35 : decode b_Desk_tellAllDigits 35 = .ok (.getfield 10, 3) := by decide +kernel
theorem d_Desk_tellAllDigits_38 : decode b_Desk_tellAllDigits 38 = .ok (.lload_n 3, 1) := by decide +kernel
theorem d_Desk_tellAllDigits_39 : decode b_Desk_tellAllDigits 39 = .ok (.invokevirtual 188, 3) := by decide +kernel
theorem d_Desk_tellAllDigits_42 : decode b_Desk_tellAllDigits 42 = .ok (.istore 7, 2) := by decide +kernel
theorem d_Desk_tellAllDigits_44 : decode b_Desk_tellAllDigits 44 = .ok (.iload 7, 2) := by decide +kernel
theorem d_Desk_tellAllDigits_46 : decode b_Desk_tellAllDigits 46 = .ok (.ifCond .ge 24, 3) := by decide +kernel
theorem d_Desk_tellAllDigits_49 : decode b_Desk_tellAllDigits 49 = .ok (.lload 5, 2) := by decide +kernel
theorem d_Desk_tellAllDigits_51 : decode b_Desk_tellAllDigits 51 = .ok (.lconst 1, 1) := by decide +kernel
theorem d_Desk_tellAllDigits_52 : decode b_Desk_tellAllDigits 52 = .ok (.land, 1) := by decide +kernel
theorem d_Desk_tellAllDigits_53 : decode b_Desk_tellAllDigits 53 = .ok (.lconst 0, 1) := by decide +kernel
theorem d_Desk_tellAllDigits_54 : decode b_Desk_tellAllDigits 54 = .ok (.lcmp, 1) := by decide +kernel
theorem d_Desk_tellAllDigits_55 : decode b_Desk_tellAllDigits 55 = .ok (.ifCond .ne 15, 3) := by decide +kernel
theorem d_Desk_tellAllDigits_58 : decode b_Desk_tellAllDigits 58 = .ok (.lload 5, 2) := by decide +kernel
theorem d_Desk_tellAllDigits_60 : decode b_Desk_tellAllDigits 60 = .ok (.iconst 1, 1) := by decide +kernel
theorem d_Desk_tellAllDigits_61 : decode b_Desk_tellAllDigits 61 = .ok (.lshr, 1) := by decide +kernel
theorem d_Desk_tellAllDigits_62 : decode b_Desk_tellAllDigits 62 = .ok (.lstore 5, 2) := by decide +kernel
theorem d_Desk_tellAllDigits_64 : decode b_Desk_tellAllDigits 64 = .ok (.iinc 7 1, 3) := by decide +kernel
theorem d_Desk_tellAllDigits_67 : decode b_Desk_tellAllDigits 67 = .ok (.goto (-23), 3) := by decide +kernel
theorem d_Desk_tellAllDigits_70 : decode b_Desk_tellAllDigits 70 = .ok (.aload_n 0, 1) := by decide +kernel
theorem d_Desk_tellAllDigits_71 : decode b_Desk_tellAllDigits 71 = .ok (.getfield 47, 3) := by decide +kernel
theorem d_Desk_tellAllDigits_74 : decode b_Desk_tellAllDigits 74 = .ok (.lload 5, 2) := by decide +kernel
theorem d_Desk_tellAllDigits_76 : decode b_Desk_tellAllDigits 76 = .ok (.invokevirtual 192, 3) := by decide +kernel
theorem d_Desk_tellAllDigits_79 : decode b_Desk_tellAllDigits 79 = .ok (.iload 7, 2) := by decide +kernel
theorem d_Desk_tellAllDigits_81 : decode b_Desk_tellAllDigits 81 = .ok (.ifCond .lt 27, 3) := by decide +kernel
theorem d_Desk_tellAllDigits_84 : decode b_Desk_tellAllDigits 84 = .ok (.aload_n 0, 1) := by decide +kernel
theorem d_Desk_tellAllDigits_85 : decode b_Desk_tellAllDigits 85 = .ok (.getfield 47, 3) := by decide +kernel
theorem d_Desk_tellAllDigits_88 : decode b_Desk_tellAllDigits 88 = .ok (.iload 7, 2) := by decide +kernel
theorem d_Desk_tellAllDigits_90 : decode b_Desk_tellAllDigits 90 = .ok (.invokevirtual 195, 3) := by decide +kernel
theorem d_Desk_tellAllDigits_93 : decode b_Desk_tellAllDigits 93 = .ok (.aload_n 0, 1) := by decide +kernel
theorem d_Desk_tellAllDigits_94 : decode b_Desk_tellAllDigits 94 = .ok (.getfield 54, 3) := by decide +kernel
theorem d_Desk_tellAllDigits_97 : decode b_Desk_tellAllDigits 97 = .ok (.aload_n 0, 1) := by decide +kernel
theorem d_Desk_tellAllDigits_98 : decode b_Desk_tellAllDigits 98 = .ok (.getfield 47, 3) := by decide +kernel
theorem d_Desk_tellAllDigits_101 : decode b_Desk_tellAllDigits 101 = .ok (.iconst 0, 1) := by decide +kernel
theorem d_Desk_tellAllDigits_102 : decode b_Desk_tellAllDigits 102 = .ok (.invokevirtual 198, 3) := by decide +kernel
theorem d_Desk_tellAllDigits_105 : decode b_Desk_tellAllDigits 105 = .ok (.goto 27, 3) := by decide +kernel
theorem d_Desk_tellAllDigits_108 : decode b_Desk_tellAllDigits 108 = .ok (.aload_n 0, 1) := by decide +kernel
theorem d_Desk_tellAllDigits_109 : decode b_Desk_tellAllDigits 109 = .ok (.getfield 47, 3) := by decide +kernel
theorem d_Desk_tellAllDigits_112 : decode b_Desk_tellAllDigits 112 = .ok (.iload 7, 2) := by decide +kernel
theorem d_Desk_tellAllDigits_114 : decode b_Desk_tellAllDigits 114 = .ok (.ineg, 1) := by decide +kernel
theorem d_Desk_tellAllDigits_115 : decode b_Desk_tellAllDigits 115 = .ok (.invokevirtual 202, 3) := by decide +kernel
theorem d_Desk_tellAllDigits_118 : decode b_Desk_tellAllDigits 118 = .ok (.aload_n 0, 1) := by decide +kernel
theorem d_Desk_tellAllDigits_119 : decode b_Desk_tellAllDigits 119 = .ok (.getfield 54, 3) := by decide +kernel
theorem d_Desk_tellAllDigits_122 : decode b_Desk_tellAllDigits 122 = .ok (.aload_n 0, 1) := by decide +kernel
theorem d_Desk_tellAllDigits_123 : decode b_Desk_tellAllDigits 123 = .ok (.getfield 47, 3) := by decide +kernel
theorem d_Desk_tellAllDigits_126 : decode b_Desk_tellAllDigits 126 = .ok (.iload 7, 2) := by decide +kernel
theorem d_Desk_tellAllDigits_128 : decode b_Desk_tellAllDigits 128 = .ok (.ineg, 1) := by decide +kernel
theorem d_Desk_tellAllDigits_129 : decode b_Desk_tellAllDigits 129 = .ok (.invokevirtual 198, 3) := by decide +kernel
theorem d_Desk_tellAllDigits_132 : decode b_Desk_tellAllDigits 132 = .ok (.return_, 1) := by decide +kernel
theorem d_Integer_numberOfLeadingZeros_0 : decode b_Integer_numberOfLeadingZeros 0 = .ok (.iload_n 0, 1) := by decide +kernel
theorem d_Integer_numberOfLeadingZeros_1 : decode b_Integer_numberOfLeadingZeros 1 = .ok (.ifCond .gt 14, 3) := by decide +kernel
theorem d_Integer_numberOfLeadingZeros_4 : decode b_Integer_numberOfLeadingZeros 4 = .ok (.iload_n 0, 1) := by decide +kernel
theorem d_Integer_numberOfLeadingZeros_5 : decode b_Integer_numberOfLeadingZeros 5 = .ok (.ifCond .ne 8, 3) := by decide +kernel
theorem d_Integer_numberOfLeadingZeros_8 : decode b_Integer_numberOfLeadingZeros 8 = .ok (.bipush 32, 2) := by decide +kernel
theorem d_Integer_numberOfLeadingZeros_10 : decode b_Integer_numberOfLeadingZeros 10 = .ok (.goto 4, 3) := by decide +kernel
theorem d_Integer_numberOfLeadingZeros_13 : decode b_Integer_numberOfLeadingZeros 13 = .ok (.iconst 0, 1) := by decide +kernel
theorem d_Integer_numberOfLeadingZeros_14 : decode b_Integer_numberOfLeadingZeros 14 = .ok (.ireturn, 1) := by decide +kernel
theorem d_Integer_numberOfLeadingZeros_15 : decode b_Integer_numberOfLeadingZeros 15 = .ok (.bipush 31, 2) := by decide +kernel
theorem d_Integer_numberOfLeadingZeros_17 : decode b_Integer_numberOfLeadingZeros 17 = .ok (.istore_n 1, 1) := by decide +kernel
theorem d_Integer_numberOfLeadingZeros_18 : decode b_Integer_numberOfLeadingZeros 18 = .ok (.iload_n 0, 1) := by decide +kernel
theorem d_Integer_numberOfLeadingZeros_19 : decode b_Integer_numberOfLeadingZeros 19 = .ok (.ldc_w 264, 3) := by decide +kernel
theorem d_Integer_numberOfLeadingZeros_22 : decode b_Integer_numberOfLeadingZeros 22 = .ok (.if_icmp .lt 11, 3) := by decide +kernel
theorem d_Integer_numberOfLeadingZeros_25 : decode b_Integer_numberOfLeadingZeros 25 = .ok (.iinc 1 (-16), 3) := by decide +kernel
theorem d_Integer_numberOfLeadingZeros_28 : decode b_Integer_numberOfLeadingZeros 28 = .ok (.iload_n 0, 1) := by decide +kernel
theorem d_Integer_numberOfLeadingZeros_29 : decode b_Integer_numberOfLeadingZeros 29 = .ok (.bipush 16, 2) := by decide +kernel
theorem d_Integer_numberOfLeadingZeros_31 : decode b_Integer_numberOfLeadingZeros 31 = .ok (.iushr, 1) := by decide +kernel
theorem d_Integer_numberOfLeadingZeros_32 : decode b_Integer_numberOfLeadingZeros 32 = .ok (.istore_n 0, 1) := by decide +kernel
theorem d_Integer_numberOfLeadingZeros_33 : decode b_Integer_numberOfLeadingZeros 33 = .ok (.iload_n 0, 1) := by decide +kernel
theorem d_Integer_numberOfLeadingZeros_34 : decode b_Integer_numberOfLeadingZeros 34 = .ok (.sipush 256, 3) := by decide +kernel
theorem d_Integer_numberOfLeadingZeros_37 : decode b_Integer_numberOfLeadingZeros 37 = .ok (.if_icmp .lt 11, 3) := by decide +kernel
theorem d_Integer_numberOfLeadingZeros_40 : decode b_Integer_numberOfLeadingZeros 40 = .ok (.iinc 1 (-8), 3) := by decide +kernel
theorem d_Integer_numberOfLeadingZeros_43 : decode b_Integer_numberOfLeadingZeros 43 = .ok (.iload_n 0, 1) := by decide +kernel
theorem d_Integer_numberOfLeadingZeros_44 : decode b_Integer_numberOfLeadingZeros 44 = .ok (.bipush 8, 2) := by decide +kernel
theorem d_Integer_numberOfLeadingZeros_46 : decode b_Integer_numberOfLeadingZeros 46 = .ok (.iushr, 1) := by decide +kernel
theorem d_Integer_numberOfLeadingZeros_47 : decode b_Integer_numberOfLeadingZeros 47 = .ok (.istore_n 0, 1) := by decide +kernel
theorem d_Integer_numberOfLeadingZeros_48 : decode b_Integer_numberOfLeadingZeros 48 = .ok (.iload_n 0, 1) := by decide +kernel
theorem d_Integer_numberOfLeadingZeros_49 : decode b_Integer_numberOfLeadingZeros 49 = .ok (.bipush 16, 2) := by decide +kernel
theorem d_Integer_numberOfLeadingZeros_51 : decode b_Integer_numberOfLeadingZeros 51 = .ok (.if_icmp .lt 10, 3) := by decide +kernel
theorem d_Integer_numberOfLeadingZeros_54 : decode b_Integer_numberOfLeadingZeros 54 = .ok (.iinc 1 (-4), 3) := by decide +kernel
theorem d_Integer_numberOfLeadingZeros_57 : decode b_Integer_numberOfLeadingZeros 57 = .ok (.iload_n 0, 1) := by decide +kernel
theorem d_Integer_numberOfLeadingZeros_58 : decode b_Integer_numberOfLeadingZeros 58 = .ok (.iconst 4, 1) := by decide +kernel
theorem d_Integer_numberOfLeadingZeros_59 : decode b_Integer_numberOfLeadingZeros 59 = .ok (.iushr, 1) := by decide +kernel
theorem d_Integer_numberOfLeadingZeros_60 : decode b_Integer_numberOfLeadingZeros 60 = .ok (.istore_n 0, 1) := by decide +kernel
theorem d_Integer_numberOfLeadingZeros_61 : decode b_Integer_numberOfLeadingZeros 61 = .ok (.iload_n 0, 1) := by decide +kernel
theorem d_Integer_numberOfLeadingZeros_62 : decode b_Integer_numberOfLeadingZeros 62 = .ok (.iconst 4, 1) := by decide +kernel
theorem d_Integer_numberOfLeadingZeros_63 : decode b_Integer_numberOfLeadingZeros 63 = .ok (.if_icmp .lt 10, 3) := by decide +kernel
theorem d_Integer_numberOfLeadingZeros_66 : decode b_Integer_numberOfLeadingZeros 66 = .ok (.iinc 1 (-2), 3) := by decide +kernel
theorem d_Integer_numberOfLeadingZeros_69 : decode b_Integer_numberOfLeadingZeros 69 = .ok (.iload_n 0, 1) := by decide +kernel
theorem d_Integer_numberOfLeadingZeros_70 : decode b_Integer_numberOfLeadingZeros 70 = .ok (.iconst 2, 1) := by decide +kernel
theorem d_Integer_numberOfLeadingZeros_71 : decode b_Integer_numberOfLeadingZeros 71 = .ok (.iushr, 1) := by decide +kernel
theorem d_Integer_numberOfLeadingZeros_72 : decode b_Integer_numberOfLeadingZeros 72 = .ok (.istore_n 0, 1) := by decide +kernel
theorem d_Integer_numberOfLeadingZeros_73 : decode b_Integer_numberOfLeadingZeros 73 = .ok (.iload_n 1, 1) := by decide +kernel
theorem d_Integer_numberOfLeadingZeros_74 : decode b_Integer_numberOfLeadingZeros 74 = .ok (.iload_n 0, 1) := by decide +kernel
theorem d_Integer_numberOfLeadingZeros_75 : decode b_Integer_numberOfLeadingZeros 75 = .ok (.iconst 1, 1) := by decide +kernel
theorem d_Integer_numberOfLeadingZeros_76 : decode b_Integer_numberOfLeadingZeros 76 = .ok (.iushr, 1) := by decide +kernel
theorem d_Integer_numberOfLeadingZeros_77 : decode b_Integer_numberOfLeadingZeros 77 = .ok (.isub, 1) := by decide +kernel
theorem d_Integer_numberOfLeadingZeros_78 : decode b_Integer_numberOfLeadingZeros 78 = .ok (.ireturn, 1) := by decide +kernel
theorem d_Long_numberOfLeadingZeros_0 : decode b_Long_numberOfLeadingZeros 0 = .ok (.lload_n 0, 1) := by decide +kernel
theorem d_Long_numberOfLeadingZeros_1 : decode b_Long_numberOfLeadingZeros 1 = .ok (.bipush 32, 2) := by decide +kernel
theorem d_Long_numberOfLeadingZeros_3 : decode b_Long_numberOfLeadingZeros 3 = .ok (.lushr, 1) := by decide +kernel
theorem d_Long_numberOfLeadingZeros_4 : decode b_Long_numberOfLeadingZeros 4 = .ok (.l2i, 1) := by decide +kernel
theorem d_Long_numberOfLeadingZeros_5 : decode b_Long_numberOfLeadingZeros 5 = .ok (.istore_n 2, 1) := by decide +kernel
theorem d_Long_numberOfLeadingZeros_6 : decode b_Long_numberOfLeadingZeros 6 = .ok (.iload_n 2, 1) := by decide +kernel
theorem d_Long_numberOfLeadingZeros_7 : decode b_Long_numberOfLeadingZeros 7 = .ok (.ifCond .ne 14, 3) := by decide +kernel
theorem d_Long_numberOfLeadingZeros_10 : decode b_Long_numberOfLeadingZeros 10 = .ok (.bipush 32, 2) := by decide +kernel
theorem d_Long_numberOfLeadingZeros_12 : decode b_Long_numberOfLeadingZeros 12 = .ok (.lload_n 0, 1) := by decide +kernel
theorem d_Long_numberOfLeadingZeros_13 : decode b_Long_numberOfLeadingZeros 13 = .ok (.l2i, 1) := by decide +kernel
theorem d_Long_numberOfLeadingZeros_14 : decode b_Long_numberOfLeadingZeros 14 = .ok (.invokestatic 308, 3) := by decide +kernel
theorem d_Long_numberOfLeadingZeros_17 : decode b_Long_numberOfLeadingZeros 17 = .ok (.iadd, 1) := by decide +kernel
theorem d_Long_numberOfLeadingZeros_18 : decode b_Long_numberOfLeadingZeros 18 = .ok (.goto 7, 3) := by decide +kernel
theorem d_Long_numberOfLeadingZeros_21 : decode b_Long_numberOfLeadingZeros 21 = .ok (.iload_n 2, 1) := by decide +kernel
theorem d_Long_numberOfLeadingZeros_22 : decode b_Long_numberOfLeadingZeros 22 = .ok (.invokestatic 308, 3) := by decide +kernel
theorem d_Long_numberOfLeadingZeros_25 : decode b_Long_numberOfLeadingZeros 25 = .ok (.ireturn, 1) := by decide +kernel
theorem d_Math_abs_0 : decode b_Math_abs 0 = .ok (.iload_n 0, 1) := by decide +kernel
theorem d_Math_abs_1 : decode b_Math_abs 1 = .ok (.ifCond .ge 8, 3) := by decide +kernel
theorem d_Math_abs_4 : decode b_Math_abs 4 = .ok (.iload_n 0, 1) := by decide +kernel
theorem d_Math_abs_5 : decode b_Math_abs 5 = .ok (.ineg, 1) := by decide +kernel
theorem d_Math_abs_6 : decode b_Math_abs 6 = .ok (.goto 4, 3) := by decide +kernel
theorem d_Math_abs_9 : decode b_Math_abs 9 = .ok (.iload_n 0, 1) := by decide +kernel
theorem d_Math_abs_10 : decode b_Math_abs 10 = .ok (.ireturn, 1) := by decide +kernel
theorem d_Math_floorDiv_0 : decode b_Math_floorDiv 0 = .ok (.iload_n 0, 1) := by decide +kernel
theorem d_Math_floorDiv_1 : decode b_Math_floorDiv 1 = .ok (.iload_n 1, 1) := by decide +kernel
theorem d_Math_floorDiv_2 : decode b_Math_floorDiv 2 = .ok (.idiv, 1) := by decide +kernel
theorem d_Math_floorDiv_3 : decode b_Math_floorDiv 3 = .ok (.istore_n 2, 1) := by decide +kernel
theorem d_Math_floorDiv_4 : decode b_Math_floorDiv 4 = .ok (.iload_n 0, 1) := by decide +kernel
theorem d_Math_floorDiv_5 : decode b_Math_floorDiv 5 = .ok (.iload_n 1, 1) := by decide +kernel
theorem d_Math_floorDiv_6 : decode b_Math_floorDiv 6 = .ok (.ixor, 1) := by decide +kernel
theorem d_Math_floorDiv_7 : decode b_Math_floorDiv 7 = .ok (.ifCond .ge 14, 3) := by decide +kernel
theorem d_Math_floorDiv_10 : decode b_Math_floorDiv 10 = .ok (.iload_n 2, 1) := by decide +kernel
theorem d_Math_floorDiv_11 : decode b_Math_floorDiv 11 = .ok (.iload_n 1, 1) := by decide +kernel
theorem d_Math_floorDiv_12 : decode b_Math_floorDiv 12 = .ok (.imul, 1) := by decide +kernel
theorem d_Math_floorDiv_13 : decode b_Math_floorDiv 13 = .ok (.iload_n 0, 1) := by decide +kernel
theorem d_Math_floorDiv_14 : decode b_Math_floorDiv 14 = .ok (.if_icmp .eq 7, 3) := by decide +kernel
theorem d_Math_floorDiv_17 : decode b_Math_floorDiv 17 = .ok (.iload_n 2, 1) := by decide +kernel
theorem d_Math_floorDiv_18 : decode b_Math_floorDiv 18 = .ok (.iconst 1, 1) := by decide +kernel
theorem d_Math_floorDiv_19 : decode b_Math_floorDiv 19 = .ok (.isub, 1) := by decide +kernel
theorem d_Math_floorDiv_20 : decode b_Math_floorDiv 20 = .ok (.ireturn, 1) := by decide +kernel
theorem d_Math_floorDiv_21 : decode b_Math_floorDiv 21 = .ok (.iload_n 2, 1) := by decide +kernel
theorem d_Math_floorDiv_22 : decode b_Math_floorDiv 22 = .ok (.ireturn, 1) := by decide +kernel
theorem d_Math_max_0 : decode b_Math_max 0 = .ok (.iload_n 0, 1) := by decide +kernel
theorem d_Math_max_1 : decode b_Math_max 1 = .ok (.iload_n 1, 1) := by decide +kernel
theorem d_Math_max_2 : decode b_Math_max 2 = .ok (.if_icmp .lt 7, 3) := by decide +kernel
theorem d_Math_max_5 : decode b_Math_max 5 = .ok (.iload_n 0, 1) := by decide +kernel
theorem d_Math_max_6 : decode b_Math_max 6 = .ok (.goto 4, 3) := by decide +kernel
theorem d_Math_max_9 : decode b_Math_max 9 = .ok (.iload_n 1, 1) := by decide +kernel
theorem d_Math_max_10 : decode b_Math_max 10 = .ok (.ireturn, 1) := by decide +kernel
theorem d_Math_min_0 : decode b_Math_min 0 = .ok (.iload_n 0, 1) := by decide +kernel
theorem d_Math_min_1 : decode b_Math_min 1 = .ok (.iload_n 1, 1) := by decide +kernel
theorem d_Math_min_2 : decode b_Math_min 2 = .ok (.if_icmp .gt 7, 3) := by decide +kernel
theorem d_Math_min_5 : decode b_Math_min 5 = .ok (.iload_n 0, 1) := by decide +kernel
theorem d_Math_min_6 : decode b_Math_min 6 = .ok (.goto 4, 3) := by decide +kernel
theorem d_Math_min_9 : decode b_Math_min 9 = .ok (.iload_n 1, 1) := by decide +kernel
theorem d_Math_min_10 : decode b_Math_min 10 = .ok (.ireturn, 1) := by decide +kernel
theorem d_Model_init_0 : decode b_Model_init 0 = .ok (.aload_n 0, 1) := by decide +kernel
theorem d_Model_init_1 : decode b_Model_init 1 = .ok (.invokespecial 1, 3) := by decide +kernel
theorem d_Model_init_4 : decode b_Model_init 4 = .ok (.aload_n 0, 1) := by decide +kernel
theorem d_Model_init_5 : decode b_Model_init 5 = .ok (.bipush 8, 2) := by decide +kernel
theorem d_Model_init_7 : decode b_Model_init 7 = .ok (.putfield 7, 3) := by decide +kernel
theorem d_Model_init_10 : decode b_Model_init 10 = .ok (.aload_n 0, 1) := by decide +kernel
theorem d_Model_init_11 : decode b_Model_init 11 = .ok (.bipush 23, 2) := by decide +kernel
theorem d_Model_init_13 : decode b_Model_init 13 = .ok (.putfield 13, 3) := by decide +kernel
theorem d_Model_init_16 : decode b_Model_init 16 = .ok (.aload_n 0, 1) := by decide +kernel
theorem d_Model_init_17 : decode b_Model_init 17 = .ok (.bipush 60, 2) := by decide +kernel
theorem d_Model_init_19 : decode b_Model_init 19 = .ok (.newarray .int, 2) := by decide +kernel
theorem d_Model_init_21 : decode b_Model_init 21 = .ok (.putfield 16, 3) := by decide +kernel
theorem d_Model_init_24 : decode b_Model_init 24 = .ok (.aload_n 0, 1) := by decide +kernel
theorem d_Model_init_25 : decode b_Model_init 25 = .ok (.sipush 300, 3) := by decide +kernel
theorem d_Model_init_28 : decode b_Model_init 28 = .ok (.newarray .int, 2) := by decide +kernel
theorem d_Model_init_30 : decode b_Model_init 30 = .ok (.putfield 20, 3) := by decide +kernel
theorem d_Model_init_33 : decode b_Model_init 33 = .ok (.aload_n 0, 1) := by decide +kernel
theorem d_Model_init_34 : decode b_Model_init 34 = .ok (.sipush 400, 3) := by decide +kernel
theorem d_Model_init_37 : decode b_Model_init 37 = .ok (.newarray .int, 2) := by decide +kernel
theorem d_Model_init_39 : decode b_Model_init 39 = .ok (.putfield 23, 3) := by decide +kernel
theorem d_Model_init_42 : decode b_Model_init 42 = .ok (.aload_n 0, 1) := by decide +kernel
theorem d_Model_init_43 : decode b_Model_init 43 = .ok (.bipush 60, 2) := by decide +kernel
theorem d_Model_init_45 : decode b_Model_init 45 = .ok (.putfield 26, 3) := by decide +kernel
theorem d_Model_init_48 : decode b_Model_init 48 = .ok (.aload_n 0, 1) := by decide +kernel
theorem d_Model_init_49 : decode b_Model_init 49 = .ok (.bipush 60, 2) := by decide +kernel
theorem d_Model_init_51 : decode b_Model_init 51 = .ok (.putfield 29, 3) := by decide +kernel
theorem d_Model_init_54 : decode b_Model_init 54 = .ok (.aload_n 0, 1) := by decide +kernel
theorem d_Model_init_55 : decode b_Model_init 55 = .ok (.sipush 400, 3) := by decide +kernel
theorem d_Model_init_58 : decode b_Model_init 58 = .ok (.newarray .int, 2) := by decide +kernel
theorem d_Model_init_60 : decode b_Model_init 60 = .ok (.putfield 32, 3) := by decide +kernel
theorem d_Model_init_63 : decode b_Model_init 63 = .ok (.aload_n 0, 1) := by decide +kernel
theorem d_Model_init_64 : decode b_Model_init 64 = .ok (.bipush 40, 2) := by decide +kernel
theorem d_Model_init_66 : decode b_Model_init 66 = .ok (.newarray .int, 2) := by decide +kernel
theorem d_Model_init_68 : decode b_Model_init 68 = .ok (.putfield 35, 3) := by decide +kernel
theorem d_Model_init_71 : decode b_Model_init 71 = .ok (.aload_n 0, 1) := by decide +kernel
theorem d_Model_init_72 : decode b_Model_init 72 = .ok (.sipush 200, 3) := by decide +kernel
theorem d_Model_init_75 : decode b_Model_init 75 = .ok (.newarray .int, 2) := by decide +kernel
theorem d_Model_init_77 : decode b_Model_init 77 = .ok (.putfield 38, 3) := by decide +kernel
theorem d_Model_init_80 : decode b_Model_init 80 = .ok (.return_, 1) := by decide +kernel
theorem d_Model_raise_0 : decode b_Model_raise 0 = .ok (.aload_n 0, 1) := by decide +kernel
theorem d_Model_raise_1 : decode b_Model_raise 1 = .ok (.iload_n 1, 1) := by decide +kernel
theorem d_Model_raise_2 : decode b_Model_raise 2 = .ok (.putfield 41, 3) := by decide +kernel
theorem d_Model_raise_5 : decode b_Model_raise 5 = .ok (.iconst 0, 1) := by decide +kernel
theorem d_Model_raise_6 : decode b_Model_raise 6 = .ok (.ireturn, 1) := by decide +kernel
theorem d_Model_format_0 : decode b_Model_format 0 = .ok (.aload_n 0, 1) := by decide +kernel
theorem d_Model_format_1 : decode b_Model_format 1 = .ok (.iconst 0, 1) := by decide +kernel
theorem d_Model_format_2 : decode b_Model_format 2 = .ok (.putfield 41, 3) := by decide +kernel
theorem d_Model_format_5 : decode b_Model_format 5 = .ok (.iload_n 1, 1) := by decide +kernel
theorem d_Model_format_6 : decode b_Model_format 6 = .ok (.iconst 2, 1) := by decide +kernel
theorem d_Model_format_7 : decode b_Model_format 7 = .ok (.if_icmp .lt 20, 3) := by decide +kernel
theorem d_Model_format_10 : decode b_Model_format 10 = .ok (.iload_n 1, 1) := by decide +kernel
theorem d_Model_format_11 : decode b_Model_format 11 = .ok (.bipush 8, 2) := by decide +kernel
theorem d_Model_format_13 : decode b_Model_format 13 = .ok (.if_icmp .gt 14, 3) := by decide +kernel
theorem d_Model_format_16 : decode b_Model_format 16 = .ok (.iload_n 2, 1) := by decide +kernel
theorem d_Model_format_17 : decode b_Model_format 17 = .ok (.iconst 1, 1) := by decide +kernel
theorem d_Model_format_18 : decode b_Model_format 18 = .ok (.if_icmp .lt 9, 3) := by decide +kernel
theorem d_Model_format_21 : decode b_Model_format 21 = .ok (.iload_n 2, 1) := by decide +kernel
theorem d_Model_format_22 : decode b_Model_format 22 = .ok (.bipush 23, 2) := by decide +kernel
theorem d_Model_format_24 : decode b_Model_format 24 = .ok (.if_icmp .le 5, 3) := by decide +kernel
theorem d_Model_format_27 : decode b_Model_format 27 = .ok (.iconst 0, 1) := by decide +kernel
theorem d_Model_format_28 : decode b_Model_format 28 = .ok (.ireturn, 1) := by decide +kernel
theorem d_Model_format_29 : decode b_Model_format 29 = .ok (.aload_n 0, 1) := by decide +kernel
theorem d_Model_format_30 : decode b_Model_format 30 = .ok (.iload_n 1, 1) := by decide +kernel
theorem d_Model_format_31 : decode b_Model_format 31 = .ok (.putfield 7, 3) := by decide +kernel
theorem d_Model_format_34 : decode b_Model_format 34 = .ok (.aload_n 0, 1) := by decide +kernel
theorem d_Model_format_35 : decode b_Model_format 35 = .ok (.iload_n 2, 1) := by decide +kernel
theorem d_Model_format_36 : decode b_Model_format 36 = .ok (.putfield 13, 3) := by decide +kernel
theorem d_Model_format_39 : decode b_Model_format 39 = .ok (.iconst 1, 1) := by decide +kernel
theorem d_Model_format_40 : decode b_Model_format 40 = .ok (.ireturn, 1) := by decide +kernel
theorem d_Model_mode_0 : decode b_Model_mode 0 = .ok (.aload_n 0, 1) := by decide +kernel
theorem d_Model_mode_1 : decode b_Model_mode 1 = .ok (.iconst 0, 1) := by decide +kernel
theorem d_Model_mode_2 : decode b_Model_mode 2 = .ok (.putfield 41, 3) := by decide +kernel
theorem d_Model_mode_5 : decode b_Model_mode 5 = .ok (.iload_n 1, 1) := by decide +kernel
theorem d_Model_mode_6 : decode b_Model_mode 6 = .ok (.ifCond .lt 8, 3) := by decide +kernel
theorem d_Model_mode_9 : decode b_Model_mode 9 = .ok (.iload_n 1, 1) := by decide +kernel
theorem d_Model_mode_10 : decode b_Model_mode 10 = .ok (.iconst 4, 1) := by decide +kernel
theorem d_Model_mode_11 : decode b_Model_mode 11 = .ok (.if_icmp .le 5, 3) := by decide +kernel
theorem d_Model_mode_14 : decode b_Model_mode 14 = .ok (.iconst 0, 1) := by decide +kernel
theorem d_Model_mode_15 : decode b_Model_mode 15 = .ok (.ireturn, 1) := by decide +kernel
theorem d_Model_mode_16 : decode b_Model_mode 16 = .ok (.aload_n 0, 1) := by decide +kernel
theorem d_Model_mode_17 : decode b_Model_mode 17 = .ok (.iload_n 1, 1) := by decide +kernel
theorem d_Model_mode_18 : decode b_Model_mode 18 = .ok (.putfield 44, 3) := by decide +kernel
theorem d_Model_mode_21 : decode b_Model_mode 21 = .ok (.iconst 1, 1) := by decide +kernel
theorem d_Model_mode_22 : decode b_Model_mode 22 = .ok (.ireturn, 1) := by decide +kernel
theorem d_Model_type_0 : decode b_Model_type 0 = .ok (.aload_n 0, 1) := by decide +kernel
theorem d_Model_type_1 : decode b_Model_type 1 = .ok (.iconst 0, 1) := by decide +kernel
theorem d_Model_type_2 : decode b_Model_type 2 = .ok (.putfield 41, 3) := by decide +kernel
theorem d_Model_type_5 : decode b_Model_type 5 = .ok (.iload_n 3, 1) := by decide +kernel
theorem d_Model_type_6 : decode b_Model_type 6 = .ok (.iconst 1, 1) := by decide +kernel
theorem d_Model_type_7 : decode b_Model_type 7 = .ok (.if_icmp .lt 20, 3) := by decide +kernel
theorem d_Model_type_10 : decode b_Model_type 10 = .ok (.iload_n 3, 1) := by decide +kernel
theorem d_Model_type_11 : decode b_Model_type 11 = .ok (.bipush 8, 2) := by decide +kernel
theorem d_Model_type_13 : decode b_Model_type 13 = .ok (.if_icmp .gt 14, 3) := by decide +kernel
theorem d_Model_type_16 : decode b_Model_type 16 = .ok (.aload_n 0, 1) := by decide +kernel
theorem d_Model_type_17 : decode b_Model_type 17 = .ok (.getfield 47, 3) := by decide +kernel
theorem d_Model_type_20 : decode b_Model_type 20 = .ok (.iload_n 3, 1) := by decide +kernel
theorem d_Model_type_21 : decode b_Model_type 21 = .ok (.iadd, 1) := by decide +kernel
theorem d_Model_type_22 : decode b_Model_type 22 = .ok (.bipush 60, 2) := by decide +kernel
theorem d_Model_type_24 : decode b_Model_type 24 = .ok (.if_icmp .le 5, 3) := by decide +kernel
theorem d_Model_type_27 : decode b_Model_type 27 = .ok (.iconst 0, 1) := by decide +kernel
theorem d_Model_type_28 : decode b_Model_type 28 = .ok (.ireturn, 1) := by decide +kernel
theorem d_Model_type_29 : decode b_Model_type 29 = .ok (.iconst 0, 1) := by decide +kernel
theorem d_Model_type_30 : decode b_Model_type 30 = .ok (.istore 4, 2) := by decide +kernel
theorem d_Model_type_32 : decode b_Model_type 32 = .ok (.iload 4, 2) := by decide +kernel
theorem d_Model_type_34 : decode b_Model_type 34 = .ok (.iload_n 3, 1) := by decide +kernel
theorem d_Model_type_35 : decode b_Model_type 35 = .ok (.if_icmp .ge 39, 3) := by decide +kernel
theorem d_Model_type_38 : decode b_Model_type 38 = .ok (.lload_n 1, 1) := by decide +kernel
theorem d_Model_type_39 : decode b_Model_type 39 = .ok (.bipush 8, 2) := by decide +kernel
theorem d_Model_type_41 : decode b_Model_type 41 = .ok (.iload 4, 2) := by decide +kernel
theorem d_Model_type_43 : decode b_Model_type 43 = .ok (.imul, 1) := by decide +kernel
theorem d_Model_type_44 : decode b_Model_type 44 = .ok (.lshr, 1) := by decide +kernel
theorem d_Model_type_45 : decode b_Model_type 45 = .ok (.ldc2_w 50, 3) := by decide +kernel
theorem d_Model_type_48 : decode b_Model_type 48 = .ok (.land, 1) := by decide +kernel
theorem d_Model_type_49 : decode b_Model_type 49 = .ok (.l2i, 1) := by decide +kernel
theorem d_Model_type_50 : decode b_Model_type 50 = .ok (.istore 5, 2) := by decide +kernel
theorem d_Model_type_52 : decode b_Model_type 52 = .ok (.iload 5, 2) := by decide +kernel
theorem d_Model_type_54 : decode b_Model_type 54 = .ok (.bipush 33, 2) := by decide +kernel
theorem d_Model_type_56 : decode b_Model_type 56 = .ok (.if_icmp .lt 10, 3) := by decide +kernel
theorem d_Model_type_59 : decode b_Model_type 59 = .ok (.iload 5, 2) := by decide +kernel
theorem d_Model_type_61 : decode b_Model_type 61 = .ok (.bipush 126, 2) := by decide +kernel
theorem d_Model_type_63 : decode b_Model_type 63 = .ok (.if_icmp .le 5, 3) := by decide +kernel
theorem d_Model_type_66 : decode b_Model_type 66 = .ok (.iconst 0, 1) := by decide +kernel
theorem d_Model_type_67 : decode b_Model_type 67 = .ok (.ireturn, 1) := by decide +kernel
theorem d_Model_type_68 : decode b_Model_type 68 = .ok (.iinc 4 1, 3) := by decide +kernel
theorem d_Model_type_71 : decode b_Model_type 71 = .ok (.goto (-39), 3) := by decide +kernel
theorem d_Model_type_74 : decode b_Model_type 74 = .ok (.iload_n 3, 1) := by decide +kernel
theorem d_Model_type_75 : decode b_Model_type 75 = .ok (.iconst 1, 1) := by decide +kernel
theorem d_Model_type_76 : decode b_Model_type 76 = .ok (.isub, 1) := by decide +kernel
theorem d_Model_type_77 : decode b_Model_type 77 = .ok (.istore 4, 2) := by decide +kernel
theorem d_Model_type_79 : decode b_Model_type 79 = .ok (.iload 4, 2) := by decide +kernel
theorem d_Model_type_81 : decode b_Model_type 81 = .ok (.ifCond .lt 40, 3) := by decide +kernel
theorem d_Model_type_84 : decode b_Model_type 84 = .ok (.aload_n 0, 1) := by decide +kernel
theorem d_Model_type_85 : decode b_Model_type 85 = .ok (.getfield 16, 3) := by decide +kernel
theorem d_Model_type_88 : decode b_Model_type 88 = .ok (.aload_n 0, 1) := by decide +kernel
theorem d_Model_type_89 : decode b_Model_type 89 = .ok (.getfield 47, 3) := by decide +kernel
theorem d_Model_type_92 : decode b_Model_type 92 = .ok (.lload_n 1, 1) := by decide +kernel
theorem d_Model_type_93 : decode b_Model_type 93 = .ok (.bipush 8, 2) := by decide +kernel
theorem d_Model_type_95 : decode b_Model_type 95 = .ok (.iload 4, 2) := by decide +kernel
theorem d_Model_type_97 : decode b_Model_type 97 = .ok (.imul, 1) := by decide +kernel
theorem d_Model_type_98 : decode b_Model_type 98 = .ok (.lshr, 1) := by decide +kernel
theorem d_Model_type_99 : decode b_Model_type 99 = .ok (.ldc2_w 50, 3) := by decide +kernel
theorem d_Model_type_102 : decode b_Model_type 102 = .ok (.land, 1) := by decide +kernel
theorem d_Model_type_103 : decode b_Model_type 103 = .ok (.l2i, 1) := by decide +kernel
theorem d_Model_type_104 : decode b_Model_type 104 = .ok (.iastore, 1) := by decide +kernel
theorem d_Model_type_105 : decode b_Model_type 105 = .ok (.aload_n 0, 1) := by decide +kernel
theorem d_Model_type_106 : decode b_Model_type 106 = .ok (.dup, 1) := by decide +kernel
theorem d_Model_type_107 : decode b_Model_type 107 = .ok (.getfield 47, 3) := by decide +kernel
theorem d_Model_type_110 : decode b_Model_type 110 = .ok (.iconst 1, 1) := by decide +kernel
theorem d_Model_type_111 : decode b_Model_type 111 = .ok (.iadd, 1) := by decide +kernel
theorem d_Model_type_112 : decode b_Model_type 112 = .ok (.putfield 47, 3) := by decide +kernel
theorem d_Model_type_115 : decode b_Model_type 115 = .ok (.iinc 4 (-1), 3) := by decide +kernel
theorem d_Model_type_118 : decode b_Model_type 118 = .ok (.goto (-39), 3) := by decide +kernel
theorem d_Model_type_121 : decode b_Model_type 121 = .ok (.iconst 1, 1) := by decide +kernel
theorem d_Model_type_122 : decode b_Model_type 122 = .ok (.ireturn, 1) := by decide +kernel
theorem d_Model_flags_0 : decode b_Model_flags 0 = .ok (.aload_n 0, 1) := by decide +kernel
theorem d_Model_flags_1 : decode b_Model_flags 1 = .ok (.iconst 0, 1) := by decide +kernel
theorem d_Model_flags_2 : decode b_Model_flags 2 = .ok (.putfield 41, 3) := by decide +kernel
theorem d_Model_flags_5 : decode b_Model_flags 5 = .ok (.aload_n 0, 1) := by decide +kernel
theorem d_Model_flags_6 : decode b_Model_flags 6 = .ok (.getfield 52, 3) := by decide +kernel
theorem d_Model_flags_9 : decode b_Model_flags 9 = .ok (.ireturn, 1) := by decide +kernel
theorem d_Model_clear_0 : decode b_Model_clear 0 = .ok (.aload_n 0, 1) := by decide +kernel
theorem d_Model_clear_1 : decode b_Model_clear 1 = .ok (.iconst 0, 1) := by decide +kernel
theorem d_Model_clear_2 : decode b_Model_clear 2 = .ok (.putfield 41, 3) := by decide +kernel
theorem d_Model_clear_5 : decode b_Model_clear 5 = .ok (.aload_n 0, 1) := by decide +kernel
theorem d_Model_clear_6 : decode b_Model_clear 6 = .ok (.getfield 52, 3) := by decide +kernel
theorem d_Model_clear_9 : decode b_Model_clear 9 = .ok (.istore_n 2, 1) := by decide +kernel
theorem d_Model_clear_10 : decode b_Model_clear 10 = .ok (.aload_n 0, 1) := by decide +kernel
theorem d_Model_clear_11 : decode b_Model_clear 11 = .ok (.aload_n 0, 1) := by decide +kernel
theorem d_Model_clear_12 : decode b_Model_clear 12 = .ok (.getfield 52, 3) := by decide +kernel
theorem d_Model_clear_15 : decode b_Model_clear 15 = .ok (.iload_n 1, 1) := by decide +kernel
theorem d_Model_clear_16 : decode b_Model_clear 16 = .ok (.iconst (-1), 1) := by decide +kernel
theorem d_Model_clear_17 : decode b_Model_clear 17 = .ok (.ixor, 1) := by decide +kernel
theorem d_Model_clear_18 : decode b_Model_clear 18 = .ok (.iand, 1) := by decide +kernel
theorem d_Model_clear_19 : decode b_Model_clear 19 = .ok (.putfield 52, 3) := by decide +kernel
theorem d_Model_clear_22 : decode b_Model_clear 22 = .ok (.iload_n 2, 1) := by decide +kernel
theorem d_Model_clear_23 : decode b_Model_clear 23 = .ok (.ireturn, 1) := by decide +kernel
theorem d_Model_wipe_0 : decode b_Model_wipe 0 = .ok (.iconst 0, 1) := by decide +kernel
theorem d_Model_wipe_1 : decode b_Model_wipe 1 = .ok (.istore_n 1, 1) := by decide +kernel
theorem d_Model_wipe_2 : decode b_Model_wipe 2 = .ok (.iload_n 1, 1) := by decide +kernel
theorem d_Model_wipe_3 : decode b_Model_wipe 3 = .ok (.sipush 400, 3) := by decide +kernel
theorem d_Model_wipe_6 : decode b_Model_wipe 6 = .ok (.if_icmp .ge 16, 3) := by decide +kernel
theorem d_Model_wipe_9 : decode b_Model_wipe 9 = .ok (.aload_n 0, 1) := by decide +kernel
theorem d_Model_wipe_10 : decode b_Model_wipe 10 = .ok (.getfield 23, 3) := by decide +kernel
theorem d_Model_wipe_13 : decode b_Model_wipe 13 = .ok (.iload_n 1, 1) := by decide +kernel
theorem d_Model_wipe_14 : decode b_Model_wipe 14 = .ok (.iconst 0, 1) := by decide +kernel
theorem d_Model_wipe_15 : decode b_Model_wipe 15 = .ok (.iastore, 1) := by decide +kernel
theorem d_Model_wipe_16 : decode b_Model_wipe 16 = .ok (.iinc 1 1, 3) := by decide +kernel
theorem d_Model_wipe_19 : decode b_Model_wipe 19 = .ok (.goto (-17), 3) := by decide +kernel
theorem d_Model_wipe_22 : decode b_Model_wipe 22 = .ok (.aload_n 0, 1) := by decide +kernel
theorem d_Model_wipe_23 : decode b_Model_wipe 23 = .ok (.bipush 60, 2) := by decide +kernel
theorem d_Model_wipe_25 : decode b_Model_wipe 25 = .ok (.putfield 26, 3) := by decide +kernel
theorem d_Model_wipe_28 : decode b_Model_wipe 28 = .ok (.aload_n 0, 1) := by decide +kernel
theorem d_Model_wipe_29 : decode b_Model_wipe 29 = .ok (.bipush 60, 2) := by decide +kernel
theorem d_Model_wipe_31 : decode b_Model_wipe 31 = .ok (.putfield 29, 3) := by decide +kernel
theorem d_Model_wipe_34 : decode b_Model_wipe 34 = .ok (.return_, 1) := by decide +kernel
theorem d_Model_dig_0 : decode b_Model_dig 0 = .ok (.aload_n 0, 1) := by decide +kernel
theorem d_Model_dig_1 : decode b_Model_dig 1 = .ok (.getfield 23, 3) := by decide +kernel
theorem d_Model_dig_4 : decode b_Model_dig 4 = .ok (.iload_n 1, 1) := by decide +kernel
theorem d_Model_dig_5 : decode b_Model_dig 5 = .ok (.iload_n 2, 1) := by decide +kernel
theorem d_Model_dig_6 : decode b_Model_dig 6 = .ok (.iastore, 1) := by decide +kernel
theorem d_Model_dig_7 : decode b_Model_dig 7 = .ok (.iload_n 2, 1) := by decide +kernel
theorem d_Model_dig_8 : decode b_Model_dig 8 = .ok (.ifCond .le 16, 3) := by decide +kernel
theorem d_Model_dig_11 : decode b_Model_dig 11 = .ok (.iload_n 1, 1) := by decide +kernel
theorem d_Model_dig_12 : decode b_Model_dig 12 = .ok (.aload_n 0, 1) := by decide +kernel
theorem d_Model_dig_13 : decode b_Model_dig 13 = .ok (.getfield 26, 3) := by decide +kernel
theorem d_Model_dig_16 : decode b_Model_dig 16 = .ok (.if_icmp .ge 8, 3) := by decide +kernel
theorem d_Model_dig_19 : decode b_Model_dig 19 = .ok (.aload_n 0, 1) := by decide +kernel
theorem d_Model_dig_20 : decode b_Model_dig 20 = .ok (.iload_n 1, 1) := by decide +kernel
theorem d_Model_dig_21 : decode b_Model_dig 21 = .ok (.putfield 26, 3) := by decide +kernel
theorem d_Model_dig_24 : decode b_Model_dig 24 = .ok (.iload_n 2, 1) := by decide +kernel
theorem d_Model_dig_25 : decode b_Model_dig 25 = .ok (.ifCond .le 16, 3) := by decide +kernel
theorem d_Model_dig_28 : decode b_Model_dig 28 = .ok (.iload_n 1, 1) := by decide +kernel
theorem d_Model_dig_29 : decode b_Model_dig 29 = .ok (.aload_n 0, 1) := by decide +kernel
theorem d_Model_dig_30 : decode b_Model_dig 30 = .ok (.getfield 29, 3) := by decide +kernel
theorem d_Model_dig_33 : decode b_Model_dig 33 = .ok (.if_icmp .le 8, 3) := by decide +kernel
theorem d_Model_dig_36 : decode b_Model_dig 36 = .ok (.aload_n 0, 1) := by decide +kernel
theorem d_Model_dig_37 : decode b_Model_dig 37 = .ok (.iload_n 1, 1) := by decide +kernel
theorem d_Model_dig_38 : decode b_Model_dig 38 = .ok (.putfield 29, 3) := by decide +kernel
theorem d_Model_dig_41 : decode b_Model_dig 41 = .ok (.return_, 1) := by decide +kernel
theorem d_Model_twice_0 : decode b_Model_twice 0 = .ok (.iconst 0, 1) := by decide +kernel
theorem d_Model_twice_1 : decode b_Model_twice 1 = .ok (.istore_n 1, 1) := by decide +kernel
theorem d_Model_twice_2 : decode b_Model_twice 2 = .ok (.aload_n 0, 1) := by decide +kernel
theorem d_Model_twice_3 : decode b_Model_twice 3 = .ok (.getfield 29, 3) := by decide +kernel
theorem d_Model_twice_6 : decode b_Model_twice 6 = .ok (.istore_n 2, 1) := by decide +kernel
theorem d_Model_twice_7 : decode b_Model_twice 7 = .ok (.iload_n 2, 1) := by decide +kernel
theorem d_Model_twice_8 : decode b_Model_twice 8 = .ok (.aload_n 0, 1) := by decide +kernel
theorem d_Model_twice_9 : decode b_Model_twice 9 = .ok (.getfield 26, 3) := by decide +kernel
theorem d_Model_twice_12 : decode b_Model_twice 12 = .ok (.if_icmp .lt 35, 3) := by decide +kernel
theorem d_Model_twice_15 : decode b_Model_twice 15 = .ok (.iconst 2, 1) := by decide +kernel
theorem d_Model_twice_16 : decode b_Model_twice 16 = .ok (.aload_n 0, 1) := by decide +kernel
theorem d_Model_twice_17 : decode b_Model_twice 17 = .ok (.getfield 23, 3) := by decide +kernel
theorem d_Model_twice_20 : decode b_Model_twice 20 = .ok (.iload_n 2, 1) := by decide +kernel
theorem d_Model_twice_21 : decode b_Model_twice 21 = .ok (.iaload, 1) := by decide +kernel
theorem d_Model_twice_22 : decode b_Model_twice 22 = .ok (.imul, 1) := by decide +kernel
theorem d_Model_twice_23 : decode b_Model_twice 23 = .ok (.iload_n 1, 1) := by decide +kernel
theorem d_Model_twice_24 : decode b_Model_twice 24 = .ok (.iadd, 1) := by decide +kernel
theorem d_Model_twice_25 : decode b_Model_twice 25 = .ok (.istore_n 3, 1) := by decide +kernel
theorem d_Model_twice_26 : decode b_Model_twice 26 = .ok (.aload_n 0, 1) := by decide +kernel
theorem d_Model_twice_27 : decode b_Model_twice 27 = .ok (.getfield 23, 3) := by decide +kernel
theorem d_Model_twice_30 : decode b_Model_twice 30 = .ok (.iload_n 2, 1) := by decide +kernel
theorem d_Model_twice_31 : decode b_Model_twice 31 = .ok (.iload_n 3, 1) := by decide +kernel
theorem d_Model_twice_32 : decode b_Model_twice 32 = .ok (.bipush 10, 2) := by decide +kernel
theorem d_Model_twice_34 : decode b_Model_twice 34 = .ok (.irem, 1) := by decide +kernel
theorem d_Model_twice_35 : decode b_Model_twice 35 = .ok (.iastore, 1) := by decide +kernel
theorem d_Model_twice_36 : decode b_Model_twice 36 = .ok (.iload_n 3, 1) := by decide +kernel
theorem d_Model_twice_37 : decode b_Model_twice 37 = .ok (.bipush 10, 2) := by decide +kernel
theorem d_Model_twice_39 : decode b_Model_twice 39 = .ok (.idiv, 1) := by decide +kernel
theorem d_Model_twice_40 : decode b_Model_twice 40 = .ok (.istore_n 1, 1) := by decide +kernel
theorem d_Model_twice_41 : decode b_Model_twice 41 = .ok (.iinc 2 (-1), 3) := by decide +kernel
theorem d_Model_twice_44 : decode b_Model_twice 44 = .ok (.goto (-37), 3) := by decide +kernel
theorem d_Model_twice_47 : decode b_Model_twice 47 = .ok (.iload_n 1, 1) := by decide +kernel
theorem d_Model_twice_48 : decode b_Model_twice 48 = .ok (.ifCond .le 23, 3) := by decide +kernel
theorem d_Model_twice_51 : decode b_Model_twice 51 = .ok (.aload_n 0, 1) := by decide +kernel
theorem d_Model_twice_52 : decode b_Model_twice 52 = .ok (.dup, 1) := by decide +kernel
theorem d_Model_twice_53 : decode b_Model_twice 53 = .ok (.getfield 26, 3) := by decide +kernel
theorem d_Model_twice_56 : decode b_Model_twice 56 = .ok (.iconst 1, 1) := by decide +kernel
theorem d_Model_twice_57 : decode b_Model_twice 57 = .ok (.isub, 1) := by decide +kernel
theorem d_Model_twice_58 : decode b_Model_twice 58 = .ok (.putfield 26, 3) := by decide +kernel
theorem d_Model_twice_61 : decode b_Model_twice 61 = .ok (.aload_n 0, 1) := by decide +kernel
theorem d_Model_twice_62 : decode b_Model_twice 62 = .ok (.getfield 23, 3) := by decide +kernel
theorem d_Model_twice_65 : decode b_Model_twice 65 = .ok (.aload_n 0, 1) := by decide +kernel
theorem d_Model_twice_66 : decode b_Model_twice 66 = .ok (.getfield 26, 3) := by decide +kernel
theorem d_Model_twice_69 : decode b_Model_twice 69 = .ok (.iload_n 1, 1) := by decide +kernel
theorem d_Model_twice_70 : decode b_Model_twice 70 = .ok (.iastore, 1) := by decide +kernel
theorem d_Model_twice_71 : decode b_Model_twice 71 = .ok (.return_, 1) := by decide +kernel
theorem d_Model_half_0 : decode b_Model_half 0 = .ok (.iconst 0, 1) := by decide +kernel
theorem d_Model_half_1 : decode b_Model_half 1 = .ok (.istore_n 1, 1) := by decide +kernel
theorem d_Model_half_2 : decode b_Model_half 2 = .ok (.aload_n 0, 1) := by decide +kernel
theorem d_Model_half_3 : decode b_Model_half 3 = .ok (.getfield 26, 3) := by decide +kernel
theorem d_Model_half_6 : decode b_Model_half 6 = .ok (.istore_n 2, 1) := by decide +kernel
theorem d_Model_half_7 : decode b_Model_half 7 = .ok (.iload_n 2, 1) := by decide +kernel
theorem d_Model_half_8 : decode b_Model_half 8 = .ok (.aload_n 0, 1) := by decide +kernel
theorem d_Model_half_9 : decode b_Model_half 9 = .ok (.getfield 29, 3) := by decide +kernel
theorem d_Model_half_12 : decode b_Model_half 12 = .ok (.iconst 1, 1) := by decide +kernel
theorem d_Model_half_13 : decode b_Model_half 13 = .ok (.iadd, 1) := by decide +kernel
theorem d_Model_half_14 : decode b_Model_half 14 = .ok (.if_icmp .gt 34, 3) := by decide +kernel
theorem d_Model_half_17 : decode b_Model_half 17 = .ok (.bipush 10, 2) := by decide +kernel
theorem d_Model_half_19 : decode b_Model_half 19 = .ok (.iload_n 1, 1) := by decide +kernel
theorem d_Model_half_20 : decode b_Model_half 20 = .ok (.imul, 1) := by decide +kernel
theorem d_Model_half_21 : decode b_Model_half 21 = .ok (.aload_n 0, 1) := by decide +kernel
theorem d_Model_half_22 : decode b_Model_half 22 = .ok (.getfield 23, 3) := by decide +kernel
theorem d_Model_half_25 : decode b_Model_half 25 = .ok (.iload_n 2, 1) := by decide +kernel
theorem d_Model_half_26 : decode b_Model_half 26 = .ok (.iaload, 1) := by decide +kernel
theorem d_Model_half_27 : decode b_Model_half 27 = .ok (.iadd, 1) := by decide +kernel
theorem d_Model_half_28 : decode b_Model_half 28 = .ok (.istore_n 3, 1) := by decide +kernel
theorem d_Model_half_29 : decode b_Model_half 29 = .ok (.aload_n 0, 1) := by decide +kernel
theorem d_Model_half_30 : decode b_Model_half 30 = .ok (.getfield 23, 3) := by decide +kernel
theorem d_Model_half_33 : decode b_Model_half 33 = .ok (.iload_n 2, 1) := by decide +kernel
theorem d_Model_half_34 : decode b_Model_half 34 = .ok (.iload_n 3, 1) := by decide +kernel
theorem d_Model_half_35 : decode b_Model_half 35 = .ok (.iconst 2, 1) := by decide +kernel
theorem d_Model_half_36 : decode b_Model_half 36 = .ok (.idiv, 1) := by decide +kernel
theorem d_Model_half_37 : decode b_Model_half 37 = .ok (.iastore, 1) := by decide +kernel
theorem d_Model_half_38 : decode b_Model_half 38 = .ok (.iload_n 3, 1) := by decide +kernel
theorem d_Model_half_39 : decode b_Model_half 39 = .ok (.iconst 2, 1) := by decide +kernel
theorem d_Model_half_40 : decode b_Model_half 40 = .ok (.irem, 1) := by decide +kernel
theorem d_Model_half_41 : decode b_Model_half 41 = .ok (.istore_n 1, 1) := by decide +kernel
theorem d_Model_half_42 : decode b_Model_half 42 = .ok (.iinc 2 1, 3) := by decide +kernel
theorem d_Model_half_45 : decode b_Model_half 45 = .ok (.goto (-38), 3) := by decide +kernel
theorem d_Model_half_48 : decode b_Model_half 48 = .ok (.aload_n 0, 1) := by decide +kernel
theorem d_Model_half_49 : decode b_Model_half 49 = .ok (.getfield 23, 3) := by decide +kernel
theorem d_Model_half_52 : decode b_Model_half 52 = .ok (.aload_n 0, 1) := by decide +kernel
theorem d_Model_half_53 : decode b_Model_half 53 = .ok (.getfield 29, 3) := by decide +kernel
theorem d_Model_half_56 : decode b_Model_half 56 = .ok (.iconst 1, 1) := by decide +kernel
theorem d_Model_half_57 : decode b_Model_half 57 = .ok (.iadd, 1) := by decide +kernel
theorem d_Model_half_58 : decode b_Model_half 58 = .ok (.iaload, 1) := by decide +kernel
theorem d_Model_half_59 : decode b_Model_half 59 = .ok (.ifCond .le 13, 3) := by decide +kernel
theorem d_Model_half_62 : decode b_Model_half 62 = .ok (.aload_n 0, 1) := by decide +kernel
theorem d_Model_half_63 : decode b_Model_half 63 = .ok (.dup, 1) := by decide +kernel
theorem d_Model_half_64 : decode b_Model_half 64 = .ok (.getfield 29, 3) := by decide +kernel
theorem d_Model_half_67 : decode b_Model_half 67 = .ok (.iconst 1, 1) := by decide +kernel
theorem d_Model_half_68 : decode b_Model_half 68 = .ok (.iadd, 1) := by decide +kernel
theorem d_Model_half_69 : decode b_Model_half 69 = .ok (.putfield 29, 3) := by decide +kernel
theorem d_Model_half_72 : decode b_Model_half 72 = .ok (.aload_n 0, 1) := by decide +kernel
theorem d_Model_half_73 : decode b_Model_half 73 = .ok (.getfield 26, 3) := by decide +kernel
theorem d_Model_half_76 : decode b_Model_half 76 = .ok (.bipush 60, 2) := by decide +kernel
theorem d_Model_half_78 : decode b_Model_half 78 = .ok (.if_icmp .ge 28, 3) := by decide +kernel
theorem d_Model_half_81 : decode b_Model_half 81 = .ok (.aload_n 0, 1) := by decide +kernel
theorem d_Model_half_82 : decode b_Model_half 82 = .ok (.getfield 23, 3) := by decide +kernel
theorem d_Model_half_85 : decode b_Model_half 85 = .ok (.aload_n 0, 1) := by decide +kernel
theorem d_Model_half_86 : decode b_Model_half 86 = .ok (.getfield 26, 3) := by decide +kernel
theorem d_Model_half_89 : decode b_Model_half 89 = .ok (.iaload, 1) := by decide +kernel
theorem d_Model_half_90 : decode b_Model_half 90 = .ok (.ifCond .ne 16, 3) := by decide +kernel
theorem d_Model_half_93 : decode b_Model_half 93 = .ok (.aload_n 0, 1) := by decide +kernel
theorem d_Model_half_94 : decode b_Model_half 94 = .ok (.dup, 1) := by decide +kernel
theorem d_Model_half_95 : decode b_Model_half 95 = .ok (.getfield 26, 3) := by decide +kernel
theorem d_Model_half_98 : decode b_Model_half 98 = .ok (.iconst 1, 1) := by decide +kernel
theorem d_Model_half_99 : decode b_Model_half 99 = .ok (.iadd, 1) := by decide +kernel
theorem d_Model_half_100 : decode b_Model_half 100 = .ok (.putfield 26, 3) := by decide +kernel
theorem d_Model_half_103 : decode b_Model_half 103 = .ok (.goto (-31), 3) := by decide +kernel
theorem d_Model_half_106 : decode b_Model_half 106 = .ok (.return_, 1) := by decide +kernel
theorem d_Model_ahead_0 : decode b_Model_ahead 0 = .ok (.aload_n 0, 1) := by decide +kernel
theorem d_Model_ahead_1 : decode b_Model_ahead 1 = .ok (.getfield 26, 3) := by decide +kernel
theorem d_Model_ahead_4 : decode b_Model_ahead 4 = .ok (.bipush 60, 2) := by decide +kernel
theorem d_Model_ahead_6 : decode b_Model_ahead 6 = .ok (.if_icmp .lt 14, 3) := by decide +kernel
theorem d_Model_ahead_9 : decode b_Model_ahead 9 = .ok (.aload_n 0, 1) := by decide +kernel
theorem d_Model_ahead_10 : decode b_Model_ahead 10 = .ok (.getfield 23, 3) := by decide +kernel
theorem d_Model_ahead_13 : decode b_Model_ahead 13 = .ok (.bipush 60, 2) := by decide +kernel
theorem d_Model_ahead_15 : decode b_Model_ahead 15 = .ok (.iaload, 1) := by decide +kernel
theorem d_Model_ahead_16 : decode b_Model_ahead 16 = .ok (.iconst 1, 1) := by decide +kernel
theorem d_Model_ahead_17 : decode b_Model_ahead 17 = .ok (.if_icmp .le 7, 3) := by decide +kernel
theorem d_Model_ahead_20 : decode b_Model_ahead 20 = .ok (.iconst 2, 1) := by decide +kernel
theorem d_Model_ahead_21 : decode b_Model_ahead 21 = .ok (.goto 10, 3) := by decide +kernel
theorem d_Model_ahead_24 : decode b_Model_ahead 24 = .ok (.aload_n 0, 1) := by decide +kernel
theorem d_Model_ahead_25 : decode b_Model_ahead 25 = .ok (.getfield 23, 3) := by decide +kernel
theorem d_Model_ahead_28 : decode b_Model_ahead 28 = .ok (.bipush 60, 2) := by decide +kernel
theorem d_Model_ahead_30 : decode b_Model_ahead 30 = .ok (.iaload, 1) := by decide +kernel
theorem d_Model_ahead_31 : decode b_Model_ahead 31 = .ok (.ireturn, 1) := by decide +kernel
theorem d_Model_behind_0 : decode b_Model_behind 0 = .ok (.iconst 0, 1) := by decide +kernel
theorem d_Model_behind_1 : decode b_Model_behind 1 = .ok (.istore_n 1, 1) := by decide +kernel
theorem d_Model_behind_2 : decode b_Model_behind 2 = .ok (.bipush 62, 2) := by decide +kernel
theorem d_Model_behind_4 : decode b_Model_behind 4 = .ok (.istore_n 2, 1) := by decide +kernel
theorem d_Model_behind_5 : decode b_Model_behind 5 = .ok (.iload_n 2, 1) := by decide +kernel
theorem d_Model_behind_6 : decode b_Model_behind 6 = .ok (.aload_n 0, 1) := by decide +kernel
theorem d_Model_behind_7 : decode b_Model_behind 7 = .ok (.getfield 29, 3) := by decide +kernel
theorem d_Model_behind_10 : decode b_Model_behind 10 = .ok (.if_icmp .gt 28, 3) := by decide +kernel
theorem d_Model_behind_13 : decode b_Model_behind 13 = .ok (.iload_n 1, 1) := by decide +kernel
theorem d_Model_behind_14 : decode b_Model_behind 14 = .ok (.ifCond .ne 24, 3) := by decide +kernel
theorem d_Model_behind_17 : decode b_Model_behind 17 = .ok (.aload_n 0, 1) := by decide +kernel
theorem d_Model_behind_18 : decode b_Model_behind 18 = .ok (.getfield 23, 3) := by decide +kernel
theorem d_Model_behind_21 : decode b_Model_behind 21 = .ok (.iload_n 2, 1) := by decide +kernel
theorem d_Model_behind_22 : decode b_Model_behind 22 = .ok (.iaload, 1) := by decide +kernel
theorem d_Model_behind_23 : decode b_Model_behind 23 = .ok (.ifCond .le 7, 3) := by decide +kernel
theorem d_Model_behind_26 : decode b_Model_behind 26 = .ok (.iconst 1, 1) := by decide +kernel
theorem d_Model_behind_27 : decode b_Model_behind 27 = .ok (.goto 4, 3) := by decide +kernel
theorem d_Model_behind_30 : decode b_Model_behind 30 = .ok (.iconst 0, 1) := by decide +kernel
theorem d_Model_behind_31 : decode b_Model_behind 31 = .ok (.istore_n 1, 1) := by decide +kernel
theorem d_Model_behind_32 : decode b_Model_behind 32 = .ok (.iinc 2 1, 3) := by decide +kernel
theorem d_Model_behind_35 : decode b_Model_behind 35 = .ok (.goto (-30), 3) := by decide +kernel
theorem d_Model_behind_38 : decode b_Model_behind 38 = .ok (.aload_n 0, 1) := by decide +kernel
theorem d_Model_behind_39 : decode b_Model_behind 39 = .ok (.getfield 23, 3) := by decide +kernel
theorem d_Model_behind_42 : decode b_Model_behind 42 = .ok (.bipush 61, 2) := by decide +kernel
theorem d_Model_behind_44 : decode b_Model_behind 44 = .ok (.iaload, 1) := by decide +kernel
theorem d_Model_behind_45 : decode b_Model_behind 45 = .ok (.istore_n 2, 1) := by decide +kernel
theorem d_Model_behind_46 : decode b_Model_behind 46 = .ok (.iload_n 2, 1) := by decide +kernel
theorem d_Model_behind_47 : decode b_Model_behind 47 = .ok (.iconst 5, 1) := by decide +kernel
theorem d_Model_behind_48 : decode b_Model_behind 48 = .ok (.if_icmp .ne 13, 3) := by decide +kernel
theorem d_Model_behind_51 : decode b_Model_behind 51 = .ok (.iload_n 1, 1) := by decide +kernel
theorem d_Model_behind_52 : decode b_Model_behind 52 = .ok (.ifCond .eq 7, 3) := by decide +kernel
theorem d_Model_behind_55 : decode b_Model_behind 55 = .ok (.iconst 3, 1) := by decide +kernel
theorem d_Model_behind_56 : decode b_Model_behind 56 = .ok (.goto 4, 3) := by decide +kernel
theorem d_Model_behind_59 : decode b_Model_behind 59 = .ok (.iconst 2, 1) := by decide +kernel
theorem d_Model_behind_60 : decode b_Model_behind 60 = .ok (.ireturn, 1) := by decide +kernel
theorem d_Model_behind_61 : decode b_Model_behind 61 = .ok (.iload_n 2, 1) := by decide +kernel
theorem d_Model_behind_62 : decode b_Model_behind 62 = .ok (.iconst 5, 1) := by decide +kernel
theorem d_Model_behind_63 : decode b_Model_behind 63 = .ok (.if_icmp .le 7, 3) := by decide +kernel
theorem d_Model_behind_66 : decode b_Model_behind 66 = .ok (.iconst 3, 1) := by decide +kernel
theorem d_Model_behind_67 : decode b_Model_behind 67 = .ok (.goto 16, 3) := by decide +kernel
theorem d_Model_behind_70 : decode b_Model_behind 70 = .ok (.iload_n 2, 1) := by decide +kernel
theorem d_Model_behind_71 : decode b_Model_behind 71 = .ok (.ifCond .gt 7, 3) := by decide +kernel
theorem d_Model_behind_74 : decode b_Model_behind 74 = .ok (.iload_n 1, 1) := by decide +kernel
theorem d_Model_behind_75 : decode b_Model_behind 75 = .ok (.ifCond .eq 7, 3) := by decide +kernel
theorem d_Model_behind_78 : decode b_Model_behind 78 = .ok (.iconst 1, 1) := by decide +kernel
theorem d_Model_behind_79 : decode b_Model_behind 79 = .ok (.goto 4, 3) := by decide +kernel
theorem d_Model_behind_82 : decode b_Model_behind 82 = .ok (.iconst 0, 1) := by decide +kernel
theorem d_Model_behind_83 : decode b_Model_behind 83 = .ok (.ireturn, 1) := by decide +kernel
theorem d_Model_bias_0 : decode b_Model_bias 0 = .ok (.iconst 1, 1) := by decide +kernel
theorem d_Model_bias_1 : decode b_Model_bias 1 = .ok (.aload_n 0, 1) := by decide +kernel
theorem d_Model_bias_2 : decode b_Model_bias 2 = .ok (.getfield 7, 3) := by decide +kernel
theorem d_Model_bias_5 : decode b_Model_bias 5 = .ok (.iconst 1, 1) := by decide +kernel
theorem d_Model_bias_6 : decode b_Model_bias 6 = .ok (.isub, 1) := by decide +kernel
theorem d_Model_bias_7 : decode b_Model_bias 7 = .ok (.ishl, 1) := by decide +kernel
theorem d_Model_bias_8 : decode b_Model_bias 8 = .ok (.iconst 1, 1) := by decide +kernel
theorem d_Model_bias_9 : decode b_Model_bias 9 = .ok (.isub, 1) := by decide +kernel
theorem d_Model_bias_10 : decode b_Model_bias 10 = .ok (.ireturn, 1) := by decide +kernel
theorem d_Model_beyond_0 : decode b_Model_beyond 0 = .ok (.lconst 1, 1) := by decide +kernel
theorem d_Model_beyond_1 : decode b_Model_beyond 1 = .ok (.aload_n 0, 1) := by decide +kernel
theorem d_Model_beyond_2 : decode b_Model_beyond 2 = .ok (.getfield 7, 3) := by decide +kernel
theorem d_Model_beyond_5 : decode b_Model_beyond 5 = .ok (.lshl, 1) := by decide +kernel
theorem d_Model_beyond_6 : decode b_Model_beyond 6 = .ok (.lconst 1, 1) := by decide +kernel
theorem d_Model_beyond_7 : decode b_Model_beyond 7 = .ok (.lsub, 1) := by decide +kernel
theorem d_Model_beyond_8 : decode b_Model_beyond 8 = .ok (.aload_n 0, 1) := by decide +kernel
theorem d_Model_beyond_9 : decode b_Model_beyond 9 = .ok (.getfield 13, 3) := by decide +kernel
theorem d_Model_beyond_12 : decode b_Model_beyond 12 = .ok (.lshl, 1) := by decide +kernel
theorem d_Model_beyond_13 : decode b_Model_beyond 13 = .ok (.lreturn, 1) := by decide +kernel
theorem d_Model_goesUp_0 : decode b_Model_goesUp 0 = .ok (.iload_n 2, 1) := by decide +kernel
theorem d_Model_goesUp_1 : decode b_Model_goesUp 1 = .ok (.tableswitch 89 0 3 #[31, 57, 59, 74], 31) := by decide +kernel
theorem d_Model_goesUp_32 : decode b_Model_goesUp 32 = .ok (.iload 5, 2) := by decide +kernel
theorem d_Model_goesUp_34 : decode b_Model_goesUp 34 = .ok (.iconst 3, 1) := by decide +kernel
theorem d_Model_goesUp_35 : decode b_Model_goesUp 35 = .ok (.if_icmp .eq 17, 3) := by decide +kernel
theorem d_Model_goesUp_38 : decode b_Model_goesUp 38 = .ok (.iload 5, 2) := by decide +kernel
theorem d_Model_goesUp_40 : decode b_Model_goesUp 40 = .ok (.iconst 2, 1) := by decide +kernel
theorem d_Model_goesUp_41 : decode b_Model_goesUp 41 = .ok (.if_icmp .ne 15, 3) := by decide +kernel
theorem d_Model_goesUp_44 : decode b_Model_goesUp 44 = .ok (.lload_n 3, 1) := by decide +kernel
theorem d_Model_goesUp_45 : decode b_Model_goesUp 45 = .ok (.lconst 1, 1) := by decide +kernel
theorem d_Model_goesUp_46 : decode b_Model_goesUp 46 = .ok (.land, 1) := by decide +kernel
theorem d_Model_goesUp_47 : decode b_Model_goesUp 47 = .ok (.lconst 1, 1) := by decide +kernel
theorem d_Model_goesUp_48 : decode b_Model_goesUp 48 = .ok (.lcmp, 1) := by decide +kernel
theorem d_Model_goesUp_49 : decode b_Model_goesUp 49 = .ok (.ifCond .ne 7, 3) := by decide +kernel
theorem d_Model_goesUp_52 : decode b_Model_goesUp 52 = .ok (.iconst 1, 1) := by decide +kernel
theorem d_Model_goesUp_53 : decode b_Model_goesUp 53 = .ok (.goto 4, 3) := by decide +kernel
theorem d_Model_goesUp_56 : decode b_Model_goesUp 56 = .ok (.iconst 0, 1) := by decide +kernel
theorem d_Model_goesUp_57 : decode b_Model_goesUp 57 = .ok (.ireturn, 1) := by decide +kernel
theorem d_Model_goesUp_58 : decode b_Model_goesUp 58 = .ok (.iconst 0, 1) := by decide +kernel
theorem d_Model_goesUp_59 : decode b_Model_goesUp 59 = .ok (.ireturn, 1) := by decide +kernel
theorem d_Model_goesUp_60 : decode b_Model_goesUp 60 = .ok (.iload 5, 2) := by decide +kernel
theorem d_Model_goesUp_62 : decode b_Model_goesUp 62 = .ok (.ifCond .le 11, 3) := by decide +kernel
theorem d_Model_goesUp_65 : decode b_Model_goesUp 65 = .ok (.iload_n 1, 1) := by decide +kernel
theorem d_Model_goesUp_66 : decode b_Model_goesUp 66 = .ok (.ifCond .ne 7, 3) := by decide +kernel
theorem d_Model_goesUp_69 : decode b_Model_goesUp 69 = .ok (.iconst 1, 1) := by decide +kernel
theorem d_Model_goesUp_70 : decode b_Model_goesUp 70 = .ok (.goto 4, 3) := by decide +kernel
theorem d_Model_goesUp_73 : decode b_Model_goesUp 73 = .ok (.iconst 0, 1) := by decide +kernel
theorem d_Model_goesUp_74 : decode b_Model_goesUp 74 = .ok (.ireturn, 1) := by decide +kernel
theorem d_Model_goesUp_75 : decode b_Model_goesUp 75 = .ok (.iload 5, 2) := by decide +kernel
theorem d_Model_goesUp_77 : decode b_Model_goesUp 77 = .ok (.ifCond .le 11, 3) := by decide +kernel
theorem d_Model_goesUp_80 : decode b_Model_goesUp 80 = .ok (.iload_n 1, 1) := by decide +kernel
theorem d_Model_goesUp_81 : decode b_Model_goesUp 81 = .ok (.ifCond .eq 7, 3) := by decide +kernel
theorem d_Model_goesUp_84 : decode b_Model_goesUp 84 = .ok (.iconst 1, 1) := by decide +kernel
theorem d_Model_goesUp_85 : decode b_Model_goesUp 85 = .ok (.goto 4, 3) := by decide +kernel
theorem d_Model_goesUp_88 : decode b_Model_goesUp 88 = .ok (.iconst 0, 1) := by decide +kernel
theorem d_Model_goesUp_89 : decode b_Model_goesUp 89 = .ok (.ireturn, 1) := by decide +kernel
theorem d_Model_goesUp_90 : decode b_Model_goesUp 90 = .ok (.iload 5, 2) := by decide +kernel
theorem d_Model_goesUp_92 : decode b_Model_goesUp 92 = .ok (.iconst 1, 1) := by decide +kernel
theorem d_Model_goesUp_93 : decode b_Model_goesUp 93 = .ok (.if_icmp .le 7, 3) := by decide +kernel
theorem d_Model_goesUp_96 : decode b_Model_goesUp 96 = .ok (.iconst 1, 1) := by decide +kernel
theorem d_Model_goesUp_97 : decode b_Model_goesUp 97 = .ok (.goto 4, 3) := by decide +kernel
theorem d_Model_goesUp_100 : decode b_Model_goesUp 100 = .ok (.iconst 0, 1) := by decide +kernel
theorem d_Model_goesUp_101 : decode b_Model_goesUp 101 = .ok (.ireturn, 1) := by decide +kernel
theorem d_Model_rounded_0 : decode b_Model_rounded 0 = .ok (.iconst 0, 1) := by decide +kernel
theorem d_Model_rounded_1 : decode b_Model_rounded 1 = .ok (.istore_n 3, 1) := by decide +kernel
theorem d_Model_rounded_2 : decode b_Model_rounded 2 = .ok (.iconst 1, 1) := by decide +kernel
theorem d_Model_rounded_3 : decode b_Model_rounded 3 = .ok (.aload_n 0, 1) := by decide +kernel
theorem d_Model_rounded_4 : decode b_Model_rounded 4 = .ok (.invokevirtual 55, 3) := by decide +kernel
theorem d_Model_rounded_7 : decode b_Model_rounded 7 = .ok (.isub, 1) := by decide +kernel
theorem d_Model_rounded_8 : decode b_Model_rounded 8 = .ok (.istore 4, 2) := by decide +kernel
theorem d_Model_rounded_10 : decode b_Model_rounded 10 = .ok (.aload_n 0, 1) := by decide +kernel
theorem d_Model_rounded_11 : decode b_Model_rounded 11 = .ok (.invokevirtual 59, 3) := by decide +kernel
theorem d_Model_rounded_14 : decode b_Model_rounded 14 = .ok (.iconst 2, 1) := by decide +kernel
theorem d_Model_rounded_15 : decode b_Model_rounded 15 = .ok (.if_icmp .ne 13, 3) := by decide +kernel
theorem d_Model_rounded_18 : decode b_Model_rounded 18 = .ok (.aload_n 0, 1) := by decide +kernel
theorem d_Model_rounded_19 : decode b_Model_rounded 19 = .ok (.invokevirtual 62, 3) := by decide +kernel
theorem d_Model_rounded_22 : decode b_Model_rounded 22 = .ok (.iinc 3 1, 3) := by decide +kernel
theorem d_Model_rounded_25 : decode b_Model_rounded 25 = .ok (.goto (-15), 3) := by decide +kernel
theorem d_Model_rounded_28 : decode b_Model_rounded 28 = .ok (.aload_n 0, 1) := by decide +kernel
theorem d_Model_rounded_29 : decode b_Model_rounded 29 = .ok (.invokevirtual 59, 3) := by decide +kernel
theorem d_Model_rounded_32 : decode b_Model_rounded 32 = .ok (.ifCond .ne 19, 3) := by decide +kernel
theorem d_Model_rounded_35 : decode b_Model_rounded 35 = .ok (.iload_n 3, 1) := by decide +kernel
theorem d_Model_rounded_36 : decode b_Model_rounded 36 = .ok (.iload 4, 2) := by decide +kernel
theorem d_Model_rounded_38 : decode b_Model_rounded 38 = .ok (.if_icmp .le 13, 3) := by decide +kernel
theorem d_Model_rounded_41 : decode b_Model_rounded 41 = .ok (.aload_n 0, 1) := by decide +kernel
theorem d_Model_rounded_42 : decode b_Model_rounded 42 = .ok (.invokevirtual 65, 3) := by decide +kernel
theorem d_Model_rounded_45 : decode b_Model_rounded 45 = .ok (.iinc 3 (-1), 3) := by decide +kernel
theorem d_Model_rounded_48 : decode b_Model_rounded 48 = .ok (.goto (-20), 3) := by decide +kernel
theorem d_Model_rounded_51 : decode b_Model_rounded 51 = .ok (.aload_n 0, 1) := by decide +kernel
theorem d_Model_rounded_52 : decode b_Model_rounded 52 = .ok (.invokevirtual 59, 3) := by decide +kernel
theorem d_Model_rounded_55 : decode b_Model_rounded 55 = .ok (.i2l, 1) := by decide +kernel
theorem d_Model_rounded_56 : decode b_Model_rounded 56 = .ok (.lstore 5, 2) := by decide +kernel
theorem d_Model_rounded_58 : decode b_Model_rounded 58 = .ok (.aload_n 0, 1) := by decide +kernel
theorem d_Model_rounded_59 : decode b_Model_rounded 59 = .ok (.lload 5, 2) := by decide +kernel
theorem d_Model_rounded_61 : decode b_Model_rounded 61 = .ok (.lconst 0, 1) := by decide +kernel
theorem d_Model_rounded_62 : decode b_Model_rounded 62 = .ok (.lcmp, 1) := by decide +kernel
theorem d_Model_rounded_63 : decode b_Model_rounded 63 = .ok (.ifCond .ne 7, 3) := by decide +kernel
theorem d_Model_rounded_66 : decode b_Model_rounded 66 = .ok (.iconst 1, 1) := by decide +kernel
theorem d_Model_rounded_67 : decode b_Model_rounded 67 = .ok (.goto 4, 3) := by decide +kernel
theorem d_Model_rounded_70 : decode b_Model_rounded 70 = .ok (.iconst 0, 1) := by decide +kernel
theorem d_Model_rounded_71 : decode b_Model_rounded 71 = .ok (.putfield 68, 3) := by decide +kernel
theorem d_Model_rounded_74 : decode b_Model_rounded 74 = .ok (.aload_n 0, 1) := by decide +kernel
theorem d_Model_rounded_75 : decode b_Model_rounded 75 = .ok (.getfield 23, 3) := by decide +kernel
theorem d_Model_rounded_78 : decode b_Model_rounded 78 = .ok (.bipush 60, 2) := by decide +kernel
theorem d_Model_rounded_80 : decode b_Model_rounded 80 = .ok (.iconst 0, 1) := by decide +kernel
theorem d_Model_rounded_81 : decode b_Model_rounded 81 = .ok (.iastore, 1) := by decide +kernel
theorem d_Model_rounded_82 : decode b_Model_rounded 82 = .ok (.iconst 0, 1) := by decide +kernel
theorem d_Model_rounded_83 : decode b_Model_rounded 83 = .ok (.istore 7, 2) := by decide +kernel
theorem d_Model_rounded_85 : decode b_Model_rounded 85 = .ok (.iload 7, 2) := by decide +kernel
theorem d_Model_rounded_87 : decode b_Model_rounded 87 = .ok (.aload_n 0, 1) := by decide +kernel
theorem d_Model_rounded_88 : decode b_Model_rounded 88 = .ok (.getfield 13, 3) := by decide +kernel
theorem d_Model_rounded_91 : decode b_Model_rounded 91 = .ok (.if_icmp .ge 44, 3) := by decide +kernel
theorem d_Model_rounded_94 : decode b_Model_rounded 94 = .ok (.aload_n 0, 1) := by decide +kernel
theorem d_Model_rounded_95 : decode b_Model_rounded 95 = .ok (.invokevirtual 65, 3) := by decide +kernel
theorem d_Model_rounded_98 : decode b_Model_rounded 98 = .ok (.ldc2_w 72, 3) := by decide +kernel
theorem d_Model_rounded_101 : decode b_Model_rounded 101 = .ok (.lload 5, 2) := by decide +kernel
theorem d_Model_rounded_103 : decode b_Model_rounded 103 = .ok (.lmul, 1) := by decide +kernel
theorem d_Model_rounded_104 : decode b_Model_rounded 104 = .ok (.aload_n 0, 1) := by decide +kernel
theorem d_Model_rounded_105 : decode b_Model_rounded 105 = .ok (.getfield 23, 3) := by decide +kernel
theorem d_Model_rounded_108 : decode b_Model_rounded 108 = .ok (.bipush 60, 2) := by decide +kernel
theorem d_Model_rounded_110 : decode b_Model_rounded 110 = .ok (.iaload, 1) := by decide +kernel
theorem d_Model_rounded_111 : decode b_Model_rounded 111 = .ok (.i2l, 1) := by decide +kernel
theorem d_Model_rounded_112 : decode b_Model_rounded 112 = .ok (.ladd, 1) := by decide +kernel
theorem d_Model_rounded_113 : decode b_Model_rounded 113 = .ok (.lstore 5, 2) := by decide +kernel
theorem d_Model_rounded_115 : decode b_Model_rounded 115 = .ok (.aload_n 0, 1) := by decide +kernel
theorem d_Model_rounded_116 : decode b_Model_rounded 116 = .ok (.getfield 23, 3) := by decide +kernel
theorem d_Model_rounded_119 : decode b_Model_rounded 119 = .ok (.bipush 60, 2) := by decide +kernel
theorem d_Model_rounded_121 : decode b_Model_rounded 121 = .ok (.iconst 0, 1) := by decide +kernel
theorem d_Model_rounded_122 : decode b_Model_rounded 122 = .ok (.iastore, 1) := by decide +kernel
theorem d_Model_rounded_123 : decode b_Model_rounded 123 = .ok (.aload_n 0, 1) := by decide +kernel
theorem d_Model_rounded_124 : decode b_Model_rounded 124 = .ok (.bipush 60, 2) := by decide +kernel
theorem d_Model_rounded_126 : decode b_Model_rounded 126 = .ok (.putfield 26, 3) := by decide +kernel
theorem d_Model_rounded_129 : decode b_Model_rounded 129 = .ok (.iinc 7 1, 3) := by decide +kernel
theorem d_Model_rounded_132 : decode b_Model_rounded 132 = .ok (.goto (-47), 3) := by decide +kernel
theorem d_Model_rounded_135 : decode b_Model_rounded 135 = .ok (.aload_n 0, 1) := by decide +kernel
theorem d_Model_rounded_136 : decode b_Model_rounded 136 = .ok (.iload_n 3, 1) := by decide +kernel
theorem d_Model_rounded_137 : decode b_Model_rounded 137 = .ok (.lload 5, 2) := by decide +kernel
theorem d_Model_rounded_139 : decode b_Model_rounded 139 = .ok (.aload_n 0, 1) := by decide +kernel
end
section
theorem d_Model_rounded_140 : decode b_Model_rounded 140 = .ok (.invokevirtual 74, 3) := by decide +kernel
theorem d_Model_rounded_143 : decode b_Model_rounded 143 = .ok (.iload_n 1, 1) := by decide +kernel
theorem d_Model_rounded_144 : decode b_Model_rounded 144 = .ok (.iload_n 2, 1) := by decide +kernel
theorem d_Model_rounded_145 : decode b_Model_rounded 145 = .ok (.invokevirtual 77, 3) := by decide +kernel
theorem d_Model_rounded_148 : decode b_Model_rounded 148 = .ok (.lreturn, 1) := by decide +kernel
theorem d_Model_packed_0 : decode b_Model_packed 0 = .ok (.aload_n 0, 1) := by decide +kernel
theorem d_Model_packed_1 : decode b_Model_packed 1 = .ok (.iload 4, 2) := by decide +kernel
theorem d_Model_packed_3 : decode b_Model_packed 3 = .ok (.ifCond .le 7, 3) := by decide +kernel
theorem d_Model_packed_6 : decode b_Model_packed 6 = .ok (.iconst 1, 1) := by decide +kernel
theorem d_Model_packed_7 : decode b_Model_packed 7 = .ok (.goto 4, 3) := by decide +kernel
theorem d_Model_packed_10 : decode b_Model_packed 10 = .ok (.iconst 0, 1) := by decide +kernel
theorem d_Model_packed_11 : decode b_Model_packed 11 = .ok (.putfield 81, 3) := by decide +kernel
theorem d_Model_packed_14 : decode b_Model_packed 14 = .ok (.aload_n 0, 1) := by decide +kernel
theorem d_Model_packed_15 : decode b_Model_packed 15 = .ok (.aload_n 0, 1) := by decide +kernel
theorem d_Model_packed_16 : decode b_Model_packed 16 = .ok (.getfield 68, 3) := by decide +kernel
theorem d_Model_packed_19 : decode b_Model_packed 19 = .ok (.ifCond .eq 14, 3) := by decide +kernel
theorem d_Model_packed_22 : decode b_Model_packed 22 = .ok (.aload_n 0, 1) := by decide +kernel
theorem d_Model_packed_23 : decode b_Model_packed 23 = .ok (.getfield 81, 3) := by decide +kernel
theorem d_Model_packed_26 : decode b_Model_packed 26 = .ok (.ifCond .eq 7, 3) := by decide +kernel
theorem d_Model_packed_29 : decode b_Model_packed 29 = .ok (.iconst 1, 1) := by decide +kernel
theorem d_Model_packed_30 : decode b_Model_packed 30 = .ok (.goto 4, 3) := by decide +kernel
theorem d_Model_packed_33 : decode b_Model_packed 33 = .ok (.iconst 0, 1) := by decide +kernel
theorem d_Model_packed_34 : decode b_Model_packed 34 = .ok (.putfield 68, 3) := by decide +kernel
theorem d_Model_packed_37 : decode b_Model_packed 37 = .ok (.iload_n 1, 1) := by decide +kernel
theorem d_Model_packed_38 : decode b_Model_packed 38 = .ok (.istore 7, 2) := by decide +kernel
theorem d_Model_packed_40 : decode b_Model_packed 40 = .ok (.aload_n 0, 1) := by decide +kernel
theorem d_Model_packed_41 : decode b_Model_packed 41 = .ok (.iload 5, 2) := by decide +kernel
theorem d_Model_packed_43 : decode b_Model_packed 43 = .ok (.iload 6, 2) := by decide +kernel
theorem d_Model_packed_45 : decode b_Model_packed 45 = .ok (.lload_n 2, 1) := by decide +kernel
theorem d_Model_packed_46 : decode b_Model_packed 46 = .ok (.iload 4, 2) := by decide +kernel
theorem d_Model_packed_48 : decode b_Model_packed 48 = .ok (.invokevirtual 84, 3) := by decide +kernel
theorem d_Model_packed_51 : decode b_Model_packed 51 = .ok (.ifCond .eq 9, 3) := by decide +kernel
theorem d_Model_packed_54 : decode b_Model_packed 54 = .ok (.lload_n 2, 1) := by decide +kernel
theorem d_Model_packed_55 : decode b_Model_packed 55 = .ok (.lconst 1, 1) := by decide +kernel
theorem d_Model_packed_56 : decode b_Model_packed 56 = .ok (.ladd, 1) := by decide +kernel
theorem d_Model_packed_57 : decode b_Model_packed 57 = .ok (.goto 4, 3) := by decide +kernel
theorem d_Model_packed_60 : decode b_Model_packed 60 = .ok (.lload_n 2, 1) := by decide +kernel
theorem d_Model_packed_61 : decode b_Model_packed 61 = .ok (.lstore 8, 2) := by decide +kernel
theorem d_Model_packed_63 : decode b_Model_packed 63 = .ok (.lconst 1, 1) := by decide +kernel
theorem d_Model_packed_64 : decode b_Model_packed 64 = .ok (.aload_n 0, 1) := by decide +kernel
theorem d_Model_packed_65 : decode b_Model_packed 65 = .ok (.getfield 13, 3) := by decide +kernel
theorem d_Model_packed_68 : decode b_Model_packed 68 = .ok (.lshl, 1) := by decide +kernel
theorem d_Model_packed_69 : decode b_Model_packed 69 = .ok (.lstore 10, 2) := by decide +kernel
theorem d_Model_packed_71 : decode b_Model_packed 71 = .ok (.lload 8, 2) := by decide +kernel
theorem d_Model_packed_73 : decode b_Model_packed 73 = .ok (.ldc2_w 72, 3) := by decide +kernel
theorem d_Model_packed_76 : decode b_Model_packed 76 = .ok (.lload 10, 2) := by decide +kernel
theorem d_Model_packed_78 : decode b_Model_packed 78 = .ok (.lmul, 1) := by decide +kernel
theorem d_Model_packed_79 : decode b_Model_packed 79 = .ok (.lcmp, 1) := by decide +kernel
theorem d_Model_packed_80 : decode b_Model_packed 80 = .ok (.ifCond .ne 10, 3) := by decide +kernel
theorem d_Model_packed_83 : decode b_Model_packed 83 = .ok (.lload 10, 2) := by decide +kernel
theorem d_Model_packed_85 : decode b_Model_packed 85 = .ok (.lstore 8, 2) := by decide +kernel
theorem d_Model_packed_87 : decode b_Model_packed 87 = .ok (.iinc 7 1, 3) := by decide +kernel
theorem d_Model_packed_90 : decode b_Model_packed 90 = .ok (.lload 8, 2) := by decide +kernel
theorem d_Model_packed_92 : decode b_Model_packed 92 = .ok (.lload 10, 2) := by decide +kernel
theorem d_Model_packed_94 : decode b_Model_packed 94 = .ok (.lcmp, 1) := by decide +kernel
theorem d_Model_packed_95 : decode b_Model_packed 95 = .ok (.ifCond .ge 11, 3) := by decide +kernel
theorem d_Model_packed_98 : decode b_Model_packed 98 = .ok (.aload_n 0, 1) := by decide +kernel
theorem d_Model_packed_99 : decode b_Model_packed 99 = .ok (.iconst 0, 1) := by decide +kernel
theorem d_Model_packed_100 : decode b_Model_packed 100 = .ok (.putfield 88, 3) := by decide +kernel
theorem d_Model_packed_103 : decode b_Model_packed 103 = .ok (.lload 8, 2) := by decide +kernel
theorem d_Model_packed_105 : decode b_Model_packed 105 = .ok (.lreturn, 1) := by decide +kernel
theorem d_Model_packed_106 : decode b_Model_packed 106 = .ok (.iload 7, 2) := by decide +kernel
theorem d_Model_packed_108 : decode b_Model_packed 108 = .ok (.aload_n 0, 1) := by decide +kernel
theorem d_Model_packed_109 : decode b_Model_packed 109 = .ok (.invokevirtual 55, 3) := by decide +kernel
theorem d_Model_packed_112 : decode b_Model_packed 112 = .ok (.iadd, 1) := by decide +kernel
theorem d_Model_packed_113 : decode b_Model_packed 113 = .ok (.istore 12, 2) := by decide +kernel
theorem d_Model_packed_115 : decode b_Model_packed 115 = .ok (.aload_n 0, 1) := by decide +kernel
theorem d_Model_packed_116 : decode b_Model_packed 116 = .ok (.iload 12, 2) := by decide +kernel
theorem d_Model_packed_118 : decode b_Model_packed 118 = .ok (.iconst 1, 1) := by decide +kernel
theorem d_Model_packed_119 : decode b_Model_packed 119 = .ok (.aload_n 0, 1) := by decide +kernel
theorem d_Model_packed_120 : decode b_Model_packed 120 = .ok (.getfield 7, 3) := by decide +kernel
theorem d_Model_packed_123 : decode b_Model_packed 123 = .ok (.ishl, 1) := by decide +kernel
theorem d_Model_packed_124 : decode b_Model_packed 124 = .ok (.iconst 1, 1) := by decide +kernel
theorem d_Model_packed_125 : decode b_Model_packed 125 = .ok (.isub, 1) := by decide +kernel
theorem d_Model_packed_126 : decode b_Model_packed 126 = .ok (.if_icmp .lt 7, 3) := by decide +kernel
theorem d_Model_packed_129 : decode b_Model_packed 129 = .ok (.iconst 1, 1) := by decide +kernel
theorem d_Model_packed_130 : decode b_Model_packed 130 = .ok (.goto 4, 3) := by decide +kernel
theorem d_Model_packed_133 : decode b_Model_packed 133 = .ok (.iconst 0, 1) := by decide +kernel
theorem d_Model_packed_134 : decode b_Model_packed 134 = .ok (.putfield 88, 3) := by decide +kernel
theorem d_Model_packed_137 : decode b_Model_packed 137 = .ok (.aload_n 0, 1) := by decide +kernel
theorem d_Model_packed_138 : decode b_Model_packed 138 = .ok (.getfield 88, 3) := by decide +kernel
theorem d_Model_packed_141 : decode b_Model_packed 141 = .ok (.ifCond .ne 18, 3) := by decide +kernel
theorem d_Model_packed_144 : decode b_Model_packed 144 = .ok (.iload 12, 2) := by decide +kernel
theorem d_Model_packed_146 : decode b_Model_packed 146 = .ok (.i2l, 1) := by decide +kernel
theorem d_Model_packed_147 : decode b_Model_packed 147 = .ok (.aload_n 0, 1) := by decide +kernel
theorem d_Model_packed_148 : decode b_Model_packed 148 = .ok (.getfield 13, 3) := by decide +kernel
theorem d_Model_packed_151 : decode b_Model_packed 151 = .ok (.lshl, 1) := by decide +kernel
theorem d_Model_packed_152 : decode b_Model_packed 152 = .ok (.lload 8, 2) := by decide +kernel
theorem d_Model_packed_154 : decode b_Model_packed 154 = .ok (.ladd, 1) := by decide +kernel
theorem d_Model_packed_155 : decode b_Model_packed 155 = .ok (.lload 10, 2) := by decide +kernel
theorem d_Model_packed_157 : decode b_Model_packed 157 = .ok (.lsub, 1) := by decide +kernel
theorem d_Model_packed_158 : decode b_Model_packed 158 = .ok (.lreturn, 1) := by decide +kernel
theorem d_Model_packed_159 : decode b_Model_packed 159 = .ok (.aload_n 0, 1) := by decide +kernel
theorem d_Model_packed_160 : decode b_Model_packed 160 = .ok (.iconst 1, 1) := by decide +kernel
theorem d_Model_packed_161 : decode b_Model_packed 161 = .ok (.putfield 81, 3) := by decide +kernel
theorem d_Model_packed_164 : decode b_Model_packed 164 = .ok (.iload 6, 2) := by decide +kernel
theorem d_Model_packed_166 : decode b_Model_packed 166 = .ok (.ifCond .eq 31, 3) := by decide +kernel
theorem d_Model_packed_169 : decode b_Model_packed 169 = .ok (.iload 6, 2) := by decide +kernel
theorem d_Model_packed_171 : decode b_Model_packed 171 = .ok (.iconst 4, 1) := by decide +kernel
theorem d_Model_packed_172 : decode b_Model_packed 172 = .ok (.if_icmp .eq 25, 3) := by decide +kernel
theorem d_Model_packed_175 : decode b_Model_packed 175 = .ok (.iload 6, 2) := by decide +kernel
theorem d_Model_packed_177 : decode b_Model_packed 177 = .ok (.iconst 2, 1) := by decide +kernel
theorem d_Model_packed_178 : decode b_Model_packed 178 = .ok (.if_icmp .ne 8, 3) := by decide +kernel
theorem d_Model_packed_181 : decode b_Model_packed 181 = .ok (.iload 5, 2) := by decide +kernel
theorem d_Model_packed_183 : decode b_Model_packed 183 = .ok (.ifCond .eq 14, 3) := by decide +kernel
theorem d_Model_packed_186 : decode b_Model_packed 186 = .ok (.iload 6, 2) := by decide +kernel
theorem d_Model_packed_188 : decode b_Model_packed 188 = .ok (.iconst 3, 1) := by decide +kernel
theorem d_Model_packed_189 : decode b_Model_packed 189 = .ok (.if_icmp .ne 12, 3) := by decide +kernel
theorem d_Model_packed_192 : decode b_Model_packed 192 = .ok (.iload 5, 2) := by decide +kernel
theorem d_Model_packed_194 : decode b_Model_packed 194 = .ok (.ifCond .eq 7, 3) := by decide +kernel
theorem d_Model_packed_197 : decode b_Model_packed 197 = .ok (.iconst 1, 1) := by decide +kernel
theorem d_Model_packed_198 : decode b_Model_packed 198 = .ok (.goto 4, 3) := by decide +kernel
theorem d_Model_packed_201 : decode b_Model_packed 201 = .ok (.iconst 0, 1) := by decide +kernel
theorem d_Model_packed_202 : decode b_Model_packed 202 = .ok (.istore 13, 2) := by decide +kernel
theorem d_Model_packed_204 : decode b_Model_packed 204 = .ok (.iload 13, 2) := by decide +kernel
theorem d_Model_packed_206 : decode b_Model_packed 206 = .ok (.ifCond .eq 10, 3) := by decide +kernel
theorem d_Model_packed_209 : decode b_Model_packed 209 = .ok (.aload_n 0, 1) := by decide +kernel
theorem d_Model_packed_210 : decode b_Model_packed 210 = .ok (.invokevirtual 91, 3) := by decide +kernel
theorem d_Model_packed_213 : decode b_Model_packed 213 = .ok (.goto 9, 3) := by decide +kernel
theorem d_Model_packed_216 : decode b_Model_packed 216 = .ok (.aload_n 0, 1) := by decide +kernel
theorem d_Model_packed_217 : decode b_Model_packed 217 = .ok (.invokevirtual 91, 3) := by decide +kernel
theorem d_Model_packed_220 : decode b_Model_packed 220 = .ok (.lconst 1, 1) := by decide +kernel
theorem d_Model_packed_221 : decode b_Model_packed 221 = .ok (.lsub, 1) := by decide +kernel
theorem d_Model_packed_222 : decode b_Model_packed 222 = .ok (.lreturn, 1) := by decide +kernel
theorem d_Model_see_0 : decode b_Model_see 0 = .ok (.iload_n 1, 1) := by decide +kernel
theorem d_Model_see_1 : decode b_Model_see 1 = .ok (.aload_n 0, 1) := by decide +kernel
theorem d_Model_see_2 : decode b_Model_see 2 = .ok (.getfield 47, 3) := by decide +kernel
theorem d_Model_see_5 : decode b_Model_see 5 = .ok (.if_icmp .ge 12, 3) := by decide +kernel
theorem d_Model_see_8 : decode b_Model_see 8 = .ok (.aload_n 0, 1) := by decide +kernel
theorem d_Model_see_9 : decode b_Model_see 9 = .ok (.getfield 16, 3) := by decide +kernel
theorem d_Model_see_12 : decode b_Model_see 12 = .ok (.iload_n 1, 1) := by decide +kernel
theorem d_Model_see_13 : decode b_Model_see 13 = .ok (.iaload, 1) := by decide +kernel
theorem d_Model_see_14 : decode b_Model_see 14 = .ok (.goto 4, 3) := by decide +kernel
theorem d_Model_see_17 : decode b_Model_see 17 = .ok (.iconst 0, 1) := by decide +kernel
theorem d_Model_see_18 : decode b_Model_see 18 = .ok (.ireturn, 1) := by decide +kernel
theorem d_Model_isDigit_0 : decode b_Model_isDigit 0 = .ok (.iload_n 0, 1) := by decide +kernel
theorem d_Model_isDigit_1 : decode b_Model_isDigit 1 = .ok (.bipush 48, 2) := by decide +kernel
theorem d_Model_isDigit_3 : decode b_Model_isDigit 3 = .ok (.if_icmp .lt 13, 3) := by decide +kernel
theorem d_Model_isDigit_6 : decode b_Model_isDigit 6 = .ok (.iload_n 0, 1) := by decide +kernel
theorem d_Model_isDigit_7 : decode b_Model_isDigit 7 = .ok (.bipush 57, 2) := by decide +kernel
theorem d_Model_isDigit_9 : decode b_Model_isDigit 9 = .ok (.if_icmp .gt 7, 3) := by decide +kernel
theorem d_Model_isDigit_12 : decode b_Model_isDigit 12 = .ok (.iconst 1, 1) := by decide +kernel
theorem d_Model_isDigit_13 : decode b_Model_isDigit 13 = .ok (.goto 4, 3) := by decide +kernel
theorem d_Model_isDigit_16 : decode b_Model_isDigit 16 = .ok (.iconst 0, 1) := by decide +kernel
theorem d_Model_isDigit_17 : decode b_Model_isDigit 17 = .ok (.ireturn, 1) := by decide +kernel
theorem d_Model_run_0 : decode b_Model_run 0 = .ok (.iconst 0, 1) := by decide +kernel
theorem d_Model_run_1 : decode b_Model_run 1 = .ok (.istore_n 1, 1) := by decide +kernel
theorem d_Model_run_2 : decode b_Model_run 2 = .ok (.aload_n 0, 1) := by decide +kernel
theorem d_Model_run_3 : decode b_Model_run 3 = .ok (.aload_n 0, 1) := by decide +kernel
theorem d_Model_run_4 : decode b_Model_run 4 = .ok (.getfield 95, 3) := by decide +kernel
theorem d_Model_run_7 : decode b_Model_run 7 = .ok (.invokevirtual 98, 3) := by decide +kernel
theorem d_Model_run_10 : decode b_Model_run 10 = .ok (.invokestatic 102, 3) := by decide +kernel
theorem d_Model_run_13 : decode b_Model_run 13 = .ok (.ifCond .eq 58, 3) := by decide +kernel
theorem d_Model_run_16 : decode b_Model_run 16 = .ok (.aload_n 0, 1) := by decide +kernel
theorem d_Model_run_17 : decode b_Model_run 17 = .ok (.getfield 106, 3) := by decide +kernel
theorem d_Model_run_20 : decode b_Model_run 20 = .ok (.bipush 40, 2) := by decide +kernel
theorem d_Model_run_22 : decode b_Model_run 22 = .ok (.if_icmp .ge 23, 3) := by decide +kernel
theorem d_Model_run_25 : decode b_Model_run 25 = .ok (.aload_n 0, 1) := by decide +kernel
theorem d_Model_run_26 : decode b_Model_run 26 = .ok (.getfield 35, 3) := by decide +kernel
theorem d_Model_run_29 : decode b_Model_run 29 = .ok (.aload_n 0, 1) := by decide +kernel
theorem d_Model_run_30 : decode b_Model_run 30 = .ok (.getfield 106, 3) := by decide +kernel
theorem d_Model_run_33 : decode b_Model_run 33 = .ok (.aload_n 0, 1) := by decide +kernel
theorem d_Model_run_34 : decode b_Model_run 34 = .ok (.aload_n 0, 1) := by decide +kernel
theorem d_Model_run_35 : decode b_Model_run 35 = .ok (.getfield 95, 3) := by decide +kernel
theorem d_Model_run_38 : decode b_Model_run 38 = .ok (.invokevirtual 98, 3) := by decide +kernel
theorem d_Model_run_41 : decode b_Model_run 41 = .ok (.bipush 48, 2) := by decide +kernel
theorem d_Model_run_43 : decode b_Model_run 43 = .ok (.isub, 1) := by decide +kernel
theorem d_Model_run_44 : decode b_Model_run 44 = .ok (.iastore, 1) := by decide +kernel
theorem d_Model_run_45 : decode b_Model_run 45 = .ok (.aload_n 0, 1) := by decide +kernel
theorem d_Model_run_46 : decode b_Model_run 46 = .ok (.dup, 1) := by decide +kernel
theorem d_Model_run_47 : decode b_Model_run 47 = .ok (.getfield 106, 3) := by decide +kernel
theorem d_Model_run_50 : decode b_Model_run 50 = .ok (.iconst 1, 1) := by decide +kernel
theorem d_Model_run_51 : decode b_Model_run 51 = .ok (.iadd, 1) := by decide +kernel
theorem d_Model_run_52 : decode b_Model_run 52 = .ok (.putfield 106, 3) := by decide +kernel
theorem d_Model_run_55 : decode b_Model_run 55 = .ok (.iinc 1 1, 3) := by decide +kernel
theorem d_Model_run_58 : decode b_Model_run 58 = .ok (.aload_n 0, 1) := by decide +kernel
theorem d_Model_run_59 : decode b_Model_run 59 = .ok (.dup, 1) := by decide +kernel
theorem d_Model_run_60 : decode b_Model_run 60 = .ok (.getfield 95, 3) := by decide +kernel
theorem d_Model_run_63 : decode b_Model_run 63 = .ok (.iconst 1, 1) := by decide +kernel
theorem d_Model_run_64 : decode b_Model_run 64 = .ok (.iadd, 1) := by decide +kernel
theorem d_Model_run_65 : decode b_Model_run 65 = .ok (.putfield 95, 3) := by decide +kernel
theorem d_Model_run_68 : decode b_Model_run 68 = .ok (.goto (-66), 3) := by decide +kernel
theorem d_Model_run_71 : decode b_Model_run 71 = .ok (.iload_n 1, 1) := by decide +kernel
theorem d_Model_run_72 : decode b_Model_run 72 = .ok (.ireturn, 1) := by decide +kernel
theorem d_Model_isDecimal_0 : decode b_Model_isDecimal 0 = .ok (.aload_n 0, 1) := by decide +kernel
theorem d_Model_isDecimal_1 : decode b_Model_isDecimal 1 = .ok (.iconst 0, 1) := by decide +kernel
theorem d_Model_isDecimal_2 : decode b_Model_isDecimal 2 = .ok (.putfield 95, 3) := by decide +kernel
theorem d_Model_isDecimal_5 : decode b_Model_isDecimal 5 = .ok (.aload_n 0, 1) := by decide +kernel
theorem d_Model_isDecimal_6 : decode b_Model_isDecimal 6 = .ok (.iconst 0, 1) := by decide +kernel
theorem d_Model_isDecimal_7 : decode b_Model_isDecimal 7 = .ok (.putfield 106, 3) := by decide +kernel
theorem d_Model_isDecimal_10 : decode b_Model_isDecimal 10 = .ok (.aload_n 0, 1) := by decide +kernel
theorem d_Model_isDecimal_11 : decode b_Model_isDecimal 11 = .ok (.iconst 0, 1) := by decide +kernel
theorem d_Model_isDecimal_12 : decode b_Model_isDecimal 12 = .ok (.putfield 109, 3) := by decide +kernel
theorem d_Model_isDecimal_15 : decode b_Model_isDecimal 15 = .ok (.aload_n 0, 1) := by decide +kernel
theorem d_Model_isDecimal_16 : decode b_Model_isDecimal 16 = .ok (.aload_n 0, 1) := by decide +kernel
theorem d_Model_isDecimal_17 : decode b_Model_isDecimal 17 = .ok (.iconst 0, 1) := by decide +kernel
theorem d_Model_isDecimal_18 : decode b_Model_isDecimal 18 = .ok (.invokevirtual 98, 3) := by decide +kernel
theorem d_Model_isDecimal_21 : decode b_Model_isDecimal 21 = .ok (.bipush 45, 2) := by decide +kernel
theorem d_Model_isDecimal_23 : decode b_Model_isDecimal 23 = .ok (.if_icmp .ne 7, 3) := by decide +kernel
theorem d_Model_isDecimal_26 : decode b_Model_isDecimal 26 = .ok (.iconst 1, 1) := by decide +kernel
theorem d_Model_isDecimal_27 : decode b_Model_isDecimal 27 = .ok (.goto 4, 3) := by decide +kernel
theorem d_Model_isDecimal_30 : decode b_Model_isDecimal 30 = .ok (.iconst 0, 1) := by decide +kernel
theorem d_Model_isDecimal_31 : decode b_Model_isDecimal 31 = .ok (.putfield 112, 3) := by decide +kernel
theorem d_Model_isDecimal_34 : decode b_Model_isDecimal 34 = .ok (.aload_n 0, 1) := by decide +kernel
theorem d_Model_isDecimal_35 : decode b_Model_isDecimal 35 = .ok (.getfield 112, 3) := by decide +kernel
theorem d_Model_isDecimal_38 : decode b_Model_isDecimal 38 = .ok (.ifCond .eq 13, 3) := by decide +kernel
theorem d_Model_isDecimal_41 : decode b_Model_isDecimal 41 = .ok (.aload_n 0, 1) := by decide +kernel
theorem d_Model_isDecimal_42 : decode b_Model_isDecimal 42 = .ok (.dup, 1) := by decide +kernel
theorem d_Model_isDecimal_43 : decode b_Model_isDecimal 43 = .ok (.getfield 95, 3) := by decide +kernel
theorem d_Model_isDecimal_46 : decode b_Model_isDecimal 46 = .ok (.iconst 1, 1) := by decide +kernel
theorem d_Model_isDecimal_47 : decode b_Model_isDecimal 47 = .ok (.iadd, 1) := by decide +kernel
theorem d_Model_isDecimal_48 : decode b_Model_isDecimal 48 = .ok (.putfield 95, 3) := by decide +kernel
theorem d_Model_isDecimal_51 : decode b_Model_isDecimal 51 = .ok (.aload_n 0, 1) := by decide +kernel
theorem d_Model_isDecimal_52 : decode b_Model_isDecimal 52 = .ok (.aload_n 0, 1) := by decide +kernel
theorem d_Model_isDecimal_53 : decode b_Model_isDecimal 53 = .ok (.invokevirtual 115, 3) := by decide +kernel
theorem d_Model_isDecimal_56 : decode b_Model_isDecimal 56 = .ok (.putfield 118, 3) := by decide +kernel
theorem d_Model_isDecimal_59 : decode b_Model_isDecimal 59 = .ok (.aload_n 0, 1) := by decide +kernel
theorem d_Model_isDecimal_60 : decode b_Model_isDecimal 60 = .ok (.getfield 118, 3) := by decide +kernel
theorem d_Model_isDecimal_63 : decode b_Model_isDecimal 63 = .ok (.ifCond .ne 5, 3) := by decide +kernel
theorem d_Model_isDecimal_66 : decode b_Model_isDecimal 66 = .ok (.iconst 0, 1) := by decide +kernel
theorem d_Model_isDecimal_67 : decode b_Model_isDecimal 67 = .ok (.ireturn, 1) := by decide +kernel
theorem d_Model_isDecimal_68 : decode b_Model_isDecimal 68 = .ok (.aload_n 0, 1) := by decide +kernel
theorem d_Model_isDecimal_69 : decode b_Model_isDecimal 69 = .ok (.aload_n 0, 1) := by decide +kernel
theorem d_Model_isDecimal_70 : decode b_Model_isDecimal 70 = .ok (.getfield 95, 3) := by decide +kernel
theorem d_Model_isDecimal_73 : decode b_Model_isDecimal 73 = .ok (.invokevirtual 98, 3) := by decide +kernel
theorem d_Model_isDecimal_76 : decode b_Model_isDecimal 76 = .ok (.bipush 46, 2) := by decide +kernel
theorem d_Model_isDecimal_78 : decode b_Model_isDecimal 78 = .ok (.if_icmp .ne 22, 3) := by decide +kernel
theorem d_Model_isDecimal_81 : decode b_Model_isDecimal 81 = .ok (.aload_n 0, 1) := by decide +kernel
theorem d_Model_isDecimal_82 : decode b_Model_isDecimal 82 = .ok (.dup, 1) := by decide +kernel
theorem d_Model_isDecimal_83 : decode b_Model_isDecimal 83 = .ok (.getfield 95, 3) := by decide +kernel
theorem d_Model_isDecimal_86 : decode b_Model_isDecimal 86 = .ok (.iconst 1, 1) := by decide +kernel
theorem d_Model_isDecimal_87 : decode b_Model_isDecimal 87 = .ok (.iadd, 1) := by decide +kernel
theorem d_Model_isDecimal_88 : decode b_Model_isDecimal 88 = .ok (.putfield 95, 3) := by decide +kernel
theorem d_Model_isDecimal_91 : decode b_Model_isDecimal 91 = .ok (.aload_n 0, 1) := by decide +kernel
theorem d_Model_isDecimal_92 : decode b_Model_isDecimal 92 = .ok (.invokevirtual 115, 3) := by decide +kernel
theorem d_Model_isDecimal_95 : decode b_Model_isDecimal 95 = .ok (.ifCond .ne 5, 3) := by decide +kernel
theorem d_Model_isDecimal_98 : decode b_Model_isDecimal 98 = .ok (.iconst 0, 1) := by decide +kernel
theorem d_Model_isDecimal_99 : decode b_Model_isDecimal 99 = .ok (.ireturn, 1) := by decide +kernel
theorem d_Model_isDecimal_100 : decode b_Model_isDecimal 100 = .ok (.aload_n 0, 1) := by decide +kernel
theorem d_Model_isDecimal_101 : decode b_Model_isDecimal 101 = .ok (.getfield 106, 3) := by decide +kernel
theorem d_Model_isDecimal_104 : decode b_Model_isDecimal 104 = .ok (.bipush 40, 2) := by decide +kernel
theorem d_Model_isDecimal_106 : decode b_Model_isDecimal 106 = .ok (.if_icmp .le 5, 3) := by decide +kernel
theorem d_Model_isDecimal_109 : decode b_Model_isDecimal 109 = .ok (.iconst 0, 1) := by decide +kernel
theorem d_Model_isDecimal_110 : decode b_Model_isDecimal 110 = .ok (.ireturn, 1) := by decide +kernel
theorem d_Model_isDecimal_111 : decode b_Model_isDecimal 111 = .ok (.aload_n 0, 1) := by decide +kernel
theorem d_Model_isDecimal_112 : decode b_Model_isDecimal 112 = .ok (.aload_n 0, 1) := by decide +kernel
theorem d_Model_isDecimal_113 : decode b_Model_isDecimal 113 = .ok (.getfield 95, 3) := by decide +kernel
theorem d_Model_isDecimal_116 : decode b_Model_isDecimal 116 = .ok (.invokevirtual 98, 3) := by decide +kernel
theorem d_Model_isDecimal_119 : decode b_Model_isDecimal 119 = .ok (.bipush 101, 2) := by decide +kernel
theorem d_Model_isDecimal_121 : decode b_Model_isDecimal 121 = .ok (.if_icmp .ne 138, 3) := by decide +kernel
theorem d_Model_isDecimal_124 : decode b_Model_isDecimal 124 = .ok (.aload_n 0, 1) := by decide +kernel
theorem d_Model_isDecimal_125 : decode b_Model_isDecimal 125 = .ok (.dup, 1) := by decide +kernel
theorem d_Model_isDecimal_126 : decode b_Model_isDecimal 126 = .ok (.getfield 95, 3) := by decide +kernel
theorem d_Model_isDecimal_129 : decode b_Model_isDecimal 129 = .ok (.iconst 1, 1) := by decide +kernel
theorem d_Model_isDecimal_130 : decode b_Model_isDecimal 130 = .ok (.iadd, 1) := by decide +kernel
theorem d_Model_isDecimal_131 : decode b_Model_isDecimal 131 = .ok (.putfield 95, 3) := by decide +kernel
theorem d_Model_isDecimal_134 : decode b_Model_isDecimal 134 = .ok (.aload_n 0, 1) := by decide +kernel
theorem d_Model_isDecimal_135 : decode b_Model_isDecimal 135 = .ok (.aload_n 0, 1) := by decide +kernel
theorem d_Model_isDecimal_136 : decode b_Model_isDecimal 136 = .ok (.getfield 95, 3) := by decide +kernel
theorem d_Model_isDecimal_139 : decode b_Model_isDecimal 139 = .ok (.invokevirtual 98, 3) := by decide +kernel
theorem d_Model_isDecimal_142 : decode b_Model_isDecimal 142 = .ok (.bipush 45, 2) := by decide +kernel
theorem d_Model_isDecimal_144 : decode b_Model_isDecimal 144 = .ok (.if_icmp .ne 7, 3) := by decide +kernel
theorem d_Model_isDecimal_147 : decode b_Model_isDecimal 147 = .ok (.iconst 1, 1) := by decide +kernel
theorem d_Model_isDecimal_148 : decode b_Model_isDecimal 148 = .ok (.goto 4, 3) := by decide +kernel
theorem d_Model_isDecimal_151 : decode b_Model_isDecimal 151 = .ok (.iconst 0, 1) := by decide +kernel
theorem d_Model_isDecimal_152 : decode b_Model_isDecimal 152 = .ok (.istore_n 1, 1) := by decide +kernel
theorem d_Model_isDecimal_153 : decode b_Model_isDecimal 153 = .ok (.iload_n 1, 1) := by decide +kernel
theorem d_Model_isDecimal_154 : decode b_Model_isDecimal 154 = .ok (.ifCond .ne 16, 3) := by decide +kernel
theorem d_Model_isDecimal_157 : decode b_Model_isDecimal 157 = .ok (.aload_n 0, 1) := by decide +kernel
theorem d_Model_isDecimal_158 : decode b_Model_isDecimal 158 = .ok (.aload_n 0, 1) := by decide +kernel
theorem d_Model_isDecimal_159 : decode b_Model_isDecimal 159 = .ok (.getfield 95, 3) := by decide +kernel
theorem d_Model_isDecimal_162 : decode b_Model_isDecimal 162 = .ok (.invokevirtual 98, 3) := by decide +kernel
theorem d_Model_isDecimal_165 : decode b_Model_isDecimal 165 = .ok (.bipush 43, 2) := by decide +kernel
theorem d_Model_isDecimal_167 : decode b_Model_isDecimal 167 = .ok (.if_icmp .ne 13, 3) := by decide +kernel
theorem d_Model_isDecimal_170 : decode b_Model_isDecimal 170 = .ok (.aload_n 0, 1) := by decide +kernel
theorem d_Model_isDecimal_171 : decode b_Model_isDecimal 171 = .ok (.dup, 1) := by decide +kernel
theorem d_Model_isDecimal_172 : decode b_Model_isDecimal 172 = .ok (.getfield 95, 3) := by decide +kernel
theorem d_Model_isDecimal_175 : decode b_Model_isDecimal 175 = .ok (.iconst 1, 1) := by decide +kernel
theorem d_Model_isDecimal_176 : decode b_Model_isDecimal 176 = .ok (.iadd, 1) := by decide +kernel
theorem d_Model_isDecimal_177 : decode b_Model_isDecimal 177 = .ok (.putfield 95, 3) := by decide +kernel
theorem d_Model_isDecimal_180 : decode b_Model_isDecimal 180 = .ok (.iconst 0, 1) := by decide +kernel
theorem d_Model_isDecimal_181 : decode b_Model_isDecimal 181 = .ok (.istore_n 2, 1) := by decide +kernel
theorem d_Model_isDecimal_182 : decode b_Model_isDecimal 182 = .ok (.iload_n 2, 1) := by decide +kernel
theorem d_Model_isDecimal_183 : decode b_Model_isDecimal 183 = .ok (.iconst 3, 1) := by decide +kernel
theorem d_Model_isDecimal_184 : decode b_Model_isDecimal 184 = .ok (.if_icmp .ge 56, 3) := by decide +kernel
theorem d_Model_isDecimal_187 : decode b_Model_isDecimal 187 = .ok (.aload_n 0, 1) := by decide +kernel
theorem d_Model_isDecimal_188 : decode b_Model_isDecimal 188 = .ok (.aload_n 0, 1) := by decide +kernel
theorem d_Model_isDecimal_189 : decode b_Model_isDecimal 189 = .ok (.getfield 95, 3) := by decide +kernel
theorem d_Model_isDecimal_192 : decode b_Model_isDecimal 192 = .ok (.invokevirtual 98, 3) := by decide +kernel
theorem d_Model_isDecimal_195 : decode b_Model_isDecimal 195 = .ok (.invokestatic 102, 3) := by decide +kernel
theorem d_Model_isDecimal_198 : decode b_Model_isDecimal 198 = .ok (.ifCond .eq 42, 3) := by decide +kernel
theorem d_Model_isDecimal_201 : decode b_Model_isDecimal 201 = .ok (.aload_n 0, 1) := by decide +kernel
theorem d_Model_isDecimal_202 : decode b_Model_isDecimal 202 = .ok (.bipush 10, 2) := by decide +kernel
theorem d_Model_isDecimal_204 : decode b_Model_isDecimal 204 = .ok (.aload_n 0, 1) := by decide +kernel
theorem d_Model_isDecimal_205 : decode b_Model_isDecimal 205 = .ok (.getfield 109, 3) := by decide +kernel
theorem d_Model_isDecimal_208 : decode b_Model_isDecimal 208 = .ok (.imul, 1) := by decide +kernel
theorem d_Model_isDecimal_209 : decode b_Model_isDecimal 209 = .ok (.aload_n 0, 1) := by decide +kernel
theorem d_Model_isDecimal_210 : decode b_Model_isDecimal 210 = .ok (.aload_n 0, 1) := by decide +kernel
theorem d_Model_isDecimal_211 : decode b_Model_isDecimal 211 = .ok (.getfield 95, 3) := by decide +kernel
theorem d_Model_isDecimal_214 : decode b_Model_isDecimal 214 = .ok (.invokevirtual 98, 3) := by decide +kernel
theorem d_Model_isDecimal_217 : decode b_Model_isDecimal 217 = .ok (.iadd, 1) := by decide +kernel
theorem d_Model_isDecimal_218 : decode b_Model_isDecimal 218 = .ok (.bipush 48, 2) := by decide +kernel
theorem d_Model_isDecimal_220 : decode b_Model_isDecimal 220 = .ok (.isub, 1) := by decide +kernel
theorem d_Model_isDecimal_221 : decode b_Model_isDecimal 221 = .ok (.putfield 109, 3) := by decide +kernel
theorem d_Model_isDecimal_224 : decode b_Model_isDecimal 224 = .ok (.aload_n 0, 1) := by decide +kernel
theorem d_Model_isDecimal_225 : decode b_Model_isDecimal 225 = .ok (.dup, 1) := by decide +kernel
theorem d_Model_isDecimal_226 : decode b_Model_isDecimal 226 = .ok (.getfield 95, 3) := by decide +kernel
theorem d_Model_isDecimal_229 : decode b_Model_isDecimal 229 = .ok (.iconst 1, 1) := by decide +kernel
theorem d_Model_isDecimal_230 : decode b_Model_isDecimal 230 = .ok (.iadd, 1) := by decide +kernel
theorem d_Model_isDecimal_231 : decode b_Model_isDecimal 231 = .ok (.putfield 95, 3) := by decide +kernel
theorem d_Model_isDecimal_234 : decode b_Model_isDecimal 234 = .ok (.iinc 2 1, 3) := by decide +kernel
theorem d_Model_isDecimal_237 : decode b_Model_isDecimal 237 = .ok (.goto (-55), 3) := by decide +kernel
theorem d_Model_isDecimal_240 : decode b_Model_isDecimal 240 = .ok (.iload_n 2, 1) := by decide +kernel
theorem d_Model_isDecimal_241 : decode b_Model_isDecimal 241 = .ok (.ifCond .ne 5, 3) := by decide +kernel
theorem d_Model_isDecimal_244 : decode b_Model_isDecimal 244 = .ok (.iconst 0, 1) := by decide +kernel
theorem d_Model_isDecimal_245 : decode b_Model_isDecimal 245 = .ok (.ireturn, 1) := by decide +kernel
theorem d_Model_isDecimal_246 : decode b_Model_isDecimal 246 = .ok (.iload_n 1, 1) := by decide +kernel
theorem d_Model_isDecimal_247 : decode b_Model_isDecimal 247 = .ok (.ifCond .eq 12, 3) := by decide +kernel
theorem d_Model_isDecimal_250 : decode b_Model_isDecimal 250 = .ok (.aload_n 0, 1) := by decide +kernel
theorem d_Model_isDecimal_251 : decode b_Model_isDecimal 251 = .ok (.aload_n 0, 1) := by decide +kernel
theorem d_Model_isDecimal_252 : decode b_Model_isDecimal 252 = .ok (.getfield 109, 3) := by decide +kernel
theorem d_Model_isDecimal_255 : decode b_Model_isDecimal 255 = .ok (.ineg, 1) := by decide +kernel
theorem d_Model_isDecimal_256 : decode b_Model_isDecimal 256 = .ok (.putfield 109, 3) := by decide +kernel
theorem d_Model_isDecimal_259 : decode b_Model_isDecimal 259 = .ok (.aload_n 0, 1) := by decide +kernel
theorem d_Model_isDecimal_260 : decode b_Model_isDecimal 260 = .ok (.getfield 95, 3) := by decide +kernel
theorem d_Model_isDecimal_263 : decode b_Model_isDecimal 263 = .ok (.aload_n 0, 1) := by decide +kernel
theorem d_Model_isDecimal_264 : decode b_Model_isDecimal 264 = .ok (.getfield 47, 3) := by decide +kernel
theorem d_Model_isDecimal_267 : decode b_Model_isDecimal 267 = .ok (.if_icmp .ne 7, 3) := by decide +kernel
theorem d_Model_isDecimal_270 : decode b_Model_isDecimal 270 = .ok (.iconst 1, 1) := by decide +kernel
theorem d_Model_isDecimal_271 : decode b_Model_isDecimal 271 = .ok (.goto 4, 3) := by decide +kernel
theorem d_Model_isDecimal_274 : decode b_Model_isDecimal 274 = .ok (.iconst 0, 1) := by decide +kernel
theorem d_Model_isDecimal_275 : decode b_Model_isDecimal 275 = .ok (.ireturn, 1) := by decide +kernel
theorem d_Model_valued_0 : decode b_Model_valued 0 = .ok (.iconst 0, 1) := by decide +kernel
theorem d_Model_valued_1 : decode b_Model_valued 1 = .ok (.istore_n 2, 1) := by decide +kernel
theorem d_Model_valued_2 : decode b_Model_valued 2 = .ok (.iload_n 2, 1) := by decide +kernel
theorem d_Model_valued_3 : decode b_Model_valued 3 = .ok (.aload_n 0, 1) := by decide +kernel
theorem d_Model_valued_4 : decode b_Model_valued 4 = .ok (.getfield 106, 3) := by decide +kernel
theorem d_Model_valued_7 : decode b_Model_valued 7 = .ok (.if_icmp .ge 18, 3) := by decide +kernel
theorem d_Model_valued_10 : decode b_Model_valued 10 = .ok (.aload_n 0, 1) := by decide +kernel
theorem d_Model_valued_11 : decode b_Model_valued 11 = .ok (.getfield 35, 3) := by decide +kernel
theorem d_Model_valued_14 : decode b_Model_valued 14 = .ok (.iload_n 2, 1) := by decide +kernel
theorem d_Model_valued_15 : decode b_Model_valued 15 = .ok (.iaload, 1) := by decide +kernel
theorem d_Model_valued_16 : decode b_Model_valued 16 = .ok (.ifCond .ne 9, 3) := by decide +kernel
theorem d_Model_valued_19 : decode b_Model_valued 19 = .ok (.iinc 2 1, 3) := by decide +kernel
theorem d_Model_valued_22 : decode b_Model_valued 22 = .ok (.goto (-20), 3) := by decide +kernel
theorem d_Model_valued_25 : decode b_Model_valued 25 = .ok (.aload_n 0, 1) := by decide +kernel
theorem d_Model_valued_26 : decode b_Model_valued 26 = .ok (.iconst 0, 1) := by decide +kernel
theorem d_Model_valued_27 : decode b_Model_valued 27 = .ok (.putfield 81, 3) := by decide +kernel
theorem d_Model_valued_30 : decode b_Model_valued 30 = .ok (.aload_n 0, 1) := by decide +kernel
theorem d_Model_valued_31 : decode b_Model_valued 31 = .ok (.iconst 0, 1) := by decide +kernel
theorem d_Model_valued_32 : decode b_Model_valued 32 = .ok (.putfield 88, 3) := by decide +kernel
theorem d_Model_valued_35 : decode b_Model_valued 35 = .ok (.aload_n 0, 1) := by decide +kernel
theorem d_Model_valued_36 : decode b_Model_valued 36 = .ok (.iconst 0, 1) := by decide +kernel
theorem d_Model_valued_37 : decode b_Model_valued 37 = .ok (.putfield 68, 3) := by decide +kernel
theorem d_Model_valued_40 : decode b_Model_valued 40 = .ok (.iload_n 2, 1) := by decide +kernel
theorem d_Model_valued_41 : decode b_Model_valued 41 = .ok (.aload_n 0, 1) := by decide +kernel
theorem d_Model_valued_42 : decode b_Model_valued 42 = .ok (.getfield 106, 3) := by decide +kernel
theorem d_Model_valued_45 : decode b_Model_valued 45 = .ok (.if_icmp .ne 5, 3) := by decide +kernel
theorem d_Model_valued_48 : decode b_Model_valued 48 = .ok (.lconst 0, 1) := by decide +kernel
theorem d_Model_valued_49 : decode b_Model_valued 49 = .ok (.lreturn, 1) := by decide +kernel
theorem d_Model_valued_50 : decode b_Model_valued 50 = .ok (.aload_n 0, 1) := by decide +kernel
theorem d_Model_valued_51 : decode b_Model_valued 51 = .ok (.getfield 118, 3) := by decide +kernel
theorem d_Model_valued_54 : decode b_Model_valued 54 = .ok (.iconst 1, 1) := by decide +kernel
theorem d_Model_valued_55 : decode b_Model_valued 55 = .ok (.isub, 1) := by decide +kernel
theorem d_Model_valued_56 : decode b_Model_valued 56 = .ok (.iload_n 2, 1) := by decide +kernel
theorem d_Model_valued_57 : decode b_Model_valued 57 = .ok (.isub, 1) := by decide +kernel
theorem d_Model_valued_58 : decode b_Model_valued 58 = .ok (.aload_n 0, 1) := by decide +kernel
theorem d_Model_valued_59 : decode b_Model_valued 59 = .ok (.getfield 109, 3) := by decide +kernel
theorem d_Model_valued_62 : decode b_Model_valued 62 = .ok (.iadd, 1) := by decide +kernel
theorem d_Model_valued_63 : decode b_Model_valued 63 = .ok (.istore_n 3, 1) := by decide +kernel
theorem d_Model_valued_64 : decode b_Model_valued 64 = .ok (.iload_n 3, 1) := by decide +kernel
theorem d_Model_valued_65 : decode b_Model_valued 65 = .ok (.bipush 45, 2) := by decide +kernel
theorem d_Model_valued_67 : decode b_Model_valued 67 = .ok (.if_icmp .le 23, 3) := by decide +kernel
theorem d_Model_valued_70 : decode b_Model_valued 70 = .ok (.aload_n 0, 1) := by decide +kernel
theorem d_Model_valued_71 : decode b_Model_valued 71 = .ok (.sipush 1000, 3) := by decide +kernel
theorem d_Model_valued_74 : decode b_Model_valued 74 = .ok (.lconst 1, 1) := by decide +kernel
theorem d_Model_valued_75 : decode b_Model_valued 75 = .ok (.aload_n 0, 1) := by decide +kernel
theorem d_Model_valued_76 : decode b_Model_valued 76 = .ok (.getfield 13, 3) := by decide +kernel
theorem d_Model_valued_79 : decode b_Model_valued 79 = .ok (.lshl, 1) := by decide +kernel
theorem d_Model_valued_80 : decode b_Model_valued 80 = .ok (.iconst 1, 1) := by decide +kernel
theorem d_Model_valued_81 : decode b_Model_valued 81 = .ok (.aload_n 0, 1) := by decide +kernel
theorem d_Model_valued_82 : decode b_Model_valued 82 = .ok (.getfield 112, 3) := by decide +kernel
theorem d_Model_valued_85 : decode b_Model_valued 85 = .ok (.iload_n 1, 1) := by decide +kernel
theorem d_Model_valued_86 : decode b_Model_valued 86 = .ok (.invokevirtual 77, 3) := by decide +kernel
theorem d_Model_valued_89 : decode b_Model_valued 89 = .ok (.lreturn, 1) := by decide +kernel
theorem d_Model_valued_90 : decode b_Model_valued 90 = .ok (.iload_n 3, 1) := by decide +kernel
theorem d_Model_valued_91 : decode b_Model_valued 91 = .ok (.bipush (-70), 2) := by decide +kernel
theorem d_Model_valued_93 : decode b_Model_valued 93 = .ok (.if_icmp .ge 26, 3) := by decide +kernel
theorem d_Model_valued_96 : decode b_Model_valued 96 = .ok (.aload_n 0, 1) := by decide +kernel
theorem d_Model_valued_97 : decode b_Model_valued 97 = .ok (.iconst 1, 1) := by decide +kernel
theorem d_Model_valued_98 : decode b_Model_valued 98 = .ok (.putfield 68, 3) := by decide +kernel
theorem d_Model_valued_101 : decode b_Model_valued 101 = .ok (.aload_n 0, 1) := by decide +kernel
theorem d_Model_valued_102 : decode b_Model_valued 102 = .ok (.iconst 1, 1) := by decide +kernel
theorem d_Model_valued_103 : decode b_Model_valued 103 = .ok (.aload_n 0, 1) := by decide +kernel
theorem d_Model_valued_104 : decode b_Model_valued 104 = .ok (.invokevirtual 55, 3) := by decide +kernel
theorem d_Model_valued_107 : decode b_Model_valued 107 = .ok (.isub, 1) := by decide +kernel
theorem d_Model_valued_108 : decode b_Model_valued 108 = .ok (.lconst 0, 1) := by decide +kernel
theorem d_Model_valued_109 : decode b_Model_valued 109 = .ok (.iconst 1, 1) := by decide +kernel
theorem d_Model_valued_110 : decode b_Model_valued 110 = .ok (.aload_n 0, 1) := by decide +kernel
theorem d_Model_valued_111 : decode b_Model_valued 111 = .ok (.getfield 112, 3) := by decide +kernel
theorem d_Model_valued_114 : decode b_Model_valued 114 = .ok (.iload_n 1, 1) := by decide +kernel
theorem d_Model_valued_115 : decode b_Model_valued 115 = .ok (.invokevirtual 77, 3) := by decide +kernel
theorem d_Model_valued_118 : decode b_Model_valued 118 = .ok (.lreturn, 1) := by decide +kernel
theorem d_Model_valued_119 : decode b_Model_valued 119 = .ok (.aload_n 0, 1) := by decide +kernel
theorem d_Model_valued_120 : decode b_Model_valued 120 = .ok (.invokevirtual 121, 3) := by decide +kernel
theorem d_Model_valued_123 : decode b_Model_valued 123 = .ok (.iload_n 2, 1) := by decide +kernel
theorem d_Model_valued_124 : decode b_Model_valued 124 = .ok (.istore 4, 2) := by decide +kernel
theorem d_Model_valued_126 : decode b_Model_valued 126 = .ok (.iload 4, 2) := by decide +kernel
theorem d_Model_valued_128 : decode b_Model_valued 128 = .ok (.aload_n 0, 1) := by decide +kernel
theorem d_Model_valued_129 : decode b_Model_valued 129 = .ok (.getfield 106, 3) := by decide +kernel
theorem d_Model_valued_132 : decode b_Model_valued 132 = .ok (.if_icmp .ge 29, 3) := by decide +kernel
theorem d_Model_valued_135 : decode b_Model_valued 135 = .ok (.aload_n 0, 1) := by decide +kernel
theorem d_Model_valued_136 : decode b_Model_valued 136 = .ok (.bipush 60, 2) := by decide +kernel
theorem d_Model_valued_138 : decode b_Model_valued 138 = .ok (.iload_n 3, 1) := by decide +kernel
theorem d_Model_valued_139 : decode b_Model_valued 139 = .ok (.isub, 1) := by decide +kernel
theorem d_Model_valued_140 : decode b_Model_valued 140 = .ok (.iload 4, 2) := by decide +kernel
theorem d_Model_valued_142 : decode b_Model_valued 142 = .ok (.iadd, 1) := by decide +kernel
theorem d_Model_valued_143 : decode b_Model_valued 143 = .ok (.iload_n 2, 1) := by decide +kernel
theorem d_Model_valued_144 : decode b_Model_valued 144 = .ok (.isub, 1) := by decide +kernel
theorem d_Model_valued_145 : decode b_Model_valued 145 = .ok (.aload_n 0, 1) := by decide +kernel
theorem d_Model_valued_146 : decode b_Model_valued 146 = .ok (.getfield 35, 3) := by decide +kernel
theorem d_Model_valued_149 : decode b_Model_valued 149 = .ok (.iload 4, 2) := by decide +kernel
theorem d_Model_valued_151 : decode b_Model_valued 151 = .ok (.iaload, 1) := by decide +kernel
theorem d_Model_valued_152 : decode b_Model_valued 152 = .ok (.invokevirtual 124, 3) := by decide +kernel
theorem d_Model_valued_155 : decode b_Model_valued 155 = .ok (.iinc 4 1, 3) := by decide +kernel
theorem d_Model_valued_158 : decode b_Model_valued 158 = .ok (.goto (-32), 3) := by decide +kernel
theorem d_Model_valued_161 : decode b_Model_valued 161 = .ok (.aload_n 0, 1) := by decide +kernel
theorem d_Model_valued_162 : decode b_Model_valued 162 = .ok (.aload_n 0, 1) := by decide +kernel
theorem d_Model_valued_163 : decode b_Model_valued 163 = .ok (.getfield 112, 3) := by decide +kernel
theorem d_Model_valued_166 : decode b_Model_valued 166 = .ok (.iload_n 1, 1) := by decide +kernel
theorem d_Model_valued_167 : decode b_Model_valued 167 = .ok (.invokevirtual 128, 3) := by decide +kernel
theorem d_Model_valued_170 : decode b_Model_valued 170 = .ok (.lreturn, 1) := by decide +kernel
theorem d_Model_read_0 : decode b_Model_read 0 = .ok (.aload_n 0, 1) := by decide +kernel
theorem d_Model_read_1 : decode b_Model_read 1 = .ok (.invokevirtual 132, 3) := by decide +kernel
theorem d_Model_read_4 : decode b_Model_read 4 = .ok (.istore_n 1, 1) := by decide +kernel
theorem d_Model_read_5 : decode b_Model_read 5 = .ok (.aload_n 0, 1) := by decide +kernel
theorem d_Model_read_6 : decode b_Model_read 6 = .ok (.iconst 0, 1) := by decide +kernel
theorem d_Model_read_7 : decode b_Model_read 7 = .ok (.putfield 47, 3) := by decide +kernel
theorem d_Model_read_10 : decode b_Model_read 10 = .ok (.iload_n 1, 1) := by decide +kernel
theorem d_Model_read_11 : decode b_Model_read 11 = .ok (.ifCond .ne 10, 3) := by decide +kernel
theorem d_Model_read_14 : decode b_Model_read 14 = .ok (.aload_n 0, 1) := by decide +kernel
theorem d_Model_read_15 : decode b_Model_read 15 = .ok (.iconst 1, 1) := by decide +kernel
theorem d_Model_read_16 : decode b_Model_read 16 = .ok (.invokevirtual 136, 3) := by decide +kernel
theorem d_Model_read_19 : decode b_Model_read 19 = .ok (.i2l, 1) := by decide +kernel
theorem d_Model_read_20 : decode b_Model_read 20 = .ok (.lreturn, 1) := by decide +kernel
theorem d_Model_read_21 : decode b_Model_read 21 = .ok (.aload_n 0, 1) := by decide +kernel
theorem d_Model_read_22 : decode b_Model_read 22 = .ok (.iconst 0, 1) := by decide +kernel
theorem d_Model_read_23 : decode b_Model_read 23 = .ok (.putfield 41, 3) := by decide +kernel
theorem d_Model_read_26 : decode b_Model_read 26 = .ok (.aload_n 0, 1) := by decide +kernel
theorem d_Model_read_27 : decode b_Model_read 27 = .ok (.aload_n 0, 1) := by decide +kernel
theorem d_Model_read_28 : decode b_Model_read 28 = .ok (.getfield 44, 3) := by decide +kernel
theorem d_Model_read_31 : decode b_Model_read 31 = .ok (.invokevirtual 139, 3) := by decide +kernel
theorem d_Model_read_34 : decode b_Model_read 34 = .ok (.lstore_n 2, 1) := by decide +kernel
theorem d_Model_read_35 : decode b_Model_read 35 = .ok (.aload_n 0, 1) := by decide +kernel
theorem d_Model_read_36 : decode b_Model_read 36 = .ok (.getfield 81, 3) := by decide +kernel
theorem d_Model_read_39 : decode b_Model_read 39 = .ok (.ifCond .eq 13, 3) := by decide +kernel
theorem d_Model_read_42 : decode b_Model_read 42 = .ok (.aload_n 0, 1) := by decide +kernel
theorem d_Model_read_43 : decode b_Model_read 43 = .ok (.aload_n 0, 1) := by decide +kernel
theorem d_Model_read_44 : decode b_Model_read 44 = .ok (.getfield 52, 3) := by decide +kernel
theorem d_Model_read_47 : decode b_Model_read 47 = .ok (.iconst 1, 1) := by decide +kernel
theorem d_Model_read_48 : decode b_Model_read 48 = .ok (.ior, 1) := by decide +kernel
theorem d_Model_read_49 : decode b_Model_read 49 = .ok (.putfield 52, 3) := by decide +kernel
theorem d_Model_read_52 : decode b_Model_read 52 = .ok (.aload_n 0, 1) := by decide +kernel
theorem d_Model_read_53 : decode b_Model_read 53 = .ok (.getfield 88, 3) := by decide +kernel
theorem d_Model_read_56 : decode b_Model_read 56 = .ok (.ifCond .eq 13, 3) := by decide +kernel
theorem d_Model_read_59 : decode b_Model_read 59 = .ok (.aload_n 0, 1) := by decide +kernel
theorem d_Model_read_60 : decode b_Model_read 60 = .ok (.aload_n 0, 1) := by decide +kernel
theorem d_Model_read_61 : decode b_Model_read 61 = .ok (.getfield 52, 3) := by decide +kernel
theorem d_Model_read_64 : decode b_Model_read 64 = .ok (.iconst 2, 1) := by decide +kernel
theorem d_Model_read_65 : decode b_Model_read 65 = .ok (.ior, 1) := by decide +kernel
theorem d_Model_read_66 : decode b_Model_read 66 = .ok (.putfield 52, 3) := by decide +kernel
theorem d_Model_read_69 : decode b_Model_read 69 = .ok (.aload_n 0, 1) := by decide +kernel
theorem d_Model_read_70 : decode b_Model_read 70 = .ok (.getfield 68, 3) := by decide +kernel
theorem d_Model_read_73 : decode b_Model_read 73 = .ok (.ifCond .eq 13, 3) := by decide +kernel
theorem d_Model_read_76 : decode b_Model_read 76 = .ok (.aload_n 0, 1) := by decide +kernel
theorem d_Model_read_77 : decode b_Model_read 77 = .ok (.aload_n 0, 1) := by decide +kernel
theorem d_Model_read_78 : decode b_Model_read 78 = .ok (.getfield 52, 3) := by decide +kernel
theorem d_Model_read_81 : decode b_Model_read 81 = .ok (.iconst 4, 1) := by decide +kernel
theorem d_Model_read_82 : decode b_Model_read 82 = .ok (.ior, 1) := by decide +kernel
theorem d_Model_read_83 : decode b_Model_read 83 = .ok (.putfield 52, 3) := by decide +kernel
theorem d_Model_read_86 : decode b_Model_read 86 = .ok (.aload_n 0, 1) := by decide +kernel
theorem d_Model_read_87 : decode b_Model_read 87 = .ok (.getfield 112, 3) := by decide +kernel
theorem d_Model_read_90 : decode b_Model_read 90 = .ok (.ifCond .eq 19, 3) := by decide +kernel
theorem d_Model_read_93 : decode b_Model_read 93 = .ok (.lload_n 2, 1) := by decide +kernel
theorem d_Model_read_94 : decode b_Model_read 94 = .ok (.lconst 1, 1) := by decide +kernel
theorem d_Model_read_95 : decode b_Model_read 95 = .ok (.aload_n 0, 1) := by decide +kernel
theorem d_Model_read_96 : decode b_Model_read 96 = .ok (.getfield 7, 3) := by decide +kernel
theorem d_Model_read_99 : decode b_Model_read 99 = .ok (.aload_n 0, 1) := by decide +kernel
theorem d_Model_read_100 : decode b_Model_read 100 = .ok (.getfield 13, 3) := by decide +kernel
theorem d_Model_read_103 : decode b_Model_read 103 = .ok (.iadd, 1) := by decide +kernel
theorem d_Model_read_104 : decode b_Model_read 104 = .ok (.lshl, 1) := by decide +kernel
theorem d_Model_read_105 : decode b_Model_read 105 = .ok (.ladd, 1) := by decide +kernel
theorem d_Model_read_106 : decode b_Model_read 106 = .ok (.goto 4, 3) := by decide +kernel
theorem d_Model_read_109 : decode b_Model_read 109 = .ok (.lload_n 2, 1) := by decide +kernel
theorem d_Model_read_110 : decode b_Model_read 110 = .ok (.lreturn, 1) := by decide +kernel
theorem d_Model_isPattern_0 : decode b_Model_isPattern 0 = .ok (.lload_n 1, 1) := by decide +kernel
theorem d_Model_isPattern_1 : decode b_Model_isPattern 1 = .ok (.lconst 0, 1) := by decide +kernel
theorem d_Model_isPattern_2 : decode b_Model_isPattern 2 = .ok (.lcmp, 1) := by decide +kernel
theorem d_Model_isPattern_3 : decode b_Model_isPattern 3 = .ok (.ifCond .lt 25, 3) := by decide +kernel
theorem d_Model_isPattern_6 : decode b_Model_isPattern 6 = .ok (.lload_n 1, 1) := by decide +kernel
theorem d_Model_isPattern_7 : decode b_Model_isPattern 7 = .ok (.iconst 1, 1) := by decide +kernel
theorem d_Model_isPattern_8 : decode b_Model_isPattern 8 = .ok (.aload_n 0, 1) := by decide +kernel
theorem d_Model_isPattern_9 : decode b_Model_isPattern 9 = .ok (.getfield 7, 3) := by decide +kernel
theorem d_Model_isPattern_12 : decode b_Model_isPattern 12 = .ok (.iadd, 1) := by decide +kernel
theorem d_Model_isPattern_13 : decode b_Model_isPattern 13 = .ok (.aload_n 0, 1) := by decide +kernel
theorem d_Model_isPattern_14 : decode b_Model_isPattern 14 = .ok (.getfield 13, 3) := by decide +kernel
theorem d_Model_isPattern_17 : decode b_Model_isPattern 17 = .ok (.iadd, 1) := by decide +kernel
theorem d_Model_isPattern_18 : decode b_Model_isPattern 18 = .ok (.lshr, 1) := by decide +kernel
theorem d_Model_isPattern_19 : decode b_Model_isPattern 19 = .ok (.lconst 0, 1) := by decide +kernel
theorem d_Model_isPattern_20 : decode b_Model_isPattern 20 = .ok (.lcmp, 1) := by decide +kernel
theorem d_Model_isPattern_21 : decode b_Model_isPattern 21 = .ok (.ifCond .ne 7, 3) := by decide +kernel
theorem d_Model_isPattern_24 : decode b_Model_isPattern 24 = .ok (.iconst 1, 1) := by decide +kernel
theorem d_Model_isPattern_25 : decode b_Model_isPattern 25 = .ok (.goto 4, 3) := by decide +kernel
theorem d_Model_isPattern_28 : decode b_Model_isPattern 28 = .ok (.iconst 0, 1) := by decide +kernel
theorem d_Model_isPattern_29 : decode b_Model_isPattern 29 = .ok (.ireturn, 1) := by decide +kernel
theorem d_Model_sizeOf_0 : decode b_Model_sizeOf 0 = .ok (.lload_n 1, 1) := by decide +kernel
theorem d_Model_sizeOf_1 : decode b_Model_sizeOf 1 = .ok (.lconst 1, 1) := by decide +kernel
theorem d_Model_sizeOf_2 : decode b_Model_sizeOf 2 = .ok (.aload_n 0, 1) := by decide +kernel
theorem d_Model_sizeOf_3 : decode b_Model_sizeOf 3 = .ok (.getfield 7, 3) := by decide +kernel
theorem d_Model_sizeOf_6 : decode b_Model_sizeOf 6 = .ok (.aload_n 0, 1) := by decide +kernel
theorem d_Model_sizeOf_7 : decode b_Model_sizeOf 7 = .ok (.getfield 13, 3) := by decide +kernel
theorem d_Model_sizeOf_10 : decode b_Model_sizeOf 10 = .ok (.iadd, 1) := by decide +kernel
theorem d_Model_sizeOf_11 : decode b_Model_sizeOf 11 = .ok (.lshl, 1) := by decide +kernel
theorem d_Model_sizeOf_12 : decode b_Model_sizeOf 12 = .ok (.lconst 1, 1) := by decide +kernel
theorem d_Model_sizeOf_13 : decode b_Model_sizeOf 13 = .ok (.lsub, 1) := by decide +kernel
theorem d_Model_sizeOf_14 : decode b_Model_sizeOf 14 = .ok (.land, 1) := by decide +kernel
theorem d_Model_sizeOf_15 : decode b_Model_sizeOf 15 = .ok (.lreturn, 1) := by decide +kernel
theorem d_Model_isBelow_0 : decode b_Model_isBelow 0 = .ok (.aload_n 0, 1) := by decide +kernel
theorem d_Model_isBelow_1 : decode b_Model_isBelow 1 = .ok (.lload_n 1, 1) := by decide +kernel
theorem d_Model_isBelow_2 : decode b_Model_isBelow 2 = .ok (.invokevirtual 143, 3) := by decide +kernel
theorem d_Model_isBelow_5 : decode b_Model_isBelow 5 = .ok (.lload_n 1, 1) := by decide +kernel
theorem d_Model_isBelow_6 : decode b_Model_isBelow 6 = .ok (.lcmp, 1) := by decide +kernel
theorem d_Model_isBelow_7 : decode b_Model_isBelow 7 = .ok (.ifCond .eq 7, 3) := by decide +kernel
theorem d_Model_isBelow_10 : decode b_Model_isBelow 10 = .ok (.iconst 1, 1) := by decide +kernel
theorem d_Model_isBelow_11 : decode b_Model_isBelow 11 = .ok (.goto 4, 3) := by decide +kernel
theorem d_Model_isBelow_14 : decode b_Model_isBelow 14 = .ok (.iconst 0, 1) := by decide +kernel
theorem d_Model_isBelow_15 : decode b_Model_isBelow 15 = .ok (.ireturn, 1) := by decide +kernel
theorem d_Model_spread_0 : decode b_Model_spread 0 = .ok (.aload_n 0, 1) := by decide +kernel
theorem d_Model_spread_1 : decode b_Model_spread 1 = .ok (.invokevirtual 121, 3) := by decide +kernel
theorem d_Model_spread_4 : decode b_Model_spread 4 = .ok (.lload_n 1, 1) := by decide +kernel
theorem d_Model_spread_5 : decode b_Model_spread 5 = .ok (.aload_n 0, 1) := by decide +kernel
theorem d_Model_spread_6 : decode b_Model_spread 6 = .ok (.getfield 13, 3) := by decide +kernel
theorem d_Model_spread_9 : decode b_Model_spread 9 = .ok (.lshr, 1) := by decide +kernel
theorem d_Model_spread_10 : decode b_Model_spread 10 = .ok (.l2i, 1) := by decide +kernel
theorem d_Model_spread_11 : decode b_Model_spread 11 = .ok (.istore_n 3, 1) := by decide +kernel
theorem d_Model_spread_12 : decode b_Model_spread 12 = .ok (.lload_n 1, 1) := by decide +kernel
theorem d_Model_spread_13 : decode b_Model_spread 13 = .ok (.lconst 1, 1) := by decide +kernel
theorem d_Model_spread_14 : decode b_Model_spread 14 = .ok (.aload_n 0, 1) := by decide +kernel
theorem d_Model_spread_15 : decode b_Model_spread 15 = .ok (.getfield 13, 3) := by decide +kernel
theorem d_Model_spread_18 : decode b_Model_spread 18 = .ok (.lshl, 1) := by decide +kernel
theorem d_Model_spread_19 : decode b_Model_spread 19 = .ok (.lconst 1, 1) := by decide +kernel
theorem d_Model_spread_20 : decode b_Model_spread 20 = .ok (.lsub, 1) := by decide +kernel
theorem d_Model_spread_21 : decode b_Model_spread 21 = .ok (.land, 1) := by decide +kernel
theorem d_Model_spread_22 : decode b_Model_spread 22 = .ok (.iload_n 3, 1) := by decide +kernel
theorem d_Model_spread_23 : decode b_Model_spread 23 = .ok (.ifCond .le 12, 3) := by decide +kernel
theorem d_Model_spread_26 : decode b_Model_spread 26 = .ok (.lconst 1, 1) := by decide +kernel
theorem d_Model_spread_27 : decode b_Model_spread 27 = .ok (.aload_n 0, 1) := by decide +kernel
theorem d_Model_spread_28 : decode b_Model_spread 28 = .ok (.getfield 13, 3) := by decide +kernel
theorem d_Model_spread_31 : decode b_Model_spread 31 = .ok (.lshl, 1) := by decide +kernel
theorem d_Model_spread_32 : decode b_Model_spread 32 = .ok (.goto 4, 3) := by decide +kernel
theorem d_Model_spread_35 : decode b_Model_spread 35 = .ok (.lconst 0, 1) := by decide +kernel
theorem d_Model_spread_36 : decode b_Model_spread 36 = .ok (.ladd, 1) := by decide +kernel
theorem d_Model_spread_37 : decode b_Model_spread 37 = .ok (.lstore 4, 2) := by decide +kernel
theorem d_Model_spread_39 : decode b_Model_spread 39 = .ok (.iload_n 3, 1) := by decide +kernel
theorem d_Model_spread_40 : decode b_Model_spread 40 = .ok (.ifCond .le 7, 3) := by decide +kernel
theorem d_Model_spread_43 : decode b_Model_spread 43 = .ok (.iload_n 3, 1) := by decide +kernel
theorem d_Model_spread_44 : decode b_Model_spread 44 = .ok (.goto 4, 3) := by decide +kernel
theorem d_Model_spread_47 : decode b_Model_spread 47 = .ok (.iconst 1, 1) := by decide +kernel
theorem d_Model_spread_48 : decode b_Model_spread 48 = .ok (.aload_n 0, 1) := by decide +kernel
theorem d_Model_spread_49 : decode b_Model_spread 49 = .ok (.invokevirtual 55, 3) := by decide +kernel
theorem d_Model_spread_52 : decode b_Model_spread 52 = .ok (.isub, 1) := by decide +kernel
theorem d_Model_spread_53 : decode b_Model_spread 53 = .ok (.aload_n 0, 1) := by decide +kernel
theorem d_Model_spread_54 : decode b_Model_spread 54 = .ok (.getfield 13, 3) := by decide +kernel
theorem d_Model_spread_57 : decode b_Model_spread 57 = .ok (.isub, 1) := by decide +kernel
theorem d_Model_spread_58 : decode b_Model_spread 58 = .ok (.istore 6, 2) := by decide +kernel
theorem d_Model_spread_60 : decode b_Model_spread 60 = .ok (.lload 4, 2) := by decide +kernel
theorem d_Model_spread_62 : decode b_Model_spread 62 = .ok (.lstore 7, 2) := by decide +kernel
theorem d_Model_spread_64 : decode b_Model_spread 64 = .ok (.bipush 60, 2) := by decide +kernel
theorem d_Model_spread_66 : decode b_Model_spread 66 = .ok (.istore 9, 2) := by decide +kernel
theorem d_Model_spread_68 : decode b_Model_spread 68 = .ok (.lload 7, 2) := by decide +kernel
theorem d_Model_spread_70 : decode b_Model_spread 70 = .ok (.lconst 0, 1) := by decide +kernel
theorem d_Model_spread_71 : decode b_Model_spread 71 = .ok (.lcmp, 1) := by decide +kernel
theorem d_Model_spread_72 : decode b_Model_spread 72 = .ok (.ifCond .le 30, 3) := by decide +kernel
theorem d_Model_spread_75 : decode b_Model_spread 75 = .ok (.aload_n 0, 1) := by decide +kernel
theorem d_Model_spread_76 : decode b_Model_spread 76 = .ok (.iload 9, 2) := by decide +kernel
theorem d_Model_spread_78 : decode b_Model_spread 78 = .ok (.lload 7, 2) := by decide +kernel
theorem d_Model_spread_80 : decode b_Model_spread 80 = .ok (.ldc2_w 147, 3) := by decide +kernel
theorem d_Model_spread_83 : decode b_Model_spread 83 = .ok (.lrem, 1) := by decide +kernel
theorem d_Model_spread_84 : decode b_Model_spread 84 = .ok (.l2i, 1) := by decide +kernel
theorem d_Model_spread_85 : decode b_Model_spread 85 = .ok (.invokevirtual 124, 3) := by decide +kernel
theorem d_Model_spread_88 : decode b_Model_spread 88 = .ok (.lload 7, 2) := by decide +kernel
theorem d_Model_spread_90 : decode b_Model_spread 90 = .ok (.ldc2_w 147, 3) := by decide +kernel
theorem d_Model_spread_93 : decode b_Model_spread 93 = .ok (.ldiv, 1) := by decide +kernel
theorem d_Model_spread_94 : decode b_Model_spread 94 = .ok (.lstore 7, 2) := by decide +kernel
theorem d_Model_spread_96 : decode b_Model_spread 96 = .ok (.iinc 9 (-1), 3) := by decide +kernel
theorem d_Model_spread_99 : decode b_Model_spread 99 = .ok (.goto (-31), 3) := by decide +kernel
theorem d_Model_spread_102 : decode b_Model_spread 102 = .ok (.iconst 0, 1) := by decide +kernel
theorem d_Model_spread_103 : decode b_Model_spread 103 = .ok (.istore 9, 2) := by decide +kernel
theorem d_Model_spread_105 : decode b_Model_spread 105 = .ok (.iload 9, 2) := by decide +kernel
theorem d_Model_spread_107 : decode b_Model_spread 107 = .ok (.iload 6, 2) := by decide +kernel
theorem d_Model_spread_109 : decode b_Model_spread 109 = .ok (.if_icmp .ge 13, 3) := by decide +kernel
theorem d_Model_spread_112 : decode b_Model_spread 112 = .ok (.aload_n 0, 1) := by decide +kernel
theorem d_Model_spread_113 : decode b_Model_spread 113 = .ok (.invokevirtual 65, 3) := by decide +kernel
theorem d_Model_spread_116 : decode b_Model_spread 116 = .ok (.iinc 9 1, 3) := by decide +kernel
theorem d_Model_spread_119 : decode b_Model_spread 119 = .ok (.goto (-14), 3) := by decide +kernel
theorem d_Model_spread_122 : decode b_Model_spread 122 = .ok (.iconst 0, 1) := by decide +kernel
theorem d_Model_spread_123 : decode b_Model_spread 123 = .ok (.istore 9, 2) := by decide +kernel
theorem d_Model_spread_125 : decode b_Model_spread 125 = .ok (.iload 9, 2) := by decide +kernel
theorem d_Model_spread_127 : decode b_Model_spread 127 = .ok (.iload 6, 2) := by decide +kernel
theorem d_Model_spread_129 : decode b_Model_spread 129 = .ok (.if_icmp .le 13, 3) := by decide +kernel
theorem d_Model_spread_132 : decode b_Model_spread 132 = .ok (.aload_n 0, 1) := by decide +kernel
theorem d_Model_spread_133 : decode b_Model_spread 133 = .ok (.invokevirtual 62, 3) := by decide +kernel
theorem d_Model_spread_136 : decode b_Model_spread 136 = .ok (.iinc 9 (-1), 3) := by decide +kernel
theorem d_Model_spread_139 : decode b_Model_spread 139 = .ok (.goto (-14), 3) := by decide +kernel
theorem d_Model_spread_142 : decode b_Model_spread 142 = .ok (.return_, 1) := by decide +kernel
theorem d_Model_say_0 : decode b_Model_say 0 = .ok (.aload_n 0, 1) := by decide +kernel
theorem d_Model_say_1 : decode b_Model_say 1 = .ok (.getfield 20, 3) := by decide +kernel
theorem d_Model_say_4 : decode b_Model_say 4 = .ok (.aload_n 0, 1) := by decide +kernel
theorem d_Model_say_5 : decode b_Model_say 5 = .ok (.getfield 149, 3) := by decide +kernel
theorem d_Model_say_8 : decode b_Model_say 8 = .ok (.iload_n 1, 1) := by decide +kernel
theorem d_Model_say_9 : decode b_Model_say 9 = .ok (.iastore, 1) := by decide +kernel
theorem d_Model_say_10 : decode b_Model_say 10 = .ok (.aload_n 0, 1) := by decide +kernel
theorem d_Model_say_11 : decode b_Model_say 11 = .ok (.dup, 1) := by decide +kernel
theorem d_Model_say_12 : decode b_Model_say 12 = .ok (.getfield 149, 3) := by decide +kernel
theorem d_Model_say_15 : decode b_Model_say 15 = .ok (.iconst 1, 1) := by decide +kernel
theorem d_Model_say_16 : decode b_Model_say 16 = .ok (.iadd, 1) := by decide +kernel
theorem d_Model_say_17 : decode b_Model_say 17 = .ok (.putfield 149, 3) := by decide +kernel
theorem d_Model_say_20 : decode b_Model_say 20 = .ok (.return_, 1) := by decide +kernel
theorem d_Model_isStrange_0 : decode b_Model_isStrange 0 = .ok (.aload_n 0, 1) := by decide +kernel
theorem d_Model_isStrange_1 : decode b_Model_isStrange 1 = .ok (.iconst 0, 1) := by decide +kernel
theorem d_Model_isStrange_2 : decode b_Model_isStrange 2 = .ok (.putfield 149, 3) := by decide +kernel
theorem d_Model_isStrange_5 : decode b_Model_isStrange 5 = .ok (.aload_n 0, 1) := by decide +kernel
theorem d_Model_isStrange_6 : decode b_Model_isStrange 6 = .ok (.lload_n 1, 1) := by decide +kernel
theorem d_Model_isStrange_7 : decode b_Model_isStrange 7 = .ok (.invokevirtual 143, 3) := by decide +kernel
theorem d_Model_isStrange_10 : decode b_Model_isStrange 10 = .ok (.lstore_n 3, 1) := by decide +kernel
theorem d_Model_isStrange_11 : decode b_Model_isStrange 11 = .ok (.lload_n 3, 1) := by decide +kernel
theorem d_Model_isStrange_12 : decode b_Model_isStrange 12 = .ok (.aload_n 0, 1) := by decide +kernel
theorem d_Model_isStrange_13 : decode b_Model_isStrange 13 = .ok (.invokevirtual 91, 3) := by decide +kernel
theorem d_Model_isStrange_16 : decode b_Model_isStrange 16 = .ok (.lcmp, 1) := by decide +kernel
theorem d_Model_isStrange_17 : decode b_Model_isStrange 17 = .ok (.ifCond .ge 19, 3) := by decide +kernel
theorem d_Model_isStrange_20 : decode b_Model_isStrange 20 = .ok (.aload_n 0, 1) := by decide +kernel
theorem d_Model_isStrange_21 : decode b_Model_isStrange 21 = .ok (.lload_n 1, 1) := by decide +kernel
theorem d_Model_isStrange_22 : decode b_Model_isStrange 22 = .ok (.invokevirtual 152, 3) := by decide +kernel
theorem d_Model_isStrange_25 : decode b_Model_isStrange 25 = .ok (.ifCond .eq 9, 3) := by decide +kernel
theorem d_Model_isStrange_28 : decode b_Model_isStrange 28 = .ok (.aload_n 0, 1) := by decide +kernel
theorem d_Model_isStrange_29 : decode b_Model_isStrange 29 = .ok (.bipush 45, 2) := by decide +kernel
theorem d_Model_isStrange_31 : decode b_Model_isStrange 31 = .ok (.invokevirtual 156, 3) := by decide +kernel
theorem d_Model_isStrange_34 : decode b_Model_isStrange 34 = .ok (.iconst 0, 1) := by decide +kernel
theorem d_Model_isStrange_35 : decode b_Model_isStrange 35 = .ok (.ireturn, 1) := by decide +kernel
theorem d_Model_isStrange_36 : decode b_Model_isStrange 36 = .ok (.lload_n 3, 1) := by decide +kernel
theorem d_Model_isStrange_37 : decode b_Model_isStrange 37 = .ok (.aload_n 0, 1) := by decide +kernel
theorem d_Model_isStrange_38 : decode b_Model_isStrange 38 = .ok (.invokevirtual 91, 3) := by decide +kernel
theorem d_Model_isStrange_41 : decode b_Model_isStrange 41 = .ok (.lcmp, 1) := by decide +kernel
theorem d_Model_isStrange_42 : decode b_Model_isStrange 42 = .ok (.ifCond .le 23, 3) := by decide +kernel
theorem d_Model_isStrange_45 : decode b_Model_isStrange 45 = .ok (.aload_n 0, 1) := by decide +kernel
theorem d_Model_isStrange_46 : decode b_Model_isStrange 46 = .ok (.bipush 110, 2) := by decide +kernel
theorem d_Model_isStrange_48 : decode b_Model_isStrange 48 = .ok (.invokevirtual 156, 3) := by decide +kernel
theorem d_Model_isStrange_51 : decode b_Model_isStrange 51 = .ok (.aload_n 0, 1) := by decide +kernel
theorem d_Model_isStrange_52 : decode b_Model_isStrange 52 = .ok (.bipush 97, 2) := by decide +kernel
theorem d_Model_isStrange_54 : decode b_Model_isStrange 54 = .ok (.invokevirtual 156, 3) := by decide +kernel
theorem d_Model_isStrange_57 : decode b_Model_isStrange 57 = .ok (.aload_n 0, 1) := by decide +kernel
theorem d_Model_isStrange_58 : decode b_Model_isStrange 58 = .ok (.bipush 110, 2) := by decide +kernel
theorem d_Model_isStrange_60 : decode b_Model_isStrange 60 = .ok (.invokevirtual 156, 3) := by decide +kernel
theorem d_Model_isStrange_63 : decode b_Model_isStrange 63 = .ok (.iconst 1, 1) := by decide +kernel
theorem d_Model_isStrange_64 : decode b_Model_isStrange 64 = .ok (.ireturn, 1) := by decide +kernel
theorem d_Model_isStrange_65 : decode b_Model_isStrange 65 = .ok (.aload_n 0, 1) := by decide +kernel
theorem d_Model_isStrange_66 : decode b_Model_isStrange 66 = .ok (.lload_n 1, 1) := by decide +kernel
theorem d_Model_isStrange_67 : decode b_Model_isStrange 67 = .ok (.invokevirtual 152, 3) := by decide +kernel
theorem d_Model_isStrange_70 : decode b_Model_isStrange 70 = .ok (.ifCond .eq 9, 3) := by decide +kernel
theorem d_Model_isStrange_73 : decode b_Model_isStrange 73 = .ok (.aload_n 0, 1) := by decide +kernel
theorem d_Model_isStrange_74 : decode b_Model_isStrange 74 = .ok (.bipush 45, 2) := by decide +kernel
theorem d_Model_isStrange_76 : decode b_Model_isStrange 76 = .ok (.invokevirtual 156, 3) := by decide +kernel
theorem d_Model_isStrange_79 : decode b_Model_isStrange 79 = .ok (.aload_n 0, 1) := by decide +kernel
theorem d_Model_isStrange_80 : decode b_Model_isStrange 80 = .ok (.bipush 105, 2) := by decide +kernel
theorem d_Model_isStrange_82 : decode b_Model_isStrange 82 = .ok (.invokevirtual 156, 3) := by decide +kernel
theorem d_Model_isStrange_85 : decode b_Model_isStrange 85 = .ok (.aload_n 0, 1) := by decide +kernel
theorem d_Model_isStrange_86 : decode b_Model_isStrange 86 = .ok (.bipush 110, 2) := by decide +kernel
theorem d_Model_isStrange_88 : decode b_Model_isStrange 88 = .ok (.invokevirtual 156, 3) := by decide +kernel
theorem d_Model_isStrange_91 : decode b_Model_isStrange 91 = .ok (.aload_n 0, 1) := by decide +kernel
theorem d_Model_isStrange_92 : decode b_Model_isStrange 92 = .ok (.bipush 102, 2) := by decide +kernel
theorem d_Model_isStrange_94 : decode b_Model_isStrange 94 = .ok (.invokevirtual 156, 3) := by decide +kernel
theorem d_Model_isStrange_97 : decode b_Model_isStrange 97 = .ok (.iconst 1, 1) := by decide +kernel
theorem d_Model_isStrange_98 : decode b_Model_isStrange 98 = .ok (.ireturn, 1) := by decide +kernel
theorem d_Model_exact_0 : decode b_Model_exact 0 = .ok (.aload_n 0, 1) := by decide +kernel
theorem d_Model_exact_1 : decode b_Model_exact 1 = .ok (.lload_n 1, 1) := by decide +kernel
theorem d_Model_exact_2 : decode b_Model_exact 2 = .ok (.invokevirtual 160, 3) := by decide +kernel
theorem d_Model_exact_5 : decode b_Model_exact 5 = .ok (.ifCond .ne 9, 3) := by decide +kernel
theorem d_Model_exact_8 : decode b_Model_exact 8 = .ok (.aload_n 0, 1) := by decide +kernel
theorem d_Model_exact_9 : decode b_Model_exact 9 = .ok (.iconst 1, 1) := by decide +kernel
theorem d_Model_exact_10 : decode b_Model_exact 10 = .ok (.invokevirtual 136, 3) := by decide +kernel
theorem d_Model_exact_13 : decode b_Model_exact 13 = .ok (.ireturn, 1) := by decide +kernel
theorem d_Model_exact_14 : decode b_Model_exact 14 = .ok (.aload_n 0, 1) := by decide +kernel
theorem d_Model_exact_15 : decode b_Model_exact 15 = .ok (.iconst 0, 1) := by decide +kernel
theorem d_Model_exact_16 : decode b_Model_exact 16 = .ok (.putfield 41, 3) := by decide +kernel
theorem d_Model_exact_19 : decode b_Model_exact 19 = .ok (.aload_n 0, 1) := by decide +kernel
theorem d_Model_exact_20 : decode b_Model_exact 20 = .ok (.lload_n 1, 1) := by decide +kernel
theorem d_Model_exact_21 : decode b_Model_exact 21 = .ok (.invokevirtual 163, 3) := by decide +kernel
theorem d_Model_exact_24 : decode b_Model_exact 24 = .ok (.ifCond .eq 8, 3) := by decide +kernel
theorem d_Model_exact_27 : decode b_Model_exact 27 = .ok (.aload_n 0, 1) := by decide +kernel
theorem d_Model_exact_28 : decode b_Model_exact 28 = .ok (.getfield 149, 3) := by decide +kernel
end
section
theorem d_Model_exact_31 : decode b_Model_exact 31 = .ok (.ireturn, 1) := by decide +kernel
theorem d_Model_exact_32 : decode b_Model_exact 32 = .ok (.aload_n 0, 1) := by decide +kernel
theorem d_Model_exact_33 : decode b_Model_exact 33 = .ok (.aload_n 0, 1) := by decide +kernel
theorem d_Model_exact_34 : decode b_Model_exact 34 = .ok (.lload_n 1, 1) := by decide +kernel
theorem d_Model_exact_35 : decode b_Model_exact 35 = .ok (.invokevirtual 143, 3) := by decide +kernel
theorem d_Model_exact_38 : decode b_Model_exact 38 = .ok (.invokevirtual 166, 3) := by decide +kernel
theorem d_Model_exact_41 : decode b_Model_exact 41 = .ok (.aload_n 0, 1) := by decide +kernel
theorem d_Model_exact_42 : decode b_Model_exact 42 = .ok (.getfield 26, 3) := by decide +kernel
theorem d_Model_exact_45 : decode b_Model_exact 45 = .ok (.istore_n 3, 1) := by decide +kernel
theorem d_Model_exact_46 : decode b_Model_exact 46 = .ok (.iload_n 3, 1) := by decide +kernel
theorem d_Model_exact_47 : decode b_Model_exact 47 = .ok (.bipush 60, 2) := by decide +kernel
theorem d_Model_exact_49 : decode b_Model_exact 49 = .ok (.if_icmp .gt 22, 3) := by decide +kernel
theorem d_Model_exact_52 : decode b_Model_exact 52 = .ok (.aload_n 0, 1) := by decide +kernel
theorem d_Model_exact_53 : decode b_Model_exact 53 = .ok (.bipush 48, 2) := by decide +kernel
theorem d_Model_exact_55 : decode b_Model_exact 55 = .ok (.aload_n 0, 1) := by decide +kernel
theorem d_Model_exact_56 : decode b_Model_exact 56 = .ok (.getfield 23, 3) := by decide +kernel
theorem d_Model_exact_59 : decode b_Model_exact 59 = .ok (.iload_n 3, 1) := by decide +kernel
theorem d_Model_exact_60 : decode b_Model_exact 60 = .ok (.iaload, 1) := by decide +kernel
theorem d_Model_exact_61 : decode b_Model_exact 61 = .ok (.iadd, 1) := by decide +kernel
theorem d_Model_exact_62 : decode b_Model_exact 62 = .ok (.invokevirtual 156, 3) := by decide +kernel
theorem d_Model_exact_65 : decode b_Model_exact 65 = .ok (.iinc 3 1, 3) := by decide +kernel
theorem d_Model_exact_68 : decode b_Model_exact 68 = .ok (.goto (-22), 3) := by decide +kernel
theorem d_Model_exact_71 : decode b_Model_exact 71 = .ok (.aload_n 0, 1) := by decide +kernel
theorem d_Model_exact_72 : decode b_Model_exact 72 = .ok (.getfield 29, 3) := by decide +kernel
theorem d_Model_exact_75 : decode b_Model_exact 75 = .ok (.bipush 60, 2) := by decide +kernel
theorem d_Model_exact_77 : decode b_Model_exact 77 = .ok (.if_icmp .le 28, 3) := by decide +kernel
theorem d_Model_exact_80 : decode b_Model_exact 80 = .ok (.aload_n 0, 1) := by decide +kernel
theorem d_Model_exact_81 : decode b_Model_exact 81 = .ok (.getfield 23, 3) := by decide +kernel
theorem d_Model_exact_84 : decode b_Model_exact 84 = .ok (.aload_n 0, 1) := by decide +kernel
theorem d_Model_exact_85 : decode b_Model_exact 85 = .ok (.getfield 29, 3) := by decide +kernel
theorem d_Model_exact_88 : decode b_Model_exact 88 = .ok (.iaload, 1) := by decide +kernel
theorem d_Model_exact_89 : decode b_Model_exact 89 = .ok (.ifCond .ne 16, 3) := by decide +kernel
theorem d_Model_exact_92 : decode b_Model_exact 92 = .ok (.aload_n 0, 1) := by decide +kernel
theorem d_Model_exact_93 : decode b_Model_exact 93 = .ok (.dup, 1) := by decide +kernel
theorem d_Model_exact_94 : decode b_Model_exact 94 = .ok (.getfield 29, 3) := by decide +kernel
theorem d_Model_exact_97 : decode b_Model_exact 97 = .ok (.iconst 1, 1) := by decide +kernel
theorem d_Model_exact_98 : decode b_Model_exact 98 = .ok (.isub, 1) := by decide +kernel
theorem d_Model_exact_99 : decode b_Model_exact 99 = .ok (.putfield 29, 3) := by decide +kernel
theorem d_Model_exact_102 : decode b_Model_exact 102 = .ok (.goto (-31), 3) := by decide +kernel
theorem d_Model_exact_105 : decode b_Model_exact 105 = .ok (.aload_n 0, 1) := by decide +kernel
theorem d_Model_exact_106 : decode b_Model_exact 106 = .ok (.getfield 29, 3) := by decide +kernel
theorem d_Model_exact_109 : decode b_Model_exact 109 = .ok (.bipush 60, 2) := by decide +kernel
theorem d_Model_exact_111 : decode b_Model_exact 111 = .ok (.if_icmp .le 9, 3) := by decide +kernel
theorem d_Model_exact_114 : decode b_Model_exact 114 = .ok (.aload_n 0, 1) := by decide +kernel
theorem d_Model_exact_115 : decode b_Model_exact 115 = .ok (.bipush 46, 2) := by decide +kernel
theorem d_Model_exact_117 : decode b_Model_exact 117 = .ok (.invokevirtual 156, 3) := by decide +kernel
theorem d_Model_exact_120 : decode b_Model_exact 120 = .ok (.bipush 61, 2) := by decide +kernel
theorem d_Model_exact_122 : decode b_Model_exact 122 = .ok (.istore_n 3, 1) := by decide +kernel
theorem d_Model_exact_123 : decode b_Model_exact 123 = .ok (.iload_n 3, 1) := by decide +kernel
theorem d_Model_exact_124 : decode b_Model_exact 124 = .ok (.aload_n 0, 1) := by decide +kernel
theorem d_Model_exact_125 : decode b_Model_exact 125 = .ok (.getfield 29, 3) := by decide +kernel
theorem d_Model_exact_128 : decode b_Model_exact 128 = .ok (.if_icmp .gt 22, 3) := by decide +kernel
theorem d_Model_exact_131 : decode b_Model_exact 131 = .ok (.aload_n 0, 1) := by decide +kernel
theorem d_Model_exact_132 : decode b_Model_exact 132 = .ok (.bipush 48, 2) := by decide +kernel
theorem d_Model_exact_134 : decode b_Model_exact 134 = .ok (.aload_n 0, 1) := by decide +kernel
theorem d_Model_exact_135 : decode b_Model_exact 135 = .ok (.getfield 23, 3) := by decide +kernel
theorem d_Model_exact_138 : decode b_Model_exact 138 = .ok (.iload_n 3, 1) := by decide +kernel
theorem d_Model_exact_139 : decode b_Model_exact 139 = .ok (.iaload, 1) := by decide +kernel
theorem d_Model_exact_140 : decode b_Model_exact 140 = .ok (.iadd, 1) := by decide +kernel
theorem d_Model_exact_141 : decode b_Model_exact 141 = .ok (.invokevirtual 156, 3) := by decide +kernel
theorem d_Model_exact_144 : decode b_Model_exact 144 = .ok (.iinc 3 1, 3) := by decide +kernel
theorem d_Model_exact_147 : decode b_Model_exact 147 = .ok (.goto (-24), 3) := by decide +kernel
theorem d_Model_exact_150 : decode b_Model_exact 150 = .ok (.aload_n 0, 1) := by decide +kernel
theorem d_Model_exact_151 : decode b_Model_exact 151 = .ok (.getfield 149, 3) := by decide +kernel
theorem d_Model_exact_154 : decode b_Model_exact 154 = .ok (.ireturn, 1) := by decide +kernel
theorem d_Model_keepWhole_0 : decode b_Model_keepWhole 0 = .ok (.iconst 0, 1) := by decide +kernel
theorem d_Model_keepWhole_1 : decode b_Model_keepWhole 1 = .ok (.istore_n 1, 1) := by decide +kernel
theorem d_Model_keepWhole_2 : decode b_Model_keepWhole 2 = .ok (.iload_n 1, 1) := by decide +kernel
theorem d_Model_keepWhole_3 : decode b_Model_keepWhole 3 = .ok (.sipush 400, 3) := by decide +kernel
theorem d_Model_keepWhole_6 : decode b_Model_keepWhole 6 = .ok (.if_icmp .ge 21, 3) := by decide +kernel
theorem d_Model_keepWhole_9 : decode b_Model_keepWhole 9 = .ok (.aload_n 0, 1) := by decide +kernel
theorem d_Model_keepWhole_10 : decode b_Model_keepWhole 10 = .ok (.getfield 32, 3) := by decide +kernel
theorem d_Model_keepWhole_13 : decode b_Model_keepWhole 13 = .ok (.iload_n 1, 1) := by decide +kernel
theorem d_Model_keepWhole_14 : decode b_Model_keepWhole 14 = .ok (.aload_n 0, 1) := by decide +kernel
theorem d_Model_keepWhole_15 : decode b_Model_keepWhole 15 = .ok (.getfield 23, 3) := by decide +kernel
theorem d_Model_keepWhole_18 : decode b_Model_keepWhole 18 = .ok (.iload_n 1, 1) := by decide +kernel
theorem d_Model_keepWhole_19 : decode b_Model_keepWhole 19 = .ok (.iaload, 1) := by decide +kernel
theorem d_Model_keepWhole_20 : decode b_Model_keepWhole 20 = .ok (.iastore, 1) := by decide +kernel
theorem d_Model_keepWhole_21 : decode b_Model_keepWhole 21 = .ok (.iinc 1 1, 3) := by decide +kernel
theorem d_Model_keepWhole_24 : decode b_Model_keepWhole 24 = .ok (.goto (-22), 3) := by decide +kernel
theorem d_Model_keepWhole_27 : decode b_Model_keepWhole 27 = .ok (.aload_n 0, 1) := by decide +kernel
theorem d_Model_keepWhole_28 : decode b_Model_keepWhole 28 = .ok (.aload_n 0, 1) := by decide +kernel
theorem d_Model_keepWhole_29 : decode b_Model_keepWhole 29 = .ok (.getfield 26, 3) := by decide +kernel
theorem d_Model_keepWhole_32 : decode b_Model_keepWhole 32 = .ok (.putfield 170, 3) := by decide +kernel
theorem d_Model_keepWhole_35 : decode b_Model_keepWhole 35 = .ok (.aload_n 0, 1) := by decide +kernel
theorem d_Model_keepWhole_36 : decode b_Model_keepWhole 36 = .ok (.getfield 170, 3) := by decide +kernel
theorem d_Model_keepWhole_39 : decode b_Model_keepWhole 39 = .ok (.sipush 399, 3) := by decide +kernel
theorem d_Model_keepWhole_42 : decode b_Model_keepWhole 42 = .ok (.if_icmp .ge 28, 3) := by decide +kernel
theorem d_Model_keepWhole_45 : decode b_Model_keepWhole 45 = .ok (.aload_n 0, 1) := by decide +kernel
theorem d_Model_keepWhole_46 : decode b_Model_keepWhole 46 = .ok (.getfield 32, 3) := by decide +kernel
theorem d_Model_keepWhole_49 : decode b_Model_keepWhole 49 = .ok (.aload_n 0, 1) := by decide +kernel
theorem d_Model_keepWhole_50 : decode b_Model_keepWhole 50 = .ok (.getfield 170, 3) := by decide +kernel
theorem d_Model_keepWhole_53 : decode b_Model_keepWhole 53 = .ok (.iaload, 1) := by decide +kernel
theorem d_Model_keepWhole_54 : decode b_Model_keepWhole 54 = .ok (.ifCond .ne 16, 3) := by decide +kernel
theorem d_Model_keepWhole_57 : decode b_Model_keepWhole 57 = .ok (.aload_n 0, 1) := by decide +kernel
theorem d_Model_keepWhole_58 : decode b_Model_keepWhole 58 = .ok (.dup, 1) := by decide +kernel
theorem d_Model_keepWhole_59 : decode b_Model_keepWhole 59 = .ok (.getfield 170, 3) := by decide +kernel
theorem d_Model_keepWhole_62 : decode b_Model_keepWhole 62 = .ok (.iconst 1, 1) := by decide +kernel
theorem d_Model_keepWhole_63 : decode b_Model_keepWhole 63 = .ok (.iadd, 1) := by decide +kernel
theorem d_Model_keepWhole_64 : decode b_Model_keepWhole 64 = .ok (.putfield 170, 3) := by decide +kernel
theorem d_Model_keepWhole_67 : decode b_Model_keepWhole 67 = .ok (.goto (-32), 3) := by decide +kernel
theorem d_Model_keepWhole_70 : decode b_Model_keepWhole 70 = .ok (.aload_n 0, 1) := by decide +kernel
theorem d_Model_keepWhole_71 : decode b_Model_keepWhole 71 = .ok (.aload_n 0, 1) := by decide +kernel
theorem d_Model_keepWhole_72 : decode b_Model_keepWhole 72 = .ok (.getfield 29, 3) := by decide +kernel
theorem d_Model_keepWhole_75 : decode b_Model_keepWhole 75 = .ok (.putfield 173, 3) := by decide +kernel
theorem d_Model_keepWhole_78 : decode b_Model_keepWhole 78 = .ok (.aload_n 0, 1) := by decide +kernel
theorem d_Model_keepWhole_79 : decode b_Model_keepWhole 79 = .ok (.getfield 173, 3) := by decide +kernel
theorem d_Model_keepWhole_82 : decode b_Model_keepWhole 82 = .ok (.aload_n 0, 1) := by decide +kernel
theorem d_Model_keepWhole_83 : decode b_Model_keepWhole 83 = .ok (.getfield 170, 3) := by decide +kernel
theorem d_Model_keepWhole_86 : decode b_Model_keepWhole 86 = .ok (.if_icmp .le 28, 3) := by decide +kernel
theorem d_Model_keepWhole_89 : decode b_Model_keepWhole 89 = .ok (.aload_n 0, 1) := by decide +kernel
theorem d_Model_keepWhole_90 : decode b_Model_keepWhole 90 = .ok (.getfield 32, 3) := by decide +kernel
theorem d_Model_keepWhole_93 : decode b_Model_keepWhole 93 = .ok (.aload_n 0, 1) := by decide +kernel
theorem d_Model_keepWhole_94 : decode b_Model_keepWhole 94 = .ok (.getfield 173, 3) := by decide +kernel
theorem d_Model_keepWhole_97 : decode b_Model_keepWhole 97 = .ok (.iaload, 1) := by decide +kernel
theorem d_Model_keepWhole_98 : decode b_Model_keepWhole 98 = .ok (.ifCond .ne 16, 3) := by decide +kernel
theorem d_Model_keepWhole_101 : decode b_Model_keepWhole 101 = .ok (.aload_n 0, 1) := by decide +kernel
theorem d_Model_keepWhole_102 : decode b_Model_keepWhole 102 = .ok (.dup, 1) := by decide +kernel
theorem d_Model_keepWhole_103 : decode b_Model_keepWhole 103 = .ok (.getfield 173, 3) := by decide +kernel
theorem d_Model_keepWhole_106 : decode b_Model_keepWhole 106 = .ok (.iconst 1, 1) := by decide +kernel
theorem d_Model_keepWhole_107 : decode b_Model_keepWhole 107 = .ok (.isub, 1) := by decide +kernel
theorem d_Model_keepWhole_108 : decode b_Model_keepWhole 108 = .ok (.putfield 173, 3) := by decide +kernel
theorem d_Model_keepWhole_111 : decode b_Model_keepWhole 111 = .ok (.goto (-33), 3) := by decide +kernel
theorem d_Model_keepWhole_114 : decode b_Model_keepWhole 114 = .ok (.return_, 1) := by decide +kernel
theorem d_Model_cut_0 : decode b_Model_cut 0 = .ok (.aload_n 0, 1) := by decide +kernel
theorem d_Model_cut_1 : decode b_Model_cut 1 = .ok (.bipush 60, 2) := by decide +kernel
theorem d_Model_cut_3 : decode b_Model_cut 3 = .ok (.aload_n 0, 1) := by decide +kernel
theorem d_Model_cut_4 : decode b_Model_cut 4 = .ok (.getfield 170, 3) := by decide +kernel
theorem d_Model_cut_7 : decode b_Model_cut 7 = .ok (.isub, 1) := by decide +kernel
theorem d_Model_cut_8 : decode b_Model_cut 8 = .ok (.putfield 176, 3) := by decide +kernel
theorem d_Model_cut_11 : decode b_Model_cut 11 = .ok (.iconst 0, 1) := by decide +kernel
theorem d_Model_cut_12 : decode b_Model_cut 12 = .ok (.istore_n 3, 1) := by decide +kernel
theorem d_Model_cut_13 : decode b_Model_cut 13 = .ok (.iload_n 3, 1) := by decide +kernel
theorem d_Model_cut_14 : decode b_Model_cut 14 = .ok (.iload_n 1, 1) := by decide +kernel
theorem d_Model_cut_15 : decode b_Model_cut 15 = .ok (.if_icmp .ge 26, 3) := by decide +kernel
theorem d_Model_cut_18 : decode b_Model_cut 18 = .ok (.aload_n 0, 1) := by decide +kernel
theorem d_Model_cut_19 : decode b_Model_cut 19 = .ok (.getfield 38, 3) := by decide +kernel
theorem d_Model_cut_22 : decode b_Model_cut 22 = .ok (.iload_n 3, 1) := by decide +kernel
theorem d_Model_cut_23 : decode b_Model_cut 23 = .ok (.aload_n 0, 1) := by decide +kernel
theorem d_Model_cut_24 : decode b_Model_cut 24 = .ok (.getfield 32, 3) := by decide +kernel
theorem d_Model_cut_27 : decode b_Model_cut 27 = .ok (.aload_n 0, 1) := by decide +kernel
theorem d_Model_cut_28 : decode b_Model_cut 28 = .ok (.getfield 170, 3) := by decide +kernel
theorem d_Model_cut_31 : decode b_Model_cut 31 = .ok (.iload_n 3, 1) := by decide +kernel
theorem d_Model_cut_32 : decode b_Model_cut 32 = .ok (.iadd, 1) := by decide +kernel
theorem d_Model_cut_33 : decode b_Model_cut 33 = .ok (.iaload, 1) := by decide +kernel
theorem d_Model_cut_34 : decode b_Model_cut 34 = .ok (.iastore, 1) := by decide +kernel
theorem d_Model_cut_35 : decode b_Model_cut 35 = .ok (.iinc 3 1, 3) := by decide +kernel
theorem d_Model_cut_38 : decode b_Model_cut 38 = .ok (.goto (-25), 3) := by decide +kernel
theorem d_Model_cut_41 : decode b_Model_cut 41 = .ok (.iload_n 2, 1) := by decide +kernel
theorem d_Model_cut_42 : decode b_Model_cut 42 = .ok (.ifCond .ne 4, 3) := by decide +kernel
theorem d_Model_cut_45 : decode b_Model_cut 45 = .ok (.return_, 1) := by decide +kernel
theorem d_Model_cut_46 : decode b_Model_cut 46 = .ok (.iload_n 1, 1) := by decide +kernel
theorem d_Model_cut_47 : decode b_Model_cut 47 = .ok (.iconst 1, 1) := by decide +kernel
theorem d_Model_cut_48 : decode b_Model_cut 48 = .ok (.isub, 1) := by decide +kernel
theorem d_Model_cut_49 : decode b_Model_cut 49 = .ok (.istore_n 3, 1) := by decide +kernel
theorem d_Model_cut_50 : decode b_Model_cut 50 = .ok (.iload_n 3, 1) := by decide +kernel
theorem d_Model_cut_51 : decode b_Model_cut 51 = .ok (.ifCond .lt 27, 3) := by decide +kernel
theorem d_Model_cut_54 : decode b_Model_cut 54 = .ok (.aload_n 0, 1) := by decide +kernel
theorem d_Model_cut_55 : decode b_Model_cut 55 = .ok (.getfield 38, 3) := by decide +kernel
theorem d_Model_cut_58 : decode b_Model_cut 58 = .ok (.iload_n 3, 1) := by decide +kernel
theorem d_Model_cut_59 : decode b_Model_cut 59 = .ok (.iaload, 1) := by decide +kernel
theorem d_Model_cut_60 : decode b_Model_cut 60 = .ok (.bipush 9, 2) := by decide +kernel
theorem d_Model_cut_62 : decode b_Model_cut 62 = .ok (.if_icmp .ne 16, 3) := by decide +kernel
theorem d_Model_cut_65 : decode b_Model_cut 65 = .ok (.aload_n 0, 1) := by decide +kernel
theorem d_Model_cut_66 : decode b_Model_cut 66 = .ok (.getfield 38, 3) := by decide +kernel
theorem d_Model_cut_69 : decode b_Model_cut 69 = .ok (.iload_n 3, 1) := by decide +kernel
theorem d_Model_cut_70 : decode b_Model_cut 70 = .ok (.iconst 0, 1) := by decide +kernel
theorem d_Model_cut_71 : decode b_Model_cut 71 = .ok (.iastore, 1) := by decide +kernel
theorem d_Model_cut_72 : decode b_Model_cut 72 = .ok (.iinc 3 (-1), 3) := by decide +kernel
theorem d_Model_cut_75 : decode b_Model_cut 75 = .ok (.goto (-25), 3) := by decide +kernel
theorem d_Model_cut_78 : decode b_Model_cut 78 = .ok (.iload_n 3, 1) := by decide +kernel
theorem d_Model_cut_79 : decode b_Model_cut 79 = .ok (.ifCond .lt 16, 3) := by decide +kernel
theorem d_Model_cut_82 : decode b_Model_cut 82 = .ok (.aload_n 0, 1) := by decide +kernel
theorem d_Model_cut_83 : decode b_Model_cut 83 = .ok (.getfield 38, 3) := by decide +kernel
theorem d_Model_cut_86 : decode b_Model_cut 86 = .ok (.iload_n 3, 1) := by decide +kernel
theorem d_Model_cut_87 : decode b_Model_cut 87 = .ok (.dup2, 1) := by decide +kernel
theorem d_Model_cut_88 : decode b_Model_cut 88 = .ok (.iaload, 1) := by decide +kernel
theorem d_Model_cut_89 : decode b_Model_cut 89 = .ok (.iconst 1, 1) := by decide +kernel
theorem d_Model_cut_90 : decode b_Model_cut 90 = .ok (.iadd, 1) := by decide +kernel
theorem d_Model_cut_91 : decode b_Model_cut 91 = .ok (.iastore, 1) := by decide +kernel
theorem d_Model_cut_92 : decode b_Model_cut 92 = .ok (.goto 20, 3) := by decide +kernel
theorem d_Model_cut_95 : decode b_Model_cut 95 = .ok (.aload_n 0, 1) := by decide +kernel
theorem d_Model_cut_96 : decode b_Model_cut 96 = .ok (.getfield 38, 3) := by decide +kernel
theorem d_Model_cut_99 : decode b_Model_cut 99 = .ok (.iconst 0, 1) := by decide +kernel
theorem d_Model_cut_100 : decode b_Model_cut 100 = .ok (.iconst 1, 1) := by decide +kernel
theorem d_Model_cut_101 : decode b_Model_cut 101 = .ok (.iastore, 1) := by decide +kernel
theorem d_Model_cut_102 : decode b_Model_cut 102 = .ok (.aload_n 0, 1) := by decide +kernel
theorem d_Model_cut_103 : decode b_Model_cut 103 = .ok (.dup, 1) := by decide +kernel
theorem d_Model_cut_104 : decode b_Model_cut 104 = .ok (.getfield 176, 3) := by decide +kernel
theorem d_Model_cut_107 : decode b_Model_cut 107 = .ok (.iconst 1, 1) := by decide +kernel
theorem d_Model_cut_108 : decode b_Model_cut 108 = .ok (.iadd, 1) := by decide +kernel
theorem d_Model_cut_109 : decode b_Model_cut 109 = .ok (.putfield 176, 3) := by decide +kernel
theorem d_Model_cut_112 : decode b_Model_cut 112 = .ok (.return_, 1) := by decide +kernel
theorem d_Model_comesBack_0 : decode b_Model_comesBack 0 = .ok (.aload_n 0, 1) := by decide +kernel
theorem d_Model_comesBack_1 : decode b_Model_comesBack 1 = .ok (.invokevirtual 121, 3) := by decide +kernel
theorem d_Model_comesBack_4 : decode b_Model_comesBack 4 = .ok (.iconst 0, 1) := by decide +kernel
theorem d_Model_comesBack_5 : decode b_Model_comesBack 5 = .ok (.istore 4, 2) := by decide +kernel
theorem d_Model_comesBack_7 : decode b_Model_comesBack 7 = .ok (.iload 4, 2) := by decide +kernel
theorem d_Model_comesBack_9 : decode b_Model_comesBack 9 = .ok (.iload_n 1, 1) := by decide +kernel
theorem d_Model_comesBack_10 : decode b_Model_comesBack 10 = .ok (.if_icmp .ge 30, 3) := by decide +kernel
theorem d_Model_comesBack_13 : decode b_Model_comesBack 13 = .ok (.aload_n 0, 1) := by decide +kernel
theorem d_Model_comesBack_14 : decode b_Model_comesBack 14 = .ok (.bipush 60, 2) := by decide +kernel
theorem d_Model_comesBack_16 : decode b_Model_comesBack 16 = .ok (.aload_n 0, 1) := by decide +kernel
theorem d_Model_comesBack_17 : decode b_Model_comesBack 17 = .ok (.getfield 176, 3) := by decide +kernel
theorem d_Model_comesBack_20 : decode b_Model_comesBack 20 = .ok (.isub, 1) := by decide +kernel
theorem d_Model_comesBack_21 : decode b_Model_comesBack 21 = .ok (.iload 4, 2) := by decide +kernel
theorem d_Model_comesBack_23 : decode b_Model_comesBack 23 = .ok (.iadd, 1) := by decide +kernel
theorem d_Model_comesBack_24 : decode b_Model_comesBack 24 = .ok (.aload_n 0, 1) := by decide +kernel
theorem d_Model_comesBack_25 : decode b_Model_comesBack 25 = .ok (.getfield 38, 3) := by decide +kernel
theorem d_Model_comesBack_28 : decode b_Model_comesBack 28 = .ok (.iload 4, 2) := by decide +kernel
theorem d_Model_comesBack_30 : decode b_Model_comesBack 30 = .ok (.iaload, 1) := by decide +kernel
theorem d_Model_comesBack_31 : decode b_Model_comesBack 31 = .ok (.invokevirtual 124, 3) := by decide +kernel
theorem d_Model_comesBack_34 : decode b_Model_comesBack 34 = .ok (.iinc 4 1, 3) := by decide +kernel
theorem d_Model_comesBack_37 : decode b_Model_comesBack 37 = .ok (.goto (-30), 3) := by decide +kernel
theorem d_Model_comesBack_40 : decode b_Model_comesBack 40 = .ok (.aload_n 0, 1) := by decide +kernel
theorem d_Model_comesBack_41 : decode b_Model_comesBack 41 = .ok (.iconst 0, 1) := by decide +kernel
theorem d_Model_comesBack_42 : decode b_Model_comesBack 42 = .ok (.iconst 0, 1) := by decide +kernel
theorem d_Model_comesBack_43 : decode b_Model_comesBack 43 = .ok (.invokevirtual 128, 3) := by decide +kernel
theorem d_Model_comesBack_46 : decode b_Model_comesBack 46 = .ok (.lload_n 2, 1) := by decide +kernel
theorem d_Model_comesBack_47 : decode b_Model_comesBack 47 = .ok (.lcmp, 1) := by decide +kernel
theorem d_Model_comesBack_48 : decode b_Model_comesBack 48 = .ok (.ifCond .ne 7, 3) := by decide +kernel
theorem d_Model_comesBack_51 : decode b_Model_comesBack 51 = .ok (.iconst 1, 1) := by decide +kernel
theorem d_Model_comesBack_52 : decode b_Model_comesBack 52 = .ok (.goto 4, 3) := by decide +kernel
theorem d_Model_comesBack_55 : decode b_Model_comesBack 55 = .ok (.iconst 0, 1) := by decide +kernel
theorem d_Model_comesBack_56 : decode b_Model_comesBack 56 = .ok (.ireturn, 1) := by decide +kernel
theorem d_Model_beside_0 : decode b_Model_beside 0 = .ok (.aload_n 0, 1) := by decide +kernel
theorem d_Model_beside_1 : decode b_Model_beside 1 = .ok (.getfield 32, 3) := by decide +kernel
theorem d_Model_beside_4 : decode b_Model_beside 4 = .ok (.aload_n 0, 1) := by decide +kernel
theorem d_Model_beside_5 : decode b_Model_beside 5 = .ok (.getfield 170, 3) := by decide +kernel
theorem d_Model_beside_8 : decode b_Model_beside 8 = .ok (.iload_n 1, 1) := by decide +kernel
theorem d_Model_beside_9 : decode b_Model_beside 9 = .ok (.iadd, 1) := by decide +kernel
theorem d_Model_beside_10 : decode b_Model_beside 10 = .ok (.iaload, 1) := by decide +kernel
theorem d_Model_beside_11 : decode b_Model_beside 11 = .ok (.istore_n 2, 1) := by decide +kernel
theorem d_Model_beside_12 : decode b_Model_beside 12 = .ok (.aload_n 0, 1) := by decide +kernel
theorem d_Model_beside_13 : decode b_Model_beside 13 = .ok (.getfield 173, 3) := by decide +kernel
theorem d_Model_beside_16 : decode b_Model_beside 16 = .ok (.aload_n 0, 1) := by decide +kernel
theorem d_Model_beside_17 : decode b_Model_beside 17 = .ok (.getfield 170, 3) := by decide +kernel
theorem d_Model_beside_20 : decode b_Model_beside 20 = .ok (.iload_n 1, 1) := by decide +kernel
theorem d_Model_beside_21 : decode b_Model_beside 21 = .ok (.iadd, 1) := by decide +kernel
theorem d_Model_beside_22 : decode b_Model_beside 22 = .ok (.if_icmp .le 7, 3) := by decide +kernel
theorem d_Model_beside_25 : decode b_Model_beside 25 = .ok (.iconst 1, 1) := by decide +kernel
theorem d_Model_beside_26 : decode b_Model_beside 26 = .ok (.goto 4, 3) := by decide +kernel
theorem d_Model_beside_29 : decode b_Model_beside 29 = .ok (.iconst 0, 1) := by decide +kernel
theorem d_Model_beside_30 : decode b_Model_beside 30 = .ok (.istore_n 3, 1) := by decide +kernel
theorem d_Model_beside_31 : decode b_Model_beside 31 = .ok (.iload_n 2, 1) := by decide +kernel
theorem d_Model_beside_32 : decode b_Model_beside 32 = .ok (.iconst 5, 1) := by decide +kernel
theorem d_Model_beside_33 : decode b_Model_beside 33 = .ok (.if_icmp .gt 12, 3) := by decide +kernel
theorem d_Model_beside_36 : decode b_Model_beside 36 = .ok (.iload_n 2, 1) := by decide +kernel
theorem d_Model_beside_37 : decode b_Model_beside 37 = .ok (.iconst 5, 1) := by decide +kernel
theorem d_Model_beside_38 : decode b_Model_beside 38 = .ok (.if_icmp .ne 11, 3) := by decide +kernel
theorem d_Model_beside_41 : decode b_Model_beside 41 = .ok (.iload_n 3, 1) := by decide +kernel
theorem d_Model_beside_42 : decode b_Model_beside 42 = .ok (.ifCond .eq 7, 3) := by decide +kernel
theorem d_Model_beside_45 : decode b_Model_beside 45 = .ok (.iconst 1, 1) := by decide +kernel
theorem d_Model_beside_46 : decode b_Model_beside 46 = .ok (.goto 13, 3) := by decide +kernel
theorem d_Model_beside_49 : decode b_Model_beside 49 = .ok (.iload_n 2, 1) := by decide +kernel
theorem d_Model_beside_50 : decode b_Model_beside 50 = .ok (.iconst 5, 1) := by decide +kernel
theorem d_Model_beside_51 : decode b_Model_beside 51 = .ok (.if_icmp .ne 7, 3) := by decide +kernel
theorem d_Model_beside_54 : decode b_Model_beside 54 = .ok (.iconst 0, 1) := by decide +kernel
theorem d_Model_beside_55 : decode b_Model_beside 55 = .ok (.goto 4, 3) := by decide +kernel
theorem d_Model_beside_58 : decode b_Model_beside 58 = .ok (.iconst (-1), 1) := by decide +kernel
theorem d_Model_beside_59 : decode b_Model_beside 59 = .ok (.ireturn, 1) := by decide +kernel
theorem d_Model_sayTried_0 : decode b_Model_sayTried 0 = .ok (.iload_n 1, 1) := by decide +kernel
theorem d_Model_sayTried_1 : decode b_Model_sayTried 1 = .ok (.istore_n 2, 1) := by decide +kernel
theorem d_Model_sayTried_2 : decode b_Model_sayTried 2 = .ok (.iload_n 2, 1) := by decide +kernel
theorem d_Model_sayTried_3 : decode b_Model_sayTried 3 = .ok (.iconst 1, 1) := by decide +kernel
theorem d_Model_sayTried_4 : decode b_Model_sayTried 4 = .ok (.if_icmp .le 20, 3) := by decide +kernel
theorem d_Model_sayTried_7 : decode b_Model_sayTried 7 = .ok (.aload_n 0, 1) := by decide +kernel
theorem d_Model_sayTried_8 : decode b_Model_sayTried 8 = .ok (.getfield 38, 3) := by decide +kernel
theorem d_Model_sayTried_11 : decode b_Model_sayTried 11 = .ok (.iload_n 2, 1) := by decide +kernel
theorem d_Model_sayTried_12 : decode b_Model_sayTried 12 = .ok (.iconst 1, 1) := by decide +kernel
theorem d_Model_sayTried_13 : decode b_Model_sayTried 13 = .ok (.isub, 1) := by decide +kernel
theorem d_Model_sayTried_14 : decode b_Model_sayTried 14 = .ok (.iaload, 1) := by decide +kernel
theorem d_Model_sayTried_15 : decode b_Model_sayTried 15 = .ok (.ifCond .ne 9, 3) := by decide +kernel
theorem d_Model_sayTried_18 : decode b_Model_sayTried 18 = .ok (.iinc 2 (-1), 3) := by decide +kernel
theorem d_Model_sayTried_21 : decode b_Model_sayTried 21 = .ok (.goto (-19), 3) := by decide +kernel
theorem d_Model_sayTried_24 : decode b_Model_sayTried 24 = .ok (.aload_n 0, 1) := by decide +kernel
theorem d_Model_sayTried_25 : decode b_Model_sayTried 25 = .ok (.bipush 48, 2) := by decide +kernel
theorem d_Model_sayTried_27 : decode b_Model_sayTried 27 = .ok (.aload_n 0, 1) := by decide +kernel
theorem d_Model_sayTried_28 : decode b_Model_sayTried 28 = .ok (.getfield 38, 3) := by decide +kernel
theorem d_Model_sayTried_31 : decode b_Model_sayTried 31 = .ok (.iconst 0, 1) := by decide +kernel
theorem d_Model_sayTried_32 : decode b_Model_sayTried 32 = .ok (.iaload, 1) := by decide +kernel
theorem d_Model_sayTried_33 : decode b_Model_sayTried 33 = .ok (.iadd, 1) := by decide +kernel
theorem d_Model_sayTried_34 : decode b_Model_sayTried 34 = .ok (.invokevirtual 156, 3) := by decide +kernel
theorem d_Model_sayTried_37 : decode b_Model_sayTried 37 = .ok (.iload_n 2, 1) := by decide +kernel
theorem d_Model_sayTried_38 : decode b_Model_sayTried 38 = .ok (.iconst 1, 1) := by decide +kernel
theorem d_Model_sayTried_39 : decode b_Model_sayTried 39 = .ok (.if_icmp .le 9, 3) := by decide +kernel
theorem d_Model_sayTried_42 : decode b_Model_sayTried 42 = .ok (.aload_n 0, 1) := by decide +kernel
theorem d_Model_sayTried_43 : decode b_Model_sayTried 43 = .ok (.bipush 46, 2) := by decide +kernel
theorem d_Model_sayTried_45 : decode b_Model_sayTried 45 = .ok (.invokevirtual 156, 3) := by decide +kernel
theorem d_Model_sayTried_48 : decode b_Model_sayTried 48 = .ok (.iconst 1, 1) := by decide +kernel
theorem d_Model_sayTried_49 : decode b_Model_sayTried 49 = .ok (.istore_n 3, 1) := by decide +kernel
theorem d_Model_sayTried_50 : decode b_Model_sayTried 50 = .ok (.iload_n 3, 1) := by decide +kernel
theorem d_Model_sayTried_51 : decode b_Model_sayTried 51 = .ok (.iload_n 2, 1) := by decide +kernel
theorem d_Model_sayTried_52 : decode b_Model_sayTried 52 = .ok (.if_icmp .ge 22, 3) := by decide +kernel
theorem d_Model_sayTried_55 : decode b_Model_sayTried 55 = .ok (.aload_n 0, 1) := by decide +kernel
theorem d_Model_sayTried_56 : decode b_Model_sayTried 56 = .ok (.bipush 48, 2) := by decide +kernel
theorem d_Model_sayTried_58 : decode b_Model_sayTried 58 = .ok (.aload_n 0, 1) := by decide +kernel
theorem d_Model_sayTried_59 : decode b_Model_sayTried 59 = .ok (.getfield 38, 3) := by decide +kernel
theorem d_Model_sayTried_62 : decode b_Model_sayTried 62 = .ok (.iload_n 3, 1) := by decide +kernel
theorem d_Model_sayTried_63 : decode b_Model_sayTried 63 = .ok (.iaload, 1) := by decide +kernel
theorem d_Model_sayTried_64 : decode b_Model_sayTried 64 = .ok (.iadd, 1) := by decide +kernel
theorem d_Model_sayTried_65 : decode b_Model_sayTried 65 = .ok (.invokevirtual 156, 3) := by decide +kernel
theorem d_Model_sayTried_68 : decode b_Model_sayTried 68 = .ok (.iinc 3 1, 3) := by decide +kernel
theorem d_Model_sayTried_71 : decode b_Model_sayTried 71 = .ok (.goto (-21), 3) := by decide +kernel
theorem d_Model_sayTried_74 : decode b_Model_sayTried 74 = .ok (.aload_n 0, 1) := by decide +kernel
theorem d_Model_sayTried_75 : decode b_Model_sayTried 75 = .ok (.bipush 101, 2) := by decide +kernel
theorem d_Model_sayTried_77 : decode b_Model_sayTried 77 = .ok (.invokevirtual 156, 3) := by decide +kernel
theorem d_Model_sayTried_80 : decode b_Model_sayTried 80 = .ok (.aload_n 0, 1) := by decide +kernel
theorem d_Model_sayTried_81 : decode b_Model_sayTried 81 = .ok (.getfield 176, 3) := by decide +kernel
theorem d_Model_sayTried_84 : decode b_Model_sayTried 84 = .ok (.ifCond .ge 9, 3) := by decide +kernel
theorem d_Model_sayTried_87 : decode b_Model_sayTried 87 = .ok (.aload_n 0, 1) := by decide +kernel
theorem d_Model_sayTried_88 : decode b_Model_sayTried 88 = .ok (.bipush 45, 2) := by decide +kernel
theorem d_Model_sayTried_90 : decode b_Model_sayTried 90 = .ok (.invokevirtual 156, 3) := by decide +kernel
theorem d_Model_sayTried_93 : decode b_Model_sayTried 93 = .ok (.aload_n 0, 1) := by decide +kernel
theorem d_Model_sayTried_94 : decode b_Model_sayTried 94 = .ok (.getfield 176, 3) := by decide +kernel
theorem d_Model_sayTried_97 : decode b_Model_sayTried 97 = .ok (.ifCond .ge 11, 3) := by decide +kernel
theorem d_Model_sayTried_100 : decode b_Model_sayTried 100 = .ok (.aload_n 0, 1) := by decide +kernel
theorem d_Model_sayTried_101 : decode b_Model_sayTried 101 = .ok (.getfield 176, 3) := by decide +kernel
theorem d_Model_sayTried_104 : decode b_Model_sayTried 104 = .ok (.ineg, 1) := by decide +kernel
theorem d_Model_sayTried_105 : decode b_Model_sayTried 105 = .ok (.goto 7, 3) := by decide +kernel
theorem d_Model_sayTried_108 : decode b_Model_sayTried 108 = .ok (.aload_n 0, 1) := by decide +kernel
theorem d_Model_sayTried_109 : decode b_Model_sayTried 109 = .ok (.getfield 176, 3) := by decide +kernel
theorem d_Model_sayTried_112 : decode b_Model_sayTried 112 = .ok (.istore_n 3, 1) := by decide +kernel
theorem d_Model_sayTried_113 : decode b_Model_sayTried 113 = .ok (.iload_n 3, 1) := by decide +kernel
theorem d_Model_sayTried_114 : decode b_Model_sayTried 114 = .ok (.bipush 9, 2) := by decide +kernel
theorem d_Model_sayTried_116 : decode b_Model_sayTried 116 = .ok (.if_icmp .le 14, 3) := by decide +kernel
theorem d_Model_sayTried_119 : decode b_Model_sayTried 119 = .ok (.aload_n 0, 1) := by decide +kernel
theorem d_Model_sayTried_120 : decode b_Model_sayTried 120 = .ok (.bipush 48, 2) := by decide +kernel
theorem d_Model_sayTried_122 : decode b_Model_sayTried 122 = .ok (.iload_n 3, 1) := by decide +kernel
theorem d_Model_sayTried_123 : decode b_Model_sayTried 123 = .ok (.bipush 10, 2) := by decide +kernel
theorem d_Model_sayTried_125 : decode b_Model_sayTried 125 = .ok (.idiv, 1) := by decide +kernel
theorem d_Model_sayTried_126 : decode b_Model_sayTried 126 = .ok (.iadd, 1) := by decide +kernel
theorem d_Model_sayTried_127 : decode b_Model_sayTried 127 = .ok (.invokevirtual 156, 3) := by decide +kernel
theorem d_Model_sayTried_130 : decode b_Model_sayTried 130 = .ok (.aload_n 0, 1) := by decide +kernel
theorem d_Model_sayTried_131 : decode b_Model_sayTried 131 = .ok (.bipush 48, 2) := by decide +kernel
theorem d_Model_sayTried_133 : decode b_Model_sayTried 133 = .ok (.iload_n 3, 1) := by decide +kernel
theorem d_Model_sayTried_134 : decode b_Model_sayTried 134 = .ok (.bipush 10, 2) := by decide +kernel
theorem d_Model_sayTried_136 : decode b_Model_sayTried 136 = .ok (.irem, 1) := by decide +kernel
theorem d_Model_sayTried_137 : decode b_Model_sayTried 137 = .ok (.iadd, 1) := by decide +kernel
theorem d_Model_sayTried_138 : decode b_Model_sayTried 138 = .ok (.invokevirtual 156, 3) := by decide +kernel
theorem d_Model_sayTried_141 : decode b_Model_sayTried 141 = .ok (.return_, 1) := by decide +kernel
theorem d_Model_shortest_0 : decode b_Model_shortest 0 = .ok (.aload_n 0, 1) := by decide +kernel
theorem d_Model_shortest_1 : decode b_Model_shortest 1 = .ok (.lload_n 1, 1) := by decide +kernel
theorem d_Model_shortest_2 : decode b_Model_shortest 2 = .ok (.invokevirtual 160, 3) := by decide +kernel
theorem d_Model_shortest_5 : decode b_Model_shortest 5 = .ok (.ifCond .ne 9, 3) := by decide +kernel
theorem d_Model_shortest_8 : decode b_Model_shortest 8 = .ok (.aload_n 0, 1) := by decide +kernel
theorem d_Model_shortest_9 : decode b_Model_shortest 9 = .ok (.iconst 1, 1) := by decide +kernel
theorem d_Model_shortest_10 : decode b_Model_shortest 10 = .ok (.invokevirtual 136, 3) := by decide +kernel
theorem d_Model_shortest_13 : decode b_Model_shortest 13 = .ok (.ireturn, 1) := by decide +kernel
theorem d_Model_shortest_14 : decode b_Model_shortest 14 = .ok (.aload_n 0, 1) := by decide +kernel
theorem d_Model_shortest_15 : decode b_Model_shortest 15 = .ok (.iconst 0, 1) := by decide +kernel
theorem d_Model_shortest_16 : decode b_Model_shortest 16 = .ok (.putfield 41, 3) := by decide +kernel
theorem d_Model_shortest_19 : decode b_Model_shortest 19 = .ok (.aload_n 0, 1) := by decide +kernel
theorem d_Model_shortest_20 : decode b_Model_shortest 20 = .ok (.lload_n 1, 1) := by decide +kernel
theorem d_Model_shortest_21 : decode b_Model_shortest 21 = .ok (.invokevirtual 163, 3) := by decide +kernel
theorem d_Model_shortest_24 : decode b_Model_shortest 24 = .ok (.ifCond .eq 8, 3) := by decide +kernel
theorem d_Model_shortest_27 : decode b_Model_shortest 27 = .ok (.aload_n 0, 1) := by decide +kernel
theorem d_Model_shortest_28 : decode b_Model_shortest 28 = .ok (.getfield 149, 3) := by decide +kernel
theorem d_Model_shortest_31 : decode b_Model_shortest 31 = .ok (.ireturn, 1) := by decide +kernel
theorem d_Model_shortest_32 : decode b_Model_shortest 32 = .ok (.aload_n 0, 1) := by decide +kernel
theorem d_Model_shortest_33 : decode b_Model_shortest 33 = .ok (.lload_n 1, 1) := by decide +kernel
theorem d_Model_shortest_34 : decode b_Model_shortest 34 = .ok (.invokevirtual 143, 3) := by decide +kernel
theorem d_Model_shortest_37 : decode b_Model_shortest 37 = .ok (.lstore_n 3, 1) := by decide +kernel
theorem d_Model_shortest_38 : decode b_Model_shortest 38 = .ok (.lload_n 3, 1) := by decide +kernel
theorem d_Model_shortest_39 : decode b_Model_shortest 39 = .ok (.lconst 0, 1) := by decide +kernel
theorem d_Model_shortest_40 : decode b_Model_shortest 40 = .ok (.lcmp, 1) := by decide +kernel
theorem d_Model_shortest_41 : decode b_Model_shortest 41 = .ok (.ifCond .ne 26, 3) := by decide +kernel
theorem d_Model_shortest_44 : decode b_Model_shortest 44 = .ok (.aload_n 0, 1) := by decide +kernel
theorem d_Model_shortest_45 : decode b_Model_shortest 45 = .ok (.bipush 48, 2) := by decide +kernel
theorem d_Model_shortest_47 : decode b_Model_shortest 47 = .ok (.invokevirtual 156, 3) := by decide +kernel
theorem d_Model_shortest_50 : decode b_Model_shortest 50 = .ok (.aload_n 0, 1) := by decide +kernel
theorem d_Model_shortest_51 : decode b_Model_shortest 51 = .ok (.bipush 101, 2) := by decide +kernel
theorem d_Model_shortest_53 : decode b_Model_shortest 53 = .ok (.invokevirtual 156, 3) := by decide +kernel
theorem d_Model_shortest_56 : decode b_Model_shortest 56 = .ok (.aload_n 0, 1) := by decide +kernel
theorem d_Model_shortest_57 : decode b_Model_shortest 57 = .ok (.bipush 48, 2) := by decide +kernel
theorem d_Model_shortest_59 : decode b_Model_shortest 59 = .ok (.invokevirtual 156, 3) := by decide +kernel
theorem d_Model_shortest_62 : decode b_Model_shortest 62 = .ok (.aload_n 0, 1) := by decide +kernel
theorem d_Model_shortest_63 : decode b_Model_shortest 63 = .ok (.getfield 149, 3) := by decide +kernel
theorem d_Model_shortest_66 : decode b_Model_shortest 66 = .ok (.ireturn, 1) := by decide +kernel
theorem d_Model_shortest_67 : decode b_Model_shortest 67 = .ok (.aload_n 0, 1) := by decide +kernel
theorem d_Model_shortest_68 : decode b_Model_shortest 68 = .ok (.lload_n 3, 1) := by decide +kernel
theorem d_Model_shortest_69 : decode b_Model_shortest 69 = .ok (.invokevirtual 166, 3) := by decide +kernel
theorem d_Model_shortest_72 : decode b_Model_shortest 72 = .ok (.aload_n 0, 1) := by decide +kernel
theorem d_Model_shortest_73 : decode b_Model_shortest 73 = .ok (.invokevirtual 179, 3) := by decide +kernel
theorem d_Model_shortest_76 : decode b_Model_shortest 76 = .ok (.iconst 1, 1) := by decide +kernel
theorem d_Model_shortest_77 : decode b_Model_shortest 77 = .ok (.istore 5, 2) := by decide +kernel
theorem d_Model_shortest_79 : decode b_Model_shortest 79 = .ok (.iload 5, 2) := by decide +kernel
theorem d_Model_shortest_81 : decode b_Model_shortest 81 = .ok (.bipush 100, 2) := by decide +kernel
theorem d_Model_shortest_83 : decode b_Model_shortest 83 = .ok (.if_icmp .ge 92, 3) := by decide +kernel
theorem d_Model_shortest_86 : decode b_Model_shortest 86 = .ok (.aload_n 0, 1) := by decide +kernel
theorem d_Model_shortest_87 : decode b_Model_shortest 87 = .ok (.iload 5, 2) := by decide +kernel
theorem d_Model_shortest_89 : decode b_Model_shortest 89 = .ok (.iconst 0, 1) := by decide +kernel
theorem d_Model_shortest_90 : decode b_Model_shortest 90 = .ok (.invokevirtual 182, 3) := by decide +kernel
theorem d_Model_shortest_93 : decode b_Model_shortest 93 = .ok (.aload_n 0, 1) := by decide +kernel
theorem d_Model_shortest_94 : decode b_Model_shortest 94 = .ok (.iload 5, 2) := by decide +kernel
theorem d_Model_shortest_96 : decode b_Model_shortest 96 = .ok (.lload_n 3, 1) := by decide +kernel
theorem d_Model_shortest_97 : decode b_Model_shortest 97 = .ok (.invokevirtual 186, 3) := by decide +kernel
theorem d_Model_shortest_100 : decode b_Model_shortest 100 = .ok (.istore 6, 2) := by decide +kernel
theorem d_Model_shortest_102 : decode b_Model_shortest 102 = .ok (.aload_n 0, 1) := by decide +kernel
theorem d_Model_shortest_103 : decode b_Model_shortest 103 = .ok (.iload 5, 2) := by decide +kernel
theorem d_Model_shortest_105 : decode b_Model_shortest 105 = .ok (.iconst 1, 1) := by decide +kernel
theorem d_Model_shortest_106 : decode b_Model_shortest 106 = .ok (.invokevirtual 182, 3) := by decide +kernel
theorem d_Model_shortest_109 : decode b_Model_shortest 109 = .ok (.aload_n 0, 1) := by decide +kernel
theorem d_Model_shortest_110 : decode b_Model_shortest 110 = .ok (.iload 5, 2) := by decide +kernel
theorem d_Model_shortest_112 : decode b_Model_shortest 112 = .ok (.lload_n 3, 1) := by decide +kernel
theorem d_Model_shortest_113 : decode b_Model_shortest 113 = .ok (.invokevirtual 186, 3) := by decide +kernel
theorem d_Model_shortest_116 : decode b_Model_shortest 116 = .ok (.istore 7, 2) := by decide +kernel
theorem d_Model_shortest_118 : decode b_Model_shortest 118 = .ok (.iload 6, 2) := by decide +kernel
theorem d_Model_shortest_120 : decode b_Model_shortest 120 = .ok (.ifCond .ne 11, 3) := by decide +kernel
theorem d_Model_shortest_123 : decode b_Model_shortest 123 = .ok (.iload 7, 2) := by decide +kernel
theorem d_Model_shortest_125 : decode b_Model_shortest 125 = .ok (.ifCond .ne 6, 3) := by decide +kernel
theorem d_Model_shortest_128 : decode b_Model_shortest 128 = .ok (.goto 41, 3) := by decide +kernel
theorem d_Model_shortest_131 : decode b_Model_shortest 131 = .ok (.iload 6, 2) := by decide +kernel
theorem d_Model_shortest_133 : decode b_Model_shortest 133 = .ok (.ifCond .eq 25, 3) := by decide +kernel
theorem d_Model_shortest_136 : decode b_Model_shortest 136 = .ok (.iload 7, 2) := by decide +kernel
theorem d_Model_shortest_138 : decode b_Model_shortest 138 = .ok (.ifCond .eq 13, 3) := by decide +kernel
theorem d_Model_shortest_141 : decode b_Model_shortest 141 = .ok (.aload_n 0, 1) := by decide +kernel
theorem d_Model_shortest_142 : decode b_Model_shortest 142 = .ok (.iload 5, 2) := by decide +kernel
theorem d_Model_shortest_144 : decode b_Model_shortest 144 = .ok (.invokevirtual 190, 3) := by decide +kernel
theorem d_Model_shortest_147 : decode b_Model_shortest 147 = .ok (.iconst 1, 1) := by decide +kernel
theorem d_Model_shortest_148 : decode b_Model_shortest 148 = .ok (.if_icmp .ge 10, 3) := by decide +kernel
theorem d_Model_shortest_151 : decode b_Model_shortest 151 = .ok (.aload_n 0, 1) := by decide +kernel
theorem d_Model_shortest_152 : decode b_Model_shortest 152 = .ok (.iload 5, 2) := by decide +kernel
theorem d_Model_shortest_154 : decode b_Model_shortest 154 = .ok (.iconst 0, 1) := by decide +kernel
theorem d_Model_shortest_155 : decode b_Model_shortest 155 = .ok (.invokevirtual 182, 3) := by decide +kernel
theorem d_Model_shortest_158 : decode b_Model_shortest 158 = .ok (.aload_n 0, 1) := by decide +kernel
theorem d_Model_shortest_159 : decode b_Model_shortest 159 = .ok (.iload 5, 2) := by decide +kernel
theorem d_Model_shortest_161 : decode b_Model_shortest 161 = .ok (.invokevirtual 193, 3) := by decide +kernel
theorem d_Model_shortest_164 : decode b_Model_shortest 164 = .ok (.aload_n 0, 1) := by decide +kernel
theorem d_Model_shortest_165 : decode b_Model_shortest 165 = .ok (.getfield 149, 3) := by decide +kernel
theorem d_Model_shortest_168 : decode b_Model_shortest 168 = .ok (.ireturn, 1) := by decide +kernel
theorem d_Model_shortest_169 : decode b_Model_shortest 169 = .ok (.iinc 5 1, 3) := by decide +kernel
theorem d_Model_shortest_172 : decode b_Model_shortest 172 = .ok (.goto (-93), 3) := by decide +kernel
theorem d_Model_shortest_175 : decode b_Model_shortest 175 = .ok (.aload_n 0, 1) := by decide +kernel
theorem d_Model_shortest_176 : decode b_Model_shortest 176 = .ok (.getfield 149, 3) := by decide +kernel
theorem d_Model_shortest_179 : decode b_Model_shortest 179 = .ok (.ireturn, 1) := by decide +kernel
theorem d_Model_letter_0 : decode b_Model_letter 0 = .ok (.aload_n 0, 1) := by decide +kernel
theorem d_Model_letter_1 : decode b_Model_letter 1 = .ok (.iload_n 1, 1) := by decide +kernel
theorem d_Model_letter_2 : decode b_Model_letter 2 = .ok (.ifCond .lt 11, 3) := by decide +kernel
theorem d_Model_letter_5 : decode b_Model_letter 5 = .ok (.iload_n 1, 1) := by decide +kernel
theorem d_Model_letter_6 : decode b_Model_letter 6 = .ok (.aload_n 0, 1) := by decide +kernel
theorem d_Model_letter_7 : decode b_Model_letter 7 = .ok (.getfield 149, 3) := by decide +kernel
theorem d_Model_letter_10 : decode b_Model_letter 10 = .ok (.if_icmp .lt 7, 3) := by decide +kernel
theorem d_Model_letter_13 : decode b_Model_letter 13 = .ok (.iconst 1, 1) := by decide +kernel
theorem d_Model_letter_14 : decode b_Model_letter 14 = .ok (.goto 4, 3) := by decide +kernel
theorem d_Model_letter_17 : decode b_Model_letter 17 = .ok (.iconst 0, 1) := by decide +kernel
theorem d_Model_letter_18 : decode b_Model_letter 18 = .ok (.putfield 41, 3) := by decide +kernel
theorem d_Model_letter_21 : decode b_Model_letter 21 = .ok (.aload_n 0, 1) := by decide +kernel
theorem d_Model_letter_22 : decode b_Model_letter 22 = .ok (.getfield 41, 3) := by decide +kernel
theorem d_Model_letter_25 : decode b_Model_letter 25 = .ok (.ifCond .le 7, 3) := by decide +kernel
theorem d_Model_letter_28 : decode b_Model_letter 28 = .ok (.iconst 0, 1) := by decide +kernel
theorem d_Model_letter_29 : decode b_Model_letter 29 = .ok (.goto 9, 3) := by decide +kernel
theorem d_Model_letter_32 : decode b_Model_letter 32 = .ok (.aload_n 0, 1) := by decide +kernel
theorem d_Model_letter_33 : decode b_Model_letter 33 = .ok (.getfield 20, 3) := by decide +kernel
theorem d_Model_letter_36 : decode b_Model_letter 36 = .ok (.iload_n 1, 1) := by decide +kernel
theorem d_Model_letter_37 : decode b_Model_letter 37 = .ok (.iaload, 1) := by decide +kernel
theorem d_Model_letter_38 : decode b_Model_letter 38 = .ok (.ireturn, 1) := by decide +kernel
theorem d_Model_next_0 : decode b_Model_next 0 = .ok (.aload_n 0, 1) := by decide +kernel
theorem d_Model_next_1 : decode b_Model_next 1 = .ok (.iconst 0, 1) := by decide +kernel
theorem d_Model_next_2 : decode b_Model_next 2 = .ok (.putfield 41, 3) := by decide +kernel
theorem d_Model_next_5 : decode b_Model_next 5 = .ok (.aload_n 0, 1) := by decide +kernel
theorem d_Model_next_6 : decode b_Model_next 6 = .ok (.lload_n 1, 1) := by decide +kernel
theorem d_Model_next_7 : decode b_Model_next 7 = .ok (.invokevirtual 160, 3) := by decide +kernel
theorem d_Model_next_10 : decode b_Model_next 10 = .ok (.ifCond .eq 16, 3) := by decide +kernel
theorem d_Model_next_13 : decode b_Model_next 13 = .ok (.aload_n 0, 1) := by decide +kernel
theorem d_Model_next_14 : decode b_Model_next 14 = .ok (.lload_n 1, 1) := by decide +kernel
theorem d_Model_next_15 : decode b_Model_next 15 = .ok (.invokevirtual 143, 3) := by decide +kernel
theorem d_Model_next_18 : decode b_Model_next 18 = .ok (.aload_n 0, 1) := by decide +kernel
theorem d_Model_next_19 : decode b_Model_next 19 = .ok (.invokevirtual 91, 3) := by decide +kernel
theorem d_Model_next_22 : decode b_Model_next 22 = .ok (.lcmp, 1) := by decide +kernel
theorem d_Model_next_23 : decode b_Model_next 23 = .ok (.ifCond .lt 7, 3) := by decide +kernel
theorem d_Model_next_26 : decode b_Model_next 26 = .ok (.ldc2_w 196, 3) := by decide +kernel
theorem d_Model_next_29 : decode b_Model_next 29 = .ok (.lreturn, 1) := by decide +kernel
theorem d_Model_next_30 : decode b_Model_next 30 = .ok (.aload_n 0, 1) := by decide +kernel
theorem d_Model_next_31 : decode b_Model_next 31 = .ok (.lload_n 1, 1) := by decide +kernel
theorem d_Model_next_32 : decode b_Model_next 32 = .ok (.invokevirtual 143, 3) := by decide +kernel
theorem d_Model_next_35 : decode b_Model_next 35 = .ok (.lstore 4, 2) := by decide +kernel
theorem d_Model_next_37 : decode b_Model_next 37 = .ok (.lload_n 1, 1) := by decide +kernel
theorem d_Model_next_38 : decode b_Model_next 38 = .ok (.lload 4, 2) := by decide +kernel
theorem d_Model_next_40 : decode b_Model_next 40 = .ok (.lsub, 1) := by decide +kernel
theorem d_Model_next_41 : decode b_Model_next 41 = .ok (.lstore 6, 2) := by decide +kernel
theorem d_Model_next_43 : decode b_Model_next 43 = .ok (.lconst 1, 1) := by decide +kernel
theorem d_Model_next_44 : decode b_Model_next 44 = .ok (.aload_n 0, 1) := by decide +kernel
theorem d_Model_next_45 : decode b_Model_next 45 = .ok (.getfield 7, 3) := by decide +kernel
theorem d_Model_next_48 : decode b_Model_next 48 = .ok (.aload_n 0, 1) := by decide +kernel
theorem d_Model_next_49 : decode b_Model_next 49 = .ok (.getfield 13, 3) := by decide +kernel
theorem d_Model_next_52 : decode b_Model_next 52 = .ok (.iadd, 1) := by decide +kernel
theorem d_Model_next_53 : decode b_Model_next 53 = .ok (.lshl, 1) := by decide +kernel
theorem d_Model_next_54 : decode b_Model_next 54 = .ok (.lstore 8, 2) := by decide +kernel
theorem d_Model_next_56 : decode b_Model_next 56 = .ok (.lload 4, 2) := by decide +kernel
theorem d_Model_next_58 : decode b_Model_next 58 = .ok (.lconst 0, 1) := by decide +kernel
theorem d_Model_next_59 : decode b_Model_next 59 = .ok (.lcmp, 1) := by decide +kernel
theorem d_Model_next_60 : decode b_Model_next 60 = .ok (.ifCond .ne 16, 3) := by decide +kernel
theorem d_Model_next_63 : decode b_Model_next 63 = .ok (.iload_n 3, 1) := by decide +kernel
theorem d_Model_next_64 : decode b_Model_next 64 = .ok (.ifCond .eq 7, 3) := by decide +kernel
theorem d_Model_next_67 : decode b_Model_next 67 = .ok (.lconst 1, 1) := by decide +kernel
theorem d_Model_next_68 : decode b_Model_next 68 = .ok (.goto 7, 3) := by decide +kernel
theorem d_Model_next_71 : decode b_Model_next 71 = .ok (.lload 8, 2) := by decide +kernel
theorem d_Model_next_73 : decode b_Model_next 73 = .ok (.lconst 1, 1) := by decide +kernel
theorem d_Model_next_74 : decode b_Model_next 74 = .ok (.ladd, 1) := by decide +kernel
theorem d_Model_next_75 : decode b_Model_next 75 = .ok (.lreturn, 1) := by decide +kernel
theorem d_Model_next_76 : decode b_Model_next 76 = .ok (.lload 6, 2) := by decide +kernel
theorem d_Model_next_78 : decode b_Model_next 78 = .ok (.lconst 0, 1) := by decide +kernel
theorem d_Model_next_79 : decode b_Model_next 79 = .ok (.lcmp, 1) := by decide +kernel
theorem d_Model_next_80 : decode b_Model_next 80 = .ok (.ifCond .ne 7, 3) := by decide +kernel
theorem d_Model_next_83 : decode b_Model_next 83 = .ok (.iconst 1, 1) := by decide +kernel
theorem d_Model_next_84 : decode b_Model_next 84 = .ok (.goto 4, 3) := by decide +kernel
theorem d_Model_next_87 : decode b_Model_next 87 = .ok (.iconst 0, 1) := by decide +kernel
theorem d_Model_next_88 : decode b_Model_next 88 = .ok (.iload_n 3, 1) := by decide +kernel
theorem d_Model_next_89 : decode b_Model_next 89 = .ok (.if_icmp .ne 9, 3) := by decide +kernel
theorem d_Model_next_92 : decode b_Model_next 92 = .ok (.lload_n 1, 1) := by decide +kernel
theorem d_Model_next_93 : decode b_Model_next 93 = .ok (.lconst 1, 1) := by decide +kernel
theorem d_Model_next_94 : decode b_Model_next 94 = .ok (.ladd, 1) := by decide +kernel
theorem d_Model_next_95 : decode b_Model_next 95 = .ok (.goto 6, 3) := by decide +kernel
theorem d_Model_next_98 : decode b_Model_next 98 = .ok (.lload_n 1, 1) := by decide +kernel
theorem d_Model_next_99 : decode b_Model_next 99 = .ok (.lconst 1, 1) := by decide +kernel
theorem d_Model_next_100 : decode b_Model_next 100 = .ok (.lsub, 1) := by decide +kernel
theorem d_Model_next_101 : decode b_Model_next 101 = .ok (.lreturn, 1) := by decide +kernel
theorem d_Law_read_0 : decode b_Law_read 0 = .ok (.aload_n 1, 1) := by decide +kernel
theorem d_Law_read_1 : decode b_Law_read 1 = .ok (.iconst 0, 1) := by decide +kernel
theorem d_Law_read_2 : decode b_Law_read 2 = .ok (.aload_n 0, 1) := by decide +kernel
theorem d_Law_read_3 : decode b_Law_read 3 = .ok (.invokevirtual 7, 3) := by decide +kernel
theorem d_Law_read_6 : decode b_Law_read 6 = .ok (.lastore, 1) := by decide +kernel
theorem d_Law_read_7 : decode b_Law_read 7 = .ok (.goto 6, 3) := by decide +kernel
theorem d_Law_read_10 : decode b_Law_read 10 = .ok (.astore_n 2, 1) := by decide +kernel
theorem d_Law_read_11 : decode b_Law_read 11 = .ok (.iconst 1, 1) := by decide +kernel
theorem d_Law_read_12 : decode b_Law_read 12 = .ok (.ireturn, 1) := by decide +kernel
theorem d_Law_read_13 : decode b_Law_read 13 = .ok (.iconst 0, 1) := by decide +kernel
theorem d_Law_read_14 : decode b_Law_read 14 = .ok (.ireturn, 1) := by decide +kernel
theorem d_Law_shortest_0 : decode b_Law_shortest 0 = .ok (.aload_n 3, 1) := by decide +kernel
theorem d_Law_shortest_1 : decode b_Law_shortest 1 = .ok (.iconst 0, 1) := by decide +kernel
theorem d_Law_shortest_2 : decode b_Law_shortest 2 = .ok (.aload_n 0, 1) := by decide +kernel
theorem d_Law_shortest_3 : decode b_Law_shortest 3 = .ok (.lload_n 1, 1) := by decide +kernel
theorem d_Law_shortest_4 : decode b_Law_shortest 4 = .ok (.invokevirtual 15, 3) := by decide +kernel
theorem d_Law_shortest_7 : decode b_Law_shortest 7 = .ok (.i2l, 1) := by decide +kernel
theorem d_Law_shortest_8 : decode b_Law_shortest 8 = .ok (.lastore, 1) := by decide +kernel
theorem d_Law_shortest_9 : decode b_Law_shortest 9 = .ok (.goto 7, 3) := by decide +kernel
theorem d_Law_shortest_12 : decode b_Law_shortest 12 = .ok (.astore 4, 2) := by decide +kernel
theorem d_Law_shortest_14 : decode b_Law_shortest 14 = .ok (.iconst 1, 1) := by decide +kernel
theorem d_Law_shortest_15 : decode b_Law_shortest 15 = .ok (.ireturn, 1) := by decide +kernel
theorem d_Law_shortest_16 : decode b_Law_shortest 16 = .ok (.iconst 0, 1) := by decide +kernel
theorem d_Law_shortest_17 : decode b_Law_shortest 17 = .ok (.ireturn, 1) := by decide +kernel
theorem d_Law_exact_0 : decode b_Law_exact 0 = .ok (.aload_n 3, 1) := by decide +kernel
theorem d_Law_exact_1 : decode b_Law_exact 1 = .ok (.iconst 0, 1) := by decide +kernel
theorem d_Law_exact_2 : decode b_Law_exact 2 = .ok (.aload_n 0, 1) := by decide +kernel
theorem d_Law_exact_3 : decode b_Law_exact 3 = .ok (.lload_n 1, 1) := by decide +kernel
theorem d_Law_exact_4 : decode b_Law_exact 4 = .ok (.invokevirtual 19, 3) := by decide +kernel
theorem d_Law_exact_7 : decode b_Law_exact 7 = .ok (.i2l, 1) := by decide +kernel
theorem d_Law_exact_8 : decode b_Law_exact 8 = .ok (.lastore, 1) := by decide +kernel
theorem d_Law_exact_9 : decode b_Law_exact 9 = .ok (.goto 7, 3) := by decide +kernel
theorem d_Law_exact_12 : decode b_Law_exact 12 = .ok (.astore 4, 2) := by decide +kernel
theorem d_Law_exact_14 : decode b_Law_exact 14 = .ok (.iconst 1, 1) := by decide +kernel
theorem d_Law_exact_15 : decode b_Law_exact 15 = .ok (.ireturn, 1) := by decide +kernel
theorem d_Law_exact_16 : decode b_Law_exact 16 = .ok (.iconst 0, 1) := by decide +kernel
theorem d_Law_exact_17 : decode b_Law_exact 17 = .ok (.ireturn, 1) := by decide +kernel
theorem d_Law_letter_0 : decode b_Law_letter 0 = .ok (.aload_n 2, 1) := by decide +kernel
theorem d_Law_letter_1 : decode b_Law_letter 1 = .ok (.iconst 0, 1) := by decide +kernel
theorem d_Law_letter_2 : decode b_Law_letter 2 = .ok (.aload_n 0, 1) := by decide +kernel
theorem d_Law_letter_3 : decode b_Law_letter 3 = .ok (.iload_n 1, 1) := by decide +kernel
theorem d_Law_letter_4 : decode b_Law_letter 4 = .ok (.invokevirtual 22, 3) := by decide +kernel
theorem d_Law_letter_7 : decode b_Law_letter 7 = .ok (.i2l, 1) := by decide +kernel
theorem d_Law_letter_8 : decode b_Law_letter 8 = .ok (.lastore, 1) := by decide +kernel
theorem d_Law_letter_9 : decode b_Law_letter 9 = .ok (.goto 6, 3) := by decide +kernel
theorem d_Law_letter_12 : decode b_Law_letter 12 = .ok (.astore_n 3, 1) := by decide +kernel
theorem d_Law_letter_13 : decode b_Law_letter 13 = .ok (.iconst 1, 1) := by decide +kernel
theorem d_Law_letter_14 : decode b_Law_letter 14 = .ok (.ireturn, 1) := by decide +kernel
theorem d_Law_letter_15 : decode b_Law_letter 15 = .ok (.iconst 0, 1) := by decide +kernel
theorem d_Law_letter_16 : decode b_Law_letter 16 = .ok (.ireturn, 1) := by decide +kernel
theorem d_Law_law_0 : decode b_Law_law 0 = .ok (.new 8, 3) := by decide +kernel
theorem d_Law_law_3 : decode b_Law_law 3 = .ok (.dup, 1) := by decide +kernel
theorem d_Law_law_4 : decode b_Law_law 4 = .ok (.invokespecial 28, 3) := by decide +kernel
theorem d_Law_law_7 : decode b_Law_law 7 = .ok (.astore_n 1, 1) := by decide +kernel
theorem d_Law_law_8 : decode b_Law_law 8 = .ok (.new 29, 3) := by decide +kernel
theorem d_Law_law_11 : decode b_Law_law 11 = .ok (.dup, 1) := by decide +kernel
theorem d_Law_law_12 : decode b_Law_law 12 = .ok (.invokespecial 31, 3) := by decide +kernel
theorem d_Law_law_15 : decode b_Law_law 15 = .ok (.astore_n 2, 1) := by decide +kernel
theorem d_Law_law_16 : decode b_Law_law 16 = .ok (.iconst 1, 1) := by decide +kernel
theorem d_Law_law_17 : decode b_Law_law 17 = .ok (.newarray .long, 2) := by decide +kernel
theorem d_Law_law_19 : decode b_Law_law 19 = .ok (.astore_n 3, 1) := by decide +kernel
theorem d_Law_law_20 : decode b_Law_law 20 = .ok (.iconst 0, 1) := by decide +kernel
theorem d_Law_law_21 : decode b_Law_law 21 = .ok (.istore 4, 2) := by decide +kernel
theorem d_Law_law_23 : decode b_Law_law 23 = .ok (.iload 4, 2) := by decide +kernel
theorem d_Law_law_25 : decode b_Law_law 25 = .ok (.aload_n 0, 1) := by decide +kernel
theorem d_Law_law_26 : decode b_Law_law 26 = .ok (.arraylength, 1) := by decide +kernel
theorem d_Law_law_27 : decode b_Law_law 27 = .ok (.iconst 4, 1) := by decide +kernel
theorem d_Law_law_28 : decode b_Law_law 28 = .ok (.isub, 1) := by decide +kernel
theorem d_Law_law_29 : decode b_Law_law 29 = .ok (.if_icmp .gt 487, 3) := by decide +kernel
theorem d_Law_law_32 : decode b_Law_law 32 = .ok (.aload_n 0, 1) := by decide +kernel
theorem d_Law_law_33 : decode b_Law_law 33 = .ok (.iload 4, 2) := by decide +kernel
theorem d_Law_law_35 : decode b_Law_law 35 = .ok (.iaload, 1) := by decide +kernel
theorem d_Law_law_36 : decode b_Law_law 36 = .ok (.bipush 15, 2) := by decide +kernel
theorem d_Law_law_38 : decode b_Law_law 38 = .ok (.iand, 1) := by decide +kernel
theorem d_Law_law_39 : decode b_Law_law 39 = .ok (.tableswitch 471 0 9 #[53, 90, 115, 184, 200, 213, 238, 298, 358, 386], 53) := by decide +kernel
theorem d_Law_law_92 : decode b_Law_law 92 = .ok (.aload_n 1, 1) := by decide +kernel
theorem d_Law_law_93 : decode b_Law_law 93 = .ok (.aload_n 0, 1) := by decide +kernel
theorem d_Law_law_94 : decode b_Law_law 94 = .ok (.iload 4, 2) := by decide +kernel
theorem d_Law_law_96 : decode b_Law_law 96 = .ok (.iconst 1, 1) := by decide +kernel
theorem d_Law_law_97 : decode b_Law_law 97 = .ok (.iadd, 1) := by decide +kernel
theorem d_Law_law_98 : decode b_Law_law 98 = .ok (.iaload, 1) := by decide +kernel
theorem d_Law_law_99 : decode b_Law_law 99 = .ok (.aload_n 0, 1) := by decide +kernel
theorem d_Law_law_100 : decode b_Law_law 100 = .ok (.iload 4, 2) := by decide +kernel
theorem d_Law_law_102 : decode b_Law_law 102 = .ok (.iconst 2, 1) := by decide +kernel
theorem d_Law_law_103 : decode b_Law_law 103 = .ok (.iadd, 1) := by decide +kernel
theorem d_Law_law_104 : decode b_Law_law 104 = .ok (.iaload, 1) := by decide +kernel
theorem d_Law_law_105 : decode b_Law_law 105 = .ok (.invokevirtual 32, 3) := by decide +kernel
theorem d_Law_law_108 : decode b_Law_law 108 = .ok (.aload_n 2, 1) := by decide +kernel
theorem d_Law_law_109 : decode b_Law_law 109 = .ok (.aload_n 0, 1) := by decide +kernel
theorem d_Law_law_110 : decode b_Law_law 110 = .ok (.iload 4, 2) := by decide +kernel
theorem d_Law_law_112 : decode b_Law_law 112 = .ok (.iconst 1, 1) := by decide +kernel
theorem d_Law_law_113 : decode b_Law_law 113 = .ok (.iadd, 1) := by decide +kernel
theorem d_Law_law_114 : decode b_Law_law 114 = .ok (.iaload, 1) := by decide +kernel
theorem d_Law_law_115 : decode b_Law_law 115 = .ok (.aload_n 0, 1) := by decide +kernel
theorem d_Law_law_116 : decode b_Law_law 116 = .ok (.iload 4, 2) := by decide +kernel
theorem d_Law_law_118 : decode b_Law_law 118 = .ok (.iconst 2, 1) := by decide +kernel
theorem d_Law_law_119 : decode b_Law_law 119 = .ok (.iadd, 1) := by decide +kernel
theorem d_Law_law_120 : decode b_Law_law 120 = .ok (.iaload, 1) := by decide +kernel
theorem d_Law_law_121 : decode b_Law_law 121 = .ok (.invokevirtual 36, 3) := by decide +kernel
theorem d_Law_law_124 : decode b_Law_law 124 = .ok (.if_icmp .eq 386, 3) := by decide +kernel
theorem d_Law_law_127 : decode b_Law_law 127 = .ok (.iconst 0, 1) := by decide +kernel
theorem d_Law_law_128 : decode b_Law_law 128 = .ok (.ireturn, 1) := by decide +kernel
theorem d_Law_law_129 : decode b_Law_law 129 = .ok (.aload_n 1, 1) := by decide +kernel
theorem d_Law_law_130 : decode b_Law_law 130 = .ok (.aload_n 0, 1) := by decide +kernel
theorem d_Law_law_131 : decode b_Law_law 131 = .ok (.iload 4, 2) := by decide +kernel
theorem d_Law_law_133 : decode b_Law_law 133 = .ok (.iconst 1, 1) := by decide +kernel
theorem d_Law_law_134 : decode b_Law_law 134 = .ok (.iadd, 1) := by decide +kernel
theorem d_Law_law_135 : decode b_Law_law 135 = .ok (.iaload, 1) := by decide +kernel
theorem d_Law_law_136 : decode b_Law_law 136 = .ok (.invokevirtual 37, 3) := by decide +kernel
theorem d_Law_law_139 : decode b_Law_law 139 = .ok (.pop, 1) := by decide +kernel
theorem d_Law_law_140 : decode b_Law_law 140 = .ok (.aload_n 2, 1) := by decide +kernel
theorem d_Law_law_141 : decode b_Law_law 141 = .ok (.aload_n 0, 1) := by decide +kernel
theorem d_Law_law_142 : decode b_Law_law 142 = .ok (.iload 4, 2) := by decide +kernel
theorem d_Law_law_144 : decode b_Law_law 144 = .ok (.iconst 1, 1) := by decide +kernel
theorem d_Law_law_145 : decode b_Law_law 145 = .ok (.iadd, 1) := by decide +kernel
theorem d_Law_law_146 : decode b_Law_law 146 = .ok (.iaload, 1) := by decide +kernel
theorem d_Law_law_147 : decode b_Law_law 147 = .ok (.invokevirtual 41, 3) := by decide +kernel
theorem d_Law_law_150 : decode b_Law_law 150 = .ok (.pop, 1) := by decide +kernel
theorem d_Law_law_151 : decode b_Law_law 151 = .ok (.goto 359, 3) := by decide +kernel
theorem d_Law_law_154 : decode b_Law_law 154 = .ok (.aload_n 1, 1) := by decide +kernel
theorem d_Law_law_155 : decode b_Law_law 155 = .ok (.aload_n 0, 1) := by decide +kernel
theorem d_Law_law_156 : decode b_Law_law 156 = .ok (.iload 4, 2) := by decide +kernel
theorem d_Law_law_158 : decode b_Law_law 158 = .ok (.iconst 1, 1) := by decide +kernel
theorem d_Law_law_159 : decode b_Law_law 159 = .ok (.iadd, 1) := by decide +kernel
theorem d_Law_law_160 : decode b_Law_law 160 = .ok (.iaload, 1) := by decide +kernel
theorem d_Law_law_161 : decode b_Law_law 161 = .ok (.i2l, 1) := by decide +kernel
theorem d_Law_law_162 : decode b_Law_law 162 = .ok (.bipush 32, 2) := by decide +kernel
theorem d_Law_law_164 : decode b_Law_law 164 = .ok (.lshl, 1) := by decide +kernel
theorem d_Law_law_165 : decode b_Law_law 165 = .ok (.aload_n 0, 1) := by decide +kernel
theorem d_Law_law_166 : decode b_Law_law 166 = .ok (.iload 4, 2) := by decide +kernel
theorem d_Law_law_168 : decode b_Law_law 168 = .ok (.iconst 2, 1) := by decide +kernel
theorem d_Law_law_169 : decode b_Law_law 169 = .ok (.iadd, 1) := by decide +kernel
theorem d_Law_law_170 : decode b_Law_law 170 = .ok (.iaload, 1) := by decide +kernel
theorem d_Law_law_171 : decode b_Law_law 171 = .ok (.i2l, 1) := by decide +kernel
theorem d_Law_law_172 : decode b_Law_law 172 = .ok (.ldc2_w 42, 3) := by decide +kernel
theorem d_Law_law_175 : decode b_Law_law 175 = .ok (.land, 1) := by decide +kernel
theorem d_Law_law_176 : decode b_Law_law 176 = .ok (.lor, 1) := by decide +kernel
theorem d_Law_law_177 : decode b_Law_law 177 = .ok (.aload_n 0, 1) := by decide +kernel
theorem d_Law_law_178 : decode b_Law_law 178 = .ok (.iload 4, 2) := by decide +kernel
theorem d_Law_law_180 : decode b_Law_law 180 = .ok (.iconst 3, 1) := by decide +kernel
theorem d_Law_law_181 : decode b_Law_law 181 = .ok (.iadd, 1) := by decide +kernel
theorem d_Law_law_182 : decode b_Law_law 182 = .ok (.iaload, 1) := by decide +kernel
theorem d_Law_law_183 : decode b_Law_law 183 = .ok (.invokevirtual 44, 3) := by decide +kernel
theorem d_Law_law_186 : decode b_Law_law 186 = .ok (.pop, 1) := by decide +kernel
theorem d_Law_law_187 : decode b_Law_law 187 = .ok (.aload_n 2, 1) := by decide +kernel
theorem d_Law_law_188 : decode b_Law_law 188 = .ok (.aload_n 0, 1) := by decide +kernel
theorem d_Law_law_189 : decode b_Law_law 189 = .ok (.iload 4, 2) := by decide +kernel
theorem d_Law_law_191 : decode b_Law_law 191 = .ok (.iconst 1, 1) := by decide +kernel
theorem d_Law_law_192 : decode b_Law_law 192 = .ok (.iadd, 1) := by decide +kernel
theorem d_Law_law_193 : decode b_Law_law 193 = .ok (.iaload, 1) := by decide +kernel
theorem d_Law_law_194 : decode b_Law_law 194 = .ok (.i2l, 1) := by decide +kernel
theorem d_Law_law_195 : decode b_Law_law 195 = .ok (.bipush 32, 2) := by decide +kernel
theorem d_Law_law_197 : decode b_Law_law 197 = .ok (.lshl, 1) := by decide +kernel
theorem d_Law_law_198 : decode b_Law_law 198 = .ok (.aload_n 0, 1) := by decide +kernel
theorem d_Law_law_199 : decode b_Law_law 199 = .ok (.iload 4, 2) := by decide +kernel
theorem d_Law_law_201 : decode b_Law_law 201 = .ok (.iconst 2, 1) := by decide +kernel
theorem d_Law_law_202 : decode b_Law_law 202 = .ok (.iadd, 1) := by decide +kernel
theorem d_Law_law_203 : decode b_Law_law 203 = .ok (.iaload, 1) := by decide +kernel
theorem d_Law_law_204 : decode b_Law_law 204 = .ok (.i2l, 1) := by decide +kernel
theorem d_Law_law_205 : decode b_Law_law 205 = .ok (.ldc2_w 42, 3) := by decide +kernel
theorem d_Law_law_208 : decode b_Law_law 208 = .ok (.land, 1) := by decide +kernel
theorem d_Law_law_209 : decode b_Law_law 209 = .ok (.lor, 1) := by decide +kernel
theorem d_Law_law_210 : decode b_Law_law 210 = .ok (.aload_n 0, 1) := by decide +kernel
theorem d_Law_law_211 : decode b_Law_law 211 = .ok (.iload 4, 2) := by decide +kernel
theorem d_Law_law_213 : decode b_Law_law 213 = .ok (.iconst 3, 1) := by decide +kernel
theorem d_Law_law_214 : decode b_Law_law 214 = .ok (.iadd, 1) := by decide +kernel
theorem d_Law_law_215 : decode b_Law_law 215 = .ok (.iaload, 1) := by decide +kernel
theorem d_Law_law_216 : decode b_Law_law 216 = .ok (.invokevirtual 48, 3) := by decide +kernel
theorem d_Law_law_219 : decode b_Law_law 219 = .ok (.pop, 1) := by decide +kernel
theorem d_Law_law_220 : decode b_Law_law 220 = .ok (.goto 290, 3) := by decide +kernel
theorem d_Law_law_223 : decode b_Law_law 223 = .ok (.aload_n 1, 1) := by decide +kernel
theorem d_Law_law_224 : decode b_Law_law 224 = .ok (.aload_n 3, 1) := by decide +kernel
theorem d_Law_law_225 : decode b_Law_law 225 = .ok (.invokestatic 49, 3) := by decide +kernel
theorem d_Law_law_228 : decode b_Law_law 228 = .ok (.istore 5, 2) := by decide +kernel
theorem d_Law_law_230 : decode b_Law_law 230 = .ok (.aload_n 2, 1) := by decide +kernel
theorem d_Law_law_231 : decode b_Law_law 231 = .ok (.invokevirtual 54, 3) := by decide +kernel
theorem d_Law_law_234 : decode b_Law_law 234 = .ok (.lstore 6, 2) := by decide +kernel
theorem d_Law_law_236 : decode b_Law_law 236 = .ok (.goto 274, 3) := by decide +kernel
theorem d_Law_law_239 : decode b_Law_law 239 = .ok (.aload_n 1, 1) := by decide +kernel
theorem d_Law_law_240 : decode b_Law_law 240 = .ok (.invokevirtual 55, 3) := by decide +kernel
theorem d_Law_law_243 : decode b_Law_law 243 = .ok (.pop, 1) := by decide +kernel
theorem d_Law_law_244 : decode b_Law_law 244 = .ok (.aload_n 2, 1) := by decide +kernel
end
section
theorem d_Law_law_245 : decode b_Law_law 245 = .ok (.invokevirtual 59, 3) := by decide +kernel
theorem d_Law_law_248 : decode b_Law_law 248 = .ok (.pop, 1) := by decide +kernel
theorem d_Law_law_249 : decode b_Law_law 249 = .ok (.goto 261, 3) := by decide +kernel
theorem d_Law_law_252 : decode b_Law_law 252 = .ok (.aload_n 1, 1) := by decide +kernel
theorem d_Law_law_253 : decode b_Law_law 253 = .ok (.aload_n 0, 1) := by decide +kernel
theorem d_Law_law_254 : decode b_Law_law 254 = .ok (.iload 4, 2) := by decide +kernel
theorem d_Law_law_256 : decode b_Law_law 256 = .ok (.iconst 1, 1) := by decide +kernel
theorem d_Law_law_257 : decode b_Law_law 257 = .ok (.iadd, 1) := by decide +kernel
theorem d_Law_law_258 : decode b_Law_law 258 = .ok (.iaload, 1) := by decide +kernel
theorem d_Law_law_259 : decode b_Law_law 259 = .ok (.invokevirtual 60, 3) := by decide +kernel
theorem d_Law_law_262 : decode b_Law_law 262 = .ok (.pop, 1) := by decide +kernel
theorem d_Law_law_263 : decode b_Law_law 263 = .ok (.aload_n 2, 1) := by decide +kernel
theorem d_Law_law_264 : decode b_Law_law 264 = .ok (.aload_n 0, 1) := by decide +kernel
theorem d_Law_law_265 : decode b_Law_law 265 = .ok (.iload 4, 2) := by decide +kernel
theorem d_Law_law_267 : decode b_Law_law 267 = .ok (.iconst 1, 1) := by decide +kernel
theorem d_Law_law_268 : decode b_Law_law 268 = .ok (.iadd, 1) := by decide +kernel
theorem d_Law_law_269 : decode b_Law_law 269 = .ok (.iaload, 1) := by decide +kernel
theorem d_Law_law_270 : decode b_Law_law 270 = .ok (.invokevirtual 63, 3) := by decide +kernel
theorem d_Law_law_273 : decode b_Law_law 273 = .ok (.pop, 1) := by decide +kernel
theorem d_Law_law_274 : decode b_Law_law 274 = .ok (.goto 236, 3) := by decide +kernel
theorem d_Law_law_277 : decode b_Law_law 277 = .ok (.aload_n 1, 1) := by decide +kernel
theorem d_Law_law_278 : decode b_Law_law 278 = .ok (.aload_n 0, 1) := by decide +kernel
theorem d_Law_law_279 : decode b_Law_law 279 = .ok (.iload 4, 2) := by decide +kernel
theorem d_Law_law_281 : decode b_Law_law 281 = .ok (.iconst 1, 1) := by decide +kernel
theorem d_Law_law_282 : decode b_Law_law 282 = .ok (.iadd, 1) := by decide +kernel
theorem d_Law_law_283 : decode b_Law_law 283 = .ok (.iaload, 1) := by decide +kernel
theorem d_Law_law_284 : decode b_Law_law 284 = .ok (.i2l, 1) := by decide +kernel
theorem d_Law_law_285 : decode b_Law_law 285 = .ok (.bipush 32, 2) := by decide +kernel
theorem d_Law_law_287 : decode b_Law_law 287 = .ok (.lshl, 1) := by decide +kernel
theorem d_Law_law_288 : decode b_Law_law 288 = .ok (.aload_n 0, 1) := by decide +kernel
theorem d_Law_law_289 : decode b_Law_law 289 = .ok (.iload 4, 2) := by decide +kernel
theorem d_Law_law_291 : decode b_Law_law 291 = .ok (.iconst 2, 1) := by decide +kernel
theorem d_Law_law_292 : decode b_Law_law 292 = .ok (.iadd, 1) := by decide +kernel
theorem d_Law_law_293 : decode b_Law_law 293 = .ok (.iaload, 1) := by decide +kernel
theorem d_Law_law_294 : decode b_Law_law 294 = .ok (.i2l, 1) := by decide +kernel
theorem d_Law_law_295 : decode b_Law_law 295 = .ok (.ldc2_w 42, 3) := by decide +kernel
theorem d_Law_law_298 : decode b_Law_law 298 = .ok (.land, 1) := by decide +kernel
theorem d_Law_law_299 : decode b_Law_law 299 = .ok (.lor, 1) := by decide +kernel
theorem d_Law_law_300 : decode b_Law_law 300 = .ok (.aload_n 3, 1) := by decide +kernel
theorem d_Law_law_301 : decode b_Law_law 301 = .ok (.invokestatic 64, 3) := by decide +kernel
theorem d_Law_law_304 : decode b_Law_law 304 = .ok (.istore 5, 2) := by decide +kernel
theorem d_Law_law_306 : decode b_Law_law 306 = .ok (.aload_n 2, 1) := by decide +kernel
theorem d_Law_law_307 : decode b_Law_law 307 = .ok (.aload_n 0, 1) := by decide +kernel
theorem d_Law_law_308 : decode b_Law_law 308 = .ok (.iload 4, 2) := by decide +kernel
theorem d_Law_law_310 : decode b_Law_law 310 = .ok (.iconst 1, 1) := by decide +kernel
theorem d_Law_law_311 : decode b_Law_law 311 = .ok (.iadd, 1) := by decide +kernel
theorem d_Law_law_312 : decode b_Law_law 312 = .ok (.iaload, 1) := by decide +kernel
theorem d_Law_law_313 : decode b_Law_law 313 = .ok (.i2l, 1) := by decide +kernel
theorem d_Law_law_314 : decode b_Law_law 314 = .ok (.bipush 32, 2) := by decide +kernel
theorem d_Law_law_316 : decode b_Law_law 316 = .ok (.lshl, 1) := by decide +kernel
theorem d_Law_law_317 : decode b_Law_law 317 = .ok (.aload_n 0, 1) := by decide +kernel
theorem d_Law_law_318 : decode b_Law_law 318 = .ok (.iload 4, 2) := by decide +kernel
theorem d_Law_law_320 : decode b_Law_law 320 = .ok (.iconst 2, 1) := by decide +kernel
theorem d_Law_law_321 : decode b_Law_law 321 = .ok (.iadd, 1) := by decide +kernel
theorem d_Law_law_322 : decode b_Law_law 322 = .ok (.iaload, 1) := by decide +kernel
theorem d_Law_law_323 : decode b_Law_law 323 = .ok (.i2l, 1) := by decide +kernel
theorem d_Law_law_324 : decode b_Law_law 324 = .ok (.ldc2_w 42, 3) := by decide +kernel
theorem d_Law_law_327 : decode b_Law_law 327 = .ok (.land, 1) := by decide +kernel
theorem d_Law_law_328 : decode b_Law_law 328 = .ok (.lor, 1) := by decide +kernel
theorem d_Law_law_329 : decode b_Law_law 329 = .ok (.invokevirtual 67, 3) := by decide +kernel
theorem d_Law_law_332 : decode b_Law_law 332 = .ok (.istore 6, 2) := by decide +kernel
theorem d_Law_law_334 : decode b_Law_law 334 = .ok (.goto 176, 3) := by decide +kernel
theorem d_Law_law_337 : decode b_Law_law 337 = .ok (.aload_n 1, 1) := by decide +kernel
theorem d_Law_law_338 : decode b_Law_law 338 = .ok (.aload_n 0, 1) := by decide +kernel
theorem d_Law_law_339 : decode b_Law_law 339 = .ok (.iload 4, 2) := by decide +kernel
theorem d_Law_law_341 : decode b_Law_law 341 = .ok (.iconst 1, 1) := by decide +kernel
theorem d_Law_law_342 : decode b_Law_law 342 = .ok (.iadd, 1) := by decide +kernel
theorem d_Law_law_343 : decode b_Law_law 343 = .ok (.iaload, 1) := by decide +kernel
theorem d_Law_law_344 : decode b_Law_law 344 = .ok (.i2l, 1) := by decide +kernel
theorem d_Law_law_345 : decode b_Law_law 345 = .ok (.bipush 32, 2) := by decide +kernel
theorem d_Law_law_347 : decode b_Law_law 347 = .ok (.lshl, 1) := by decide +kernel
theorem d_Law_law_348 : decode b_Law_law 348 = .ok (.aload_n 0, 1) := by decide +kernel
theorem d_Law_law_349 : decode b_Law_law 349 = .ok (.iload 4, 2) := by decide +kernel
theorem d_Law_law_351 : decode b_Law_law 351 = .ok (.iconst 2, 1) := by decide +kernel
theorem d_Law_law_352 : decode b_Law_law 352 = .ok (.iadd, 1) := by decide +kernel
theorem d_Law_law_353 : decode b_Law_law 353 = .ok (.iaload, 1) := by decide +kernel
theorem d_Law_law_354 : decode b_Law_law 354 = .ok (.i2l, 1) := by decide +kernel
theorem d_Law_law_355 : decode b_Law_law 355 = .ok (.ldc2_w 42, 3) := by decide +kernel
theorem d_Law_law_358 : decode b_Law_law 358 = .ok (.land, 1) := by decide +kernel
theorem d_Law_law_359 : decode b_Law_law 359 = .ok (.lor, 1) := by decide +kernel
theorem d_Law_law_360 : decode b_Law_law 360 = .ok (.aload_n 3, 1) := by decide +kernel
theorem d_Law_law_361 : decode b_Law_law 361 = .ok (.invokestatic 68, 3) := by decide +kernel
theorem d_Law_law_364 : decode b_Law_law 364 = .ok (.istore 5, 2) := by decide +kernel
theorem d_Law_law_366 : decode b_Law_law 366 = .ok (.aload_n 2, 1) := by decide +kernel
theorem d_Law_law_367 : decode b_Law_law 367 = .ok (.aload_n 0, 1) := by decide +kernel
theorem d_Law_law_368 : decode b_Law_law 368 = .ok (.iload 4, 2) := by decide +kernel
theorem d_Law_law_370 : decode b_Law_law 370 = .ok (.iconst 1, 1) := by decide +kernel
theorem d_Law_law_371 : decode b_Law_law 371 = .ok (.iadd, 1) := by decide +kernel
theorem d_Law_law_372 : decode b_Law_law 372 = .ok (.iaload, 1) := by decide +kernel
theorem d_Law_law_373 : decode b_Law_law 373 = .ok (.i2l, 1) := by decide +kernel
theorem d_Law_law_374 : decode b_Law_law 374 = .ok (.bipush 32, 2) := by decide +kernel
theorem d_Law_law_376 : decode b_Law_law 376 = .ok (.lshl, 1) := by decide +kernel
theorem d_Law_law_377 : decode b_Law_law 377 = .ok (.aload_n 0, 1) := by decide +kernel
theorem d_Law_law_378 : decode b_Law_law 378 = .ok (.iload 4, 2) := by decide +kernel
theorem d_Law_law_380 : decode b_Law_law 380 = .ok (.iconst 2, 1) := by decide +kernel
theorem d_Law_law_381 : decode b_Law_law 381 = .ok (.iadd, 1) := by decide +kernel
theorem d_Law_law_382 : decode b_Law_law 382 = .ok (.iaload, 1) := by decide +kernel
theorem d_Law_law_383 : decode b_Law_law 383 = .ok (.i2l, 1) := by decide +kernel
theorem d_Law_law_384 : decode b_Law_law 384 = .ok (.ldc2_w 42, 3) := by decide +kernel
theorem d_Law_law_387 : decode b_Law_law 387 = .ok (.land, 1) := by decide +kernel
theorem d_Law_law_388 : decode b_Law_law 388 = .ok (.lor, 1) := by decide +kernel
theorem d_Law_law_389 : decode b_Law_law 389 = .ok (.invokevirtual 70, 3) := by decide +kernel
theorem d_Law_law_392 : decode b_Law_law 392 = .ok (.istore 6, 2) := by decide +kernel
theorem d_Law_law_394 : decode b_Law_law 394 = .ok (.goto 116, 3) := by decide +kernel
theorem d_Law_law_397 : decode b_Law_law 397 = .ok (.aload_n 1, 1) := by decide +kernel
theorem d_Law_law_398 : decode b_Law_law 398 = .ok (.aload_n 0, 1) := by decide +kernel
theorem d_Law_law_399 : decode b_Law_law 399 = .ok (.iload 4, 2) := by decide +kernel
theorem d_Law_law_401 : decode b_Law_law 401 = .ok (.iconst 1, 1) := by decide +kernel
theorem d_Law_law_402 : decode b_Law_law 402 = .ok (.iadd, 1) := by decide +kernel
theorem d_Law_law_403 : decode b_Law_law 403 = .ok (.iaload, 1) := by decide +kernel
theorem d_Law_law_404 : decode b_Law_law 404 = .ok (.aload_n 3, 1) := by decide +kernel
theorem d_Law_law_405 : decode b_Law_law 405 = .ok (.invokestatic 71, 3) := by decide +kernel
theorem d_Law_law_408 : decode b_Law_law 408 = .ok (.istore 5, 2) := by decide +kernel
theorem d_Law_law_410 : decode b_Law_law 410 = .ok (.aload_n 2, 1) := by decide +kernel
theorem d_Law_law_411 : decode b_Law_law 411 = .ok (.aload_n 0, 1) := by decide +kernel
theorem d_Law_law_412 : decode b_Law_law 412 = .ok (.iload 4, 2) := by decide +kernel
theorem d_Law_law_414 : decode b_Law_law 414 = .ok (.iconst 1, 1) := by decide +kernel
theorem d_Law_law_415 : decode b_Law_law 415 = .ok (.iadd, 1) := by decide +kernel
theorem d_Law_law_416 : decode b_Law_law 416 = .ok (.iaload, 1) := by decide +kernel
theorem d_Law_law_417 : decode b_Law_law 417 = .ok (.invokevirtual 74, 3) := by decide +kernel
theorem d_Law_law_420 : decode b_Law_law 420 = .ok (.istore 6, 2) := by decide +kernel
theorem d_Law_law_422 : decode b_Law_law 422 = .ok (.goto 88, 3) := by decide +kernel
theorem d_Law_law_425 : decode b_Law_law 425 = .ok (.aload_n 1, 1) := by decide +kernel
theorem d_Law_law_426 : decode b_Law_law 426 = .ok (.aload_n 0, 1) := by decide +kernel
theorem d_Law_law_427 : decode b_Law_law 427 = .ok (.iload 4, 2) := by decide +kernel
theorem d_Law_law_429 : decode b_Law_law 429 = .ok (.iconst 1, 1) := by decide +kernel
theorem d_Law_law_430 : decode b_Law_law 430 = .ok (.iadd, 1) := by decide +kernel
theorem d_Law_law_431 : decode b_Law_law 431 = .ok (.iaload, 1) := by decide +kernel
theorem d_Law_law_432 : decode b_Law_law 432 = .ok (.i2l, 1) := by decide +kernel
theorem d_Law_law_433 : decode b_Law_law 433 = .ok (.bipush 32, 2) := by decide +kernel
theorem d_Law_law_435 : decode b_Law_law 435 = .ok (.lshl, 1) := by decide +kernel
theorem d_Law_law_436 : decode b_Law_law 436 = .ok (.aload_n 0, 1) := by decide +kernel
theorem d_Law_law_437 : decode b_Law_law 437 = .ok (.iload 4, 2) := by decide +kernel
theorem d_Law_law_439 : decode b_Law_law 439 = .ok (.iconst 2, 1) := by decide +kernel
theorem d_Law_law_440 : decode b_Law_law 440 = .ok (.iadd, 1) := by decide +kernel
theorem d_Law_law_441 : decode b_Law_law 441 = .ok (.iaload, 1) := by decide +kernel
theorem d_Law_law_442 : decode b_Law_law 442 = .ok (.i2l, 1) := by decide +kernel
theorem d_Law_law_443 : decode b_Law_law 443 = .ok (.ldc2_w 42, 3) := by decide +kernel
theorem d_Law_law_446 : decode b_Law_law 446 = .ok (.land, 1) := by decide +kernel
theorem d_Law_law_447 : decode b_Law_law 447 = .ok (.lor, 1) := by decide +kernel
theorem d_Law_law_448 : decode b_Law_law 448 = .ok (.aload_n 0, 1) := by decide +kernel
theorem d_Law_law_449 : decode b_Law_law 449 = .ok (.iload 4, 2) := by decide +kernel
theorem d_Law_law_451 : decode b_Law_law 451 = .ok (.iconst 3, 1) := by decide +kernel
theorem d_Law_law_452 : decode b_Law_law 452 = .ok (.iadd, 1) := by decide +kernel
theorem d_Law_law_453 : decode b_Law_law 453 = .ok (.iaload, 1) := by decide +kernel
theorem d_Law_law_454 : decode b_Law_law 454 = .ok (.ifCond .eq 7, 3) := by decide +kernel
theorem d_Law_law_457 : decode b_Law_law 457 = .ok (.iconst 1, 1) := by decide +kernel
theorem d_Law_law_458 : decode b_Law_law 458 = .ok (.goto 4, 3) := by decide +kernel
theorem d_Law_law_461 : decode b_Law_law 461 = .ok (.iconst 0, 1) := by decide +kernel
theorem d_Law_law_462 : decode b_Law_law 462 = .ok (.invokevirtual 75, 3) := by decide +kernel
theorem d_Law_law_465 : decode b_Law_law 465 = .ok (.pop2, 1) := by decide +kernel
theorem d_Law_law_466 : decode b_Law_law 466 = .ok (.aload_n 2, 1) := by decide +kernel
theorem d_Law_law_467 : decode b_Law_law 467 = .ok (.aload_n 0, 1) := by decide +kernel
theorem d_Law_law_468 : decode b_Law_law 468 = .ok (.iload 4, 2) := by decide +kernel
theorem d_Law_law_470 : decode b_Law_law 470 = .ok (.iconst 1, 1) := by decide +kernel
theorem d_Law_law_471 : decode b_Law_law 471 = .ok (.iadd, 1) := by decide +kernel
theorem d_Law_law_472 : decode b_Law_law 472 = .ok (.iaload, 1) := by decide +kernel
theorem d_Law_law_473 : decode b_Law_law 473 = .ok (.i2l, 1) := by decide +kernel
theorem d_Law_law_474 : decode b_Law_law 474 = .ok (.bipush 32, 2) := by decide +kernel
theorem d_Law_law_476 : decode b_Law_law 476 = .ok (.lshl, 1) := by decide +kernel
theorem d_Law_law_477 : decode b_Law_law 477 = .ok (.aload_n 0, 1) := by decide +kernel
theorem d_Law_law_478 : decode b_Law_law 478 = .ok (.iload 4, 2) := by decide +kernel
theorem d_Law_law_480 : decode b_Law_law 480 = .ok (.iconst 2, 1) := by decide +kernel
theorem d_Law_law_481 : decode b_Law_law 481 = .ok (.iadd, 1) := by decide +kernel
theorem d_Law_law_482 : decode b_Law_law 482 = .ok (.iaload, 1) := by decide +kernel
theorem d_Law_law_483 : decode b_Law_law 483 = .ok (.i2l, 1) := by decide +kernel
theorem d_Law_law_484 : decode b_Law_law 484 = .ok (.ldc2_w 42, 3) := by decide +kernel
theorem d_Law_law_487 : decode b_Law_law 487 = .ok (.land, 1) := by decide +kernel
theorem d_Law_law_488 : decode b_Law_law 488 = .ok (.lor, 1) := by decide +kernel
theorem d_Law_law_489 : decode b_Law_law 489 = .ok (.aload_n 0, 1) := by decide +kernel
theorem d_Law_law_490 : decode b_Law_law 490 = .ok (.iload 4, 2) := by decide +kernel
theorem d_Law_law_492 : decode b_Law_law 492 = .ok (.iconst 3, 1) := by decide +kernel
theorem d_Law_law_493 : decode b_Law_law 493 = .ok (.iadd, 1) := by decide +kernel
theorem d_Law_law_494 : decode b_Law_law 494 = .ok (.iaload, 1) := by decide +kernel
theorem d_Law_law_495 : decode b_Law_law 495 = .ok (.ifCond .eq 7, 3) := by decide +kernel
theorem d_Law_law_498 : decode b_Law_law 498 = .ok (.iconst 1, 1) := by decide +kernel
theorem d_Law_law_499 : decode b_Law_law 499 = .ok (.goto 4, 3) := by decide +kernel
theorem d_Law_law_502 : decode b_Law_law 502 = .ok (.iconst 0, 1) := by decide +kernel
theorem d_Law_law_503 : decode b_Law_law 503 = .ok (.invokevirtual 79, 3) := by decide +kernel
theorem d_Law_law_506 : decode b_Law_law 506 = .ok (.pop2, 1) := by decide +kernel
theorem d_Law_law_507 : decode b_Law_law 507 = .ok (.goto 3, 3) := by decide +kernel
theorem d_Law_law_510 : decode b_Law_law 510 = .ok (.iinc 4 4, 3) := by decide +kernel
theorem d_Law_law_513 : decode b_Law_law 513 = .ok (.goto (-490), 3) := by decide +kernel
theorem d_Law_law_516 : decode b_Law_law 516 = .ok (.iconst 1, 1) := by decide +kernel
theorem d_Law_law_517 : decode b_Law_law 517 = .ok (.ireturn, 1) := by decide +kernel
end
section
/-! NUMBERS: a machine number by its value (toInt), a word by its unsigned value (uw, ul) -/
theorem q_b32 {a : Int} (h : -2147483648 ≤ a ∧ a < 2147483648) : a.bmod (2 ^ 32) = a := Int.bmod_eq_of_le (by omega) (by omega)
theorem q_b64 {a : Int} (h : -9223372036854775808 ≤ a ∧ a < 9223372036854775808) : a.bmod (2 ^ 64) = a := Int.bmod_eq_of_le (by omega) (by omega)
theorem q_r32 (x : Int32) : -2147483648 ≤ x.toInt ∧ x.toInt < 2147483648 := ⟨by have := x.le_toInt; omega, by have := x.toInt_lt; omega⟩
theorem q_r64 (x : Int64) : -9223372036854775808 ≤ x.toInt ∧ x.toInt < 9223372036854775808 := ⟨by have := x.le_toInt; omega, by have := x.toInt_lt; omega⟩
theorem q_iadd {x y : Int32} {a b : Int} (hx : x.toInt = a) (hy : y.toInt = b) (h : -2147483648 ≤ a + b ∧ a + b < 2147483648) : (x + y).toInt = a + b := by rw [Int32.toInt_add, hx, hy]; exact q_b32 h
theorem q_isub {x y : Int32} {a b : Int} (hx : x.toInt = a) (hy : y.toInt = b) (h : -2147483648 ≤ a - b ∧ a - b < 2147483648) : (x - y).toInt = a - b := by rw [Int32.toInt_sub, hx, hy]; exact q_b32 h
theorem q_imul {x y : Int32} {a b : Int} (hx : x.toInt = a) (hy : y.toInt = b) (h : -2147483648 ≤ a * b ∧ a * b < 2147483648) : (x * y).toInt = a * b := by rw [Int32.toInt_mul, hx, hy]; exact q_b32 h
theorem q_ineg {x : Int32} {a : Int} (hx : x.toInt = a) (h : -2147483648 ≤ -a ∧ -a < 2147483648) : (-x).toInt = -a := by rw [Int32.toInt_neg, hx]; exact q_b32 h
theorem q_ladd {x y : Int64} {a b : Int} (hx : x.toInt = a) (hy : y.toInt = b) (h : -9223372036854775808 ≤ a + b ∧ a + b < 9223372036854775808) : (x + y).toInt = a + b := by rw [Int64.toInt_add, hx, hy]; exact q_b64 h
theorem q_lsub {x y : Int64} {a b : Int} (hx : x.toInt = a) (hy : y.toInt = b) (h : -9223372036854775808 ≤ a - b ∧ a - b < 9223372036854775808) : (x - y).toInt = a - b := by rw [Int64.toInt_sub, hx, hy]; exact q_b64 h
theorem q_lmul {x y : Int64} {a b : Int} (hx : x.toInt = a) (hy : y.toInt = b) (h : -9223372036854775808 ≤ a * b ∧ a * b < 9223372036854775808) : (x * y).toInt = a * b := by rw [Int64.toInt_mul, hx, hy]; exact q_b64 h
theorem q_lneg {x : Int64} {a : Int} (hx : x.toInt = a) (h : -9223372036854775808 ≤ -a ∧ -a < 9223372036854775808) : (-x).toInt = -a := by rw [Int64.toInt_neg, hx]; exact q_b64 h
theorem q_i2l {x : Int32} {a : Int} (hx : x.toInt = a) : x.toInt64.toInt = a := by rw [Int32.toInt_toInt64, hx]
theorem q_l2i {x : Int64} {a : Int} (hx : x.toInt = a) (h : -2147483648 ≤ a ∧ a < 2147483648) : x.toInt32.toInt = a := by rw [Int64.toInt_toInt32, hx]; exact q_b32 h
theorem q_idiv {x y : Int32} {a b : Int} (hx : x.toInt = a) (hy : y.toInt = b) (h : 0 ≤ a ∧ 0 < b) : (x / y).toInt = a / b := by
  have hr := q_r32 x
  have h1 : 0 ≤ a / b := Int.ediv_nonneg h.1 (by omega)
  have h2 : a / b ≤ a := Int.ediv_le_self _ h.1
  rw [Int32.toInt_div, hx, hy, Int.tdiv_eq_ediv_of_nonneg h.1]
  exact q_b32 ⟨by omega, by omega⟩
theorem q_ldiv {x y : Int64} {a b : Int} (hx : x.toInt = a) (hy : y.toInt = b) (h : 0 ≤ a ∧ 0 < b) : (x / y).toInt = a / b := by
  have hr := q_r64 x
  have h1 : 0 ≤ a / b := Int.ediv_nonneg h.1 (by omega)
  have h2 : a / b ≤ a := Int.ediv_le_self _ h.1
  rw [Int64.toInt_div, hx, hy, Int.tdiv_eq_ediv_of_nonneg h.1]
  exact q_b64 ⟨by omega, by omega⟩
theorem q_irem {x y : Int32} {a b : Int} (hx : x.toInt = a) (hy : y.toInt = b) (h : 0 ≤ a ∧ 0 < b) : (x - x / y * y).toInt = a % b := by
  have hr := q_r32 x
  have hd := q_idiv hx hy h
  have h0 := Int.emod_nonneg a (show b ≠ 0 by omega)
  have h1 := Int.emod_lt_of_pos a h.2
  have h2 : a / b * b + a % b = a := Int.ediv_mul_add_emod a b
  have h3 : 0 ≤ a / b * b := Int.mul_nonneg (Int.ediv_nonneg h.1 (by omega)) (by omega)
  have hm := q_imul hd hy ⟨by omega, by omega⟩
  rw [q_isub hx hm ⟨by omega, by omega⟩]
  omega
theorem q_lrem {x y : Int64} {a b : Int} (hx : x.toInt = a) (hy : y.toInt = b) (h : 0 ≤ a ∧ 0 < b) : (x - x / y * y).toInt = a % b := by
  have hr := q_r64 x
  have hd := q_ldiv hx hy h
  have h0 := Int.emod_nonneg a (show b ≠ 0 by omega)
  have h1 := Int.emod_lt_of_pos a h.2
  have h2 : a / b * b + a % b = a := Int.ediv_mul_add_emod a b
  have h3 : 0 ≤ a / b * b := Int.mul_nonneg (Int.ediv_nonneg h.1 (by omega)) (by omega)
  have hm := q_lmul hd hy ⟨by omega, by omega⟩
  rw [q_lsub hx hm ⟨by omega, by omega⟩]
  omega
theorem q_ilt {x y : Int32} {a b : Int} (hx : x.toInt = a) (hy : y.toInt = b) : x < y ↔ a < b := by rw [Int32.lt_iff_toInt_lt, hx, hy]
theorem q_ile {x y : Int32} {a b : Int} (hx : x.toInt = a) (hy : y.toInt = b) : x ≤ y ↔ a ≤ b := by rw [Int32.le_iff_toInt_le, hx, hy]
theorem q_ieq {x y : Int32} {a b : Int} (hx : x.toInt = a) (hy : y.toInt = b) : x = y ↔ a = b := by rw [← Int32.toInt_inj, hx, hy]
theorem q_llt {x y : Int64} {a b : Int} (hx : x.toInt = a) (hy : y.toInt = b) : x < y ↔ a < b := by rw [Int64.lt_iff_toInt_lt, hx, hy]
theorem q_lle {x y : Int64} {a b : Int} (hx : x.toInt = a) (hy : y.toInt = b) : x ≤ y ↔ a ≤ b := by rw [Int64.le_iff_toInt_le, hx, hy]
theorem q_leq {x y : Int64} {a b : Int} (hx : x.toInt = a) (hy : y.toInt = b) : x = y ↔ a = b := by rw [← Int64.toInt_inj, hx, hy]
theorem q_in {x : Int32} {n : Nat} {a : Int} (hx : x.toInt = a) (h : 0 ≤ a ∧ a < n) : vp_in x n := vp_in_iff.mpr (by rw [hx]; exact h)
theorem q_cl {x : Int32} {k : Nat} (hx : x.toInt = (k : Int)) : x.toNatClampNeg = k := by show x.toInt.toNat = k; rw [hx]; rfl
theorem q_nI {x : Int32} {k : Nat} (hx : x.toInt = (k : Int)) : x = nI k := by
  have := q_r32 x
  exact Int32.toInt_inj.mp (by rw [hx, nI_toInt (by omega)])
theorem q_lN {x : Int64} {k : Nat} (hx : x.toInt = (k : Int)) : x = lN k := by
  have := q_r64 x
  exact Int64.toInt_inj.mp (by rw [hx, pk_lT (by omega)])
/-- what lcmp leaves, against 0 -/
theorem q_cmp_lt {x y : Int64} {a b : Int} (hx : x.toInt = a) (hy : y.toInt = b) : lg_cmp x y < 0 ↔ a < b := by
  subst hx; subst hy
  unfold lg_cmp
  simp only [Int64.lt_iff_toInt_lt, ← Int64.toInt_inj]
  split
  · constructor
    · intro h; exact absurd h (by decide)
    · intro h; omega
  · split
    · constructor
      · intro h; exact absurd h (by decide)
      · intro h; omega
    · constructor
      · intro _; omega
      · intro _; decide
theorem q_cmp_eq {x y : Int64} {a b : Int} (hx : x.toInt = a) (hy : y.toInt = b) : lg_cmp x y = 0 ↔ a = b := by
  subst hx; subst hy
  unfold lg_cmp
  simp only [Int64.lt_iff_toInt_lt, ← Int64.toInt_inj]
  split
  · constructor
    · intro h; exact absurd h (by decide)
    · intro h; omega
  · split
    · constructor
      · intro _; assumption
      · intro _; rfl
    · constructor
      · intro h; exact absurd h (by decide)
      · intro h; omega
theorem q_cmp_gt {x y : Int64} {a b : Int} (hx : x.toInt = a) (hy : y.toInt = b) : 0 < lg_cmp x y ↔ b < a := by
  subst hx; subst hy
  unfold lg_cmp
  simp only [Int64.lt_iff_toInt_lt, ← Int64.toInt_inj]
  split
  · constructor
    · intro _; assumption
    · intro _; decide
  · split
    · constructor
      · intro h; exact absurd h (by decide)
      · intro h; omega
    · constructor
      · intro h; exact absurd h (by decide)
      · intro h; omega
theorem q_cmp_le {x y : Int64} {a b : Int} (hx : x.toInt = a) (hy : y.toInt = b) : lg_cmp x y ≤ 0 ↔ a ≤ b := by
  have h := q_cmp_gt hx hy
  constructor
  · intro h1
    refine Int.not_lt.mp fun h2 => ?_
    have h3 := h.mpr h2
    rw [Int32.lt_iff_toInt_lt] at h3
    rw [Int32.le_iff_toInt_le] at h1
    omega
  · intro h1
    rw [Int32.le_iff_toInt_le]
    refine Int.not_lt.mp fun h2 => ?_
    have h3 := h.mp (Int32.lt_iff_toInt_lt.mpr h2)
    omega
theorem q_cmp_ge {x y : Int64} {a b : Int} (hx : x.toInt = a) (hy : y.toInt = b) : 0 ≤ lg_cmp x y ↔ b ≤ a := by
  have h := q_cmp_lt hx hy
  constructor
  · intro h1
    refine Int.not_lt.mp fun h2 => ?_
    have h3 := h.mpr h2
    rw [Int32.lt_iff_toInt_lt] at h3
    rw [Int32.le_iff_toInt_le] at h1
    omega
  · intro h1
    rw [Int32.le_iff_toInt_le]
    refine Int.not_lt.mp fun h2 => ?_
    have h3 := h.mp (Int32.lt_iff_toInt_lt.mpr h2)
    omega
/-! words -/
def uw (x : Int32) : Nat := x.toBitVec.toNat
def ul (x : Int64) : Nat := x.toBitVec.toNat
theorem uw_lt (x : Int32) : uw x < 4294967296 := x.toBitVec.isLt
theorem ul_lt (x : Int64) : ul x < 18446744073709551616 := x.toBitVec.isLt
theorem uw_inj {x y : Int32} (h : uw x = uw y) : x = y := Int32.toBitVec_inj.mp (BitVec.eq_of_toNat_eq h)
theorem ul_inj {x y : Int64} (h : ul x = ul y) : x = y := Int64.toBitVec_inj.mp (BitVec.eq_of_toNat_eq h)
theorem uw_int (x : Int32) : x.toInt = if uw x < 2147483648 then (uw x : Int) else (uw x : Int) - 4294967296 := by
  rw [← Int32.toInt_toBitVec, BitVec.toInt_eq_toNat_cond]
  have := uw_lt x
  unfold uw at *
  split <;> split <;> omega
theorem ul_int (x : Int64) : x.toInt = if ul x < 9223372036854775808 then (ul x : Int) else (ul x : Int) - 18446744073709551616 := by
  rw [← Int64.toInt_toBitVec, BitVec.toInt_eq_toNat_cond]
  have := ul_lt x
  unfold ul at *
  split <;> split <;> omega
theorem uw_of {x : Int32} {k : Nat} (h : x.toInt = (k : Int)) : uw x = k := by
  have h1 := uw_int x
  have := uw_lt x
  split at h1 <;> omega
theorem ul_of {x : Int64} {k : Nat} (h : x.toInt = (k : Int)) : ul x = k := by
  have h1 := ul_int x
  have := ul_lt x
  split at h1 <;> omega
theorem ul_to {x : Int64} (h : ul x < 9223372036854775808) : x.toInt = (ul x : Int) := by rw [ul_int, if_pos h]
theorem uw_to {x : Int32} (h : uw x < 2147483648) : x.toInt = (uw x : Int) := by rw [uw_int, if_pos h]
theorem ul_add (x y : Int64) : ul (x + y) = (ul x + ul y) % 18446744073709551616 := by
  show (x + y).toBitVec.toNat = _
  rw [Int64.toBitVec_add, BitVec.toNat_add]; rfl
theorem ul_mul (x y : Int64) : ul (x * y) = (ul x * ul y) % 18446744073709551616 := by
  show (x * y).toBitVec.toNat = _
  rw [Int64.toBitVec_mul, BitVec.toNat_mul]; rfl
/-- (int) x -/
theorem uw_l2i (x : Int64) : uw x.toInt32 = ul x % 4294967296 := by
  show x.toInt32.toBitVec.toNat = _
  rw [Int64.toBitVec_toInt32, BitVec.signExtend_eq_setWidth_of_le _ (by decide), BitVec.toNat_setWidth]; rfl
/-- x & 0xFFFFFFFFL -/
theorem ul_lo (x : Int64) : ul (x &&& 4294967295) = ul x % 4294967296 := by
  show (x &&& 4294967295).toBitVec.toNat = _
  rw [Int64.toBitVec_and, BitVec.toNat_and]
  exact Nat.and_two_pow_sub_one_eq_mod _ 32
theorem ul_i2l_lo (x : Int32) : ul (x.toInt64 &&& 4294967295) = uw x := by
  rw [ul_lo]
  have h1 := ul_int x.toInt64
  rw [Int32.toInt_toInt64, uw_int] at h1
  have := ul_lt x.toInt64
  have := uw_lt x
  split at h1 <;> split at h1 <;> omega
/-- x >>> 32 -/
theorem ul_s32 (x : Int64) : ul (x.toUInt64 >>> ((32 : Int32).toInt64.toUInt64 &&& Int64.toUInt64 63)).toInt64 = ul x / 4294967296 := by
  show ((x.toUInt64 >>> ((32 : Int32).toInt64.toUInt64 &&& Int64.toUInt64 63)).toInt64).toBitVec.toNat = _
  have e : ((32 : Int32).toInt64.toUInt64 &&& Int64.toUInt64 63) = 32 := by decide
  rw [e]
  show (x.toUInt64 >>> 32).toBitVec.toNat = _
  rw [UInt64.toBitVec_shiftRight, BitVec.ushiftRight_eq', BitVec.toNat_ushiftRight, Nat.shiftRight_eq_div_pow]
  rfl
/-- x >> 32 -/
theorem q_sar32 {x : Int64} {a : Int} (hx : x.toInt = a) : (x >>> ((32 : Int32).toInt64 &&& 63)).toInt = a / 4294967296 := by
  subst hx
  have e : ((32 : Int32).toInt64 &&& 63) = 32 := by decide
  rw [e, ← Int64.toInt_toBitVec, Int64.toBitVec_shiftRight, BitVec.toInt_sshiftRight', Int.shiftRight_eq_div_pow]
  rfl
end
section
/-! LIMBS: the value of a row of words, the lowest first -/
def nv (f : Nat → Int32) : Nat → Nat
  | 0 => 0
  | n + 1 => nv f n + uw (f n) * 2 ^ (32 * n)
theorem pw_s (n : Nat) : 2 ^ (32 * (n + 1)) = 4294967296 * 2 ^ (32 * n) := by
  rw [Nat.mul_succ, Nat.pow_add, Nat.mul_comm]
theorem pw_p (n : Nat) : 0 < 2 ^ n := Nat.pow_pos (by decide)
theorem nv_lt (f : Nat → Int32) : ∀ n, nv f n < 2 ^ (32 * n)
  | 0 => by simp [nv]
  | n + 1 => by
    have h1 := nv_lt f n
    have h2 := Nat.mul_le_mul_right (2 ^ (32 * n)) (Nat.le_of_lt_succ (uw_lt (f n)))
    rw [pw_s]
    show nv f n + uw (f n) * 2 ^ (32 * n) < _
    omega
theorem nv_congr {f g : Nat → Int32} : ∀ {n : Nat}, (∀ i, i < n → f i = g i) → nv f n = nv g n
  | 0, _ => rfl
  | n + 1, h => by
    show nv f n + uw (f n) * 2 ^ (32 * n) = nv g n + uw (g n) * 2 ^ (32 * n)
    rw [nv_congr (fun i hi => h i (by omega)), h n (by omega)]
theorem nv_upd {f : Nat → Int32} {k n : Nat} {x : Int32} (h : n ≤ k) : nv (upd f k x) n = nv f n := nv_congr (fun i hi => pk_un (by omega))
theorem nv_upd_s {f : Nat → Int32} {n : Nat} {x : Int32} : nv (upd f n x) (n + 1) = nv f n + uw x * 2 ^ (32 * n) := by
  show nv (upd f n x) n + uw (upd f n x n) * 2 ^ (32 * n) = _
  rw [nv_upd (Nat.le_refl n), pk_us]
theorem nv_zero {f : Nat → Int32} : ∀ {n : Nat}, (∀ i, i < n → f i = 0) → nv f n = 0
  | 0, _ => rfl
  | n + 1, h => by
    show nv f n + uw (f n) * 2 ^ (32 * n) = 0
    rw [nv_zero (fun i hi => h i (by omega)), h n (by omega)]
    simp [uw]
theorem nv_ge {f : Nat → Int32} : ∀ {n i : Nat}, i < n → uw (f i) * 2 ^ (32 * i) ≤ nv f n
  | 0, i, h => by omega
  | n + 1, i, h => by
    show _ ≤ nv f n + uw (f n) * 2 ^ (32 * n)
    rcases Nat.lt_or_ge i n with h1 | h1
    · exact Nat.le_trans (nv_ge h1) (Nat.le_add_right _ _)
    · have : i = n := by omega
      subst this
      exact Nat.le_add_left _ _
theorem uw_pos {x : Int32} (h : x ≠ 0) : 0 < uw x := by
  refine Nat.pos_of_ne_zero fun h0 => h (uw_inj (h0.trans ?_))
  rfl
theorem nv_pos {f : Nat → Int32} {n i : Nat} (hi : i < n) (h : f i ≠ 0) : 0 < nv f n :=
  Nat.lt_of_lt_of_le (Nat.mul_pos (uw_pos h) (pw_p _)) (nv_ge hi)
/-- from place i up all the same: the lower part decides -/
theorem nv_split {f h : Nat → Int32} : ∀ {n i : Nat}, i ≤ n → (∀ j, i ≤ j → j < n → f j = h j) → nv f n + nv h i = nv h n + nv f i
  | 0, i, hi, _ => by
    have : i = 0 := by omega
    subst this; rfl
  | n + 1, i, hi, hs => by
    rcases Nat.lt_or_ge i (n + 1) with h1 | h1
    · have ih := nv_split (f := f) (h := h) (n := n) (i := i) (by omega) (fun j a b => hs j a (by omega))
      have e := hs n (by omega) (by omega)
      show nv f n + uw (f n) * 2 ^ (32 * n) + nv h i = nv h n + uw (h n) * 2 ^ (32 * n) + nv f i
      rw [e]
      omega
    · have : i = n + 1 := by omega
      subst this
      omega
theorem nv_less {f h : Nat → Int32} {n i : Nat} (hi : i < n) (hs : ∀ j, i < j → j < n → f j = h j) (hl : uw (f i) < uw (h i)) : nv f n < nv h n := by
  have h1 := nv_split (f := f) (h := h) (n := n) (i := i + 1) (by omega) (fun j a b => hs j (by omega) b)
  have h2 : nv f (i + 1) < nv h (i + 1) := by
    show nv f i + uw (f i) * 2 ^ (32 * i) < nv h i + uw (h i) * 2 ^ (32 * i)
    have h3 := nv_lt f i
    have h4 := Nat.mul_le_mul_right (2 ^ (32 * i)) (show uw (f i) + 1 ≤ uw (h i) from hl)
    rw [Nat.add_mul, Nat.one_mul] at h4
    omega
  omega
/-- one step of times-and-plus -/
theorem nv_mul_step {f g : Nat → Int32} {i F A c : Nat} {x : Int32} (h : nv g i + c * 2 ^ (32 * i) = nv f i * F + A) (hx : uw x = (c + uw (f i) * F) % 4294967296) :
    nv (upd g i x) (i + 1) + (c + uw (f i) * F) / 4294967296 * 2 ^ (32 * (i + 1)) = nv f (i + 1) * F + A := by
  rw [nv_upd_s, hx, pw_s]
  show _ = (nv f i + uw (f i) * 2 ^ (32 * i)) * F + A
  generalize 2 ^ (32 * i) = P at *
  generalize hd : c + uw (f i) * F = d at *
  have e1 : d % 4294967296 * P + d / 4294967296 * (4294967296 * P) = d * P := by
    rw [← Nat.mul_assoc, ← Nat.add_mul, Nat.mod_add_div']
  have e2 : d * P = c * P + uw (f i) * P * F := by rw [← hd, Nat.add_mul, Nat.mul_right_comm]
  rw [Nat.add_mul]
  omega
/-- one step of a sum -/
theorem nv_add_step {f h g : Nat → Int32} {i c : Nat} {x : Int32} (e : nv g i + c * 2 ^ (32 * i) = nv f i + nv h i) (hx : uw x = (c + uw (f i) + uw (h i)) % 4294967296) :
    nv (upd g i x) (i + 1) + (c + uw (f i) + uw (h i)) / 4294967296 * 2 ^ (32 * (i + 1)) = nv f (i + 1) + nv h (i + 1) := by
  rw [nv_upd_s, hx, pw_s]
  show _ = (nv f i + uw (f i) * 2 ^ (32 * i)) + (nv h i + uw (h i) * 2 ^ (32 * i))
  generalize 2 ^ (32 * i) = P at *
  generalize hd : c + uw (f i) + uw (h i) = d at *
  have e1 : d % 4294967296 * P + d / 4294967296 * (4294967296 * P) = d * P := by
    rw [← Nat.mul_assoc, ← Nat.add_mul, Nat.mod_add_div']
  have e2 : d * P = c * P + uw (f i) * P + uw (h i) * P := by rw [← hd, Nat.add_mul, Nat.add_mul]
  omega
/-- one step of a difference: b is the borrow, 0 or -1 -/
theorem nv_sub_step {f h g : Nat → Int32} {i : Nat} {b : Int} {x : Int32} (e : (nv g i : Int) + b * (2 ^ (32 * i) : Nat) = (nv f i : Int) - nv h i) (hx : (uw x : Int) = (b + uw (f i) - uw (h i)) % 4294967296) :
    (nv (upd g i x) (i + 1) : Int) + (b + uw (f i) - uw (h i)) / 4294967296 * (2 ^ (32 * (i + 1)) : Nat) = (nv f (i + 1) : Int) - nv h (i + 1) := by
  rw [nv_upd_s, pw_s]
  show _ = ((nv f i + uw (f i) * 2 ^ (32 * i) : Nat) : Int) - (nv h i + uw (h i) * 2 ^ (32 * i) : Nat)
  generalize 2 ^ (32 * i) = P at *
  rw [Int.natCast_add, Int.natCast_mul, Int.natCast_mul, Int.natCast_add, Int.natCast_mul, Int.natCast_add, Int.natCast_mul]
  rw [show ((4294967296 : Nat) : Int) = 4294967296 from rfl]
  rw [hx]
  generalize hd : b + (uw (f i) : Int) - (uw (h i) : Int) = d at *
  have e1 : d % 4294967296 * (P : Int) + d / 4294967296 * (4294967296 * (P : Int)) = d * P := by
    rw [← Int.mul_assoc, ← Int.add_mul, Int.emod_add_ediv_mul]
  have e2 : d * (P : Int) = b * P + uw (f i) * P - uw (h i) * P := by rw [← hd, Int.sub_mul, Int.add_mul]
  omega
/-- the words from place i on -/
def hv (f : Nat → Int32) (i : Nat) : Nat → Nat
  | 0 => 0
  | n + 1 => uw (f i) + 4294967296 * hv f (i + 1) n
theorem hv_congr {f g : Nat → Int32} : ∀ {n i : Nat}, (∀ j, i ≤ j → j < i + n → f j = g j) → hv f i n = hv g i n
  | 0, _, _ => rfl
  | n + 1, i, h => by
    show uw (f i) + 4294967296 * hv f (i + 1) n = uw (g i) + 4294967296 * hv g (i + 1) n
    rw [h i (by omega) (by omega), hv_congr (fun j a b => h j (by omega) (by omega))]
theorem hv_snoc (f : Nat → Int32) : ∀ (n i : Nat), hv f i (n + 1) = hv f i n + uw (f (i + n)) * 2 ^ (32 * n)
  | 0, i => by simp [hv]
  | n + 1, i => by
    show uw (f i) + 4294967296 * hv f (i + 1) (n + 1) = uw (f i) + 4294967296 * hv f (i + 1) n + _
    rw [hv_snoc f n (i + 1), pw_s, show i + 1 + n = i + (n + 1) by omega, Nat.mul_add, Nat.mul_left_comm]
    omega
theorem hv_nv (f : Nat → Int32) : ∀ n, hv f 0 n = nv f n
  | 0 => rfl
  | n + 1 => by
    rw [hv_snoc, hv_nv f n, Nat.zero_add]
    rfl
/-- one step of a division, from above -/
theorem hv_div_step {f g : Nat → Int32} {i n d r : Nat} {x : Int32} (hd : 0 < d) (h : hv f (i + 1) n = hv g (i + 1) n * d + r) (hg : ∀ j, i < j → j < i + 1 + n → g j = upd g i x j)
    (hx : uw x = (r * 4294967296 + uw (f i)) / d) : hv f i (n + 1) = hv (upd g i x) i (n + 1) * d + (r * 4294967296 + uw (f i)) % d := by
  show uw (f i) + 4294967296 * hv f (i + 1) n = (uw (upd g i x i) + 4294967296 * hv (upd g i x) (i + 1) n) * d + _
  rw [pk_us, ← hv_congr (f := g) (g := upd g i x) (fun j a b => hg j (by omega) (by omega)), hx, h]
  have e := Nat.div_add_mod (r * 4294967296 + uw (f i)) d
  generalize (r * 4294967296 + uw (f i)) / d = a at *
  generalize (r * 4294967296 + uw (f i)) % d = b at *
  rw [Nat.mul_comm] at e
  rw [Nat.add_mul, Nat.mul_assoc, Nat.mul_add]
  omega
/-- the whole quotient -/
theorem hv_div_end {f g : Nat → Int32} {n d r : Nat} (hr : r < d) (h : hv f 0 n = hv g 0 n * d + r) : nv g n = nv f n / d ∧ r = nv f n % d := by
  rw [hv_nv, hv_nv] at h
  rw [h, Nat.mul_comm]
  refine ⟨?_, ?_⟩
  · rw [Nat.mul_add_div (by omega), Nat.div_eq_of_lt hr, Nat.add_zero]
  · rw [Nat.mul_add_mod, Nat.mod_eq_of_lt hr]
theorem nv_mod_end {g : Nat → Int32} {n c X : Nat} (h : nv g n + c * 2 ^ (32 * n) = X) : nv g n = X % 2 ^ (32 * n) := by
  rw [← h, Nat.add_mul_mod_self_right, Nat.mod_eq_of_lt (nv_lt g n)]
/-- a limb by a place that may lie outside -/
def lz (f : Nat → Int32) (i : Int) : Nat := if 0 ≤ i ∧ i < 12 then uw (f i.toNat) else 0
theorem ul_0 : ul 0 = 0 := rfl
theorem q_lo (x : Int32) : (x.toInt64 &&& 4294967295).toInt = (uw x : Int) := by
  have h := ul_i2l_lo x
  have := uw_lt x
  rw [ul_to (by omega), h]
theorem nv_top0 {f : Nat → Int32} : ∀ {n i : Nat}, i ≤ n → (∀ j, i ≤ j → j < n → f j = 0) → nv f n = nv f i
  | 0, i, hi, _ => by rw [show i = 0 by omega]
  | n + 1, i, hi, hs => by
    rcases Nat.lt_or_ge i (n + 1) with h1 | h1
    · show nv f n + uw (f n) * 2 ^ (32 * n) = nv f i
      rw [hs n (by omega) (by omega), nv_top0 (by omega) (fun j a b => hs j a (by omega))]
      simp [uw]
    · rw [show i = n + 1 by omega]
theorem ul_i2l {x : Int32} (h : 0 ≤ x.toInt) : ul x.toInt64 = uw x := by
  have h1 := uw_int x
  have h2 := uw_lt x
  have h3 : x.toInt = (uw x : Int) := by split at h1 <;> omega
  exact ul_of (by rw [Int32.toInt_toInt64, h3])
theorem uw_half {x : Int32} (h : 0 ≤ x.toInt) : uw x < 2147483648 := by
  have h1 := uw_int x
  have h2 := uw_lt x
  split at h1 <;> omega
theorem uw_l2i_int {x : Int64} {a : Int} (hx : x.toInt = a) : (uw x.toInt32 : Int) = a % 4294967296 := by
  have h1 := ul_int x
  have h2 := ul_lt x
  rw [uw_l2i, ← hx]
  split at h1 <;> omega
theorem q_ishr5 {x : Int32} {a : Int} (hx : x.toInt = a) : (x >>> ((5 : Int32) &&& 31)).toInt = a / 32 := by
  rw [pk_shr x _ 5 (by decide), hx, Int.shiftRight_eq_div_pow]
  rfl
theorem q_iand31 {x : Int32} {k : Nat} (hx : x.toInt = (k : Int)) : (x &&& 31).toInt = ((k % 32 : Nat) : Int) := by
  rw [pk_and x 5 (by decide), show x.toBitVec.toNat = k from uw_of hx]
  exact nI_toInt (by omega)
theorem q_shl32 {x : Int64} {k : Nat} (hx : x.toInt = (k : Int)) (h : k < 2147483648) : (x <<< ((32 : Int32).toInt64 &&& 63)).toInt = ((k * 4294967296 : Nat) : Int) := by
  have e1 : ((32 : Int32).toInt64 &&& 63) = 32 := by decide
  have h1 : (x <<< (32 : Int64)).toBitVec.toNat = k * 4294967296 := by
    rw [Int64.toBitVec_shiftLeft, BitVec.shiftLeft_eq', BitVec.toNat_shiftLeft, show x.toBitVec.toNat = k from ul_of hx]
    rw [show ((32 : Int64).toBitVec.smod 64).toNat = 32 by decide, Nat.shiftLeft_eq]
    exact Nat.mod_eq_of_lt (by omega)
  rw [e1, ul_to (by show (x <<< (32 : Int64)).toBitVec.toNat < _; omega)]
  show (((x <<< (32 : Int64)).toBitVec.toNat : Nat) : Int) = _
  rw [h1]
/-- x << s, x >>> s for a shift within the word -/
theorem sm64 : ∀ k, k < 64 → (((nI k).toInt64 &&& 63).toBitVec.smod 64).toNat = k := by decide
theorem um64 : ∀ k, k < 64 → (((nI k).toInt64.toUInt64 &&& Int64.toUInt64 63).toBitVec % 64).toNat = k := by decide
theorem ul_shl {x : Int64} {y : Int32} {k : Nat} (hy : y.toInt = (k : Int)) (hk : k < 64) : ul (x <<< (y.toInt64 &&& 63)) = ul x * 2 ^ k % 18446744073709551616 := by
  rw [q_nI hy]
  show (x <<< ((nI k).toInt64 &&& 63)).toBitVec.toNat = _
  rw [Int64.toBitVec_shiftLeft, BitVec.shiftLeft_eq', BitVec.toNat_shiftLeft, sm64 k hk, Nat.shiftLeft_eq]
  rfl
theorem ul_ushr {x : Int64} {y : Int32} {k : Nat} (hy : y.toInt = (k : Int)) (hk : k < 64) : ul (x.toUInt64 >>> (y.toInt64.toUInt64 &&& Int64.toUInt64 63)).toInt64 = ul x / 2 ^ k := by
  rw [q_nI hy]
  show (x.toUInt64 >>> ((nI k).toInt64.toUInt64 &&& Int64.toUInt64 63)).toBitVec.toNat = _
  rw [UInt64.toBitVec_shiftRight, BitVec.ushiftRight_eq', BitVec.toNat_ushiftRight, um64 k hk, Nat.shiftRight_eq_div_pow]
  rfl
theorem ul_or {x y : Int64} {a b k : Nat} (hx : ul x = a * 2 ^ k) (hy : ul y = b) (hb : b < 2 ^ k) : ul (x ||| y) = a * 2 ^ k + b := by
  show (x ||| y).toBitVec.toNat = _
  rw [Int64.toBitVec_or, BitVec.toNat_or, show x.toBitVec.toNat = a * 2 ^ k from hx, show y.toBitVec.toNat = b from hy, Nat.mul_comm, ← Nat.two_pow_add_eq_or_of_lt hb]
theorem mm {a b m : Nat} : (a % m * b) % m = (a * b) % m := by rw [Nat.mul_mod, Nat.mod_mod, ← Nat.mul_mod]
/-- the word of a row shifted to the left by 32 w + q bits -/
def shw (f : Nat → Int32) (w q j : Nat) : Nat := lz f ((j : Int) - w) * 2 ^ q % 4294967296 + lz f ((j : Int) - w - 1) / 2 ^ (32 - q)
theorem lz_lt (f : Nat → Int32) (i : Int) : lz f i < 4294967296 := by
  unfold lz
  split
  · exact uw_lt _
  · decide
theorem lz_neg {f : Nat → Int32} {i : Int} (h : i < 0) : lz f i = 0 := if_neg (by omega)
theorem lz_in {f : Nat → Int32} {j : Nat} (h : j < 12) : lz f (j : Int) = uw (f j) := by
  unfold lz
  rw [if_pos (by omega), Int.toNat_natCast]
theorem sh_word {x q : Nat} (hq : q < 32) (hx : x < 4294967296) : x * 2 ^ q / 4294967296 = x / 2 ^ (32 - q) := by
  have h : 4294967296 = 2 ^ (32 - q) * 2 ^ q := by rw [← Nat.pow_add, show 32 - q + q = 32 by omega]
  rw [h, Nat.mul_div_mul_right _ _ (pw_p q)]
theorem shw_low {f k : Nat → Int32} {w q : Nat} : ∀ n, n ≤ w → n ≤ 12 → (∀ j, j < 12 → uw (k j) = shw f w q j) → nv k n = 0
  | 0, _, _, _ => rfl
  | n + 1, h1, h2, h => by
    show nv k n + uw (k n) * 2 ^ (32 * n) = 0
    rw [shw_low n (by omega) (by omega) h, h n (by omega), shw, lz_neg (by omega), lz_neg (by omega)]
    simp
theorem shw_step {f k : Nat → Int32} {w q : Nat} (hq : q < 32) (h : ∀ j, j < 12 → uw (k j) = shw f w q j) : ∀ n, w + n ≤ 12 → nv k (w + n) + lz f ((n : Int) - 1) / 2 ^ (32 - q) * 2 ^ (32 * (w + n)) = nv f n * 2 ^ (32 * w + q)
  | 0, h1 => by
    rw [Nat.add_zero, shw_low w (Nat.le_refl w) h1 h, lz_neg (by omega)]
    simp [nv]
  | n + 1, h1 => by
    have ih := shw_step hq h n (by omega)
    have e1 := h (w + n) (by omega)
    rw [shw, show ((w + n : Nat) : Int) - w = (n : Int) by omega, lz_in (by omega)] at e1
    rw [← Nat.add_assoc]
    show nv k (w + n) + uw (k (w + n)) * 2 ^ (32 * (w + n)) + lz f (((n + 1 : Nat) : Int) - 1) / 2 ^ (32 - q) * 2 ^ (32 * (w + n + 1)) = (nv f n + uw (f n) * 2 ^ (32 * n)) * 2 ^ (32 * w + q)
    rw [show ((n + 1 : Nat) : Int) - 1 = (n : Int) by omega, lz_in (by omega), ← sh_word hq (uw_lt (f n)), pw_s, Nat.add_mul, ← ih, e1]
    have e2 : uw (f n) * 2 ^ (32 * n) * 2 ^ (32 * w + q) = uw (f n) * 2 ^ q * 2 ^ (32 * (w + n)) := by
      rw [Nat.mul_assoc, ← Nat.pow_add, Nat.mul_assoc, ← Nat.pow_add]
      congr 2
      omega
    rw [e2]
    generalize 2 ^ (32 * (w + n)) = P
    generalize uw (f n) * 2 ^ q = d
    generalize lz f ((n : Int) - 1) / 2 ^ (32 - q) = t
    have e3 : d % 4294967296 * P + d / 4294967296 * (4294967296 * P) = d * P := by
      rw [← Nat.mul_assoc, ← Nat.add_mul, Nat.mod_add_div']
    rw [Nat.add_mul]
    omega
theorem nv_hi {f : Nat → Int32} {n i : Nat} (h : i ≤ n) : ∃ t, nv f n = nv f i + t * 2 ^ (32 * i) := by
  induction n with
  | zero => exact ⟨0, by rw [show i = 0 by omega]; simp⟩
  | succ n ih =>
    rcases Nat.lt_or_ge i (n + 1) with h1 | h1
    · obtain ⟨t, ht⟩ := ih (by omega)
      refine ⟨t + uw (f n) * 2 ^ (32 * (n - i)), ?_⟩
      show nv f n + uw (f n) * 2 ^ (32 * n) = _
      rw [ht, Nat.add_mul, Nat.mul_assoc, ← Nat.pow_add, show 32 * (n - i) + 32 * i = 32 * n by omega]
      omega
    · exact ⟨0, by rw [show i = n + 1 by omega]; simp⟩
theorem shw_end {f k : Nat → Int32} {w q : Nat} (hq : q < 32) (h : ∀ j, j < 12 → uw (k j) = shw f w q j) : nv k 12 = nv f 12 * 2 ^ (32 * w + q) % 2 ^ (32 * 12) := by
  rcases Nat.lt_or_ge 12 w with hw | hw
  · rw [shw_low 12 (by omega) (by omega) h]
    rw [show 32 * w + q = (32 * w + q - 384) + 32 * 12 by omega, Nat.pow_add, ← Nat.mul_assoc, Nat.mul_mod_left]
  · have e := shw_step hq h (12 - w) (by omega)
    rw [show w + (12 - w) = 12 by omega] at e
    obtain ⟨t, ht⟩ := nv_hi (f := f) (n := 12) (i := 12 - w) (by omega)
    have e2 : nv f 12 * 2 ^ (32 * w + q) = nv f (12 - w) * 2 ^ (32 * w + q) + t * 2 ^ q * 2 ^ (32 * 12) := by
      rw [ht, Nat.add_mul, Nat.mul_assoc, ← Nat.pow_add, Nat.mul_assoc, ← Nat.pow_add]
      congr 3
      omega
    rw [e2, ← e, Nat.add_mul_mod_self_right, Nat.add_mul_mod_self_right, Nat.mod_eq_of_lt (nv_lt k 12)]
theorem sub_end {k f g : Nat → Int32} {b : Int} (h : (nv k 12 : Int) + b * (2 ^ (32 * 12) : Nat) = (nv f 12 : Int) - nv g 12) (hb : b = 0 ∨ b = -1) (hle : nv g 12 ≤ nv f 12) : nv k 12 = nv f 12 - nv g 12 := by
  have h1 := nv_lt k 12
  generalize 2 ^ (32 * 12) = P at *
  rcases hb with rfl | rfl <;> omega
theorem or_mod {a b q : Nat} (hq : q < 32) (hb : b < 2 ^ q) : (a * 2 ^ q + b) % 4294967296 = a * 2 ^ q % 4294967296 + b := by
  have h1 : 2 ^ q * 2 ^ (32 - q) = 4294967296 := by rw [← Nat.pow_add, show q + (32 - q) = 32 by omega]
  have h2 : a * 2 ^ q % 4294967296 = a % 2 ^ (32 - q) * 2 ^ q := by rw [← h1, Nat.mul_comm (2 ^ q), Nat.mul_mod_mul_right]
  have h3 := Nat.mod_lt a (pw_p (32 - q))
  have h4 : a % 2 ^ (32 - q) * 2 ^ q + 2 ^ q ≤ 4294967296 := by
    rw [← h1, Nat.mul_comm (2 ^ q), ← Nat.succ_mul]
    exact Nat.mul_le_mul_right _ h3
  rw [Nat.add_mod, h2, Nat.mod_eq_of_lt (a := b) (by omega), Nat.mod_eq_of_lt (by omega)]
theorem um32 : ∀ k, k < 32 → (((nI k).toUInt32 &&& Int32.toUInt32 31).toBitVec % 32).toNat = k := by decide
theorem q_iushr {x y : Int32} {w k : Nat} (hx : x.toInt = (w : Int)) (hy : y = nI k ∧ k < 32) : (x.toUInt32 >>> (y.toUInt32 &&& Int32.toUInt32 31)).toInt32.toInt = ((w / 2 ^ k : Nat) : Int) := by
  obtain ⟨rfl, hk⟩ := hy
  have h1 := pk_ushr x (nI k) k (um32 k hk)
  have h2 := q_r32 x
  have h3 : x.toBitVec.toNat = w := uw_of hx
  rw [h3] at h1
  have h4 : w / 2 ^ k ≤ w := Nat.div_le_self _ _
  rw [uw_to (x := (x.toUInt32 >>> ((nI k).toUInt32 &&& Int32.toUInt32 31)).toInt32) (by unfold uw; omega)]
  unfold uw
  rw [h1]
theorem uw_pos_to {x : Int32} (h : 0 ≤ x.toInt) : x.toInt = (uw x : Int) := uw_to (uw_half h)
theorem nlz_neg {x : Int32} (h : x.toInt < 0) : 2 ^ (31 - 0) ≤ uw x ∧ uw x < 2 ^ (32 - 0) := by
  have h1 := uw_int x
  have h2 := uw_lt x
  split at h1
  · omega
  · exact ⟨by show 2147483648 ≤ uw x; omega, h2⟩
theorem nlz_end {x : Int32} {w z : Nat} (hw : w = uw x / 2 ^ z) (hw0 : 0 < w) (hw1 : w < 4) (hz : z ≤ 30) : 31 - z - w / 2 < 32 ∧ 2 ^ (31 - (31 - z - w / 2)) ≤ uw x ∧ uw x < 2 ^ (32 - (31 - z - w / 2)) := by
  have hp := pw_p z
  have h1 := Nat.div_add_mod (uw x) (2 ^ z)
  have h2 := Nat.mod_lt (uw x) hp
  rw [← hw] at h1
  have hc : w = 1 ∨ w = 2 ∨ w = 3 := by omega
  refine ⟨by omega, ?_, ?_⟩
  · rcases hc with rfl | rfl | rfl
    · rw [show 31 - (31 - z - 1 / 2) = z by omega]; omega
    · rw [show 31 - (31 - z - 2 / 2) = z + 1 by omega, Nat.pow_succ]; omega
    · rw [show 31 - (31 - z - 3 / 2) = z + 1 by omega, Nat.pow_succ]; omega
  · rcases hc with rfl | rfl | rfl
    · rw [show 32 - (31 - z - 1 / 2) = z + 1 by omega, Nat.pow_succ]; omega
    · rw [show 32 - (31 - z - 2 / 2) = z + 1 + 1 by omega, Nat.pow_succ, Nat.pow_succ]; omega
    · rw [show 32 - (31 - z - 3 / 2) = z + 1 + 1 by omega, Nat.pow_succ, Nat.pow_succ]; omega
theorem nlz_nv {f : Nat → Int32} {i z : Nat} (hi0 : 0 < i) (hi : i ≤ 12) (hs : ∀ j, i ≤ j → j < 12 → f j = 0) (hz : z < 32) (h1 : 2 ^ (31 - z) ≤ uw (f (i - 1))) (h2 : uw (f (i - 1)) < 2 ^ (32 - z)) :
    nv f 12 < 2 ^ (32 * (i - 1) + 32 - z) ∧ (0 < nv f 12 → 0 < 32 * (i - 1) + 32 - z ∧ 2 ^ (32 * (i - 1) + 32 - z - 1) ≤ nv f 12) := by
  have e : nv f 12 = nv f (i - 1) + uw (f (i - 1)) * 2 ^ (32 * (i - 1)) := by
    rw [nv_top0 hi hs]
    show nv f i = nv f (i - 1 + 1)
    rw [show i - 1 + 1 = i by omega]
  have h3 := nv_lt f (i - 1)
  have h4 : (uw (f (i - 1)) + 1) * 2 ^ (32 * (i - 1)) ≤ 2 ^ (32 - z) * 2 ^ (32 * (i - 1)) := Nat.mul_le_mul_right _ h2
  have h5 : 2 ^ (31 - z) * 2 ^ (32 * (i - 1)) ≤ uw (f (i - 1)) * 2 ^ (32 * (i - 1)) := Nat.mul_le_mul_right _ h1
  rw [Nat.add_mul, ← Nat.pow_add, show 32 - z + 32 * (i - 1) = 32 * (i - 1) + 32 - z by omega] at h4
  rw [← Nat.pow_add, show 31 - z + 32 * (i - 1) = 32 * (i - 1) + 32 - z - 1 by omega] at h5
  exact ⟨by omega, fun _ => ⟨by omega, by omega⟩⟩
end
section
/-! RULES: contracts with a world before and a world behind; the walk's ends and calls -/
section RU
variable {dC : Nat → ClassId} {dI : Nat → Nat → Nat} {cI cB cJ : ClassId}
abbrev tyG (cI cB cJ : ClassId) : List (ClassId × FieldType) := [(cI, .int), (cB, .byte), (cJ, .long)]
/-- the tables: the classes, the array classes, the nest mates' links -/
def kG (dC : Nat → ClassId) (dI : Nat → Nat → Nat) (cI cB cJ : ClassId) (U : State) : Prop := va_K (dC, dI) vwCl (tyG cI cB cJ) U ∧ ∀ w ∈ nestG, va_Nw w U
theorem nest_warm {w : Cond} (hw : isNest w = true) {s U : State} (hW : s.WarmedH U.vm) (h : va_Nw w s) : va_Nw w U := by
  cases w <;> first | exact va_Nw.warmF hW h | exact va_Nw.warmM hW h | exact absurd hw (by decide) | (simp [isNest] at hw)
theorem kG.warm {s U : State} (hW : s.WarmedH U.vm) (h : kG dC dI cI cB cJ s) : kG dC dI cI cB cJ U :=
  ⟨va_K.moved hW.alike h.1, fun w hw => nest_warm (nestG_ok w hw) hW (h.2 w hw)⟩
theorem nest_same {w : Cond} (hw : isNest w = true) {u U : State} (e : u.vm = U.vm) (h : va_Nw w u) : va_Nw w U := by
  refine va_Nw.same ?_ e h
  cases w <;> first | rfl | exact absurd hw (by decide) | (simp [isNest] at hw)
theorem kG.calling {U : State} {g : JFrame} {mk : MethodId} {a : Array Value} (h : kG dC dI cI cB cJ U) : kG dC dI cI cB cJ (U.calling g mk a) :=
  ⟨va_K.moved (u := U) (U := U.calling g mk a) (Vm.Alike.refl U.vm) h.1, fun w hw => nest_same (u := U) (U := U.calling g mk a) (nestG_ok w hw) rfl (h.2 w hw)⟩
/-- what stays true through a walk -/
def cx (dC : Nat → ClassId) (dI : Nat → Nat → Nat) (cI cB cJ : ClassId) (own : String) (cc : ByteArray) (nL : Nat) (ret : Option FieldType) (p : Program) (s : State) (m : MethodId) (args : Array Value) (meth : Method) (c : Code) : Prop :=
  p.tables.exec = Jvm.exec ∧ c.code = cc ∧ c.maxLocals = nL ∧ s.vm.findClass own = some m.cls ∧ (∀ w ∈ gT, w.before args s = true) ∧ meth.sig.returnType = ret ∧ meth.locks = false ∧ kG dC dI cI cB cJ s
abbrev prG (dC : Nat → ClassId) (dI : Nat → Nat → Nat) (cI cB cJ : ClassId) (av : List Value) (win : va_W) (sz : Nat) : Array Value → State → Prop :=
  va_Pc av (fun U => U.heap.size = sz ∧ va_P (dC, dI) vwCl win U.heap ∧ kG dC dI cI cB cJ U ∧ va_D (fun _ => True) win)
abbrev poG {S : Type} (dC : Nat → ClassId) (dI : Nat → Nat → Nat) (A : Nat → Prop) (wout : S → va_W) : S → State → Prop := fun u t => va_P (dC, dI) vwCl (wout u) t.heap ∧ va_D A (wout u)
def Cv (l : Launch) (dC : Nat → ClassId) (dI : Nat → Nat → Nat) (cI cB cJ : ClassId) (y : MethodName) (ws : List Cond) (rm : Room) (av : List Value) (win : va_W) {S : Type} (post : S → Prop) (wout : S → va_W) : Prop :=
  ∀ sz, Met l y ws rm (prG dC dI cI cB cJ av win sz) (va_Qv post (poG dC dI (va_A win sz) wout) (va_A win sz)) rm.cells rm.slots (va_A win sz)
def Ci (l : Launch) (dC : Nat → ClassId) (dI : Nat → Nat → Nat) (cI cB cJ : ClassId) (y : MethodName) (ws : List Cond) (rm : Room) (av : List Value) (win : va_W) {S : Type} (post : Int32 → S → Prop) (wout : S → va_W) : Prop :=
  ∀ sz, Met l y ws rm (prG dC dI cI cB cJ av win sz) (va_Qi post (poG dC dI (va_A win sz) wout) (va_A win sz)) rm.cells rm.slots (va_A win sz)
def Cl (l : Launch) (dC : Nat → ClassId) (dI : Nat → Nat → Nat) (cI cB cJ : ClassId) (y : MethodName) (ws : List Cond) (rm : Room) (av : List Value) (win : va_W) {S : Type} (post : Int64 → S → Prop) (wout : S → va_W) : Prop :=
  ∀ sz, Met l y ws rm (prG dC dI cI cB cJ av win sz) (va_Ql post (poG dC dI (va_A win sz) wout) (va_A win sz)) rm.cells rm.slots (va_A win sz)
theorem va_Psub {D : va_G} {cl : List vw_C} {ws ws' : va_W} {H : Heap} (h : va_P D cl ws H) (is : List Nat) (hs : is.map (fun i => ws[i]?) = ws'.map some) : va_P D cl ws' H := by
  intro k q hk
  have h1 : (is.map (fun i => ws[i]?))[k]? = some (some q) := by rw [hs, List.getElem?_map, hk]; rfl
  rw [List.getElem?_map] at h1
  cases hi : is[k]? with
  | none => rw [hi] at h1; cases h1
  | some i => rw [hi] at h1; exact h i q (Option.some.inj h1)
section IN
variable {l : Launch} {y : MethodName} {ws : List Cond} {rm : Room} {av : List Value} {win : va_W} {S : Type} {wout : S → va_W} {cc : ByteArray} {maxL : Nat}
/-- the start of a walk: what holds at the entry -/
theorem Cv.intro {post : S → Prop} (hy : plainName y.cls = true) (hw : ws = Cond.code y cc maxL none :: gT) (hlen : (lg_sl av).length ≤ maxL)
    (body : ∀ (p : Program) (e : Env) (s : State) (m : MethodId) (below : List Frame) (meth : Method) (c : Code) (A : Nat → Prop) (ls : Array Slot), cx dC dI cI cB cJ y.cls cc maxL none p s m av.toArray meth c → meth.name = y.name → (∀ q : Nat, s.heap.size ≤ q → A q) →
      va_P (dC, dI) vwCl win s.heap → va_D A win → va_S A s.heap s.heap [] → lv_has ls maxL (lv_args 0 av) → W p l e rm s m av.toArray below meth c s.heap [] 0 0 (MQ below (va_Qv post (poG dC dI A wout) A) av.toArray s rm.cells rm.slots A) (F0 m 0 ls [])) : Cv l dC dI cI cB cJ y ws rm av win post wout := by
  intro sz
  refine Met.ofW (cc := cc) (maxL := maxL) (ret := none) hy hw ?_
  intro p e s m args below meth c s₁ B hml hv
  obtain ⟨rfl, hsz, hP, hK, hD0⟩ := hv
  subst hsz
  have hl := lv_entry av (n := maxL) hlen
  rw [lg_entry_eq]
  exact body p e s m below meth c (va_A win s.heap.size) _ ⟨B.exec, B.bytes, hml, findClass_of_methodNamed B.named, fun w h => atoms_spec (ws := ws) B.pre w (by rw [hw]; exact List.mem_cons_of_mem _ h), B.returns, B.notSynchronized, hK⟩ (name_of_methodNamed B.named B.method).1 (fun q h => Or.inr h) hP hD0.self va_S.rf hl
theorem Ci.intro {post : Int32 → S → Prop} {ret : Option FieldType} (hy : plainName y.cls = true) (hw : ws = Cond.code y cc maxL ret :: gT) (hlen : (lg_sl av).length ≤ maxL)
    (body : ∀ (p : Program) (e : Env) (s : State) (m : MethodId) (below : List Frame) (meth : Method) (c : Code) (A : Nat → Prop) (ls : Array Slot), cx dC dI cI cB cJ y.cls cc maxL ret p s m av.toArray meth c → meth.name = y.name → (∀ q : Nat, s.heap.size ≤ q → A q) →
      va_P (dC, dI) vwCl win s.heap → va_D A win → va_S A s.heap s.heap [] → lv_has ls maxL (lv_args 0 av) → W p l e rm s m av.toArray below meth c s.heap [] 0 0 (MQ below (va_Qi post (poG dC dI A wout) A) av.toArray s rm.cells rm.slots A) (F0 m 0 ls [])) : Ci l dC dI cI cB cJ y ws rm av win post wout := by
  intro sz
  refine Met.ofW (cc := cc) (maxL := maxL) (ret := ret) hy hw ?_
  intro p e s m args below meth c s₁ B hml hv
  obtain ⟨rfl, hsz, hP, hK, hD0⟩ := hv
  subst hsz
  have hl := lv_entry av (n := maxL) hlen
  rw [lg_entry_eq]
  exact body p e s m below meth c (va_A win s.heap.size) _ ⟨B.exec, B.bytes, hml, findClass_of_methodNamed B.named, fun w h => atoms_spec (ws := ws) B.pre w (by rw [hw]; exact List.mem_cons_of_mem _ h), B.returns, B.notSynchronized, hK⟩ (name_of_methodNamed B.named B.method).1 (fun q h => Or.inr h) hP hD0.self va_S.rf hl
theorem Cl.intro {post : Int64 → S → Prop} {ret : Option FieldType} (hy : plainName y.cls = true) (hw : ws = Cond.code y cc maxL ret :: gT) (hlen : (lg_sl av).length ≤ maxL)
    (body : ∀ (p : Program) (e : Env) (s : State) (m : MethodId) (below : List Frame) (meth : Method) (c : Code) (A : Nat → Prop) (ls : Array Slot), cx dC dI cI cB cJ y.cls cc maxL ret p s m av.toArray meth c → meth.name = y.name → (∀ q : Nat, s.heap.size ≤ q → A q) →
      va_P (dC, dI) vwCl win s.heap → va_D A win → va_S A s.heap s.heap [] → lv_has ls maxL (lv_args 0 av) → W p l e rm s m av.toArray below meth c s.heap [] 0 0 (MQ below (va_Ql post (poG dC dI A wout) A) av.toArray s rm.cells rm.slots A) (F0 m 0 ls [])) : Cl l dC dI cI cB cJ y ws rm av win post wout := by
  intro sz
  refine Met.ofW (cc := cc) (maxL := maxL) (ret := ret) hy hw ?_
  intro p e s m args below meth c s₁ B hml hv
  obtain ⟨rfl, hsz, hP, hK, hD0⟩ := hv
  subst hsz
  have hl := lv_entry av (n := maxL) hlen
  rw [lg_entry_eq]
  exact body p e s m below meth c (va_A win s.heap.size) _ ⟨B.exec, B.bytes, hml, findClass_of_methodNamed B.named, fun w h => atoms_spec (ws := ws) B.pre w (by rw [hw]; exact List.mem_cons_of_mem _ h), B.returns, B.notSynchronized, hK⟩ (name_of_methodNamed B.named B.method).1 (fun q h => Or.inr h) hP hD0.self va_S.rf hl
end IN
section EN
variable {p : Program} {l : Launch} {e : Env} {R : Room} {s : State} {m : MethodId} {args : Array Value} {below : List Frame} {meth : Method} {c : Code} {H : Heap} {locs : List Loc} {cells slots mc ms : Nat} {A : Nat → Prop}
variable {own : String} {cc : ByteArray} {nL pc : Nat} {ls : Array Slot} {S : Type} {wout : S → va_W} {w0 : va_W}
/-- the ends -/
theorem Cv.ret {post : S → Prop} (C0 : cx dC dI cI cB cJ own cc nL none p s m args meth c) {u : S} (h1 : cells ≤ mc) (h2 : slots ≤ ms) (hq : post u) (hP : va_P (dC, dI) vwCl w0 H) (hD : va_D A w0) (hS : va_S A s.heap H locs) (is : List Nat) (hn : va_nd is = true) (hs : is.map (fun i => w0[i]?) = (wout u).map some)
    (hdg : decode cc pc = .ok (.return_, 1)) : W p l e R s m args below meth c H locs cells slots (MQ below (va_Qv post (poG dC dI A wout) A) args s mc ms A) (F0 m pc ls []) := by
  obtain ⟨hx, hb, -, -, -, hr, hlocks, -⟩ := C0
  refine W.widen (k := mc) (n := ms) h1 h2 ?_
  exact W.vret hx hb hr (fun t ht hW => ⟨⟨u, rfl, hq, by rw [ht]; exact va_Psub hP is hs, hD.sub is hn hs⟩, hS.F ht⟩) hS.2.2 hdg
theorem Ci.ret {post : Int32 → S → Prop} (C0 : cx dC dI cI cB cJ own cc nL (some .int) p s m args meth c) {v : Int32} {u : S} (h1 : cells ≤ mc) (h2 : slots ≤ ms) (hq : post v u) (hP : va_P (dC, dI) vwCl w0 H) (hD : va_D A w0) (hS : va_S A s.heap H locs) (is : List Nat) (hn : va_nd is = true) (hs : is.map (fun i => w0[i]?) = (wout u).map some)
    (hdg : decode cc pc = .ok (.ireturn, 1)) : W p l e R s m args below meth c H locs cells slots (MQ below (va_Qi post (poG dC dI A wout) A) args s mc ms A) (F0 m pc ls [.int v]) := by
  obtain ⟨hx, hb, -, -, -, hr, hlocks, -⟩ := C0
  refine W.widen (k := mc) (n := ms) h1 h2 ?_
  exact W.iret (v := v) hx hb hr (fun t ht hW => ⟨⟨v, u, rfl, hq, by rw [ht]; exact va_Psub hP is hs, hD.sub is hn hs⟩, hS.F ht⟩) hS.2.2 hdg
theorem Cz.ret {post : Int32 → S → Prop} {ty : FieldType} (C0 : cx dC dI cI cB cJ own cc nL (some ty) p s m args meth c) {v : Int32} {u : S} (hna : narrow ty (.int v) = .int v) (h1 : cells ≤ mc) (h2 : slots ≤ ms) (hq : post v u) (hP : va_P (dC, dI) vwCl w0 H) (hD : va_D A w0) (hS : va_S A s.heap H locs) (is : List Nat) (hn : va_nd is = true) (hs : is.map (fun i => w0[i]?) = (wout u).map some)
    (hdg : decode cc pc = .ok (.ireturn, 1)) : W p l e R s m args below meth c H locs cells slots (MQ below (va_Qi post (poG dC dI A wout) A) args s mc ms A) (F0 m pc ls [.int v]) := by
  obtain ⟨hx, hb, -, -, -, hr, hlocks, -⟩ := C0
  refine W.widen (k := mc) (n := ms) h1 h2 ?_
  exact W.zret (v := v) hx hb hr hna (fun t ht hW => ⟨⟨v, u, rfl, hq, by rw [ht]; exact va_Psub hP is hs, hD.sub is hn hs⟩, hS.F ht⟩) hS.2.2 hdg
theorem Cl.ret {post : Int64 → S → Prop} (C0 : cx dC dI cI cB cJ own cc nL (some .long) p s m args meth c) {v : Int64} {u : S} (h1 : cells ≤ mc) (h2 : slots ≤ ms) (hq : post v u) (hP : va_P (dC, dI) vwCl w0 H) (hD : va_D A w0) (hS : va_S A s.heap H locs) (is : List Nat) (hn : va_nd is = true) (hs : is.map (fun i => w0[i]?) = (wout u).map some)
    (hdg : decode cc pc = .ok (.lreturn, 1)) : W p l e R s m args below meth c H locs cells slots (MQ below (va_Ql post (poG dC dI A wout) A) args s mc ms A) (F0 m pc ls [.long v]) := by
  obtain ⟨hx, hb, -, -, -, hr, hlocks, -⟩ := C0
  refine W.widen (k := mc) (n := ms) h1 h2 ?_
  exact W.lret (v := v) hx hb hr (fun t ht hW => ⟨⟨v, u, rfl, hq, by rw [ht]; exact va_Psub hP is hs, hD.sub is hn hs⟩, hS.F ht⟩) hS.2.2 hdg
end EN
section CA
variable {p : Program} {l : Launch} {e : Env} {R : Room} {s : State} {m : MethodId} {args : Array Value} {below : List Frame} {meth : Method} {c : Code} {H : Heap} {locs : List Loc} {cells slots : Nat} {A : Nat → Prop} {Q : State → Prop}
variable {own C host : String} {cc bytes : ByteArray} {nL pc n index maxL : Nat} {ls : Array Slot} {S : Type} {wout : S → va_W} {w0 win wr : va_W} {ret ret1 : Option FieldType} {y : MethodName} {ws : List Cond} {rm : Room} {b : Addr} {As rest st0 : List Value}
theorem callV_v {post : S → Prop} (C0 : cx dC dI cI cB cJ own cc nL ret p s m args meth c) (hM : Cv l dC dI cI cB cJ y ws rm (.ref b :: As) win post wout) (cw : CallW R s args own C index y bytes maxL ret1 ws rm rm.cells rm.slots n) (ci : Nat) {qc : vw_C} {fs : List Value} (hcl : vwCl[ci]? = some qc) (hqc : qc.1 = C) (q0 : Nat) (he : win[q0]? = some (b, .inr (ci, fs))) (hP : va_P (dC, dI) vwCl w0 H) (hD : va_D A w0) (hS : va_S A s.heap H locs) (hA : ∀ q : Nat, s.heap.size ≤ q → A q) (isC isR : List Nat) (hC : isC.map (fun i => w0[i]?) = win.map some) (hR : isR.map (fun i => w0[i]?) = wr.map some) (hnC : va_nd isC = true) (hnR : va_nd isR = true) (hdis : ∀ i ∈ isR, i ∉ isC)
    (hn : As.length = n) (hsize : ls.size = nL) (hst : st0 = As.reverse ++ .ref b :: rest) (hW : (rest.map fun v => v.category).sum ≤ 8) (hdg : decode cc pc = .ok (.invokevirtual index, 3)) (hf : cells + rm.cells ≤ R.cells ∧ slots + rm.slots ≤ R.slots)
    (kk : ∀ (u : S) (H1 : Heap) (locs1 : List Loc), post u → va_P (dC, dI) vwCl (wr ++ wout u) H1 → va_D A (wr ++ wout u) → va_S A s.heap H1 locs1 → W p l e R s m args below meth c H1 locs1 (cells + rm.cells) (slots + rm.slots) Q (F0 m (pc + 3) ls (rest))) : W p l e R s m args below meth c H locs cells slots Q (F0 m pc ls st0) := by
  obtain ⟨hx, hb, hml, hown, hts, -, -, hK⟩ := C0
  subst hst
  subst hqc
  have hPc := va_Psub hP isC hC
  have hDc := hD.sub isC hnC hC
  have hFc := va_free (wc := win) hD hS hA isC hC
  refine va_callv (va_runV (As := As) (rest := rest) ⟨hx, hb, hml, hown, hts⟩ (hM H.size) cw ⟨fun a U g mk q => by obtain ⟨q0, q1, qP, qK, qD⟩ := q; exact ⟨q0, q1, qP, qK.calling, qD⟩, va_recv hK.1 hPc hcl he, fun U hU hW => ⟨rfl, by rw [hU], by rw [hU]; exact hPc, hK.warm hW, hDc.weaken (fun _ _ _ _ => trivial)⟩⟩ rfl hn hsize rfl (lv_room hW) hdg hf) hS (fun q _ h => hFc q h) hFc (fun u t H1 locs1 ht hvm hw hB hz1 hk1 hS1 => ?_)
  obtain ⟨hP1, hD1⟩ := hB
  rw [ht] at hP1
  obtain ⟨hP2, hD2⟩ := va_join (wr := wr) (w1 := wout u) hP hD isC isR hC hR hnR hdis hk1 hFc hP1 hD1
  exact kk u H1 locs1 hw hP2 hD2 hS1
theorem callV_i {post : Int32 → S → Prop} (C0 : cx dC dI cI cB cJ own cc nL ret p s m args meth c) (hM : Ci l dC dI cI cB cJ y ws rm (.ref b :: As) win post wout) (cw : CallW R s args own C index y bytes maxL ret1 ws rm rm.cells rm.slots n) (ci : Nat) {qc : vw_C} {fs : List Value} (hcl : vwCl[ci]? = some qc) (hqc : qc.1 = C) (q0 : Nat) (he : win[q0]? = some (b, .inr (ci, fs))) (hP : va_P (dC, dI) vwCl w0 H) (hD : va_D A w0) (hS : va_S A s.heap H locs) (hA : ∀ q : Nat, s.heap.size ≤ q → A q) (isC isR : List Nat) (hC : isC.map (fun i => w0[i]?) = win.map some) (hR : isR.map (fun i => w0[i]?) = wr.map some) (hnC : va_nd isC = true) (hnR : va_nd isR = true) (hdis : ∀ i ∈ isR, i ∉ isC)
    (hn : As.length = n) (hsize : ls.size = nL) (hst : st0 = As.reverse ++ .ref b :: rest) (hW : (rest.map fun v => v.category).sum ≤ 8) (hdg : decode cc pc = .ok (.invokevirtual index, 3)) (hf : cells + rm.cells ≤ R.cells ∧ slots + rm.slots ≤ R.slots)
    (kk : ∀ (r : Int32) (u : S) (H1 : Heap) (locs1 : List Loc), post r u → va_P (dC, dI) vwCl (wr ++ wout u) H1 → va_D A (wr ++ wout u) → va_S A s.heap H1 locs1 → W p l e R s m args below meth c H1 locs1 (cells + rm.cells) (slots + rm.slots) Q (F0 m (pc + 3) ls (.int r :: rest))) : W p l e R s m args below meth c H locs cells slots Q (F0 m pc ls st0) := by
  obtain ⟨hx, hb, hml, hown, hts, -, -, hK⟩ := C0
  subst hst
  subst hqc
  have hPc := va_Psub hP isC hC
  have hDc := hD.sub isC hnC hC
  have hFc := va_free (wc := win) hD hS hA isC hC
  refine va_calli (va_runV (As := As) (rest := rest) ⟨hx, hb, hml, hown, hts⟩ (hM H.size) cw ⟨fun a U g mk q => by obtain ⟨q0, q1, qP, qK, qD⟩ := q; exact ⟨q0, q1, qP, qK.calling, qD⟩, va_recv hK.1 hPc hcl he, fun U hU hW => ⟨rfl, by rw [hU], by rw [hU]; exact hPc, hK.warm hW, hDc.weaken (fun _ _ _ _ => trivial)⟩⟩ rfl hn hsize rfl (lv_room hW) hdg hf) hS (fun q _ h => hFc q h) hFc (fun r u t H1 locs1 ht hvm hw hB hz1 hk1 hS1 => ?_)
  obtain ⟨hP1, hD1⟩ := hB
  rw [ht] at hP1
  obtain ⟨hP2, hD2⟩ := va_join (wr := wr) (w1 := wout u) hP hD isC isR hC hR hnR hdis hk1 hFc hP1 hD1
  exact kk r u H1 locs1 hw hP2 hD2 hS1
theorem callV_l {post : Int64 → S → Prop} (C0 : cx dC dI cI cB cJ own cc nL ret p s m args meth c) (hM : Cl l dC dI cI cB cJ y ws rm (.ref b :: As) win post wout) (cw : CallW R s args own C index y bytes maxL ret1 ws rm rm.cells rm.slots n) (ci : Nat) {qc : vw_C} {fs : List Value} (hcl : vwCl[ci]? = some qc) (hqc : qc.1 = C) (q0 : Nat) (he : win[q0]? = some (b, .inr (ci, fs))) (hP : va_P (dC, dI) vwCl w0 H) (hD : va_D A w0) (hS : va_S A s.heap H locs) (hA : ∀ q : Nat, s.heap.size ≤ q → A q) (isC isR : List Nat) (hC : isC.map (fun i => w0[i]?) = win.map some) (hR : isR.map (fun i => w0[i]?) = wr.map some) (hnC : va_nd isC = true) (hnR : va_nd isR = true) (hdis : ∀ i ∈ isR, i ∉ isC)
    (hn : As.length = n) (hsize : ls.size = nL) (hst : st0 = As.reverse ++ .ref b :: rest) (hW : (rest.map fun v => v.category).sum ≤ 8) (hdg : decode cc pc = .ok (.invokevirtual index, 3)) (hf : cells + rm.cells ≤ R.cells ∧ slots + rm.slots ≤ R.slots)
    (kk : ∀ (r : Int64) (u : S) (H1 : Heap) (locs1 : List Loc), post r u → va_P (dC, dI) vwCl (wr ++ wout u) H1 → va_D A (wr ++ wout u) → va_S A s.heap H1 locs1 → W p l e R s m args below meth c H1 locs1 (cells + rm.cells) (slots + rm.slots) Q (F0 m (pc + 3) ls (.long r :: rest))) : W p l e R s m args below meth c H locs cells slots Q (F0 m pc ls st0) := by
  obtain ⟨hx, hb, hml, hown, hts, -, -, hK⟩ := C0
  subst hst
  subst hqc
  have hPc := va_Psub hP isC hC
  have hDc := hD.sub isC hnC hC
  have hFc := va_free (wc := win) hD hS hA isC hC
  refine va_calll (va_runV (As := As) (rest := rest) ⟨hx, hb, hml, hown, hts⟩ (hM H.size) cw ⟨fun a U g mk q => by obtain ⟨q0, q1, qP, qK, qD⟩ := q; exact ⟨q0, q1, qP, qK.calling, qD⟩, va_recv hK.1 hPc hcl he, fun U hU hW => ⟨rfl, by rw [hU], by rw [hU]; exact hPc, hK.warm hW, hDc.weaken (fun _ _ _ _ => trivial)⟩⟩ rfl hn hsize rfl (lv_room hW) hdg hf) hS (fun q _ h => hFc q h) hFc (fun r u t H1 locs1 ht hvm hw hB hz1 hk1 hS1 => ?_)
  obtain ⟨hP1, hD1⟩ := hB
  rw [ht] at hP1
  obtain ⟨hP2, hD2⟩ := va_join (wr := wr) (w1 := wout u) hP hD isC isR hC hR hnR hdis hk1 hFc hP1 hD1
  exact kk r u H1 locs1 hw hP2 hD2 hS1
theorem callN_v {post : S → Prop} (C0 : cx dC dI cI cB cJ own cc nL ret p s m args meth c) (hM : Cv l dC dI cI cB cJ y ws rm (.ref b :: As) win post wout) (cw : va_CN R s args own index y host bytes maxL ret1 ws rm rm.cells rm.slots n ∧ (Cond.instanceMethod y).before args s = true ∧ (Cond.selects C y y).before args s = true) (ci : Nat) {qc : vw_C} {fs : List Value} (hcl : vwCl[ci]? = some qc) (hqc : qc.1 = C) (q0 : Nat) (he : win[q0]? = some (b, .inr (ci, fs))) (hP : va_P (dC, dI) vwCl w0 H) (hD : va_D A w0) (hS : va_S A s.heap H locs) (hA : ∀ q : Nat, s.heap.size ≤ q → A q) (isC isR : List Nat) (hC : isC.map (fun i => w0[i]?) = win.map some) (hR : isR.map (fun i => w0[i]?) = wr.map some) (hnC : va_nd isC = true) (hnR : va_nd isR = true) (hdis : ∀ i ∈ isR, i ∉ isC)
    (hn : As.length = n) (hsize : ls.size = nL) (hst : st0 = As.reverse ++ .ref b :: rest) (hW : (rest.map fun v => v.category).sum ≤ 8) (hdg : decode cc pc = .ok (.invokevirtual index, 3)) (hf : cells + rm.cells ≤ R.cells ∧ slots + rm.slots ≤ R.slots)
    (kk : ∀ (u : S) (H1 : Heap) (locs1 : List Loc), post u → va_P (dC, dI) vwCl (wr ++ wout u) H1 → va_D A (wr ++ wout u) → va_S A s.heap H1 locs1 → W p l e R s m args below meth c H1 locs1 (cells + rm.cells) (slots + rm.slots) Q (F0 m (pc + 3) ls (rest))) : W p l e R s m args below meth c H locs cells slots Q (F0 m pc ls st0) := by
  obtain ⟨hx, hb, hml, hown, hts, -, -, hK⟩ := C0
  subst hst
  subst hqc
  have hPc := va_Psub hP isC hC
  have hDc := hD.sub isC hnC hC
  have hFc := va_free (wc := win) hD hS hA isC hC
  refine va_callv (va_runVN (As := As) (rest := rest) ⟨hx, hb, hml, hown, hts⟩ (hM H.size) cw ⟨fun a U g mk q => by obtain ⟨q0, q1, qP, qK, qD⟩ := q; exact ⟨q0, q1, qP, qK.calling, qD⟩, va_recv hK.1 hPc hcl he, fun U hU hW => ⟨rfl, by rw [hU], by rw [hU]; exact hPc, hK.warm hW, hDc.weaken (fun _ _ _ _ => trivial)⟩⟩ rfl hn hsize rfl (lv_room hW) hdg hf) hS (fun q _ h => hFc q h) hFc (fun u t H1 locs1 ht hvm hw hB hz1 hk1 hS1 => ?_)
  obtain ⟨hP1, hD1⟩ := hB
  rw [ht] at hP1
  obtain ⟨hP2, hD2⟩ := va_join (wr := wr) (w1 := wout u) hP hD isC isR hC hR hnR hdis hk1 hFc hP1 hD1
  exact kk u H1 locs1 hw hP2 hD2 hS1
theorem callN_i {post : Int32 → S → Prop} (C0 : cx dC dI cI cB cJ own cc nL ret p s m args meth c) (hM : Ci l dC dI cI cB cJ y ws rm (.ref b :: As) win post wout) (cw : va_CN R s args own index y host bytes maxL ret1 ws rm rm.cells rm.slots n ∧ (Cond.instanceMethod y).before args s = true ∧ (Cond.selects C y y).before args s = true) (ci : Nat) {qc : vw_C} {fs : List Value} (hcl : vwCl[ci]? = some qc) (hqc : qc.1 = C) (q0 : Nat) (he : win[q0]? = some (b, .inr (ci, fs))) (hP : va_P (dC, dI) vwCl w0 H) (hD : va_D A w0) (hS : va_S A s.heap H locs) (hA : ∀ q : Nat, s.heap.size ≤ q → A q) (isC isR : List Nat) (hC : isC.map (fun i => w0[i]?) = win.map some) (hR : isR.map (fun i => w0[i]?) = wr.map some) (hnC : va_nd isC = true) (hnR : va_nd isR = true) (hdis : ∀ i ∈ isR, i ∉ isC)
    (hn : As.length = n) (hsize : ls.size = nL) (hst : st0 = As.reverse ++ .ref b :: rest) (hW : (rest.map fun v => v.category).sum ≤ 8) (hdg : decode cc pc = .ok (.invokevirtual index, 3)) (hf : cells + rm.cells ≤ R.cells ∧ slots + rm.slots ≤ R.slots)
    (kk : ∀ (r : Int32) (u : S) (H1 : Heap) (locs1 : List Loc), post r u → va_P (dC, dI) vwCl (wr ++ wout u) H1 → va_D A (wr ++ wout u) → va_S A s.heap H1 locs1 → W p l e R s m args below meth c H1 locs1 (cells + rm.cells) (slots + rm.slots) Q (F0 m (pc + 3) ls (.int r :: rest))) : W p l e R s m args below meth c H locs cells slots Q (F0 m pc ls st0) := by
  obtain ⟨hx, hb, hml, hown, hts, -, -, hK⟩ := C0
  subst hst
  subst hqc
  have hPc := va_Psub hP isC hC
  have hDc := hD.sub isC hnC hC
  have hFc := va_free (wc := win) hD hS hA isC hC
  refine va_calli (va_runVN (As := As) (rest := rest) ⟨hx, hb, hml, hown, hts⟩ (hM H.size) cw ⟨fun a U g mk q => by obtain ⟨q0, q1, qP, qK, qD⟩ := q; exact ⟨q0, q1, qP, qK.calling, qD⟩, va_recv hK.1 hPc hcl he, fun U hU hW => ⟨rfl, by rw [hU], by rw [hU]; exact hPc, hK.warm hW, hDc.weaken (fun _ _ _ _ => trivial)⟩⟩ rfl hn hsize rfl (lv_room hW) hdg hf) hS (fun q _ h => hFc q h) hFc (fun r u t H1 locs1 ht hvm hw hB hz1 hk1 hS1 => ?_)
  obtain ⟨hP1, hD1⟩ := hB
  rw [ht] at hP1
  obtain ⟨hP2, hD2⟩ := va_join (wr := wr) (w1 := wout u) hP hD isC isR hC hR hnR hdis hk1 hFc hP1 hD1
  exact kk r u H1 locs1 hw hP2 hD2 hS1
theorem callN_l {post : Int64 → S → Prop} (C0 : cx dC dI cI cB cJ own cc nL ret p s m args meth c) (hM : Cl l dC dI cI cB cJ y ws rm (.ref b :: As) win post wout) (cw : va_CN R s args own index y host bytes maxL ret1 ws rm rm.cells rm.slots n ∧ (Cond.instanceMethod y).before args s = true ∧ (Cond.selects C y y).before args s = true) (ci : Nat) {qc : vw_C} {fs : List Value} (hcl : vwCl[ci]? = some qc) (hqc : qc.1 = C) (q0 : Nat) (he : win[q0]? = some (b, .inr (ci, fs))) (hP : va_P (dC, dI) vwCl w0 H) (hD : va_D A w0) (hS : va_S A s.heap H locs) (hA : ∀ q : Nat, s.heap.size ≤ q → A q) (isC isR : List Nat) (hC : isC.map (fun i => w0[i]?) = win.map some) (hR : isR.map (fun i => w0[i]?) = wr.map some) (hnC : va_nd isC = true) (hnR : va_nd isR = true) (hdis : ∀ i ∈ isR, i ∉ isC)
    (hn : As.length = n) (hsize : ls.size = nL) (hst : st0 = As.reverse ++ .ref b :: rest) (hW : (rest.map fun v => v.category).sum ≤ 8) (hdg : decode cc pc = .ok (.invokevirtual index, 3)) (hf : cells + rm.cells ≤ R.cells ∧ slots + rm.slots ≤ R.slots)
    (kk : ∀ (r : Int64) (u : S) (H1 : Heap) (locs1 : List Loc), post r u → va_P (dC, dI) vwCl (wr ++ wout u) H1 → va_D A (wr ++ wout u) → va_S A s.heap H1 locs1 → W p l e R s m args below meth c H1 locs1 (cells + rm.cells) (slots + rm.slots) Q (F0 m (pc + 3) ls (.long r :: rest))) : W p l e R s m args below meth c H locs cells slots Q (F0 m pc ls st0) := by
  obtain ⟨hx, hb, hml, hown, hts, -, -, hK⟩ := C0
  subst hst
  subst hqc
  have hPc := va_Psub hP isC hC
  have hDc := hD.sub isC hnC hC
  have hFc := va_free (wc := win) hD hS hA isC hC
  refine va_calll (va_runVN (As := As) (rest := rest) ⟨hx, hb, hml, hown, hts⟩ (hM H.size) cw ⟨fun a U g mk q => by obtain ⟨q0, q1, qP, qK, qD⟩ := q; exact ⟨q0, q1, qP, qK.calling, qD⟩, va_recv hK.1 hPc hcl he, fun U hU hW => ⟨rfl, by rw [hU], by rw [hU]; exact hPc, hK.warm hW, hDc.weaken (fun _ _ _ _ => trivial)⟩⟩ rfl hn hsize rfl (lv_room hW) hdg hf) hS (fun q _ h => hFc q h) hFc (fun r u t H1 locs1 ht hvm hw hB hz1 hk1 hS1 => ?_)
  obtain ⟨hP1, hD1⟩ := hB
  rw [ht] at hP1
  obtain ⟨hP2, hD2⟩ := va_join (wr := wr) (w1 := wout u) hP hD isC isR hC hR hnR hdis hk1 hFc hP1 hD1
  exact kk r u H1 locs1 hw hP2 hD2 hS1
theorem callS_v {post : S → Prop} (C0 : cx dC dI cI cB cJ own cc nL ret p s m args meth c) (hM : Cv l dC dI cI cB cJ y ws rm As win post wout) (cw : CallB R s args own index y bytes maxL ret1 ws rm rm.cells rm.slots n ∧ (Cond.static y).before args s = true) (hP : va_P (dC, dI) vwCl w0 H) (hD : va_D A w0) (hS : va_S A s.heap H locs) (hA : ∀ q : Nat, s.heap.size ≤ q → A q) (isC isR : List Nat) (hC : isC.map (fun i => w0[i]?) = win.map some) (hR : isR.map (fun i => w0[i]?) = wr.map some) (hnC : va_nd isC = true) (hnR : va_nd isR = true) (hdis : ∀ i ∈ isR, i ∉ isC)
    (hn : As.length = n) (hsize : ls.size = nL) (hst : st0 = As.reverse ++ rest) (hW : (rest.map fun v => v.category).sum ≤ 8) (hdg : decode cc pc = .ok (.invokestatic index, 3)) (hf : cells + rm.cells ≤ R.cells ∧ slots + rm.slots ≤ R.slots)
    (kk : ∀ (u : S) (H1 : Heap) (locs1 : List Loc), post u → va_P (dC, dI) vwCl (wr ++ wout u) H1 → va_D A (wr ++ wout u) → va_S A s.heap H1 locs1 → W p l e R s m args below meth c H1 locs1 (cells + rm.cells) (slots + rm.slots) Q (F0 m (pc + 3) ls (rest))) : W p l e R s m args below meth c H locs cells slots Q (F0 m pc ls st0) := by
  obtain ⟨hx, hb, hml, hown, hts, -, -, hK⟩ := C0
  subst hst
  have hPc := va_Psub hP isC hC
  have hDc := hD.sub isC hnC hC
  have hFc := va_free (wc := win) hD hS hA isC hC
  refine va_callv (va_runS (As := As) (rest := rest) ⟨hx, hb, hml, hown, hts⟩ (hM H.size) cw ⟨fun a U g mk q => by obtain ⟨q0, q1, qP, qK, qD⟩ := q; exact ⟨q0, q1, qP, qK.calling, qD⟩, fun U hU hW => ⟨rfl, by rw [hU], by rw [hU]; exact hPc, hK.warm hW, hDc.weaken (fun _ _ _ _ => trivial)⟩⟩ rfl hn hsize rfl (lv_room hW) hdg hf) hS (fun q _ h => hFc q h) hFc (fun u t H1 locs1 ht hvm hw hB hz1 hk1 hS1 => ?_)
  obtain ⟨hP1, hD1⟩ := hB
  rw [ht] at hP1
  obtain ⟨hP2, hD2⟩ := va_join (wr := wr) (w1 := wout u) hP hD isC isR hC hR hnR hdis hk1 hFc hP1 hD1
  exact kk u H1 locs1 hw hP2 hD2 hS1
theorem callS_i {post : Int32 → S → Prop} (C0 : cx dC dI cI cB cJ own cc nL ret p s m args meth c) (hM : Ci l dC dI cI cB cJ y ws rm As win post wout) (cw : CallB R s args own index y bytes maxL ret1 ws rm rm.cells rm.slots n ∧ (Cond.static y).before args s = true) (hP : va_P (dC, dI) vwCl w0 H) (hD : va_D A w0) (hS : va_S A s.heap H locs) (hA : ∀ q : Nat, s.heap.size ≤ q → A q) (isC isR : List Nat) (hC : isC.map (fun i => w0[i]?) = win.map some) (hR : isR.map (fun i => w0[i]?) = wr.map some) (hnC : va_nd isC = true) (hnR : va_nd isR = true) (hdis : ∀ i ∈ isR, i ∉ isC)
    (hn : As.length = n) (hsize : ls.size = nL) (hst : st0 = As.reverse ++ rest) (hW : (rest.map fun v => v.category).sum ≤ 8) (hdg : decode cc pc = .ok (.invokestatic index, 3)) (hf : cells + rm.cells ≤ R.cells ∧ slots + rm.slots ≤ R.slots)
    (kk : ∀ (r : Int32) (u : S) (H1 : Heap) (locs1 : List Loc), post r u → va_P (dC, dI) vwCl (wr ++ wout u) H1 → va_D A (wr ++ wout u) → va_S A s.heap H1 locs1 → W p l e R s m args below meth c H1 locs1 (cells + rm.cells) (slots + rm.slots) Q (F0 m (pc + 3) ls (.int r :: rest))) : W p l e R s m args below meth c H locs cells slots Q (F0 m pc ls st0) := by
  obtain ⟨hx, hb, hml, hown, hts, -, -, hK⟩ := C0
  subst hst
  have hPc := va_Psub hP isC hC
  have hDc := hD.sub isC hnC hC
  have hFc := va_free (wc := win) hD hS hA isC hC
  refine va_calli (va_runS (As := As) (rest := rest) ⟨hx, hb, hml, hown, hts⟩ (hM H.size) cw ⟨fun a U g mk q => by obtain ⟨q0, q1, qP, qK, qD⟩ := q; exact ⟨q0, q1, qP, qK.calling, qD⟩, fun U hU hW => ⟨rfl, by rw [hU], by rw [hU]; exact hPc, hK.warm hW, hDc.weaken (fun _ _ _ _ => trivial)⟩⟩ rfl hn hsize rfl (lv_room hW) hdg hf) hS (fun q _ h => hFc q h) hFc (fun r u t H1 locs1 ht hvm hw hB hz1 hk1 hS1 => ?_)
  obtain ⟨hP1, hD1⟩ := hB
  rw [ht] at hP1
  obtain ⟨hP2, hD2⟩ := va_join (wr := wr) (w1 := wout u) hP hD isC isR hC hR hnR hdis hk1 hFc hP1 hD1
  exact kk r u H1 locs1 hw hP2 hD2 hS1
theorem callS_l {post : Int64 → S → Prop} (C0 : cx dC dI cI cB cJ own cc nL ret p s m args meth c) (hM : Cl l dC dI cI cB cJ y ws rm As win post wout) (cw : CallB R s args own index y bytes maxL ret1 ws rm rm.cells rm.slots n ∧ (Cond.static y).before args s = true) (hP : va_P (dC, dI) vwCl w0 H) (hD : va_D A w0) (hS : va_S A s.heap H locs) (hA : ∀ q : Nat, s.heap.size ≤ q → A q) (isC isR : List Nat) (hC : isC.map (fun i => w0[i]?) = win.map some) (hR : isR.map (fun i => w0[i]?) = wr.map some) (hnC : va_nd isC = true) (hnR : va_nd isR = true) (hdis : ∀ i ∈ isR, i ∉ isC)
    (hn : As.length = n) (hsize : ls.size = nL) (hst : st0 = As.reverse ++ rest) (hW : (rest.map fun v => v.category).sum ≤ 8) (hdg : decode cc pc = .ok (.invokestatic index, 3)) (hf : cells + rm.cells ≤ R.cells ∧ slots + rm.slots ≤ R.slots)
    (kk : ∀ (r : Int64) (u : S) (H1 : Heap) (locs1 : List Loc), post r u → va_P (dC, dI) vwCl (wr ++ wout u) H1 → va_D A (wr ++ wout u) → va_S A s.heap H1 locs1 → W p l e R s m args below meth c H1 locs1 (cells + rm.cells) (slots + rm.slots) Q (F0 m (pc + 3) ls (.long r :: rest))) : W p l e R s m args below meth c H locs cells slots Q (F0 m pc ls st0) := by
  obtain ⟨hx, hb, hml, hown, hts, -, -, hK⟩ := C0
  subst hst
  have hPc := va_Psub hP isC hC
  have hDc := hD.sub isC hnC hC
  have hFc := va_free (wc := win) hD hS hA isC hC
  refine va_calll (va_runS (As := As) (rest := rest) ⟨hx, hb, hml, hown, hts⟩ (hM H.size) cw ⟨fun a U g mk q => by obtain ⟨q0, q1, qP, qK, qD⟩ := q; exact ⟨q0, q1, qP, qK.calling, qD⟩, fun U hU hW => ⟨rfl, by rw [hU], by rw [hU]; exact hPc, hK.warm hW, hDc.weaken (fun _ _ _ _ => trivial)⟩⟩ rfl hn hsize rfl (lv_room hW) hdg hf) hS (fun q _ h => hFc q h) hFc (fun r u t H1 locs1 ht hvm hw hB hz1 hk1 hS1 => ?_)
  obtain ⟨hP1, hD1⟩ := hB
  rw [ht] at hP1
  obtain ⟨hP2, hD2⟩ := va_join (wr := wr) (w1 := wout u) hP hD isC isR hC hR hnR hdis hk1 hFc hP1 hD1
  exact kk r u H1 locs1 hw hP2 hD2 hS1
theorem callI_v {post : S → Prop} (C0 : cx dC dI cI cB cJ own cc nL ret p s m args meth c) (hM : Cv l dC dI cI cB cJ y ws rm (.ref b :: As) win post wout) (cw : CallB R s args own index y bytes maxL none ws rm rm.cells rm.slots n ∧ y.name = "<init>" ∧ (Cond.instanceMethod y).before args s = true) (hP : va_P (dC, dI) vwCl w0 H) (hD : va_D A w0) (hS : va_S A s.heap H locs) (hA : ∀ q : Nat, s.heap.size ≤ q → A q) (isC isR : List Nat) (hC : isC.map (fun i => w0[i]?) = win.map some) (hR : isR.map (fun i => w0[i]?) = wr.map some) (hnC : va_nd isC = true) (hnR : va_nd isR = true) (hdis : ∀ i ∈ isR, i ∉ isC)
    (hn : As.length = n) (hsize : ls.size = nL) (hst : st0 = As.reverse ++ .ref b :: rest) (hW : (rest.map fun v => v.category).sum ≤ 8) (hdg : decode cc pc = .ok (.invokespecial index, 3)) (hf : cells + rm.cells ≤ R.cells ∧ slots + rm.slots ≤ R.slots)
    (kk : ∀ (u : S) (H1 : Heap) (locs1 : List Loc), post u → va_P (dC, dI) vwCl (wr ++ wout u) H1 → va_D A (wr ++ wout u) → va_S A s.heap H1 locs1 → W p l e R s m args below meth c H1 locs1 (cells + rm.cells) (slots + rm.slots) Q (F0 m (pc + 3) ls (rest))) : W p l e R s m args below meth c H locs cells slots Q (F0 m pc ls st0) := by
  obtain ⟨hx, hb, hml, hown, hts, -, -, hK⟩ := C0
  subst hst
  have hPc := va_Psub hP isC hC
  have hDc := hD.sub isC hnC hC
  have hFc := va_free (wc := win) hD hS hA isC hC
  refine va_callv (va_runI (As := As) (rest := rest) ⟨hx, hb, hml, hown, hts⟩ (hM H.size) cw ⟨fun a U g mk q => by obtain ⟨q0, q1, qP, qK, qD⟩ := q; exact ⟨q0, q1, qP, qK.calling, qD⟩, fun U hU hW => ⟨rfl, by rw [hU], by rw [hU]; exact hPc, hK.warm hW, hDc.weaken (fun _ _ _ _ => trivial)⟩⟩ rfl hn hsize rfl (lv_room hW) hdg hf) hS (fun q _ h => hFc q h) hFc (fun u t H1 locs1 ht hvm hw hB hz1 hk1 hS1 => ?_)
  obtain ⟨hP1, hD1⟩ := hB
  rw [ht] at hP1
  obtain ⟨hP2, hD2⟩ := va_join (wr := wr) (w1 := wout u) hP hD isC isR hC hR hnR hdis hk1 hFc hP1 hD1
  exact kk u H1 locs1 hw hP2 hD2 hS1
end CA
end RU
end
section
section NW
variable {p : Program} {l : Launch} {e : Env} {R : Room} {s : State} {m : MethodId} {args : Array Value} {below : List Frame} {meth : Method} {c : Code} {H : Heap} {locs : List Loc} {cells slots : Nat} {A : Nat → Prop} {Q : State → Prop} {dC : Nat → ClassId} {dI : Nat → Nat → Nat} {cI cB cJ : ClassId}
variable {own : String} {cc : ByteArray} {nL pc : Nat} {ls : Array Slot} {w0 : va_W} {ret : Option FieldType} {rest : List Value}
theorem newI (C0 : cx dC dI cI cB cJ own cc nL ret p s m args meth c) (hP : va_P (dC, dI) vwCl w0 H) (hD : va_D A w0) (hS : va_S A s.heap H locs) (hA : ∀ q : Nat, s.heap.size ≤ q → A q) {n : Int32} {N : Nat} (hn : ¬ n < 0) (hN : n.toNatClampNeg = N) (hb8 : N * 4 ≤ 536870912) (hcells : cells + 1 ≤ R.cells) (hslots : slots + N ≤ R.slots) (hdg : decode cc pc = .ok (.newarray .int, 2))
    (kk : ∀ (q : Nat) (H1 : Heap), va_P (dC, dI) vwCl (w0 ++ [(q, .inl (cI, N, .inl (fun _ => 0)))]) H1 → va_D A (w0 ++ [(q, .inl (cI, N, .inl (fun _ => 0)))]) → va_S A s.heap H1 locs → W p l e R s m args below meth c H1 locs (cells + 1) (slots + N) Q (F0 m (pc + 2) ls (.ref q :: rest))) : W p l e R s m args below meth c H locs cells slots Q (F0 m pc ls (.int n :: rest)) := by
  obtain ⟨hx, hb, hml, hown, hts, -, -, hK, -⟩ := C0
  refine va_newa (atype := .int) (a0 := (N, .inl (fun _ => 0))) (ty := .int) hx hb (hts _ m_107) rfl hK hP hD hS hA (fun _ => rfl) hn hN hb8 hcells hslots hdg (fun q cA H1 hK1 hP1 hD1 hS1 => ?_)
  have h1 : s.vm.findClass ("[" ++ (.int : FieldType).toString) = some cA := (hK1.2 3 (cA, .int) rfl).2
  have h2 : s.vm.findClass ("[" ++ (.int : FieldType).toString) = some cI := (hK.2 0 (cI, .int) rfl).2
  have h3 : cA = cI := Option.some.inj (h1.symm.trans h2)
  subst h3
  exact kk q H1 hP1 hD1 hS1
theorem newB (C0 : cx dC dI cI cB cJ own cc nL ret p s m args meth c) (hP : va_P (dC, dI) vwCl w0 H) (hD : va_D A w0) (hS : va_S A s.heap H locs) (hA : ∀ q : Nat, s.heap.size ≤ q → A q) {n : Int32} {N : Nat} (hn : ¬ n < 0) (hN : n.toNatClampNeg = N) (hb8 : N * 1 ≤ 536870912) (hcells : cells + 1 ≤ R.cells) (hslots : slots + N ≤ R.slots) (hdg : decode cc pc = .ok (.newarray .byte, 2))
    (kk : ∀ (q : Nat) (H1 : Heap), va_P (dC, dI) vwCl (w0 ++ [(q, .inl (cB, N, .inl (fun _ => 0)))]) H1 → va_D A (w0 ++ [(q, .inl (cB, N, .inl (fun _ => 0)))]) → va_S A s.heap H1 locs → W p l e R s m args below meth c H1 locs (cells + 1) (slots + N) Q (F0 m (pc + 2) ls (.ref q :: rest))) : W p l e R s m args below meth c H locs cells slots Q (F0 m pc ls (.int n :: rest)) := by
  obtain ⟨hx, hb, hml, hown, hts, -, -, hK, -⟩ := C0
  refine va_newa (atype := .byte) (a0 := (N, .inl (fun _ => 0))) (ty := .byte) hx hb (hts _ m_92) rfl hK hP hD hS hA (fun _ => rfl) hn hN hb8 hcells hslots hdg (fun q cA H1 hK1 hP1 hD1 hS1 => ?_)
  have h1 : s.vm.findClass ("[" ++ (.byte : FieldType).toString) = some cA := (hK1.2 3 (cA, .byte) rfl).2
  have h2 : s.vm.findClass ("[" ++ (.byte : FieldType).toString) = some cB := (hK.2 1 (cB, .byte) rfl).2
  have h3 : cA = cB := Option.some.inj (h1.symm.trans h2)
  subst h3
  exact kk q H1 hP1 hD1 hS1
theorem newJ (C0 : cx dC dI cI cB cJ own cc nL ret p s m args meth c) (hP : va_P (dC, dI) vwCl w0 H) (hD : va_D A w0) (hS : va_S A s.heap H locs) (hA : ∀ q : Nat, s.heap.size ≤ q → A q) {n : Int32} {N : Nat} (hn : ¬ n < 0) (hN : n.toNatClampNeg = N) (hb8 : N * 8 ≤ 536870912) (hcells : cells + 1 ≤ R.cells) (hslots : slots + N ≤ R.slots) (hdg : decode cc pc = .ok (.newarray .long, 2))
    (kk : ∀ (q : Nat) (H1 : Heap), va_P (dC, dI) vwCl (w0 ++ [(q, .inl (cJ, N, .inr (.inl (fun _ => 0))))]) H1 → va_D A (w0 ++ [(q, .inl (cJ, N, .inr (.inl (fun _ => 0))))]) → va_S A s.heap H1 locs → W p l e R s m args below meth c H1 locs (cells + 1) (slots + N) Q (F0 m (pc + 2) ls (.ref q :: rest))) : W p l e R s m args below meth c H locs cells slots Q (F0 m pc ls (.int n :: rest)) := by
  obtain ⟨hx, hb, hml, hown, hts, -, -, hK, -⟩ := C0
  refine va_newa (atype := .long) (a0 := (N, .inr (.inl (fun _ => 0)))) (ty := .long) hx hb (hts _ m_744) rfl hK hP hD hS hA (fun _ => rfl) hn hN hb8 hcells hslots hdg (fun q cA H1 hK1 hP1 hD1 hS1 => ?_)
  have h1 : s.vm.findClass ("[" ++ (.long : FieldType).toString) = some cA := (hK1.2 3 (cA, .long) rfl).2
  have h2 : s.vm.findClass ("[" ++ (.long : FieldType).toString) = some cJ := (hK.2 2 (cJ, .long) rfl).2
  have h3 : cA = cJ := Option.some.inj (h1.symm.trans h2)
  subst h3
  exact kk q H1 hP1 hD1 hS1
end NW
end
section
set_option maxHeartbeats 4000000 in
set_option maxRecDepth 100000 in
theorem c_Natural_limbAt (l : Launch) (dC : Nat → ClassId) (dI : Nat → Nat → Nat) (cI cB cJ : ClassId) (h0 : Nat) (a0 : Nat) (f : Nat → Int32) (x : Int32)  : Cl l dC dI cI cB cJ y_Natural_limbAt w_Natural_limbAt ({ frames := 0, cells := 0, slots := 0, locals := 0 } : Room) [.ref h0, .int x] [(h0, .inr (1, [.ref a0])), (a0, .inl (cI, 12, .inl f))] (fun (r : Int64) (u : Unit) => ul r = lz f x.toInt) (fun u : Unit => [(h0, .inr (1, [.ref a0])), (a0, .inl (cI, 12, .inl f))]) := by
  refine Cl.intro (cc := b_Natural_limbAt) (maxL := 2) (by decide) rfl (Nat.le_of_ble_eq_true rfl) ?_
  intro p e s m below meth c A ls C0 hin hA hP hD hS hl
  obtain ⟨hx, hb, hml, hown, hts, hr, hlocks, hK, hN⟩ := id C0
  obtain ⟨H, hH⟩ : ∃ H, H = s.heap := ⟨_, rfl⟩
  have hP : va_P (dC, dI) vwCl [(h0, .inr (1, [.ref a0])), (a0, .inl (cI, 12, .inl f))] s.heap := hP
  have hl : lv_has ls 2 [(0, .ref h0), (1, .int x)] := hl
  have r_x := q_r32 x
  suffices h : ∀ (H : Heap) (locs : List Loc), va_P (dC, dI) vwCl [(h0, .inr (1, [.ref a0])), (a0, .inl (cI, 12, .inl f))] H → va_D A [(h0, .inr (1, [.ref a0])), (a0, .inl (cI, 12, .inl f))] → va_S A s.heap H locs → W p l e ({ frames := 0, cells := 0, slots := 0, locals := 0 } : Room) s m ([.ref h0, .int x] : List Value).toArray below meth c H locs 0 0 (MQ below (va_Ql (fun (r : Int64) (u : Unit) => ul r = lz f x.toInt) (poG dC dI A (fun u : Unit => [(h0, .inr (1, [.ref a0])), (a0, .inl (cI, 12, .inl f))])) A) ([.ref h0, .int x] : List Value).toArray s 0 0 A) (F0 m 0 ls []) from h _ _ hP hD hS
  clear hP hD hS hH H
  intro H locs hP hD hS
  refine lv_iload_n hx hb d_Natural_limbAt_0 rfl (lv_at hl 1 rfl) ?_
  refine lv_if_lt (tgt := 24) hx hb d_Natural_limbAt_1 (by decide) (fun b1 => ?_) (fun b1 => ?_)
  · skip
    rw [q_ilt (rfl : x.toInt = x.toInt) (show (0 : Int32).toInt = 0 by decide)] at b1
    refine lv_lconst (v := 0) hx hb d_Natural_limbAt_24 (by decide) ?_
    exact Cl.ret C0 (v := 0) (u := ()) (Nat.le_of_ble_eq_true rfl) (Nat.le_of_ble_eq_true rfl) (by show ul 0 = lz f x.toInt; rw [lz, if_neg (by omega)]; rfl) hP hD hS [0, 1] (by decide) rfl d_Natural_limbAt_25
  · skip
    rw [q_ilt (rfl : x.toInt = x.toInt) (show (0 : Int32).toInt = 0 by decide)] at b1
    refine lv_iload_n hx hb d_Natural_limbAt_4 rfl (lv_at hl 1 rfl) ?_
    refine lv_bipush (v := 12) hx hb d_Natural_limbAt_5 (by decide) ?_
    refine lv_icmp_ge (tgt := 24) hx hb d_Natural_limbAt_7 (by decide) (fun b7 => ?_) (fun b7 => ?_)
    · skip
      rw [q_ile (show (12 : Int32).toInt = 12 by decide) (rfl : x.toInt = x.toInt)] at b7
      refine lv_lconst (v := 0) hx hb d_Natural_limbAt_24 (by decide) ?_
      exact Cl.ret C0 (v := 0) (u := ()) (Nat.le_of_ble_eq_true rfl) (Nat.le_of_ble_eq_true rfl) (by show ul 0 = lz f x.toInt; rw [lz, if_neg (by omega)]; rfl) hP hD hS [0, 1] (by decide) rfl d_Natural_limbAt_25
    · skip
      rw [q_ile (show (12 : Int32).toInt = 12 by decide) (rfl : x.toInt = x.toInt)] at b7
      refine lv_aload_n hx hb d_Natural_limbAt_10 rfl (lv_at hl 0 rfl) ?_
      refine va_get (D := (dC, dI)) (ci := 1) (v := .ref a0) (C := R_Natural) (T := F_Natural) (N := 1) hx hb hts u_Natural hown hK hP 0 rfl rfl 0 (by decide) (hts _ m_105) (fun _ h9 => h9) rfl d_Natural_limbAt_11 ?_
      refine lv_iload_n hx hb d_Natural_limbAt_14 rfl (lv_at hl 1 rfl) ?_
      refine va_iald hx hb hK hP 1 0 rfl rfl (q_in (rfl : x.toInt = x.toInt) (by omega)) d_Natural_limbAt_15 ?_
      refine lv_topi (fun v15 e15 => ?_)
      rw [q_cl (k := x.toInt.toNat) ((Int.toNat_of_nonneg (by omega)).symm)] at e15
      refine lv_i2l hx hb d_Natural_limbAt_16 rfl ?_
      refine lv_topl (fun v16 e16 => ?_)
      refine lv_ldc2 (v := 4294967295) hx hb hown (hts _ m_273) d_Natural_limbAt_17 ?_
      refine lv_land hx hb d_Natural_limbAt_20 ?_
      refine lv_topl (fun v20 e20 => ?_)
      refine lv_goto (tgt := 25) hx hb d_Natural_limbAt_21 (by decide) ?_
      exact Cl.ret C0 (v := v20) (u := ()) (Nat.le_of_ble_eq_true rfl) (Nat.le_of_ble_eq_true rfl) (by show ul v20 = lz f x.toInt; rw [lz, if_pos (by omega), e20, e16, ul_i2l_lo, e15]) hP hD hS [0, 1] (by decide) rfl d_Natural_limbAt_25
set_option maxHeartbeats 4000000 in
set_option maxRecDepth 100000 in
theorem L_Natural_isZero_2 {p : Program} {l : Launch} {e : Env} {s : State} {m : MethodId} {below : List Frame} {meth : Method} {c : Code} {dC : Nat → ClassId} {dI : Nat → Nat → Nat} {cI cB cJ : ClassId} {A : Nat → Prop} (h0 : Nat) (a0 : Nat) (f : Nat → Int32) (C0 : cx dC dI cI cB cJ R_Natural b_Natural_isZero 2 (some .boolean) p s m ([.ref h0] : List Value).toArray meth c) (hA : ∀ q : Nat, s.heap.size ≤ q → A q)  : ∀ n : Nat, (∀ (x1 : Int32) (i : Nat) (H : Heap) (locs : List Loc) (ls : Array Slot), 12 - i < n → x1.toInt = (i : Int) → (i ≤ 12) → (∀ j, j < i → f j = 0) → va_P (dC, dI) vwCl [(h0, .inr (1, [.ref a0])), (a0, .inl (cI, 12, .inl f))] H → va_D A [(h0, .inr (1, [.ref a0])), (a0, .inl (cI, 12, .inl f))] → va_S A s.heap H locs → lv_has ls 2 [(1, .int x1), (0, .ref h0)] → W p l e ({ frames := 0, cells := 0, slots := 0, locals := 0 } : Room) s m ([.ref h0] : List Value).toArray below meth c H locs 0 0 (MQ below (va_Qi (fun (r : Int32) (u : Unit) => r = if nv f 12 = 0 then 1 else 0) (poG dC dI A (fun u : Unit => [(h0, .inr (1, [.ref a0])), (a0, .inl (cI, 12, .inl f))])) A) ([.ref h0] : List Value).toArray s 0 0 A) (F0 m 2 ls [])) := by
  obtain ⟨hx, hb, hml, hown, hts, hr, hlocks, hK, hN⟩ := id C0
  intro n
  induction n with
  | zero => exact fun _ _ _ _ _ h0 _ _ _ _ _ _ _ => absurd h0 (Nat.not_lt_zero _)
  | succ n ih =>
    intro x1 i H locs ls hn t_x1 hi hz hP hD hS hl
    have r_x1 := q_r32 x1
    refine lv_iload_n hx hb d_Natural_isZero_2 rfl (lv_at hl 0 rfl) ?_
    refine lv_bipush (v := 12) hx hb d_Natural_isZero_3 (by decide) ?_
    refine lv_icmp_ge (tgt := 25) hx hb d_Natural_isZero_5 (by decide) (fun b5 => ?_) (fun b5 => ?_)
    · skip
      rw [q_ile (show (12 : Int32).toInt = 12 by decide) t_x1] at b5
      refine lv_iconst (v := 1) hx hb d_Natural_isZero_25 (by decide) ?_
      exact Cz.ret C0 (v := 1) (u := ()) (by rfl) (Nat.le_of_ble_eq_true rfl) (Nat.le_of_ble_eq_true rfl) (by show (1 : Int32) = if nv f 12 = 0 then 1 else 0; rw [if_pos (nv_zero (fun j hj => hz j (by omega)))]) hP hD hS [0, 1] (by decide) rfl d_Natural_isZero_26
    · skip
      rw [q_ile (show (12 : Int32).toInt = 12 by decide) t_x1] at b5
      refine lv_aload_n hx hb d_Natural_isZero_8 rfl (lv_at hl 1 rfl) ?_
      refine va_get (D := (dC, dI)) (ci := 1) (v := .ref a0) (C := R_Natural) (T := F_Natural) (N := 1) hx hb hts u_Natural hown hK hP 0 rfl rfl 0 (by decide) (hts _ m_105) (fun _ h9 => h9) rfl d_Natural_isZero_9 ?_
      refine lv_iload_n hx hb d_Natural_isZero_12 rfl (lv_at hl 0 rfl) ?_
      refine va_iald hx hb hK hP 1 0 rfl rfl (q_in t_x1 (by omega)) d_Natural_isZero_13 ?_
      refine lv_topi (fun v13 e13 => ?_)
      rw [q_cl (k := i) (t_x1)] at e13
      refine lv_if_eq (tgt := 19) hx hb d_Natural_isZero_14 (by decide) (fun b14 => ?_) (fun b14 => ?_)
      · skip
        obtain ⟨v19, e19⟩ : ∃ y : Int32, y = x1 + 1 := ⟨_, rfl⟩
        have t19 : v19.toInt = (i : Int) + 1 := by rw [e19]; exact q_iadd t_x1 (show (1 : Int32).toInt = 1 by decide) (by omega)
        refine lv_iinc (v := v19) (lv' := [(1, .int v19), (0, .ref h0)]) hx hb d_Natural_isZero_19 hl (k := 0) rfl (by rw [e19]; rfl) (by decide) rfl (fun ls hl => ?_)
        refine lv_goto (tgt := 2) hx hb d_Natural_isZero_22 (by decide) ?_
        exact ih (v19) (i + 1) H locs ls (by omega) ((t19).trans (by omega)) (by omega) (by intro j hj; rcases Nat.lt_or_ge j i with h | h; exact hz j h; rw [show j = i by omega, ← e13]; exact b14) (va_Psub hP [0, 1] rfl) (hD.sub [0, 1] (by decide) rfl) hS (lv_sub hl [0, 1] rfl)
      · skip
        refine lv_iconst (v := 0) hx hb d_Natural_isZero_17 (by decide) ?_
        exact Cz.ret C0 (v := 0) (u := ()) (by rfl) (Nat.le_of_ble_eq_true rfl) (Nat.le_of_ble_eq_true rfl) (by show (0 : Int32) = if nv f 12 = 0 then 1 else 0; rw [if_neg (Nat.ne_of_gt (nv_pos (i := i) (by omega) (by rw [← e13]; exact b14)))]) hP hD hS [0, 1] (by decide) rfl d_Natural_isZero_18
set_option maxHeartbeats 4000000 in
set_option maxRecDepth 100000 in
theorem c_Natural_isZero (l : Launch) (dC : Nat → ClassId) (dI : Nat → Nat → Nat) (cI cB cJ : ClassId) (h0 : Nat) (a0 : Nat) (f : Nat → Int32)  : Ci l dC dI cI cB cJ y_Natural_isZero w_Natural_isZero ({ frames := 0, cells := 0, slots := 0, locals := 0 } : Room) [.ref h0] [(h0, .inr (1, [.ref a0])), (a0, .inl (cI, 12, .inl f))] (fun (r : Int32) (u : Unit) => r = if nv f 12 = 0 then 1 else 0) (fun u : Unit => [(h0, .inr (1, [.ref a0])), (a0, .inl (cI, 12, .inl f))]) := by
  refine Ci.intro (cc := b_Natural_isZero) (maxL := 2) (by decide) rfl (Nat.le_of_ble_eq_true rfl) ?_
  intro p e s m below meth c A ls C0 hin hA hP hD hS hl
  obtain ⟨hx, hb, hml, hown, hts, hr, hlocks, hK, hN⟩ := id C0
  obtain ⟨H, hH⟩ : ∃ H, H = s.heap := ⟨_, rfl⟩
  have hP : va_P (dC, dI) vwCl [(h0, .inr (1, [.ref a0])), (a0, .inl (cI, 12, .inl f))] s.heap := hP
  have hl : lv_has ls 2 [(0, .ref h0)] := hl
  suffices h : ∀ (H : Heap) (locs : List Loc), va_P (dC, dI) vwCl [(h0, .inr (1, [.ref a0])), (a0, .inl (cI, 12, .inl f))] H → va_D A [(h0, .inr (1, [.ref a0])), (a0, .inl (cI, 12, .inl f))] → va_S A s.heap H locs → W p l e ({ frames := 0, cells := 0, slots := 0, locals := 0 } : Room) s m ([.ref h0] : List Value).toArray below meth c H locs 0 0 (MQ below (va_Qi (fun (r : Int32) (u : Unit) => r = if nv f 12 = 0 then 1 else 0) (poG dC dI A (fun u : Unit => [(h0, .inr (1, [.ref a0])), (a0, .inl (cI, 12, .inl f))])) A) ([.ref h0] : List Value).toArray s 0 0 A) (F0 m 0 ls []) from h _ _ hP hD hS
  clear hP hD hS hH H
  intro H locs hP hD hS
  refine lv_iconst (v := 0) hx hb d_Natural_isZero_0 (by decide) ?_
  refine lv_istore_n (lv' := [(1, .int 0), (0, .ref h0)]) hx hb d_Natural_isZero_1 rfl hl (by decide) rfl (fun ls hl => ?_)
  exact L_Natural_isZero_2 (h0) (a0) (f) C0 hA  _ (0) (0) H locs ls (Nat.lt_succ_self _) (((show (0 : Int32).toInt = 0 by decide)).trans (by omega)) (by omega) (by intro j hj; omega) (va_Psub hP [0, 1] rfl) (hD.sub [0, 1] (by decide) rfl) hS (lv_sub hl [0, 1] rfl)
set_option maxHeartbeats 4000000 in
set_option maxRecDepth 100000 in
theorem L_Natural_against_3 {p : Program} {l : Launch} {e : Env} {s : State} {m : MethodId} {below : List Frame} {meth : Method} {c : Code} {dC : Nat → ClassId} {dI : Nat → Nat → Nat} {cI cB cJ : ClassId} {A : Nat → Prop} (h0 : Nat) (a0 : Nat) (f : Nat → Int32) (h1 : Nat) (a1 : Nat) (g : Nat → Int32) (C0 : cx dC dI cI cB cJ R_Natural b_Natural_against 3 (some .int) p s m ([.ref h0, .ref h1] : List Value).toArray meth c) (hA : ∀ q : Nat, s.heap.size ≤ q → A q)  : ∀ n : Nat, (∀ (x2 : Int32) (i : Nat) (H : Heap) (locs : List Loc) (ls : Array Slot), i < n → x2.toInt = (i : Int) - 1 → (i ≤ 12) → (∀ j, i ≤ j → j < 12 → f j = g j) → va_P (dC, dI) vwCl [(h0, .inr (1, [.ref a0])), (a0, .inl (cI, 12, .inl f)), (h1, .inr (1, [.ref a1])), (a1, .inl (cI, 12, .inl g))] H → va_D A [(h0, .inr (1, [.ref a0])), (a0, .inl (cI, 12, .inl f)), (h1, .inr (1, [.ref a1])), (a1, .inl (cI, 12, .inl g))] → va_S A s.heap H locs → lv_has ls 3 [(2, .int x2), (1, .ref h1), (0, .ref h0)] → W p l e ({ frames := 0, cells := 0, slots := 0, locals := 0 } : Room) s m ([.ref h0, .ref h1] : List Value).toArray below meth c H locs 0 0 (MQ below (va_Qi (fun (r : Int32) (u : Unit) => (nv f 12 < nv g 12 ∧ r = -1) ∨ (nv f 12 = nv g 12 ∧ r = 0) ∨ (nv g 12 < nv f 12 ∧ r = 1)) (poG dC dI A (fun u : Unit => [(h0, .inr (1, [.ref a0])), (a0, .inl (cI, 12, .inl f)), (h1, .inr (1, [.ref a1])), (a1, .inl (cI, 12, .inl g))])) A) ([.ref h0, .ref h1] : List Value).toArray s 0 0 A) (F0 m 3 ls [])) := by
  obtain ⟨hx, hb, hml, hown, hts, hr, hlocks, hK, hN⟩ := id C0
  intro n
  induction n with
  | zero => exact fun _ _ _ _ _ h0 _ _ _ _ _ _ _ => absurd h0 (Nat.not_lt_zero _)
  | succ n ih =>
    intro x2 i H locs ls hn t_x2 hi hs hP hD hS hl
    have r_x2 := q_r32 x2
    refine lv_iload_n hx hb d_Natural_against_3 rfl (lv_at hl 0 rfl) ?_
    refine lv_if_lt (tgt := 60) hx hb d_Natural_against_4 (by decide) (fun b4 => ?_) (fun b4 => ?_)
    · skip
      rw [q_ilt t_x2 (show (0 : Int32).toInt = 0 by decide)] at b4
      refine lv_iconst (v := 0) hx hb d_Natural_against_60 (by decide) ?_
      exact Ci.ret C0 (v := 0) (u := ()) (Nat.le_of_ble_eq_true rfl) (Nat.le_of_ble_eq_true rfl) (by exact Or.inr (Or.inl ⟨nv_congr (fun j hj => hs j (by omega) hj), rfl⟩)) hP hD hS [0, 1, 2, 3] (by decide) rfl d_Natural_against_61
    · skip
      rw [q_ilt t_x2 (show (0 : Int32).toInt = 0 by decide)] at b4
      refine lv_aload_n hx hb d_Natural_against_7 rfl (lv_at hl 2 rfl) ?_
      refine va_get (D := (dC, dI)) (ci := 1) (v := .ref a0) (C := R_Natural) (T := F_Natural) (N := 1) hx hb hts u_Natural hown hK hP 0 rfl rfl 0 (by decide) (hts _ m_105) (fun _ h9 => h9) rfl d_Natural_against_8 ?_
      refine lv_iload_n hx hb d_Natural_against_11 rfl (lv_at hl 0 rfl) ?_
      refine va_iald hx hb hK hP 1 0 rfl rfl (q_in t_x2 (by omega)) d_Natural_against_12 ?_
      refine lv_topi (fun v12 e12 => ?_)
      rw [q_cl (k := i - 1) (t_x2.trans (by omega))] at e12
      refine lv_aload_n hx hb d_Natural_against_13 rfl (lv_at hl 1 rfl) ?_
      refine va_get (D := (dC, dI)) (ci := 1) (v := .ref a1) (C := R_Natural) (T := F_Natural) (N := 1) hx hb hts u_Natural hown hK hP 2 rfl rfl 0 (by decide) (hts _ m_105) (fun _ h9 => h9) rfl d_Natural_against_14 ?_
      refine lv_iload_n hx hb d_Natural_against_17 rfl (lv_at hl 0 rfl) ?_
      refine va_iald hx hb hK hP 3 0 rfl rfl (q_in t_x2 (by omega)) d_Natural_against_18 ?_
      refine lv_topi (fun v18 e18 => ?_)
      rw [q_cl (k := i - 1) (t_x2.trans (by omega))] at e18
      refine lv_icmp_eq (tgt := 54) hx hb d_Natural_against_19 (by decide) (fun b19 => ?_) (fun b19 => ?_)
      · skip
        obtain ⟨v54, e54⟩ : ∃ y : Int32, y = x2 + (-1) := ⟨_, rfl⟩
        have t54 : v54.toInt = (i : Int) - 1 + (-1) := by rw [e54]; exact q_iadd t_x2 (show ((-1) : Int32).toInt = (-1) by decide) (by omega)
        refine lv_iinc (v := v54) (lv' := [(2, .int v54), (1, .ref h1), (0, .ref h0)]) hx hb d_Natural_against_54 hl (k := 0) rfl (by rw [e54]; rfl) (by decide) rfl (fun ls hl => ?_)
        refine lv_goto (tgt := 3) hx hb d_Natural_against_57 (by decide) ?_
        exact ih (v54) (i - 1) H locs ls (by omega) ((t54).trans (by omega)) (by omega) (by intro j h1 h2; rcases Nat.lt_or_ge j i with h | h; rw [show j = i - 1 by omega, ← e12, ← e18]; exact b19; exact hs j h h2) (va_Psub hP [0, 1, 2, 3] rfl) (hD.sub [0, 1, 2, 3] (by decide) rfl) hS (lv_sub hl [0, 1, 2] rfl)
      · skip
        refine lv_aload_n hx hb d_Natural_against_22 rfl (lv_at hl 2 rfl) ?_
        refine va_get (D := (dC, dI)) (ci := 1) (v := .ref a0) (C := R_Natural) (T := F_Natural) (N := 1) hx hb hts u_Natural hown hK hP 0 rfl rfl 0 (by decide) (hts _ m_105) (fun _ h9 => h9) rfl d_Natural_against_23 ?_
        refine lv_iload_n hx hb d_Natural_against_26 rfl (lv_at hl 0 rfl) ?_
        refine va_iald hx hb hK hP 1 0 rfl rfl (q_in t_x2 (by omega)) d_Natural_against_27 ?_
        refine lv_topi (fun v27 e27 => ?_)
        rw [q_cl (k := i - 1) (t_x2.trans (by omega))] at e27
        refine lv_i2l hx hb d_Natural_against_28 rfl ?_
        refine lv_topl (fun v28 e28 => ?_)
        refine lv_ldc2 (v := 4294967295) hx hb hown (hts _ m_273) d_Natural_against_29 ?_
        refine lv_land hx hb d_Natural_against_32 ?_
        refine lv_topl (fun v32 e32 => ?_)
        have t32 : v32.toInt = (uw v27 : Int) := by rw [e32, e28]; exact q_lo v27
        refine lv_aload_n hx hb d_Natural_against_33 rfl (lv_at hl 1 rfl) ?_
        refine va_get (D := (dC, dI)) (ci := 1) (v := .ref a1) (C := R_Natural) (T := F_Natural) (N := 1) hx hb hts u_Natural hown hK hP 2 rfl rfl 0 (by decide) (hts _ m_105) (fun _ h9 => h9) rfl d_Natural_against_34 ?_
        refine lv_iload_n hx hb d_Natural_against_37 rfl (lv_at hl 0 rfl) ?_
        refine va_iald hx hb hK hP 3 0 rfl rfl (q_in t_x2 (by omega)) d_Natural_against_38 ?_
        refine lv_topi (fun v38 e38 => ?_)
        rw [q_cl (k := i - 1) (t_x2.trans (by omega))] at e38
        refine lv_i2l hx hb d_Natural_against_39 rfl ?_
        refine lv_topl (fun v39 e39 => ?_)
        refine lv_ldc2 (v := 4294967295) hx hb hown (hts _ m_273) d_Natural_against_40 ?_
        refine lv_land hx hb d_Natural_against_43 ?_
        refine lv_topl (fun v43 e43 => ?_)
        have t43 : v43.toInt = (uw v38 : Int) := by rw [e43, e39]; exact q_lo v38
        refine W.lcmp hx hb d_Natural_against_44 ?_
        refine lv_if_ge (tgt := 52) hx hb d_Natural_against_45 (by decide) (fun b45 => ?_) (fun b45 => ?_)
        · skip
          rw [q_cmp_ge t32 t43] at b45
          refine lv_iconst (v := 1) hx hb d_Natural_against_52 (by decide) ?_
          have hne : uw v27 ≠ uw v38 := fun h => b19 (by rw [e12, e18, ← e27, ← e38]; exact uw_inj h)
          have hlt := nv_less (f := g) (h := f) (n := 12) (i := i - 1) (by omega) (fun j h1 h2 => (hs j (by omega) h2).symm) (by rw [← e27, ← e38]; omega)
          exact Ci.ret C0 (v := 1) (u := ()) (Nat.le_of_ble_eq_true rfl) (Nat.le_of_ble_eq_true rfl) (by exact Or.inr (Or.inr ⟨hlt, rfl⟩)) hP hD hS [0, 1, 2, 3] (by decide) rfl d_Natural_against_53
        · skip
          rw [q_cmp_ge t32 t43] at b45
          refine lv_iconst (v := (-1)) hx hb d_Natural_against_48 (by decide) ?_
          refine lv_goto (tgt := 53) hx hb d_Natural_against_49 (by decide) ?_
          have hlt := nv_less (f := f) (h := g) (n := 12) (i := i - 1) (by omega) (fun j h1 h2 => hs j (by omega) h2) (by rw [← e27, ← e38]; omega)
          exact Ci.ret C0 (v := (-1)) (u := ()) (Nat.le_of_ble_eq_true rfl) (Nat.le_of_ble_eq_true rfl) (by exact Or.inl ⟨hlt, rfl⟩) hP hD hS [0, 1, 2, 3] (by decide) rfl d_Natural_against_53
set_option maxHeartbeats 4000000 in
set_option maxRecDepth 100000 in
theorem c_Natural_against (l : Launch) (dC : Nat → ClassId) (dI : Nat → Nat → Nat) (cI cB cJ : ClassId) (h0 : Nat) (a0 : Nat) (f : Nat → Int32) (h1 : Nat) (a1 : Nat) (g : Nat → Int32)  : Ci l dC dI cI cB cJ y_Natural_against w_Natural_against ({ frames := 0, cells := 0, slots := 0, locals := 0 } : Room) [.ref h0, .ref h1] [(h0, .inr (1, [.ref a0])), (a0, .inl (cI, 12, .inl f)), (h1, .inr (1, [.ref a1])), (a1, .inl (cI, 12, .inl g))] (fun (r : Int32) (u : Unit) => (nv f 12 < nv g 12 ∧ r = -1) ∨ (nv f 12 = nv g 12 ∧ r = 0) ∨ (nv g 12 < nv f 12 ∧ r = 1)) (fun u : Unit => [(h0, .inr (1, [.ref a0])), (a0, .inl (cI, 12, .inl f)), (h1, .inr (1, [.ref a1])), (a1, .inl (cI, 12, .inl g))]) := by
  refine Ci.intro (cc := b_Natural_against) (maxL := 3) (by decide) rfl (Nat.le_of_ble_eq_true rfl) ?_
  intro p e s m below meth c A ls C0 hin hA hP hD hS hl
  obtain ⟨hx, hb, hml, hown, hts, hr, hlocks, hK, hN⟩ := id C0
  obtain ⟨H, hH⟩ : ∃ H, H = s.heap := ⟨_, rfl⟩
  have hP : va_P (dC, dI) vwCl [(h0, .inr (1, [.ref a0])), (a0, .inl (cI, 12, .inl f)), (h1, .inr (1, [.ref a1])), (a1, .inl (cI, 12, .inl g))] s.heap := hP
  have hl : lv_has ls 3 [(0, .ref h0), (1, .ref h1)] := hl
  suffices h : ∀ (H : Heap) (locs : List Loc), va_P (dC, dI) vwCl [(h0, .inr (1, [.ref a0])), (a0, .inl (cI, 12, .inl f)), (h1, .inr (1, [.ref a1])), (a1, .inl (cI, 12, .inl g))] H → va_D A [(h0, .inr (1, [.ref a0])), (a0, .inl (cI, 12, .inl f)), (h1, .inr (1, [.ref a1])), (a1, .inl (cI, 12, .inl g))] → va_S A s.heap H locs → W p l e ({ frames := 0, cells := 0, slots := 0, locals := 0 } : Room) s m ([.ref h0, .ref h1] : List Value).toArray below meth c H locs 0 0 (MQ below (va_Qi (fun (r : Int32) (u : Unit) => (nv f 12 < nv g 12 ∧ r = -1) ∨ (nv f 12 = nv g 12 ∧ r = 0) ∨ (nv g 12 < nv f 12 ∧ r = 1)) (poG dC dI A (fun u : Unit => [(h0, .inr (1, [.ref a0])), (a0, .inl (cI, 12, .inl f)), (h1, .inr (1, [.ref a1])), (a1, .inl (cI, 12, .inl g))])) A) ([.ref h0, .ref h1] : List Value).toArray s 0 0 A) (F0 m 0 ls []) from h _ _ hP hD hS
  clear hP hD hS hH H
  intro H locs hP hD hS
  refine lv_bipush (v := 11) hx hb d_Natural_against_0 (by decide) ?_
  refine lv_istore_n (lv' := [(2, .int 11), (0, .ref h0), (1, .ref h1)]) hx hb d_Natural_against_2 rfl hl (by decide) rfl (fun ls hl => ?_)
  exact L_Natural_against_3 (h0) (a0) (f) (h1) (a1) (g) C0 hA  _ (11) (12) H locs ls (Nat.lt_succ_self _) (((show (11 : Int32).toInt = 11 by decide)).trans (by omega)) (by omega) (by intro j h1 h2; omega) (va_Psub hP [0, 1, 2, 3] rfl) (hD.sub [0, 1, 2, 3] (by decide) rfl) hS (lv_sub hl [0, 2, 1] rfl)
set_option maxHeartbeats 4000000 in
set_option maxRecDepth 100000 in
theorem L_Natural_copy_2 {p : Program} {l : Launch} {e : Env} {s : State} {m : MethodId} {below : List Frame} {meth : Method} {c : Code} {dC : Nat → ClassId} {dI : Nat → Nat → Nat} {cI cB cJ : ClassId} {A : Nat → Prop} (h0 : Nat) (a0 : Nat) (f : Nat → Int32) (h1 : Nat) (a1 : Nat) (g : Nat → Int32) (C0 : cx dC dI cI cB cJ R_Natural b_Natural_copy 3 none p s m ([.ref h0, .ref h1] : List Value).toArray meth c) (hA : ∀ q : Nat, s.heap.size ≤ q → A q)  : ∀ n : Nat, (∀ (x2 : Int32) (i : Nat) (k : Nat → Int32) (H : Heap) (locs : List Loc) (ls : Array Slot), 12 - i < n → x2.toInt = (i : Int) → (i ≤ 12) → (∀ j, j < i → k j = g j) → va_P (dC, dI) vwCl [(h0, .inr (1, [.ref a0])), (a0, .inl (cI, 12, .inl k)), (h1, .inr (1, [.ref a1])), (a1, .inl (cI, 12, .inl g))] H → va_D A [(h0, .inr (1, [.ref a0])), (a0, .inl (cI, 12, .inl k)), (h1, .inr (1, [.ref a1])), (a1, .inl (cI, 12, .inl g))] → va_S A s.heap H locs → lv_has ls 3 [(2, .int x2), (1, .ref h1), (0, .ref h0)] → W p l e ({ frames := 0, cells := 0, slots := 0, locals := 0 } : Room) s m ([.ref h0, .ref h1] : List Value).toArray below meth c H locs 0 0 (MQ below (va_Qv (fun (u : (Nat → Int32)) => nv u 12 = nv g 12) (poG dC dI A (fun u : (Nat → Int32) => [(h0, .inr (1, [.ref a0])), (a0, .inl (cI, 12, .inl u)), (h1, .inr (1, [.ref a1])), (a1, .inl (cI, 12, .inl g))])) A) ([.ref h0, .ref h1] : List Value).toArray s 0 0 A) (F0 m 2 ls [])) := by
  obtain ⟨hx, hb, hml, hown, hts, hr, hlocks, hK, hN⟩ := id C0
  intro n
  induction n with
  | zero => exact fun _ _ _ _ _ _ h0 _ _ _ _ _ _ _ => absurd h0 (Nat.not_lt_zero _)
  | succ n ih =>
    intro x2 i k H locs ls hn t_x2 hi hs hP hD hS hl
    have r_x2 := q_r32 x2
    refine lv_iload_n hx hb d_Natural_copy_2 rfl (lv_at hl 0 rfl) ?_
    refine lv_bipush (v := 12) hx hb d_Natural_copy_3 (by decide) ?_
    refine lv_icmp_ge (tgt := 26) hx hb d_Natural_copy_5 (by decide) (fun b5 => ?_) (fun b5 => ?_)
    · skip
      rw [q_ile (show (12 : Int32).toInt = 12 by decide) t_x2] at b5
      exact Cv.ret C0 (u := (k)) (Nat.le_of_ble_eq_true rfl) (Nat.le_of_ble_eq_true rfl) (by exact nv_congr (fun j hj => hs j (by omega))) hP hD hS [0, 1, 2, 3] (by decide) rfl d_Natural_copy_26
    · skip
      rw [q_ile (show (12 : Int32).toInt = 12 by decide) t_x2] at b5
      refine lv_aload_n hx hb d_Natural_copy_8 rfl (lv_at hl 2 rfl) ?_
      refine va_get (D := (dC, dI)) (ci := 1) (v := .ref a0) (C := R_Natural) (T := F_Natural) (N := 1) hx hb hts u_Natural hown hK hP 0 rfl rfl 0 (by decide) (hts _ m_105) (fun _ h9 => h9) rfl d_Natural_copy_9 ?_
      refine lv_iload_n hx hb d_Natural_copy_12 rfl (lv_at hl 0 rfl) ?_
      refine lv_aload_n hx hb d_Natural_copy_13 rfl (lv_at hl 1 rfl) ?_
      refine va_get (D := (dC, dI)) (ci := 1) (v := .ref a1) (C := R_Natural) (T := F_Natural) (N := 1) hx hb hts u_Natural hown hK hP 2 rfl rfl 0 (by decide) (hts _ m_105) (fun _ h9 => h9) rfl d_Natural_copy_14 ?_
      refine lv_iload_n hx hb d_Natural_copy_17 rfl (lv_at hl 0 rfl) ?_
      refine va_iald hx hb hK hP 3 0 rfl rfl (q_in t_x2 (by omega)) d_Natural_copy_18 ?_
      refine lv_topi (fun v18 e18 => ?_)
      rw [q_cl (k := i) (t_x2)] at e18
      refine va_iast hx hb hK hP hD hS 1 0 rfl rfl (q_in t_x2 (by omega)) d_Natural_copy_19 (fun H locs hP hD hS => ?_)
      rw [q_cl (k := i) (t_x2)] at hP hD
      have hP : va_P (dC, dI) vwCl [(h0, .inr (1, [.ref a0])), (a0, .inl (cI, 12, .inl (upd k i v18))), (h1, .inr (1, [.ref a1])), (a1, .inl (cI, 12, .inl g))] H := hP
      have hD : va_D A [(h0, .inr (1, [.ref a0])), (a0, .inl (cI, 12, .inl (upd k i v18))), (h1, .inr (1, [.ref a1])), (a1, .inl (cI, 12, .inl g))] := hD
      obtain ⟨v20, e20⟩ : ∃ y : Int32, y = x2 + 1 := ⟨_, rfl⟩
      have t20 : v20.toInt = (i : Int) + 1 := by rw [e20]; exact q_iadd t_x2 (show (1 : Int32).toInt = 1 by decide) (by omega)
      refine lv_iinc (v := v20) (lv' := [(2, .int v20), (1, .ref h1), (0, .ref h0)]) hx hb d_Natural_copy_20 hl (k := 0) rfl (by rw [e20]; rfl) (by decide) rfl (fun ls hl => ?_)
      refine lv_goto (tgt := 2) hx hb d_Natural_copy_23 (by decide) ?_
      exact ih (v20) (i + 1) (upd k i v18) H locs ls (by omega) ((t20).trans (by omega)) (by omega) (by intro j h; rcases Nat.lt_or_ge j i with h1 | h1; rw [pk_un (by omega)]; exact hs j h1; rw [show j = i by omega, pk_us, e18]) (va_Psub hP [0, 1, 2, 3] rfl) (hD.sub [0, 1, 2, 3] (by decide) rfl) hS (lv_sub hl [0, 1, 2] rfl)
set_option maxHeartbeats 4000000 in
set_option maxRecDepth 100000 in
theorem c_Natural_copy (l : Launch) (dC : Nat → ClassId) (dI : Nat → Nat → Nat) (cI cB cJ : ClassId) (h0 : Nat) (a0 : Nat) (f : Nat → Int32) (h1 : Nat) (a1 : Nat) (g : Nat → Int32)  : Cv l dC dI cI cB cJ y_Natural_copy w_Natural_copy ({ frames := 0, cells := 0, slots := 0, locals := 0 } : Room) [.ref h0, .ref h1] [(h0, .inr (1, [.ref a0])), (a0, .inl (cI, 12, .inl f)), (h1, .inr (1, [.ref a1])), (a1, .inl (cI, 12, .inl g))] (fun (u : (Nat → Int32)) => nv u 12 = nv g 12) (fun u : (Nat → Int32) => [(h0, .inr (1, [.ref a0])), (a0, .inl (cI, 12, .inl u)), (h1, .inr (1, [.ref a1])), (a1, .inl (cI, 12, .inl g))]) := by
  refine Cv.intro (cc := b_Natural_copy) (maxL := 3) (by decide) rfl (Nat.le_of_ble_eq_true rfl) ?_
  intro p e s m below meth c A ls C0 hin hA hP hD hS hl
  obtain ⟨hx, hb, hml, hown, hts, hr, hlocks, hK, hN⟩ := id C0
  obtain ⟨H, hH⟩ : ∃ H, H = s.heap := ⟨_, rfl⟩
  have hP : va_P (dC, dI) vwCl [(h0, .inr (1, [.ref a0])), (a0, .inl (cI, 12, .inl f)), (h1, .inr (1, [.ref a1])), (a1, .inl (cI, 12, .inl g))] s.heap := hP
  have hl : lv_has ls 3 [(0, .ref h0), (1, .ref h1)] := hl
  suffices h : ∀ (H : Heap) (locs : List Loc), va_P (dC, dI) vwCl [(h0, .inr (1, [.ref a0])), (a0, .inl (cI, 12, .inl f)), (h1, .inr (1, [.ref a1])), (a1, .inl (cI, 12, .inl g))] H → va_D A [(h0, .inr (1, [.ref a0])), (a0, .inl (cI, 12, .inl f)), (h1, .inr (1, [.ref a1])), (a1, .inl (cI, 12, .inl g))] → va_S A s.heap H locs → W p l e ({ frames := 0, cells := 0, slots := 0, locals := 0 } : Room) s m ([.ref h0, .ref h1] : List Value).toArray below meth c H locs 0 0 (MQ below (va_Qv (fun (u : (Nat → Int32)) => nv u 12 = nv g 12) (poG dC dI A (fun u : (Nat → Int32) => [(h0, .inr (1, [.ref a0])), (a0, .inl (cI, 12, .inl u)), (h1, .inr (1, [.ref a1])), (a1, .inl (cI, 12, .inl g))])) A) ([.ref h0, .ref h1] : List Value).toArray s 0 0 A) (F0 m 0 ls []) from h _ _ hP hD hS
  clear hP hD hS hH H
  intro H locs hP hD hS
  refine lv_iconst (v := 0) hx hb d_Natural_copy_0 (by decide) ?_
  refine lv_istore_n (lv' := [(2, .int 0), (0, .ref h0), (1, .ref h1)]) hx hb d_Natural_copy_1 rfl hl (by decide) rfl (fun ls hl => ?_)
  exact L_Natural_copy_2 (h0) (a0) (f) (h1) (a1) (g) C0 hA  _ (0) (0) (f) H locs ls (Nat.lt_succ_self _) (((show (0 : Int32).toInt = 0 by decide)).trans (by omega)) (by omega) (by intro j h; omega) (va_Psub hP [0, 1, 2, 3] rfl) (hD.sub [0, 1, 2, 3] (by decide) rfl) hS (lv_sub hl [0, 2, 1] rfl)
set_option maxHeartbeats 4000000 in
set_option maxRecDepth 100000 in
theorem L_Natural_set_2 {p : Program} {l : Launch} {e : Env} {s : State} {m : MethodId} {below : List Frame} {meth : Method} {c : Code} {dC : Nat → ClassId} {dI : Nat → Nat → Nat} {cI cB cJ : ClassId} {A : Nat → Prop} (h0 : Nat) (a0 : Nat) (f : Nat → Int32) (x : Int64) (C0 : cx dC dI cI cB cJ R_Natural b_Natural_set 4 none p s m ([.ref h0, .long x] : List Value).toArray meth c) (hA : ∀ q : Nat, s.heap.size ≤ q → A q)  : ∀ n : Nat, (∀ (x3 : Int32) (i : Nat) (k : Nat → Int32) (H : Heap) (locs : List Loc) (ls : Array Slot), 12 - i < n → x3.toInt = (i : Int) → (i ≤ 12) → (∀ j, 2 ≤ j → j < i → k j = 0) → va_P (dC, dI) vwCl [(h0, .inr (1, [.ref a0])), (a0, .inl (cI, 12, .inl k))] H → va_D A [(h0, .inr (1, [.ref a0])), (a0, .inl (cI, 12, .inl k))] → va_S A s.heap H locs → lv_has ls 4 [(3, .int x3), (1, .long x), (0, .ref h0)] → W p l e ({ frames := 0, cells := 0, slots := 0, locals := 0 } : Room) s m ([.ref h0, .long x] : List Value).toArray below meth c H locs 0 0 (MQ below (va_Qv (fun (u : (Nat → Int32)) => nv u 12 = ul x) (poG dC dI A (fun u : (Nat → Int32) => [(h0, .inr (1, [.ref a0])), (a0, .inl (cI, 12, .inl u))])) A) ([.ref h0, .long x] : List Value).toArray s 0 0 A) (F0 m 2 ls [])) := by
  obtain ⟨hx, hb, hml, hown, hts, hr, hlocks, hK, hN⟩ := id C0
  intro n
  induction n with
  | zero => exact fun _ _ _ _ _ _ h0 _ _ _ _ _ _ _ => absurd h0 (Nat.not_lt_zero _)
  | succ n ih =>
    intro x3 i k H locs ls hn t_x3 hi hs hP hD hS hl
    have r_x3 := q_r32 x3
    refine lv_iload_n hx hb d_Natural_set_2 rfl (lv_at hl 0 rfl) ?_
    refine lv_bipush (v := 12) hx hb d_Natural_set_3 (by decide) ?_
    refine lv_icmp_ge (tgt := 21) hx hb d_Natural_set_5 (by decide) (fun b5 => ?_) (fun b5 => ?_)
    · skip
      rw [q_ile (show (12 : Int32).toInt = 12 by decide) t_x3] at b5
      refine lv_aload_n hx hb d_Natural_set_21 rfl (lv_at hl 2 rfl) ?_
      refine va_get (D := (dC, dI)) (ci := 1) (v := .ref a0) (C := R_Natural) (T := F_Natural) (N := 1) hx hb hts u_Natural hown hK hP 0 rfl rfl 0 (by decide) (hts _ m_105) (fun _ h9 => h9) rfl d_Natural_set_22 ?_
      refine lv_iconst (v := 0) hx hb d_Natural_set_25 (by decide) ?_
      refine lv_lload_n hx hb d_Natural_set_26 rfl (lv_at hl 1 rfl) ?_
      refine lv_l2i hx hb d_Natural_set_27 rfl ?_
      refine lv_topi (fun v27 e27 => ?_)
      refine va_iast hx hb hK hP hD hS 1 0 rfl rfl (q_in (show (0 : Int32).toInt = 0 by decide) (by omega)) d_Natural_set_28 (fun H locs hP hD hS => ?_)
      rw [q_cl (k := 0) ((show (0 : Int32).toInt = 0 by decide))] at hP hD
      have hP : va_P (dC, dI) vwCl [(h0, .inr (1, [.ref a0])), (a0, .inl (cI, 12, .inl (upd k 0 v27)))] H := hP
      have hD : va_D A [(h0, .inr (1, [.ref a0])), (a0, .inl (cI, 12, .inl (upd k 0 v27)))] := hD
      refine lv_aload_n hx hb d_Natural_set_29 rfl (lv_at hl 2 rfl) ?_
      refine va_get (D := (dC, dI)) (ci := 1) (v := .ref a0) (C := R_Natural) (T := F_Natural) (N := 1) hx hb hts u_Natural hown hK hP 0 rfl rfl 0 (by decide) (hts _ m_105) (fun _ h9 => h9) rfl d_Natural_set_30 ?_
      refine lv_iconst (v := 1) hx hb d_Natural_set_33 (by decide) ?_
      refine lv_lload_n hx hb d_Natural_set_34 rfl (lv_at hl 1 rfl) ?_
      refine lv_bipush (v := 32) hx hb d_Natural_set_35 (by decide) ?_
      refine lv_lushr hx hb d_Natural_set_37 rfl ?_
      refine lv_topl (fun v37 e37 => ?_)
      refine lv_l2i hx hb d_Natural_set_38 rfl ?_
      refine lv_topi (fun v38 e38 => ?_)
      refine va_iast hx hb hK hP hD hS 1 0 rfl rfl (q_in (show (1 : Int32).toInt = 1 by decide) (by omega)) d_Natural_set_39 (fun H locs hP hD hS => ?_)
      rw [q_cl (k := 1) ((show (1 : Int32).toInt = 1 by decide))] at hP hD
      have hP : va_P (dC, dI) vwCl [(h0, .inr (1, [.ref a0])), (a0, .inl (cI, 12, .inl (upd (upd k 0 v27) 1 v38)))] H := hP
      have hD : va_D A [(h0, .inr (1, [.ref a0])), (a0, .inl (cI, 12, .inl (upd (upd k 0 v27) 1 v38)))] := hD
      have hz : ∀ j, 2 ≤ j → j < 12 → upd (upd k 0 v27) 1 v38 j = 0 := fun j h1 h2 => by rw [pk_un (by omega), pk_un (by omega)]; exact hs j h1 (by omega)
      have h1 := nv_split (f := upd (upd k 0 v27) 1 v38) (h := fun j => if j < 2 then upd (upd k 0 v27) 1 v38 j else 0) (n := 12) (i := 2) (by omega) (fun j h1 h2 => by rw [hz j h1 h2, if_neg (by omega)])
      have h2 := nv_top0 (f := fun j => if j < 2 then upd (upd k 0 v27) 1 v38 j else 0) (i := 2) (n := 12) (by omega) (fun j h1 h2 => by rw [if_neg (by omega)])
      have h3 : nv (upd (upd k 0 v27) 1 v38) 2 = ul x := by
        rw [nv_upd_s, show (1 : Nat) = 0 + 1 from rfl, nv_upd_s, e38, e27, e37, uw_l2i, uw_l2i, ul_s32]
        have := ul_lt x
        show 0 + ul x % 4294967296 * 1 + ul x / 4294967296 % 4294967296 * 4294967296 = ul x
        omega
      exact Cv.ret C0 (u := (upd (upd k 0 v27) 1 v38)) (Nat.le_of_ble_eq_true rfl) (Nat.le_of_ble_eq_true rfl) (by show nv (upd (upd k 0 v27) 1 v38) 12 = ul x; omega) hP hD hS [0, 1] (by decide) rfl d_Natural_set_40
    · skip
      rw [q_ile (show (12 : Int32).toInt = 12 by decide) t_x3] at b5
      refine lv_aload_n hx hb d_Natural_set_8 rfl (lv_at hl 2 rfl) ?_
      refine va_get (D := (dC, dI)) (ci := 1) (v := .ref a0) (C := R_Natural) (T := F_Natural) (N := 1) hx hb hts u_Natural hown hK hP 0 rfl rfl 0 (by decide) (hts _ m_105) (fun _ h9 => h9) rfl d_Natural_set_9 ?_
      refine lv_iload_n hx hb d_Natural_set_12 rfl (lv_at hl 0 rfl) ?_
      refine lv_iconst (v := 0) hx hb d_Natural_set_13 (by decide) ?_
      refine va_iast hx hb hK hP hD hS 1 0 rfl rfl (q_in t_x3 (by omega)) d_Natural_set_14 (fun H locs hP hD hS => ?_)
      rw [q_cl (k := i) (t_x3)] at hP hD
      have hP : va_P (dC, dI) vwCl [(h0, .inr (1, [.ref a0])), (a0, .inl (cI, 12, .inl (upd k i 0)))] H := hP
      have hD : va_D A [(h0, .inr (1, [.ref a0])), (a0, .inl (cI, 12, .inl (upd k i 0)))] := hD
      obtain ⟨v15, e15⟩ : ∃ y : Int32, y = x3 + 1 := ⟨_, rfl⟩
      have t15 : v15.toInt = (i : Int) + 1 := by rw [e15]; exact q_iadd t_x3 (show (1 : Int32).toInt = 1 by decide) (by omega)
      refine lv_iinc (v := v15) (lv' := [(3, .int v15), (1, .long x), (0, .ref h0)]) hx hb d_Natural_set_15 hl (k := 0) rfl (by rw [e15]; rfl) (by decide) rfl (fun ls hl => ?_)
      refine lv_goto (tgt := 2) hx hb d_Natural_set_18 (by decide) ?_
      exact ih (v15) (i + 1) (upd k i 0) H locs ls (by omega) ((t15).trans (by omega)) (by omega) (by intro j h0 h; rcases Nat.lt_or_ge j i with h1 | h1; rw [pk_un (by omega)]; exact hs j h0 h1; rw [show j = i by omega, pk_us]) (va_Psub hP [0, 1] rfl) (hD.sub [0, 1] (by decide) rfl) hS (lv_sub hl [0, 1, 2] rfl)
set_option maxHeartbeats 4000000 in
set_option maxRecDepth 100000 in
theorem c_Natural_set (l : Launch) (dC : Nat → ClassId) (dI : Nat → Nat → Nat) (cI cB cJ : ClassId) (h0 : Nat) (a0 : Nat) (f : Nat → Int32) (x : Int64)  : Cv l dC dI cI cB cJ y_Natural_set w_Natural_set ({ frames := 0, cells := 0, slots := 0, locals := 0 } : Room) [.ref h0, .long x] [(h0, .inr (1, [.ref a0])), (a0, .inl (cI, 12, .inl f))] (fun (u : (Nat → Int32)) => nv u 12 = ul x) (fun u : (Nat → Int32) => [(h0, .inr (1, [.ref a0])), (a0, .inl (cI, 12, .inl u))]) := by
  refine Cv.intro (cc := b_Natural_set) (maxL := 4) (by decide) rfl (Nat.le_of_ble_eq_true rfl) ?_
  intro p e s m below meth c A ls C0 hin hA hP hD hS hl
  obtain ⟨hx, hb, hml, hown, hts, hr, hlocks, hK, hN⟩ := id C0
  obtain ⟨H, hH⟩ : ∃ H, H = s.heap := ⟨_, rfl⟩
  have hP : va_P (dC, dI) vwCl [(h0, .inr (1, [.ref a0])), (a0, .inl (cI, 12, .inl f))] s.heap := hP
  have hl : lv_has ls 4 [(0, .ref h0), (1, .long x)] := hl
  suffices h : ∀ (H : Heap) (locs : List Loc), va_P (dC, dI) vwCl [(h0, .inr (1, [.ref a0])), (a0, .inl (cI, 12, .inl f))] H → va_D A [(h0, .inr (1, [.ref a0])), (a0, .inl (cI, 12, .inl f))] → va_S A s.heap H locs → W p l e ({ frames := 0, cells := 0, slots := 0, locals := 0 } : Room) s m ([.ref h0, .long x] : List Value).toArray below meth c H locs 0 0 (MQ below (va_Qv (fun (u : (Nat → Int32)) => nv u 12 = ul x) (poG dC dI A (fun u : (Nat → Int32) => [(h0, .inr (1, [.ref a0])), (a0, .inl (cI, 12, .inl u))])) A) ([.ref h0, .long x] : List Value).toArray s 0 0 A) (F0 m 0 ls []) from h _ _ hP hD hS
  clear hP hD hS hH H
  intro H locs hP hD hS
  refine lv_iconst (v := 2) hx hb d_Natural_set_0 (by decide) ?_
  refine lv_istore_n (lv' := [(3, .int 2), (0, .ref h0), (1, .long x)]) hx hb d_Natural_set_1 rfl hl (by decide) rfl (fun ls hl => ?_)
  exact L_Natural_set_2 (h0) (a0) (f) (x) C0 hA  _ (2) (2) (f) H locs ls (Nat.lt_succ_self _) (((show (2 : Int32).toInt = 2 by decide)).trans (by omega)) (by omega) (by intro j h h2; omega) (va_Psub hP [0, 1] rfl) (hD.sub [0, 1] (by decide) rfl) hS (lv_sub hl [0, 2, 1] rfl)
set_option maxHeartbeats 4000000 in
set_option maxRecDepth 100000 in
theorem L_Natural_timesPlus_6 {p : Program} {l : Launch} {e : Env} {s : State} {m : MethodId} {below : List Frame} {meth : Method} {c : Code} {dC : Nat → ClassId} {dI : Nat → Nat → Nat} {cI cB cJ : ClassId} {A : Nat → Prop} (h0 : Nat) (a0 : Nat) (f : Nat → Int32) (pf : Int32) (qa : Int32) (C0 : cx dC dI cI cB cJ R_Natural b_Natural_timesPlus 6 none p s m ([.ref h0, .int pf, .int qa] : List Value).toArray meth c) (hA : ∀ q : Nat, s.heap.size ≤ q → A q) (hp : 0 ≤ pf.toInt) (hq : 0 ≤ qa.toInt) : ∀ n : Nat, (∀ (x5 : Int32) (i : Nat) (c3 : Int64) (k : Nat → Int32) (H : Heap) (locs : List Loc) (ls : Array Slot), 12 - i < n → x5.toInt = (i : Int) → (i ≤ 12) → (∀ j, i ≤ j → k j = f j) → (nv k i + ul c3 * 2 ^ (32 * i) = nv f i * uw pf + uw qa) → (ul c3 < 4294967296) → va_P (dC, dI) vwCl [(h0, .inr (1, [.ref a0])), (a0, .inl (cI, 12, .inl k))] H → va_D A [(h0, .inr (1, [.ref a0])), (a0, .inl (cI, 12, .inl k))] → va_S A s.heap H locs → lv_has ls 6 [(5, .int x5), (3, .long c3), (2, .int qa), (1, .int pf), (0, .ref h0)] → W p l e ({ frames := 0, cells := 0, slots := 0, locals := 0 } : Room) s m ([.ref h0, .int pf, .int qa] : List Value).toArray below meth c H locs 0 0 (MQ below (va_Qv (fun (u : (Nat → Int32)) => nv u 12 = (nv f 12 * uw pf + uw qa) % 2 ^ (32 * 12)) (poG dC dI A (fun u : (Nat → Int32) => [(h0, .inr (1, [.ref a0])), (a0, .inl (cI, 12, .inl u))])) A) ([.ref h0, .int pf, .int qa] : List Value).toArray s 0 0 A) (F0 m 6 ls [])) := by
  obtain ⟨hx, hb, hml, hown, hts, hr, hlocks, hK, hN⟩ := id C0
  intro n
  induction n with
  | zero => exact fun _ _ _ _ _ _ _ h0 _ _ _ _ _ _ _ _ _ => absurd h0 (Nat.not_lt_zero _)
  | succ n ih =>
    intro x5 i c3 k H locs ls hn t_x5 hi hk hv hc hP hD hS hl
    have r_x5 := q_r32 x5
    refine lv_iload hx hb d_Natural_timesPlus_6 (lv_at hl 0 rfl) ?_
    refine lv_bipush (v := 12) hx hb d_Natural_timesPlus_8 (by decide) ?_
    refine lv_icmp_ge (tgt := 51) hx hb d_Natural_timesPlus_10 (by decide) (fun b10 => ?_) (fun b10 => ?_)
    · skip
      rw [q_ile (show (12 : Int32).toInt = 12 by decide) t_x5] at b10
      have hi2 : i = 12 := by omega
      subst hi2
      exact Cv.ret C0 (u := (k)) (Nat.le_of_ble_eq_true rfl) (Nat.le_of_ble_eq_true rfl) (by exact nv_mod_end hv) hP hD hS [0, 1] (by decide) rfl d_Natural_timesPlus_51
    · skip
      rw [q_ile (show (12 : Int32).toInt = 12 by decide) t_x5] at b10
      refine lv_lload_n hx hb d_Natural_timesPlus_13 rfl (lv_at hl 1 rfl) ?_
      refine lv_aload_n hx hb d_Natural_timesPlus_14 rfl (lv_at hl 4 rfl) ?_
      refine va_get (D := (dC, dI)) (ci := 1) (v := .ref a0) (C := R_Natural) (T := F_Natural) (N := 1) hx hb hts u_Natural hown hK hP 0 rfl rfl 0 (by decide) (hts _ m_105) (fun _ h9 => h9) rfl d_Natural_timesPlus_15 ?_
      refine lv_iload hx hb d_Natural_timesPlus_18 (lv_at hl 0 rfl) ?_
      refine va_iald hx hb hK hP 1 0 rfl rfl (q_in t_x5 (by omega)) d_Natural_timesPlus_20 ?_
      refine lv_topi (fun v20 e20 => ?_)
      rw [q_cl (k := i) (t_x5)] at e20
      refine lv_i2l hx hb d_Natural_timesPlus_21 rfl ?_
      refine lv_topl (fun v21 e21 => ?_)
      refine lv_ldc2 (v := 4294967295) hx hb hown (hts _ m_273) d_Natural_timesPlus_22 ?_
      refine lv_land hx hb d_Natural_timesPlus_25 ?_
      refine lv_topl (fun v25 e25 => ?_)
      refine lv_iload_n hx hb d_Natural_timesPlus_26 rfl (lv_at hl 3 rfl) ?_
      refine lv_i2l hx hb d_Natural_timesPlus_27 rfl ?_
      refine lv_topl (fun v27 e27 => ?_)
      refine lv_lmul hx hb d_Natural_timesPlus_28 ?_
      refine lv_topl (fun v28 e28 => ?_)
      refine lv_ladd hx hb d_Natural_timesPlus_29 ?_
      refine lv_topl (fun v29 e29 => ?_)
      refine lv_lstore_n (lv' := [(3, .long v29), (5, .int x5), (2, .int qa), (1, .int pf), (0, .ref h0)]) hx hb d_Natural_timesPlus_30 rfl hl (by decide) rfl (fun ls hl => ?_)
      refine lv_aload_n hx hb d_Natural_timesPlus_31 rfl (lv_at hl 4 rfl) ?_
      refine va_get (D := (dC, dI)) (ci := 1) (v := .ref a0) (C := R_Natural) (T := F_Natural) (N := 1) hx hb hts u_Natural hown hK hP 0 rfl rfl 0 (by decide) (hts _ m_105) (fun _ h9 => h9) rfl d_Natural_timesPlus_32 ?_
      refine lv_iload hx hb d_Natural_timesPlus_35 (lv_at hl 1 rfl) ?_
      refine lv_lload_n hx hb d_Natural_timesPlus_37 rfl (lv_at hl 0 rfl) ?_
      refine lv_l2i hx hb d_Natural_timesPlus_38 rfl ?_
      refine lv_topi (fun v38 e38 => ?_)
      refine va_iast hx hb hK hP hD hS 1 0 rfl rfl (q_in t_x5 (by omega)) d_Natural_timesPlus_39 (fun H locs hP hD hS => ?_)
      rw [q_cl (k := i) (t_x5)] at hP hD
      have hP : va_P (dC, dI) vwCl [(h0, .inr (1, [.ref a0])), (a0, .inl (cI, 12, .inl (upd k i v38)))] H := hP
      have hD : va_D A [(h0, .inr (1, [.ref a0])), (a0, .inl (cI, 12, .inl (upd k i v38)))] := hD
      refine lv_lload_n hx hb d_Natural_timesPlus_40 rfl (lv_at hl 0 rfl) ?_
      refine lv_bipush (v := 32) hx hb d_Natural_timesPlus_41 (by decide) ?_
      refine lv_lushr hx hb d_Natural_timesPlus_43 rfl ?_
      refine lv_topl (fun v43 e43 => ?_)
      refine lv_lstore_n (lv' := [(3, .long v43), (5, .int x5), (2, .int qa), (1, .int pf), (0, .ref h0)]) hx hb d_Natural_timesPlus_44 rfl hl (by decide) rfl (fun ls hl => ?_)
      obtain ⟨v45, e45⟩ : ∃ y : Int32, y = x5 + 1 := ⟨_, rfl⟩
      have t45 : v45.toInt = (i : Int) + 1 := by rw [e45]; exact q_iadd t_x5 (show (1 : Int32).toInt = 1 by decide) (by omega)
      refine lv_iinc (v := v45) (lv' := [(5, .int v45), (3, .long v43), (2, .int qa), (1, .int pf), (0, .ref h0)]) hx hb d_Natural_timesPlus_45 hl (k := 1) rfl (by rw [e45]; rfl) (by decide) rfl (fun ls hl => ?_)
      refine lv_goto (tgt := 6) hx hb d_Natural_timesPlus_48 (by decide) ?_
      have hp2 := uw_lt pf
      have hp3 := uw_half hp
      have hlf := uw_lt (f i)
      have k25 : ul v25 = uw (f i) := by rw [e25, e21, ul_i2l_lo, e20, hk i (Nat.le_refl i)]
      have k27 : ul v27 = uw pf := by rw [e27]; exact ul_i2l hp
      have hm : uw (f i) * uw pf ≤ 4294967295 * 2147483647 := Nat.mul_le_mul (by omega) (by omega)
      have k28 : ul v28 = uw (f i) * uw pf := by rw [e28, ul_mul, k25, k27, Nat.mod_eq_of_lt (by omega)]
      have k29 : ul v29 = ul c3 + uw (f i) * uw pf := by rw [e29, ul_add, k28, Nat.mod_eq_of_lt (by omega)]
      have k38 : uw v38 = (ul c3 + uw (f i) * uw pf) % 4294967296 := by rw [e38, uw_l2i, k29]
      have k43 : ul v43 = (ul c3 + uw (f i) * uw pf) / 4294967296 := by rw [e43, ul_s32, k29]
      have hstep := nv_mul_step hv k38
      exact ih (v45) (i + 1) (v43) (upd k i v38) H locs ls (by omega) ((t45).trans (by omega)) (by omega) (by intro j h; rw [pk_un (by omega)]; exact hk j (by omega)) (by rw [k43]; exact hstep) (by rw [k43]; omega) (va_Psub hP [0, 1] rfl) (hD.sub [0, 1] (by decide) rfl) hS (lv_sub hl [0, 1, 2, 3, 4] rfl)
set_option maxHeartbeats 4000000 in
set_option maxRecDepth 100000 in
theorem c_Natural_timesPlus (l : Launch) (dC : Nat → ClassId) (dI : Nat → Nat → Nat) (cI cB cJ : ClassId) (h0 : Nat) (a0 : Nat) (f : Nat → Int32) (pf : Int32) (qa : Int32) (hp : 0 ≤ pf.toInt) (hq : 0 ≤ qa.toInt) : Cv l dC dI cI cB cJ y_Natural_timesPlus w_Natural_timesPlus ({ frames := 0, cells := 0, slots := 0, locals := 0 } : Room) [.ref h0, .int pf, .int qa] [(h0, .inr (1, [.ref a0])), (a0, .inl (cI, 12, .inl f))] (fun (u : (Nat → Int32)) => nv u 12 = (nv f 12 * uw pf + uw qa) % 2 ^ (32 * 12)) (fun u : (Nat → Int32) => [(h0, .inr (1, [.ref a0])), (a0, .inl (cI, 12, .inl u))]) := by
  refine Cv.intro (cc := b_Natural_timesPlus) (maxL := 6) (by decide) rfl (Nat.le_of_ble_eq_true rfl) ?_
  intro p e s m below meth c A ls C0 hin hA hP hD hS hl
  obtain ⟨hx, hb, hml, hown, hts, hr, hlocks, hK, hN⟩ := id C0
  obtain ⟨H, hH⟩ : ∃ H, H = s.heap := ⟨_, rfl⟩
  have hP : va_P (dC, dI) vwCl [(h0, .inr (1, [.ref a0])), (a0, .inl (cI, 12, .inl f))] s.heap := hP
  have hl : lv_has ls 6 [(0, .ref h0), (1, .int pf), (2, .int qa)] := hl
  suffices h : ∀ (H : Heap) (locs : List Loc), va_P (dC, dI) vwCl [(h0, .inr (1, [.ref a0])), (a0, .inl (cI, 12, .inl f))] H → va_D A [(h0, .inr (1, [.ref a0])), (a0, .inl (cI, 12, .inl f))] → va_S A s.heap H locs → W p l e ({ frames := 0, cells := 0, slots := 0, locals := 0 } : Room) s m ([.ref h0, .int pf, .int qa] : List Value).toArray below meth c H locs 0 0 (MQ below (va_Qv (fun (u : (Nat → Int32)) => nv u 12 = (nv f 12 * uw pf + uw qa) % 2 ^ (32 * 12)) (poG dC dI A (fun u : (Nat → Int32) => [(h0, .inr (1, [.ref a0])), (a0, .inl (cI, 12, .inl u))])) A) ([.ref h0, .int pf, .int qa] : List Value).toArray s 0 0 A) (F0 m 0 ls []) from h _ _ hP hD hS
  clear hP hD hS hH H
  intro H locs hP hD hS
  refine lv_iload_n hx hb d_Natural_timesPlus_0 rfl (lv_at hl 2 rfl) ?_
  refine lv_i2l hx hb d_Natural_timesPlus_1 rfl ?_
  refine lv_topl (fun v1 e1 => ?_)
  refine lv_lstore_n (lv' := [(3, .long v1), (0, .ref h0), (1, .int pf), (2, .int qa)]) hx hb d_Natural_timesPlus_2 rfl hl (by decide) rfl (fun ls hl => ?_)
  refine lv_iconst (v := 0) hx hb d_Natural_timesPlus_3 (by decide) ?_
  refine lv_istore (lv' := [(5, .int 0), (3, .long v1), (0, .ref h0), (1, .int pf), (2, .int qa)]) hx hb d_Natural_timesPlus_4 hl (by decide) rfl (fun ls hl => ?_)
  exact L_Natural_timesPlus_6 (h0) (a0) (f) (pf) (qa) C0 hA (hp) (hq) _ (0) (0) (v1) (f) H locs ls (Nat.lt_succ_self _) (((show (0 : Int32).toInt = 0 by decide)).trans (by omega)) (by omega) (by intro j h; rfl) (by rw [e1]; have h := ul_i2l hq; show 0 + ul qa.toInt64 * 1 = 0 * uw pf + uw qa; omega) (by rw [e1, ul_i2l hq]; exact uw_lt qa) (va_Psub hP [0, 1] rfl) (hD.sub [0, 1] (by decide) rfl) hS (lv_sub hl [0, 1, 4, 3, 2] rfl)
end
section
set_option maxHeartbeats 4000000 in
set_option maxRecDepth 100000 in
theorem c_Natural_init (l : Launch) (dC : Nat → ClassId) (dI : Nat → Nat → Nat) (cI cB cJ : ClassId) (h0 : Nat)  : Cv l dC dI cI cB cJ y_Natural_init w_Natural_init ({ frames := 1, cells := 1, slots := 12, locals := 12 } : Room) [.ref h0] [(h0, .inr (1, [.null]))] (fun (u : (Nat) × (Nat → Int32)) => nv u.2 12 = 0) (fun u : (Nat) × (Nat → Int32) => [(h0, .inr (1, [.ref u.1])), (u.1, .inl (cI, 12, .inl u.2))]) := by
  refine Cv.intro (cc := b_Natural_init) (maxL := 1) (by decide) rfl (Nat.le_of_ble_eq_true rfl) ?_
  intro p e s m below meth c A ls C0 hin hA hP hD hS hl
  obtain ⟨hx, hb, hml, hown, hts, hr, hlocks, hK, hN⟩ := id C0
  obtain ⟨H, hH⟩ : ∃ H, H = s.heap := ⟨_, rfl⟩
  have hP : va_P (dC, dI) vwCl [(h0, .inr (1, [.null]))] s.heap := hP
  have hl : lv_has ls 1 [(0, .ref h0)] := hl
  suffices h : ∀ (H : Heap) (locs : List Loc), va_P (dC, dI) vwCl [(h0, .inr (1, [.null]))] H → va_D A [(h0, .inr (1, [.null]))] → va_S A s.heap H locs → W p l e ({ frames := 1, cells := 1, slots := 12, locals := 12 } : Room) s m ([.ref h0] : List Value).toArray below meth c H locs 0 0 (MQ below (va_Qv (fun (u : (Nat) × (Nat → Int32)) => nv u.2 12 = 0) (poG dC dI A (fun u : (Nat) × (Nat → Int32) => [(h0, .inr (1, [.ref u.1])), (u.1, .inl (cI, 12, .inl u.2))])) A) ([.ref h0] : List Value).toArray s 1 12 A) (F0 m 0 ls []) from h _ _ hP hD hS
  clear hP hD hS hH H
  intro H locs hP hD hS
  refine lv_aload_n hx hb d_Natural_init_0 rfl (lv_at hl 0 rfl) ?_
  refine W.objInit hx hb hown (hts _ m_104) (hts _ m_70) (hts _ m_71) rfl (by rw [hml]; exact hl.1) rfl d_Natural_init_1 (Nat.le_of_ble_eq_true rfl) (Nat.le_of_ble_eq_true rfl) ?_
  refine W.eq (g2 := F0 m 4 ls []) rfl ?_
  refine lv_aload_n hx hb d_Natural_init_4 rfl (lv_at hl 0 rfl) ?_
  refine lv_bipush (v := 12) hx hb d_Natural_init_5 (by decide) ?_
  refine newI C0 hP hD hS hA (n := 12) (N := 12) (by decide) (by decide) (by decide) (Nat.le_of_ble_eq_true rfl) (Nat.le_of_ble_eq_true rfl) d_Natural_init_7 (fun qa H hP hD hS => ?_)
  have hP : va_P (dC, dI) vwCl [(h0, .inr (1, [.null])), (qa, .inl (cI, 12, .inl (fun _ => 0)))] H := hP
  have hD : va_D A [(h0, .inr (1, [.null])), (qa, .inl (cI, 12, .inl (fun _ => 0)))] := hD
  refine va_putF (D := (dC, dI)) (ci := 1) (v := .ref qa) (ty := .array .int) (C := R_Natural) (T := F_Natural) (N := 1) hx hb hts u_Natural t_Natural t_Natural_ok n_Natural hown hK hP hD hS 0 rfl rfl 0 (by decide) (hts _ m_105) (fun _ h9 => h9) rfl hin rfl (by decide +kernel) rfl rfl (Nat.le_of_ble_eq_true rfl) d_Natural_init_9 (fun H locs hP hD hS => ?_)
  have hP : va_P (dC, dI) vwCl [(h0, .inr (1, [.ref qa])), (qa, .inl (cI, 12, .inl (fun _ => 0)))] H := hP
  have hD : va_D A [(h0, .inr (1, [.ref qa])), (qa, .inl (cI, 12, .inl (fun _ => 0)))] := hD
  exact Cv.ret C0 (u := (qa, (fun _ => 0))) (Nat.le_of_ble_eq_true rfl) (Nat.le_of_ble_eq_true rfl) (by exact nv_zero (fun _ _ => rfl)) hP hD hS [0, 1] (by decide) rfl d_Natural_init_12
set_option maxHeartbeats 4000000 in
set_option maxRecDepth 100000 in
theorem L_Natural_add_5 {p : Program} {l : Launch} {e : Env} {s : State} {m : MethodId} {below : List Frame} {meth : Method} {c : Code} {dC : Nat → ClassId} {dI : Nat → Nat → Nat} {cI cB cJ : ClassId} {A : Nat → Prop} (h0 : Nat) (a0 : Nat) (f : Nat → Int32) (h1 : Nat) (a1 : Nat) (g : Nat → Int32) (C0 : cx dC dI cI cB cJ R_Natural b_Natural_add 5 none p s m ([.ref h0, .ref h1] : List Value).toArray meth c) (hA : ∀ q : Nat, s.heap.size ≤ q → A q)  : ∀ n : Nat, (∀ (x4 : Int32) (i : Nat) (c2 : Int64) (k : Nat → Int32) (H : Heap) (locs : List Loc) (ls : Array Slot), 12 - i < n → x4.toInt = (i : Int) → (i ≤ 12) → (∀ j, i ≤ j → k j = f j) → (nv k i + ul c2 * 2 ^ (32 * i) = nv f i + nv g i) → (ul c2 < 2) → va_P (dC, dI) vwCl [(h0, .inr (1, [.ref a0])), (a0, .inl (cI, 12, .inl k)), (h1, .inr (1, [.ref a1])), (a1, .inl (cI, 12, .inl g))] H → va_D A [(h0, .inr (1, [.ref a0])), (a0, .inl (cI, 12, .inl k)), (h1, .inr (1, [.ref a1])), (a1, .inl (cI, 12, .inl g))] → va_S A s.heap H locs → lv_has ls 5 [(4, .int x4), (2, .long c2), (1, .ref h1), (0, .ref h0)] → W p l e ({ frames := 0, cells := 0, slots := 0, locals := 0 } : Room) s m ([.ref h0, .ref h1] : List Value).toArray below meth c H locs 0 0 (MQ below (va_Qv (fun (u : (Nat → Int32)) => nv u 12 = (nv f 12 + nv g 12) % 2 ^ (32 * 12)) (poG dC dI A (fun u : (Nat → Int32) => [(h0, .inr (1, [.ref a0])), (a0, .inl (cI, 12, .inl u)), (h1, .inr (1, [.ref a1])), (a1, .inl (cI, 12, .inl g))])) A) ([.ref h0, .ref h1] : List Value).toArray s 0 0 A) (F0 m 5 ls [])) := by
  obtain ⟨hx, hb, hml, hown, hts, hr, hlocks, hK, hN⟩ := id C0
  intro n
  induction n with
  | zero => exact fun _ _ _ _ _ _ _ h0 _ _ _ _ _ _ _ _ _ => absurd h0 (Nat.not_lt_zero _)
  | succ n ih =>
    intro x4 i c2 k H locs ls hn t_x4 hi hk hv hc hP hD hS hl
    have r_x4 := q_r32 x4
    refine lv_iload hx hb d_Natural_add_5 (lv_at hl 0 rfl) ?_
    refine lv_bipush (v := 12) hx hb d_Natural_add_7 (by decide) ?_
    refine lv_icmp_ge (tgt := 60) hx hb d_Natural_add_9 (by decide) (fun b9 => ?_) (fun b9 => ?_)
    · skip
      rw [q_ile (show (12 : Int32).toInt = 12 by decide) t_x4] at b9
      have hi2 : i = 12 := by omega
      subst hi2
      exact Cv.ret C0 (u := (k)) (Nat.le_of_ble_eq_true rfl) (Nat.le_of_ble_eq_true rfl) (by exact nv_mod_end hv) hP hD hS [0, 1, 2, 3] (by decide) rfl d_Natural_add_60
    · skip
      rw [q_ile (show (12 : Int32).toInt = 12 by decide) t_x4] at b9
      refine lv_lload_n hx hb d_Natural_add_12 rfl (lv_at hl 1 rfl) ?_
      refine lv_aload_n hx hb d_Natural_add_13 rfl (lv_at hl 3 rfl) ?_
      refine va_get (D := (dC, dI)) (ci := 1) (v := .ref a0) (C := R_Natural) (T := F_Natural) (N := 1) hx hb hts u_Natural hown hK hP 0 rfl rfl 0 (by decide) (hts _ m_105) (fun _ h9 => h9) rfl d_Natural_add_14 ?_
      refine lv_iload hx hb d_Natural_add_17 (lv_at hl 0 rfl) ?_
      refine va_iald hx hb hK hP 1 0 rfl rfl (q_in t_x4 (by omega)) d_Natural_add_19 ?_
      refine lv_topi (fun v19 e19 => ?_)
      rw [q_cl (k := i) (t_x4)] at e19
      refine lv_i2l hx hb d_Natural_add_20 rfl ?_
      refine lv_topl (fun v20 e20 => ?_)
      refine lv_ldc2 (v := 4294967295) hx hb hown (hts _ m_273) d_Natural_add_21 ?_
      refine lv_land hx hb d_Natural_add_24 ?_
      refine lv_topl (fun v24 e24 => ?_)
      refine lv_ladd hx hb d_Natural_add_25 ?_
      refine lv_topl (fun v25 e25 => ?_)
      refine lv_aload_n hx hb d_Natural_add_26 rfl (lv_at hl 2 rfl) ?_
      refine va_get (D := (dC, dI)) (ci := 1) (v := .ref a1) (C := R_Natural) (T := F_Natural) (N := 1) hx hb hts u_Natural hown hK hP 2 rfl rfl 0 (by decide) (hts _ m_105) (fun _ h9 => h9) rfl d_Natural_add_27 ?_
      refine lv_iload hx hb d_Natural_add_30 (lv_at hl 0 rfl) ?_
      refine va_iald hx hb hK hP 3 0 rfl rfl (q_in t_x4 (by omega)) d_Natural_add_32 ?_
      refine lv_topi (fun v32 e32 => ?_)
      rw [q_cl (k := i) (t_x4)] at e32
      refine lv_i2l hx hb d_Natural_add_33 rfl ?_
      refine lv_topl (fun v33 e33 => ?_)
      refine lv_ldc2 (v := 4294967295) hx hb hown (hts _ m_273) d_Natural_add_34 ?_
      refine lv_land hx hb d_Natural_add_37 ?_
      refine lv_topl (fun v37 e37 => ?_)
      refine lv_ladd hx hb d_Natural_add_38 ?_
      refine lv_topl (fun v38 e38 => ?_)
      refine lv_lstore_n (lv' := [(2, .long v38), (4, .int x4), (1, .ref h1), (0, .ref h0)]) hx hb d_Natural_add_39 rfl hl (by decide) rfl (fun ls hl => ?_)
      refine lv_aload_n hx hb d_Natural_add_40 rfl (lv_at hl 3 rfl) ?_
      refine va_get (D := (dC, dI)) (ci := 1) (v := .ref a0) (C := R_Natural) (T := F_Natural) (N := 1) hx hb hts u_Natural hown hK hP 0 rfl rfl 0 (by decide) (hts _ m_105) (fun _ h9 => h9) rfl d_Natural_add_41 ?_
      refine lv_iload hx hb d_Natural_add_44 (lv_at hl 1 rfl) ?_
      refine lv_lload_n hx hb d_Natural_add_46 rfl (lv_at hl 0 rfl) ?_
      refine lv_l2i hx hb d_Natural_add_47 rfl ?_
      refine lv_topi (fun v47 e47 => ?_)
      refine va_iast hx hb hK hP hD hS 1 0 rfl rfl (q_in t_x4 (by omega)) d_Natural_add_48 (fun H locs hP hD hS => ?_)
      rw [q_cl (k := i) (t_x4)] at hP hD
      have hP : va_P (dC, dI) vwCl [(h0, .inr (1, [.ref a0])), (a0, .inl (cI, 12, .inl (upd k i v47))), (h1, .inr (1, [.ref a1])), (a1, .inl (cI, 12, .inl g))] H := hP
      have hD : va_D A [(h0, .inr (1, [.ref a0])), (a0, .inl (cI, 12, .inl (upd k i v47))), (h1, .inr (1, [.ref a1])), (a1, .inl (cI, 12, .inl g))] := hD
      refine lv_lload_n hx hb d_Natural_add_49 rfl (lv_at hl 0 rfl) ?_
      refine lv_bipush (v := 32) hx hb d_Natural_add_50 (by decide) ?_
      refine lv_lushr hx hb d_Natural_add_52 rfl ?_
      refine lv_topl (fun v52 e52 => ?_)
      refine lv_lstore_n (lv' := [(2, .long v52), (4, .int x4), (1, .ref h1), (0, .ref h0)]) hx hb d_Natural_add_53 rfl hl (by decide) rfl (fun ls hl => ?_)
      obtain ⟨v54, e54⟩ : ∃ y : Int32, y = x4 + 1 := ⟨_, rfl⟩
      have t54 : v54.toInt = (i : Int) + 1 := by rw [e54]; exact q_iadd t_x4 (show (1 : Int32).toInt = 1 by decide) (by omega)
      refine lv_iinc (v := v54) (lv' := [(4, .int v54), (2, .long v52), (1, .ref h1), (0, .ref h0)]) hx hb d_Natural_add_54 hl (k := 1) rfl (by rw [e54]; rfl) (by decide) rfl (fun ls hl => ?_)
      refine lv_goto (tgt := 5) hx hb d_Natural_add_57 (by decide) ?_
      have hlf := uw_lt (f i)
      have hlg := uw_lt (g i)
      have k24 : ul v24 = uw (f i) := by rw [e24, e20, ul_i2l_lo, e19, hk i (Nat.le_refl i)]
      have k37 : ul v37 = uw (g i) := by rw [e37, e33, ul_i2l_lo, e32]
      have k25 : ul v25 = ul c2 + uw (f i) := by rw [e25, ul_add, k24, Nat.mod_eq_of_lt (by omega)]
      have k38 : ul v38 = ul c2 + uw (f i) + uw (g i) := by rw [e38, ul_add, k25, k37, Nat.mod_eq_of_lt (by omega)]
      have k47 : uw v47 = (ul c2 + uw (f i) + uw (g i)) % 4294967296 := by rw [e47, uw_l2i, k38]
      have k52 : ul v52 = (ul c2 + uw (f i) + uw (g i)) / 4294967296 := by rw [e52, ul_s32, k38]
      have hstep := nv_add_step hv k47
      exact ih (v54) (i + 1) (v52) (upd k i v47) H locs ls (by omega) ((t54).trans (by omega)) (by omega) (by intro j h; rw [pk_un (by omega)]; exact hk j (by omega)) (by rw [k52]; exact hstep) (by rw [k52]; omega) (va_Psub hP [0, 1, 2, 3] rfl) (hD.sub [0, 1, 2, 3] (by decide) rfl) hS (lv_sub hl [0, 1, 2, 3] rfl)
set_option maxHeartbeats 4000000 in
set_option maxRecDepth 100000 in
theorem c_Natural_add (l : Launch) (dC : Nat → ClassId) (dI : Nat → Nat → Nat) (cI cB cJ : ClassId) (h0 : Nat) (a0 : Nat) (f : Nat → Int32) (h1 : Nat) (a1 : Nat) (g : Nat → Int32)  : Cv l dC dI cI cB cJ y_Natural_add w_Natural_add ({ frames := 0, cells := 0, slots := 0, locals := 0 } : Room) [.ref h0, .ref h1] [(h0, .inr (1, [.ref a0])), (a0, .inl (cI, 12, .inl f)), (h1, .inr (1, [.ref a1])), (a1, .inl (cI, 12, .inl g))] (fun (u : (Nat → Int32)) => nv u 12 = (nv f 12 + nv g 12) % 2 ^ (32 * 12)) (fun u : (Nat → Int32) => [(h0, .inr (1, [.ref a0])), (a0, .inl (cI, 12, .inl u)), (h1, .inr (1, [.ref a1])), (a1, .inl (cI, 12, .inl g))]) := by
  refine Cv.intro (cc := b_Natural_add) (maxL := 5) (by decide) rfl (Nat.le_of_ble_eq_true rfl) ?_
  intro p e s m below meth c A ls C0 hin hA hP hD hS hl
  obtain ⟨hx, hb, hml, hown, hts, hr, hlocks, hK, hN⟩ := id C0
  obtain ⟨H, hH⟩ : ∃ H, H = s.heap := ⟨_, rfl⟩
  have hP : va_P (dC, dI) vwCl [(h0, .inr (1, [.ref a0])), (a0, .inl (cI, 12, .inl f)), (h1, .inr (1, [.ref a1])), (a1, .inl (cI, 12, .inl g))] s.heap := hP
  have hl : lv_has ls 5 [(0, .ref h0), (1, .ref h1)] := hl
  suffices h : ∀ (H : Heap) (locs : List Loc), va_P (dC, dI) vwCl [(h0, .inr (1, [.ref a0])), (a0, .inl (cI, 12, .inl f)), (h1, .inr (1, [.ref a1])), (a1, .inl (cI, 12, .inl g))] H → va_D A [(h0, .inr (1, [.ref a0])), (a0, .inl (cI, 12, .inl f)), (h1, .inr (1, [.ref a1])), (a1, .inl (cI, 12, .inl g))] → va_S A s.heap H locs → W p l e ({ frames := 0, cells := 0, slots := 0, locals := 0 } : Room) s m ([.ref h0, .ref h1] : List Value).toArray below meth c H locs 0 0 (MQ below (va_Qv (fun (u : (Nat → Int32)) => nv u 12 = (nv f 12 + nv g 12) % 2 ^ (32 * 12)) (poG dC dI A (fun u : (Nat → Int32) => [(h0, .inr (1, [.ref a0])), (a0, .inl (cI, 12, .inl u)), (h1, .inr (1, [.ref a1])), (a1, .inl (cI, 12, .inl g))])) A) ([.ref h0, .ref h1] : List Value).toArray s 0 0 A) (F0 m 0 ls []) from h _ _ hP hD hS
  clear hP hD hS hH H
  intro H locs hP hD hS
  refine lv_lconst (v := 0) hx hb d_Natural_add_0 (by decide) ?_
  refine lv_lstore_n (lv' := [(2, .long 0), (0, .ref h0), (1, .ref h1)]) hx hb d_Natural_add_1 rfl hl (by decide) rfl (fun ls hl => ?_)
  refine lv_iconst (v := 0) hx hb d_Natural_add_2 (by decide) ?_
  refine lv_istore (lv' := [(4, .int 0), (2, .long 0), (0, .ref h0), (1, .ref h1)]) hx hb d_Natural_add_3 hl (by decide) rfl (fun ls hl => ?_)
  exact L_Natural_add_5 (h0) (a0) (f) (h1) (a1) (g) C0 hA  _ (0) (0) (0) (f) H locs ls (Nat.lt_succ_self _) (((show (0 : Int32).toInt = 0 by decide)).trans (by omega)) (by omega) (by intro j h; rfl) (by rfl) (by decide) (va_Psub hP [0, 1, 2, 3] rfl) (hD.sub [0, 1, 2, 3] (by decide) rfl) hS (lv_sub hl [0, 1, 3, 2] rfl)
set_option maxHeartbeats 4000000 in
set_option maxRecDepth 100000 in
theorem L_Natural_subtract_5 {p : Program} {l : Launch} {e : Env} {s : State} {m : MethodId} {below : List Frame} {meth : Method} {c : Code} {dC : Nat → ClassId} {dI : Nat → Nat → Nat} {cI cB cJ : ClassId} {A : Nat → Prop} (h0 : Nat) (a0 : Nat) (f : Nat → Int32) (h1 : Nat) (a1 : Nat) (g : Nat → Int32) (C0 : cx dC dI cI cB cJ R_Natural b_Natural_subtract 5 none p s m ([.ref h0, .ref h1] : List Value).toArray meth c) (hA : ∀ q : Nat, s.heap.size ≤ q → A q) (hle : nv g 12 ≤ nv f 12) : ∀ n : Nat, (∀ (x4 : Int32) (i : Nat) (c2 : Int64) (b : Int) (k : Nat → Int32) (H : Heap) (locs : List Loc) (ls : Array Slot), 12 - i < n → x4.toInt = (i : Int) → c2.toInt = b → (i ≤ 12) → (∀ j, i ≤ j → k j = f j) → ((nv k i : Int) + b * (2 ^ (32 * i) : Nat) = (nv f i : Int) - nv g i) → (b = 0 ∨ b = -1) → va_P (dC, dI) vwCl [(h0, .inr (1, [.ref a0])), (a0, .inl (cI, 12, .inl k)), (h1, .inr (1, [.ref a1])), (a1, .inl (cI, 12, .inl g))] H → va_D A [(h0, .inr (1, [.ref a0])), (a0, .inl (cI, 12, .inl k)), (h1, .inr (1, [.ref a1])), (a1, .inl (cI, 12, .inl g))] → va_S A s.heap H locs → lv_has ls 5 [(4, .int x4), (2, .long c2), (1, .ref h1), (0, .ref h0)] → W p l e ({ frames := 0, cells := 0, slots := 0, locals := 0 } : Room) s m ([.ref h0, .ref h1] : List Value).toArray below meth c H locs 0 0 (MQ below (va_Qv (fun (u : (Nat → Int32)) => nv u 12 = nv f 12 - nv g 12) (poG dC dI A (fun u : (Nat → Int32) => [(h0, .inr (1, [.ref a0])), (a0, .inl (cI, 12, .inl u)), (h1, .inr (1, [.ref a1])), (a1, .inl (cI, 12, .inl g))])) A) ([.ref h0, .ref h1] : List Value).toArray s 0 0 A) (F0 m 5 ls [])) := by
  obtain ⟨hx, hb, hml, hown, hts, hr, hlocks, hK, hN⟩ := id C0
  intro n
  induction n with
  | zero => exact fun _ _ _ _ _ _ _ _ h0 _ _ _ _ _ _ _ _ _ _ => absurd h0 (Nat.not_lt_zero _)
  | succ n ih =>
    intro x4 i c2 b k H locs ls hn t_x4 t_c2 hi hk hv hc hP hD hS hl
    have r_x4 := q_r32 x4
    have r_c2 := q_r64 c2
    refine lv_iload hx hb d_Natural_subtract_5 (lv_at hl 0 rfl) ?_
    refine lv_bipush (v := 12) hx hb d_Natural_subtract_7 (by decide) ?_
    refine lv_icmp_ge (tgt := 60) hx hb d_Natural_subtract_9 (by decide) (fun b9 => ?_) (fun b9 => ?_)
    · skip
      rw [q_ile (show (12 : Int32).toInt = 12 by decide) t_x4] at b9
      have hi2 : i = 12 := by omega
      subst hi2
      have hlt := nv_lt k 12
      have hlf := nv_lt f 12
      exact Cv.ret C0 (u := (k)) (Nat.le_of_ble_eq_true rfl) (Nat.le_of_ble_eq_true rfl) (by exact sub_end hv hc hle) hP hD hS [0, 1, 2, 3] (by decide) rfl d_Natural_subtract_60
    · skip
      rw [q_ile (show (12 : Int32).toInt = 12 by decide) t_x4] at b9
      refine lv_lload_n hx hb d_Natural_subtract_12 rfl (lv_at hl 1 rfl) ?_
      refine lv_aload_n hx hb d_Natural_subtract_13 rfl (lv_at hl 3 rfl) ?_
      refine va_get (D := (dC, dI)) (ci := 1) (v := .ref a0) (C := R_Natural) (T := F_Natural) (N := 1) hx hb hts u_Natural hown hK hP 0 rfl rfl 0 (by decide) (hts _ m_105) (fun _ h9 => h9) rfl d_Natural_subtract_14 ?_
      refine lv_iload hx hb d_Natural_subtract_17 (lv_at hl 0 rfl) ?_
      refine va_iald hx hb hK hP 1 0 rfl rfl (q_in t_x4 (by omega)) d_Natural_subtract_19 ?_
      refine lv_topi (fun v19 e19 => ?_)
      rw [q_cl (k := i) (t_x4)] at e19
      refine lv_i2l hx hb d_Natural_subtract_20 rfl ?_
      refine lv_topl (fun v20 e20 => ?_)
      refine lv_ldc2 (v := 4294967295) hx hb hown (hts _ m_273) d_Natural_subtract_21 ?_
      refine lv_land hx hb d_Natural_subtract_24 ?_
      refine lv_topl (fun v24 e24 => ?_)
      have t24 : v24.toInt = (uw v19 : Int) := by rw [e24, e20]; exact q_lo v19
      have hl19 := uw_lt v19
      refine lv_ladd hx hb d_Natural_subtract_25 ?_
      refine lv_topl (fun v25 e25 => ?_)
      have t25 : v25.toInt = b + (uw v19 : Int) := by rw [e25]; exact q_ladd t_c2 t24 (by omega)
      refine lv_aload_n hx hb d_Natural_subtract_26 rfl (lv_at hl 2 rfl) ?_
      refine va_get (D := (dC, dI)) (ci := 1) (v := .ref a1) (C := R_Natural) (T := F_Natural) (N := 1) hx hb hts u_Natural hown hK hP 2 rfl rfl 0 (by decide) (hts _ m_105) (fun _ h9 => h9) rfl d_Natural_subtract_27 ?_
      refine lv_iload hx hb d_Natural_subtract_30 (lv_at hl 0 rfl) ?_
      refine va_iald hx hb hK hP 3 0 rfl rfl (q_in t_x4 (by omega)) d_Natural_subtract_32 ?_
      refine lv_topi (fun v32 e32 => ?_)
      rw [q_cl (k := i) (t_x4)] at e32
      refine lv_i2l hx hb d_Natural_subtract_33 rfl ?_
      refine lv_topl (fun v33 e33 => ?_)
      refine lv_ldc2 (v := 4294967295) hx hb hown (hts _ m_273) d_Natural_subtract_34 ?_
      refine lv_land hx hb d_Natural_subtract_37 ?_
      refine lv_topl (fun v37 e37 => ?_)
      have t37 : v37.toInt = (uw v32 : Int) := by rw [e37, e33]; exact q_lo v32
      have hl32 := uw_lt v32
      refine lv_lsub hx hb d_Natural_subtract_38 ?_
      refine lv_topl (fun v38 e38 => ?_)
      have t38 : v38.toInt = (b + (uw v19 : Int)) - (uw v32 : Int) := by rw [e38]; exact q_lsub t25 t37 (by omega)
      refine lv_lstore_n (lv' := [(2, .long v38), (4, .int x4), (1, .ref h1), (0, .ref h0)]) hx hb d_Natural_subtract_39 rfl hl (by decide) rfl (fun ls hl => ?_)
      refine lv_aload_n hx hb d_Natural_subtract_40 rfl (lv_at hl 3 rfl) ?_
      refine va_get (D := (dC, dI)) (ci := 1) (v := .ref a0) (C := R_Natural) (T := F_Natural) (N := 1) hx hb hts u_Natural hown hK hP 0 rfl rfl 0 (by decide) (hts _ m_105) (fun _ h9 => h9) rfl d_Natural_subtract_41 ?_
      refine lv_iload hx hb d_Natural_subtract_44 (lv_at hl 1 rfl) ?_
      refine lv_lload_n hx hb d_Natural_subtract_46 rfl (lv_at hl 0 rfl) ?_
      refine lv_l2i hx hb d_Natural_subtract_47 rfl ?_
      refine lv_topi (fun v47 e47 => ?_)
      refine va_iast hx hb hK hP hD hS 1 0 rfl rfl (q_in t_x4 (by omega)) d_Natural_subtract_48 (fun H locs hP hD hS => ?_)
      rw [q_cl (k := i) (t_x4)] at hP hD
      have hP : va_P (dC, dI) vwCl [(h0, .inr (1, [.ref a0])), (a0, .inl (cI, 12, .inl (upd k i v47))), (h1, .inr (1, [.ref a1])), (a1, .inl (cI, 12, .inl g))] H := hP
      have hD : va_D A [(h0, .inr (1, [.ref a0])), (a0, .inl (cI, 12, .inl (upd k i v47))), (h1, .inr (1, [.ref a1])), (a1, .inl (cI, 12, .inl g))] := hD
      refine lv_lload_n hx hb d_Natural_subtract_49 rfl (lv_at hl 0 rfl) ?_
      refine lv_bipush (v := 32) hx hb d_Natural_subtract_50 (by decide) ?_
      refine lv_lshr hx hb d_Natural_subtract_52 rfl ?_
      refine lv_topl (fun v52 e52 => ?_)
      have t52 : v52.toInt = (b + (uw v19 : Int) - (uw v32 : Int)) / 4294967296 := by rw [e52]; exact q_sar32 t38
      refine lv_lstore_n (lv' := [(2, .long v52), (4, .int x4), (1, .ref h1), (0, .ref h0)]) hx hb d_Natural_subtract_53 rfl hl (by decide) rfl (fun ls hl => ?_)
      obtain ⟨v54, e54⟩ : ∃ y : Int32, y = x4 + 1 := ⟨_, rfl⟩
      have t54 : v54.toInt = (i : Int) + 1 := by rw [e54]; exact q_iadd t_x4 (show (1 : Int32).toInt = 1 by decide) (by omega)
      refine lv_iinc (v := v54) (lv' := [(4, .int v54), (2, .long v52), (1, .ref h1), (0, .ref h0)]) hx hb d_Natural_subtract_54 hl (k := 1) rfl (by rw [e54]; rfl) (by decide) rfl (fun ls hl => ?_)
      refine lv_goto (tgt := 5) hx hb d_Natural_subtract_57 (by decide) ?_
      have k47 : (uw v47 : Int) = (b + (uw (f i) : Int) - (uw (g i) : Int)) % 4294967296 := by rw [e47, uw_l2i_int t38, e19, e32, hk i (Nat.le_refl i)]
      have hstep := nv_sub_step hv k47
      have z19 : v19 = f i := by rw [e19, hk i (Nat.le_refl i)]
      exact ih (v54) (i + 1) (v52) ((b + (uw v19 : Int) - (uw v32 : Int)) / 4294967296) (upd k i v47) H locs ls (by omega) ((t54).trans (by omega)) ((t52).trans (by omega)) (by omega) (by intro j h; rw [pk_un (by omega)]; exact hk j (by omega)) (by rw [z19, e32]; exact hstep) (by omega) (va_Psub hP [0, 1, 2, 3] rfl) (hD.sub [0, 1, 2, 3] (by decide) rfl) hS (lv_sub hl [0, 1, 2, 3] rfl)
set_option maxHeartbeats 4000000 in
set_option maxRecDepth 100000 in
theorem c_Natural_subtract (l : Launch) (dC : Nat → ClassId) (dI : Nat → Nat → Nat) (cI cB cJ : ClassId) (h0 : Nat) (a0 : Nat) (f : Nat → Int32) (h1 : Nat) (a1 : Nat) (g : Nat → Int32) (hle : nv g 12 ≤ nv f 12) : Cv l dC dI cI cB cJ y_Natural_subtract w_Natural_subtract ({ frames := 0, cells := 0, slots := 0, locals := 0 } : Room) [.ref h0, .ref h1] [(h0, .inr (1, [.ref a0])), (a0, .inl (cI, 12, .inl f)), (h1, .inr (1, [.ref a1])), (a1, .inl (cI, 12, .inl g))] (fun (u : (Nat → Int32)) => nv u 12 = nv f 12 - nv g 12) (fun u : (Nat → Int32) => [(h0, .inr (1, [.ref a0])), (a0, .inl (cI, 12, .inl u)), (h1, .inr (1, [.ref a1])), (a1, .inl (cI, 12, .inl g))]) := by
  refine Cv.intro (cc := b_Natural_subtract) (maxL := 5) (by decide) rfl (Nat.le_of_ble_eq_true rfl) ?_
  intro p e s m below meth c A ls C0 hin hA hP hD hS hl
  obtain ⟨hx, hb, hml, hown, hts, hr, hlocks, hK, hN⟩ := id C0
  obtain ⟨H, hH⟩ : ∃ H, H = s.heap := ⟨_, rfl⟩
  have hP : va_P (dC, dI) vwCl [(h0, .inr (1, [.ref a0])), (a0, .inl (cI, 12, .inl f)), (h1, .inr (1, [.ref a1])), (a1, .inl (cI, 12, .inl g))] s.heap := hP
  have hl : lv_has ls 5 [(0, .ref h0), (1, .ref h1)] := hl
  suffices h : ∀ (H : Heap) (locs : List Loc), va_P (dC, dI) vwCl [(h0, .inr (1, [.ref a0])), (a0, .inl (cI, 12, .inl f)), (h1, .inr (1, [.ref a1])), (a1, .inl (cI, 12, .inl g))] H → va_D A [(h0, .inr (1, [.ref a0])), (a0, .inl (cI, 12, .inl f)), (h1, .inr (1, [.ref a1])), (a1, .inl (cI, 12, .inl g))] → va_S A s.heap H locs → W p l e ({ frames := 0, cells := 0, slots := 0, locals := 0 } : Room) s m ([.ref h0, .ref h1] : List Value).toArray below meth c H locs 0 0 (MQ below (va_Qv (fun (u : (Nat → Int32)) => nv u 12 = nv f 12 - nv g 12) (poG dC dI A (fun u : (Nat → Int32) => [(h0, .inr (1, [.ref a0])), (a0, .inl (cI, 12, .inl u)), (h1, .inr (1, [.ref a1])), (a1, .inl (cI, 12, .inl g))])) A) ([.ref h0, .ref h1] : List Value).toArray s 0 0 A) (F0 m 0 ls []) from h _ _ hP hD hS
  clear hP hD hS hH H
  intro H locs hP hD hS
  refine lv_lconst (v := 0) hx hb d_Natural_subtract_0 (by decide) ?_
  refine lv_lstore_n (lv' := [(2, .long 0), (0, .ref h0), (1, .ref h1)]) hx hb d_Natural_subtract_1 rfl hl (by decide) rfl (fun ls hl => ?_)
  refine lv_iconst (v := 0) hx hb d_Natural_subtract_2 (by decide) ?_
  refine lv_istore (lv' := [(4, .int 0), (2, .long 0), (0, .ref h0), (1, .ref h1)]) hx hb d_Natural_subtract_3 hl (by decide) rfl (fun ls hl => ?_)
  exact L_Natural_subtract_5 (h0) (a0) (f) (h1) (a1) (g) C0 hA (hle) _ (0) (0) (0) (0) (f) H locs ls (Nat.lt_succ_self _) (((show (0 : Int32).toInt = 0 by decide)).trans (by omega)) (((show (0 : Int64).toInt = 0 by decide)).trans (by omega)) (by omega) (by intro j h; rfl) (by rfl) (by exact Or.inl rfl) (va_Psub hP [0, 1, 2, 3] rfl) (hD.sub [0, 1, 2, 3] (by decide) rfl) hS (lv_sub hl [0, 1, 3, 2] rfl)
set_option maxHeartbeats 4000000 in
set_option maxRecDepth 100000 in
theorem L_Natural_timesPowerOfFive_25 {p : Program} {l : Launch} {e : Env} {s : State} {m : MethodId} {below : List Frame} {meth : Method} {c : Code} {dC : Nat → ClassId} {dI : Nat → Nat → Nat} {cI cB cJ : ClassId} {A : Nat → Prop} (h0 : Nat) (a0 : Nat) (f : Nat → Int32) (pw : Int32) (n0 : Nat) (C0 : cx dC dI cI cB cJ R_Natural b_Natural_timesPowerOfFive 4 none p s m ([.ref h0, .int pw] : List Value).toArray meth c) (hA : ∀ q : Nat, s.heap.size ≤ q → A q) (hpw : pw.toInt = (n0 : Int)) : ∀ n : Nat, (∀ (x2 : Int32) (x3 : Int32) (d : Nat) (q : Nat) (k : Nat → Int32) (H : Heap) (locs : List Loc) (ls : Array Slot), d < n → x3.toInt = ((5 ^ q : Nat) : Int) → x2.toInt = (d : Int) → (d + q ≤ n0) → (d + q ≤ 12) → (nv k 12 = nv f 12 * 5 ^ (n0 - (d + q)) % 2 ^ (32 * 12)) → va_P (dC, dI) vwCl [(h0, .inr (1, [.ref a0])), (a0, .inl (cI, 12, .inl k))] H → va_D A [(h0, .inr (1, [.ref a0])), (a0, .inl (cI, 12, .inl k))] → va_S A s.heap H locs → lv_has ls 4 [(3, .int x3), (2, .int x2), (0, .ref h0)] → W p l e ({ frames := 1, cells := 0, slots := 0, locals := 25 } : Room) s m ([.ref h0, .int pw] : List Value).toArray below meth c H locs 0 0 (MQ below (va_Qv (fun (u : (Nat → Int32)) => nv u 12 = nv f 12 * 5 ^ n0 % 2 ^ (32 * 12)) (poG dC dI A (fun u : (Nat → Int32) => [(h0, .inr (1, [.ref a0])), (a0, .inl (cI, 12, .inl u))])) A) ([.ref h0, .int pw] : List Value).toArray s 0 0 A) (F0 m 25 ls [])) := by
  obtain ⟨hx, hb, hml, hown, hts, hr, hlocks, hK, hN⟩ := id C0
  intro n
  induction n with
  | zero => exact fun _ _ _ _ _ _ _ _ h0 _ _ _ _ _ _ _ _ _ => absurd h0 (Nat.not_lt_zero _)
  | succ n ih =>
    intro x2 x3 d q k H locs ls hn t_x3 t_x2 hd hq hv hP hD hS hl
    have r_x3 := q_r32 x3
    have r_x2 := q_r32 x2
    refine lv_iload_n hx hb d_Natural_timesPowerOfFive_25 rfl (lv_at hl 1 rfl) ?_
    refine lv_if_le (tgt := 39) hx hb d_Natural_timesPowerOfFive_26 (by decide) (fun b26 => ?_) (fun b26 => ?_)
    · skip
      rw [q_ile t_x2 (show (0 : Int32).toInt = 0 by decide)] at b26
      refine lv_aload_n hx hb d_Natural_timesPowerOfFive_39 rfl (lv_at hl 2 rfl) ?_
      refine lv_iload_n hx hb d_Natural_timesPowerOfFive_40 rfl (lv_at hl 0 rfl) ?_
      refine lv_iconst (v := 0) hx hb d_Natural_timesPowerOfFive_41 (by decide) ?_
      refine callV_v (wr := []) C0 (c_Natural_timesPlus l dC dI cI cB cJ (h0) (a0) (k) (x3) (0) (by rw [t_x3]; exact Int.natCast_nonneg _) (by decide)) (cwV 2 hts (gV m_356 m_270 m_271 m_51 m_272) rfl rfl rfl (by decide +kernel) ⟨Nat.le_of_ble_eq_true rfl, Nat.le_of_ble_eq_true rfl⟩) 1 rfl rfl 0 rfl hP hD hS hA [0, 1] [] rfl rfl (by decide) (by decide) (by decide) rfl hl.1 rfl (Nat.le_of_ble_eq_true rfl) d_Natural_timesPowerOfFive_42 ⟨Nat.le_of_ble_eq_true rfl, Nat.le_of_ble_eq_true rfl⟩ (fun k42 H locs hw9 hP hD hS => ?_)
      have h42 : nv k42 12 = (nv k 12 * uw x3 + uw 0) % 2 ^ (32 * 12) := hw9
      have hP : va_P (dC, dI) vwCl [(h0, .inr (1, [.ref a0])), (a0, .inl (cI, 12, .inl k42))] H := hP
      have hD : va_D A [(h0, .inr (1, [.ref a0])), (a0, .inl (cI, 12, .inl k42))] := hD
      have hd0 : d = 0 := by omega
      subst hd0
      exact Cv.ret C0 (u := (k42)) (Nat.le_of_ble_eq_true rfl) (Nat.le_of_ble_eq_true rfl) (by rw [h42, hv, uw_of t_x3, show uw 0 = 0 by decide, Nat.add_zero, mm, Nat.mul_assoc, ← Nat.pow_add, show n0 - (0 + q) + q = n0 by omega]) hP hD hS [0, 1] (by decide) rfl d_Natural_timesPowerOfFive_45
    · skip
      rw [q_ile t_x2 (show (0 : Int32).toInt = 0 by decide)] at b26
      refine lv_iload_n hx hb d_Natural_timesPowerOfFive_29 rfl (lv_at hl 0 rfl) ?_
      refine lv_iconst (v := 5) hx hb d_Natural_timesPowerOfFive_30 (by decide) ?_
      have hp5 : 5 ^ (q + 1) ≤ 5 ^ 12 := Nat.pow_le_pow_right (by decide) (by omega)
      rw [Nat.pow_succ] at hp5
      have hp6 : (5 : Nat) ^ 12 = 244140625 := by decide
      refine lv_imul hx hb d_Natural_timesPowerOfFive_31 ?_
      refine lv_topi (fun v31 e31 => ?_)
      have t31 : v31.toInt = (((5 ^ q : Nat) : Int)) * 5 := by rw [e31]; exact q_imul t_x3 (show (5 : Int32).toInt = 5 by decide) (by omega)
      refine lv_istore_n (lv' := [(3, .int v31), (2, .int x2), (0, .ref h0)]) hx hb d_Natural_timesPowerOfFive_32 rfl hl (by decide) rfl (fun ls hl => ?_)
      obtain ⟨v33, e33⟩ : ∃ y : Int32, y = x2 + (-1) := ⟨_, rfl⟩
      have t33 : v33.toInt = (d : Int) + (-1) := by rw [e33]; exact q_iadd t_x2 (show ((-1) : Int32).toInt = (-1) by decide) (by omega)
      refine lv_iinc (v := v33) (lv' := [(2, .int v33), (3, .int v31), (0, .ref h0)]) hx hb d_Natural_timesPowerOfFive_33 hl (k := 1) rfl (by rw [e33]; rfl) (by decide) rfl (fun ls hl => ?_)
      refine lv_goto (tgt := 25) hx hb d_Natural_timesPowerOfFive_36 (by decide) ?_
      exact ih (v33) (v31) (d - 1) (q + 1) (k) H locs ls (by omega) (t31.trans (by rw [Nat.pow_succ]; omega)) ((t33).trans (by omega)) (by omega) (by omega) (by rw [show d - 1 + (q + 1) = d + q by omega]; exact hv) (va_Psub hP [0, 1] rfl) (hD.sub [0, 1] (by decide) rfl) hS (lv_sub hl [1, 0, 2] rfl)
set_option maxHeartbeats 4000000 in
set_option maxRecDepth 100000 in
theorem L_Natural_timesPowerOfFive_2 {p : Program} {l : Launch} {e : Env} {s : State} {m : MethodId} {below : List Frame} {meth : Method} {c : Code} {dC : Nat → ClassId} {dI : Nat → Nat → Nat} {cI cB cJ : ClassId} {A : Nat → Prop} (h0 : Nat) (a0 : Nat) (f : Nat → Int32) (pw : Int32) (n0 : Nat) (C0 : cx dC dI cI cB cJ R_Natural b_Natural_timesPowerOfFive 4 none p s m ([.ref h0, .int pw] : List Value).toArray meth c) (hA : ∀ q : Nat, s.heap.size ≤ q → A q) (hpw : pw.toInt = (n0 : Int)) : ∀ n : Nat, (∀ (x2 : Int32) (d : Nat) (k : Nat → Int32) (H : Heap) (locs : List Loc) (ls : Array Slot), d < n → x2.toInt = (d : Int) → (d ≤ n0) → (nv k 12 = nv f 12 * 5 ^ (n0 - d) % 2 ^ (32 * 12)) → va_P (dC, dI) vwCl [(h0, .inr (1, [.ref a0])), (a0, .inl (cI, 12, .inl k))] H → va_D A [(h0, .inr (1, [.ref a0])), (a0, .inl (cI, 12, .inl k))] → va_S A s.heap H locs → lv_has ls 4 [(2, .int x2), (0, .ref h0)] → W p l e ({ frames := 1, cells := 0, slots := 0, locals := 25 } : Room) s m ([.ref h0, .int pw] : List Value).toArray below meth c H locs 0 0 (MQ below (va_Qv (fun (u : (Nat → Int32)) => nv u 12 = nv f 12 * 5 ^ n0 % 2 ^ (32 * 12)) (poG dC dI A (fun u : (Nat → Int32) => [(h0, .inr (1, [.ref a0])), (a0, .inl (cI, 12, .inl u))])) A) ([.ref h0, .int pw] : List Value).toArray s 0 0 A) (F0 m 2 ls [])) := by
  obtain ⟨hx, hb, hml, hown, hts, hr, hlocks, hK, hN⟩ := id C0
  intro n
  induction n with
  | zero => exact fun _ _ _ _ _ _ h0 _ _ _ _ _ _ _ => absurd h0 (Nat.not_lt_zero _)
  | succ n ih =>
    intro x2 d k H locs ls hn t_x2 hd hv hP hD hS hl
    have r_x2 := q_r32 x2
    refine lv_iload_n hx hb d_Natural_timesPowerOfFive_2 rfl (lv_at hl 0 rfl) ?_
    refine lv_bipush (v := 13) hx hb d_Natural_timesPowerOfFive_3 (by decide) ?_
    refine lv_icmp_lt (tgt := 23) hx hb d_Natural_timesPowerOfFive_5 (by decide) (fun b5 => ?_) (fun b5 => ?_)
    · skip
      rw [q_ilt t_x2 (show (13 : Int32).toInt = 13 by decide)] at b5
      refine lv_iconst (v := 1) hx hb d_Natural_timesPowerOfFive_23 (by decide) ?_
      refine lv_istore_n (lv' := [(3, .int 1), (2, .int x2), (0, .ref h0)]) hx hb d_Natural_timesPowerOfFive_24 rfl hl (by decide) rfl (fun ls hl => ?_)
      exact L_Natural_timesPowerOfFive_25 (h0) (a0) (f) (pw) (n0) C0 hA (hpw) _ (x2) (1) (d) (0) (k) H locs ls (Nat.lt_succ_self _) (show (1 : Int32).toInt = ((5 ^ 0 : Nat) : Int) by decide) ((t_x2).trans (by omega)) (by omega) (by omega) (by exact hv) (va_Psub hP [0, 1] rfl) (hD.sub [0, 1] (by decide) rfl) hS (lv_sub hl [0, 1, 2] rfl)
    · skip
      rw [q_ilt t_x2 (show (13 : Int32).toInt = 13 by decide)] at b5
      refine lv_aload_n hx hb d_Natural_timesPowerOfFive_8 rfl (lv_at hl 1 rfl) ?_
      refine lv_ldc (v := 1220703125) hx hb hown (hts _ m_355) d_Natural_timesPowerOfFive_9 ?_
      refine lv_iconst (v := 0) hx hb d_Natural_timesPowerOfFive_11 (by decide) ?_
      refine callV_v (wr := []) C0 (c_Natural_timesPlus l dC dI cI cB cJ (h0) (a0) (k) (1220703125) (0) (by decide) (by decide)) (cwV 2 hts (gV m_356 m_270 m_271 m_51 m_272) rfl rfl rfl (by decide +kernel) ⟨Nat.le_of_ble_eq_true rfl, Nat.le_of_ble_eq_true rfl⟩) 1 rfl rfl 0 rfl hP hD hS hA [0, 1] [] rfl rfl (by decide) (by decide) (by decide) rfl hl.1 rfl (Nat.le_of_ble_eq_true rfl) d_Natural_timesPowerOfFive_12 ⟨Nat.le_of_ble_eq_true rfl, Nat.le_of_ble_eq_true rfl⟩ (fun k12 H locs hw9 hP hD hS => ?_)
      have h12 : nv k12 12 = (nv k 12 * uw 1220703125 + uw 0) % 2 ^ (32 * 12) := hw9
      have hP : va_P (dC, dI) vwCl [(h0, .inr (1, [.ref a0])), (a0, .inl (cI, 12, .inl k12))] H := hP
      have hD : va_D A [(h0, .inr (1, [.ref a0])), (a0, .inl (cI, 12, .inl k12))] := hD
      refine lv_iload_n hx hb d_Natural_timesPowerOfFive_15 rfl (lv_at hl 0 rfl) ?_
      refine lv_bipush (v := 13) hx hb d_Natural_timesPowerOfFive_16 (by decide) ?_
      refine lv_isub hx hb d_Natural_timesPowerOfFive_18 ?_
      refine lv_topi (fun v18 e18 => ?_)
      have t18 : v18.toInt = (d : Int) - 13 := by rw [e18]; exact q_isub t_x2 (show (13 : Int32).toInt = 13 by decide) (by omega)
      refine lv_istore_n (lv' := [(2, .int v18), (0, .ref h0)]) hx hb d_Natural_timesPowerOfFive_19 rfl hl (by decide) rfl (fun ls hl => ?_)
      refine lv_goto (tgt := 2) hx hb d_Natural_timesPowerOfFive_20 (by decide) ?_
      exact ih (v18) (d - 13) (k12) H locs ls (by omega) ((t18).trans (by omega)) (by omega) (by rw [h12, hv, show uw 1220703125 = 5 ^ 13 by decide, show uw 0 = 0 by decide, Nat.add_zero, mm, Nat.mul_assoc, ← Nat.pow_add, show n0 - d + 13 = n0 - (d - 13) by omega]) (va_Psub hP [0, 1] rfl) (hD.sub [0, 1] (by decide) rfl) hS (lv_sub hl [0, 1] rfl)
set_option maxHeartbeats 4000000 in
set_option maxRecDepth 100000 in
theorem c_Natural_timesPowerOfFive (l : Launch) (dC : Nat → ClassId) (dI : Nat → Nat → Nat) (cI cB cJ : ClassId) (h0 : Nat) (a0 : Nat) (f : Nat → Int32) (pw : Int32) (n0 : Nat) (hpw : pw.toInt = (n0 : Int)) : Cv l dC dI cI cB cJ y_Natural_timesPowerOfFive w_Natural_timesPowerOfFive ({ frames := 1, cells := 0, slots := 0, locals := 25 } : Room) [.ref h0, .int pw] [(h0, .inr (1, [.ref a0])), (a0, .inl (cI, 12, .inl f))] (fun (u : (Nat → Int32)) => nv u 12 = nv f 12 * 5 ^ n0 % 2 ^ (32 * 12)) (fun u : (Nat → Int32) => [(h0, .inr (1, [.ref a0])), (a0, .inl (cI, 12, .inl u))]) := by
  refine Cv.intro (cc := b_Natural_timesPowerOfFive) (maxL := 4) (by decide) rfl (Nat.le_of_ble_eq_true rfl) ?_
  intro p e s m below meth c A ls C0 hin hA hP hD hS hl
  obtain ⟨hx, hb, hml, hown, hts, hr, hlocks, hK, hN⟩ := id C0
  obtain ⟨H, hH⟩ : ∃ H, H = s.heap := ⟨_, rfl⟩
  have hP : va_P (dC, dI) vwCl [(h0, .inr (1, [.ref a0])), (a0, .inl (cI, 12, .inl f))] s.heap := hP
  have hl : lv_has ls 4 [(0, .ref h0), (1, .int pw)] := hl
  have r_pw := q_r32 pw
  suffices h : ∀ (H : Heap) (locs : List Loc), va_P (dC, dI) vwCl [(h0, .inr (1, [.ref a0])), (a0, .inl (cI, 12, .inl f))] H → va_D A [(h0, .inr (1, [.ref a0])), (a0, .inl (cI, 12, .inl f))] → va_S A s.heap H locs → W p l e ({ frames := 1, cells := 0, slots := 0, locals := 25 } : Room) s m ([.ref h0, .int pw] : List Value).toArray below meth c H locs 0 0 (MQ below (va_Qv (fun (u : (Nat → Int32)) => nv u 12 = nv f 12 * 5 ^ n0 % 2 ^ (32 * 12)) (poG dC dI A (fun u : (Nat → Int32) => [(h0, .inr (1, [.ref a0])), (a0, .inl (cI, 12, .inl u))])) A) ([.ref h0, .int pw] : List Value).toArray s 0 0 A) (F0 m 0 ls []) from h _ _ hP hD hS
  clear hP hD hS hH H
  intro H locs hP hD hS
  refine lv_iload_n hx hb d_Natural_timesPowerOfFive_0 rfl (lv_at hl 1 rfl) ?_
  refine lv_istore_n (lv' := [(2, .int pw), (0, .ref h0), (1, .int pw)]) hx hb d_Natural_timesPowerOfFive_1 rfl hl (by decide) rfl (fun ls hl => ?_)
  exact L_Natural_timesPowerOfFive_2 (h0) (a0) (f) (pw) (n0) C0 hA (hpw) _ (pw) (n0) (f) H locs ls (Nat.lt_succ_self _) ((hpw).trans (by omega)) (by omega) (by rw [Nat.sub_self, Nat.pow_zero, Nat.mul_one, Nat.mod_eq_of_lt (nv_lt f 12)]) (va_Psub hP [0, 1] rfl) (hD.sub [0, 1] (by decide) rfl) hS (lv_sub hl [0, 1] rfl)
set_option maxHeartbeats 4000000 in
set_option maxRecDepth 100000 in
theorem L_Natural_shiftLeft_18 {p : Program} {l : Launch} {e : Env} {s : State} {m : MethodId} {below : List Frame} {meth : Method} {c : Code} {dC : Nat → ClassId} {dI : Nat → Nat → Nat} {cI cB cJ : ClassId} {A : Nat → Prop} (h0 : Nat) (a0 : Nat) (f : Nat → Int32) (x : Int32) (n0 : Nat) (C0 : cx dC dI cI cB cJ R_Natural b_Natural_shiftLeft 9 none p s m ([.ref h0, .int x] : List Value).toArray meth c) (hA : ∀ q : Nat, s.heap.size ≤ q → A q) (hx0 : x.toInt = (n0 : Int)) : ∀ n : Nat, (∀ (x2 : Int32) (x3 : Int32) (x4 : Int32) (i : Nat) (k : Nat → Int32) (H : Heap) (locs : List Loc) (ls : Array Slot), i < n → x4.toInt = (i : Int) - 1 → x3.toInt = ((n0 % 32 : Nat) : Int) → x2.toInt = ((n0 / 32 : Nat) : Int) → (i ≤ 12) → (∀ j, j < i → k j = f j) → (∀ j, i ≤ j → j < 12 → uw (k j) = shw f (n0 / 32) (n0 % 32) j) → va_P (dC, dI) vwCl [(h0, .inr (1, [.ref a0])), (a0, .inl (cI, 12, .inl k))] H → va_D A [(h0, .inr (1, [.ref a0])), (a0, .inl (cI, 12, .inl k))] → va_S A s.heap H locs → lv_has ls 9 [(4, .int x4), (3, .int x3), (2, .int x2), (0, .ref h0)] → W p l e ({ frames := 1, cells := 0, slots := 0, locals := 21 } : Room) s m ([.ref h0, .int x] : List Value).toArray below meth c H locs 0 0 (MQ below (va_Qv (fun (u : (Nat → Int32)) => nv u 12 = nv f 12 * 2 ^ n0 % 2 ^ (32 * 12)) (poG dC dI A (fun u : (Nat → Int32) => [(h0, .inr (1, [.ref a0])), (a0, .inl (cI, 12, .inl u))])) A) ([.ref h0, .int x] : List Value).toArray s 0 0 A) (F0 m 18 ls [])) := by
  obtain ⟨hx, hb, hml, hown, hts, hr, hlocks, hK, hN⟩ := id C0
  intro n
  induction n with
  | zero => exact fun _ _ _ _ _ _ _ _ h0 _ _ _ _ _ _ _ _ _ _ => absurd h0 (Nat.not_lt_zero _)
  | succ n ih =>
    intro x2 x3 x4 i k H locs ls hn t_x4 t_x3 t_x2 hi hk hw hP hD hS hl
    have r_x4 := q_r32 x4
    have r_x3 := q_r32 x3
    have r_x2 := q_r32 x2
    refine lv_iload hx hb d_Natural_shiftLeft_18 (lv_at hl 0 rfl) ?_
    refine lv_if_lt (tgt := 71) hx hb d_Natural_shiftLeft_20 (by decide) (fun b20 => ?_) (fun b20 => ?_)
    · skip
      rw [q_ilt t_x4 (show (0 : Int32).toInt = 0 by decide)] at b20
      have hi0 : i = 0 := by omega
      subst hi0
      have hend := shw_end (f := f) (k := k) (w := n0 / 32) (q := n0 % 32) (Nat.mod_lt _ (by decide)) (fun j hj => hw j (by omega) hj)
      rw [show 32 * (n0 / 32) + n0 % 32 = n0 by omega] at hend
      exact Cv.ret C0 (u := (k)) (Nat.le_of_ble_eq_true rfl) (Nat.le_of_ble_eq_true rfl) (by exact hend) hP hD hS [0, 1] (by decide) rfl d_Natural_shiftLeft_71
    · skip
      rw [q_ilt t_x4 (show (0 : Int32).toInt = 0 by decide)] at b20
      refine lv_aload_n hx hb d_Natural_shiftLeft_23 rfl (lv_at hl 3 rfl) ?_
      refine lv_iload hx hb d_Natural_shiftLeft_24 (lv_at hl 0 rfl) ?_
      refine lv_iload_n hx hb d_Natural_shiftLeft_26 rfl (lv_at hl 2 rfl) ?_
      have hn2 := q_r32 x
      refine lv_isub hx hb d_Natural_shiftLeft_27 ?_
      refine lv_topi (fun v27 e27 => ?_)
      have t27 : v27.toInt = ((i : Int) - 1) - (((n0 / 32 : Nat) : Int)) := by rw [e27]; exact q_isub t_x4 t_x2 (by omega)
      refine callV_l (wr := []) C0 (c_Natural_limbAt l dC dI cI cB cJ (h0) (a0) (k) (v27)) (cwV 1 hts (gV m_361 m_362 m_4 m_51 m_363) rfl rfl rfl (by decide +kernel) ⟨Nat.le_of_ble_eq_true rfl, Nat.le_of_ble_eq_true rfl⟩) 1 rfl rfl 0 rfl hP hD hS hA [0, 1] [] rfl rfl (by decide) (by decide) (by decide) rfl hl.1 rfl (Nat.le_of_ble_eq_true rfl) d_Natural_shiftLeft_28 ⟨Nat.le_of_ble_eq_true rfl, Nat.le_of_ble_eq_true rfl⟩ (fun r28 u28 H locs hw9 hP hD hS => ?_)
      have h28 : ul r28 = lz k v27.toInt := hw9
      have hP : va_P (dC, dI) vwCl [(h0, .inr (1, [.ref a0])), (a0, .inl (cI, 12, .inl k))] H := hP
      have hD : va_D A [(h0, .inr (1, [.ref a0])), (a0, .inl (cI, 12, .inl k))] := hD
      refine lv_iload_n hx hb d_Natural_shiftLeft_31 rfl (lv_at hl 1 rfl) ?_
      refine lv_lshl hx hb d_Natural_shiftLeft_32 rfl ?_
      refine lv_topl (fun v32 e32 => ?_)
      refine lv_lstore (lv' := [(5, .long v32), (4, .int x4), (3, .int x3), (2, .int x2), (0, .ref h0)]) hx hb d_Natural_shiftLeft_33 hl (by decide) rfl (fun ls hl => ?_)
      refine lv_aload_n hx hb d_Natural_shiftLeft_35 rfl (lv_at hl 4 rfl) ?_
      refine lv_iload hx hb d_Natural_shiftLeft_36 (lv_at hl 1 rfl) ?_
      refine lv_iload_n hx hb d_Natural_shiftLeft_38 rfl (lv_at hl 3 rfl) ?_
      refine lv_isub hx hb d_Natural_shiftLeft_39 ?_
      refine lv_topi (fun v39 e39 => ?_)
      have t39 : v39.toInt = ((i : Int) - 1) - (((n0 / 32 : Nat) : Int)) := by rw [e39]; exact q_isub t_x4 t_x2 (by omega)
      refine lv_iconst (v := 1) hx hb d_Natural_shiftLeft_40 (by decide) ?_
      refine lv_isub hx hb d_Natural_shiftLeft_41 ?_
      refine lv_topi (fun v41 e41 => ?_)
      have t41 : v41.toInt = (((i : Int) - 1) - (((n0 / 32 : Nat) : Int))) - 1 := by rw [e41]; exact q_isub t39 (show (1 : Int32).toInt = 1 by decide) (by omega)
      refine callV_l (wr := []) C0 (c_Natural_limbAt l dC dI cI cB cJ (h0) (a0) (k) (v41)) (cwV 1 hts (gV m_361 m_362 m_4 m_51 m_363) rfl rfl rfl (by decide +kernel) ⟨Nat.le_of_ble_eq_true rfl, Nat.le_of_ble_eq_true rfl⟩) 1 rfl rfl 0 rfl hP hD hS hA [0, 1] [] rfl rfl (by decide) (by decide) (by decide) rfl hl.1 rfl (Nat.le_of_ble_eq_true rfl) d_Natural_shiftLeft_42 ⟨Nat.le_of_ble_eq_true rfl, Nat.le_of_ble_eq_true rfl⟩ (fun r42 u42 H locs hw9 hP hD hS => ?_)
      have h42 : ul r42 = lz k v41.toInt := hw9
      have hP : va_P (dC, dI) vwCl [(h0, .inr (1, [.ref a0])), (a0, .inl (cI, 12, .inl k))] H := hP
      have hD : va_D A [(h0, .inr (1, [.ref a0])), (a0, .inl (cI, 12, .inl k))] := hD
      refine lv_bipush (v := 32) hx hb d_Natural_shiftLeft_45 (by decide) ?_
      refine lv_iload_n hx hb d_Natural_shiftLeft_47 rfl (lv_at hl 2 rfl) ?_
      refine lv_isub hx hb d_Natural_shiftLeft_48 ?_
      refine lv_topi (fun v48 e48 => ?_)
      have t48 : v48.toInt = 32 - (((n0 % 32 : Nat) : Int)) := by rw [e48]; exact q_isub (show (32 : Int32).toInt = 32 by decide) t_x3 (by omega)
      refine lv_lushr hx hb d_Natural_shiftLeft_49 rfl ?_
      refine lv_topl (fun v49 e49 => ?_)
      refine lv_lstore (lv' := [(7, .long v49), (5, .long v32), (4, .int x4), (3, .int x3), (2, .int x2), (0, .ref h0)]) hx hb d_Natural_shiftLeft_50 hl (by decide) rfl (fun ls hl => ?_)
      refine lv_aload_n hx hb d_Natural_shiftLeft_52 rfl (lv_at hl 5 rfl) ?_
      refine va_get (D := (dC, dI)) (ci := 1) (v := .ref a0) (C := R_Natural) (T := F_Natural) (N := 1) hx hb hts u_Natural hown hK hP 0 rfl rfl 0 (by decide) (hts _ m_105) (fun _ h9 => h9) rfl d_Natural_shiftLeft_53 ?_
      refine lv_iload hx hb d_Natural_shiftLeft_56 (lv_at hl 2 rfl) ?_
      refine lv_lload hx hb d_Natural_shiftLeft_58 (lv_at hl 1 rfl) ?_
      refine lv_lload hx hb d_Natural_shiftLeft_60 (lv_at hl 0 rfl) ?_
      refine lv_lor hx hb d_Natural_shiftLeft_62 ?_
      refine lv_topl (fun v62 e62 => ?_)
      refine lv_l2i hx hb d_Natural_shiftLeft_63 rfl ?_
      refine lv_topi (fun v63 e63 => ?_)
      refine va_iast hx hb hK hP hD hS 1 0 rfl rfl (q_in t_x4 (by omega)) d_Natural_shiftLeft_64 (fun H locs hP hD hS => ?_)
      rw [q_cl (k := i - 1) (t_x4.trans (by omega))] at hP hD
      have hP : va_P (dC, dI) vwCl [(h0, .inr (1, [.ref a0])), (a0, .inl (cI, 12, .inl (upd k (i - 1) v63)))] H := hP
      have hD : va_D A [(h0, .inr (1, [.ref a0])), (a0, .inl (cI, 12, .inl (upd k (i - 1) v63)))] := hD
      obtain ⟨v65, e65⟩ : ∃ y : Int32, y = x4 + (-1) := ⟨_, rfl⟩
      have t65 : v65.toInt = (i : Int) - 1 + (-1) := by rw [e65]; exact q_iadd t_x4 (show ((-1) : Int32).toInt = (-1) by decide) (by omega)
      refine lv_iinc (v := v65) (lv' := [(4, .int v65), (7, .long v49), (5, .long v32), (3, .int x3), (2, .int x2), (0, .ref h0)]) hx hb d_Natural_shiftLeft_65 hl (k := 2) rfl (by rw [e65]; rfl) (by decide) rfl (fun ls hl => ?_)
      refine lv_goto (tgt := 18) hx hb d_Natural_shiftLeft_68 (by decide) ?_
      have hlz : ∀ z : Int, z ≤ (i : Int) - 1 → lz k z = lz f z := fun z hz => by
        unfold lz
        split
        · rw [hk z.toNat (by omega)]
        · rfl
      have k28 : ul r28 = lz f (((i - 1 : Nat) : Int) - (n0 / 32 : Nat)) := by rw [h28, t27, hlz _ (by omega)]; congr 1; omega
      have k42 : ul r42 = lz f (((i - 1 : Nat) : Int) - (n0 / 32 : Nat) - 1) := by rw [h42, t41, hlz _ (by omega)]; congr 1; omega
      have hq : n0 % 32 < 32 := Nat.mod_lt _ (by decide)
      have hp2 : 2 ^ (n0 % 32) ≤ 2 ^ 31 := Nat.pow_le_pow_right (by decide) (by omega)
      have hl1 := lz_lt f (((i - 1 : Nat) : Int) - (n0 / 32 : Nat))
      have hl2 := lz_lt f (((i - 1 : Nat) : Int) - (n0 / 32 : Nat) - 1)
      have hsh : shw f (n0 / 32) (n0 % 32) (i - 1) = lz f (((i - 1 : Nat) : Int) - (n0 / 32 : Nat)) * 2 ^ (n0 % 32) % 4294967296 + lz f (((i - 1 : Nat) : Int) - (n0 / 32 : Nat) - 1) / 2 ^ (32 - n0 % 32) := rfl
      generalize lz f (((i - 1 : Nat) : Int) - (n0 / 32 : Nat)) = A1 at *
      generalize lz f (((i - 1 : Nat) : Int) - (n0 / 32 : Nat) - 1) = A2 at *
      have hm : A1 * 2 ^ (n0 % 32) ≤ 4294967295 * 2 ^ 31 := Nat.mul_le_mul (by omega) hp2
      have k32 : ul v32 = A1 * 2 ^ (n0 % 32) := by rw [e32, ul_shl t_x3 (by omega), k28, Nat.mod_eq_of_lt (by omega)]
      have t48' : v48.toInt = ((32 - n0 % 32 : Nat) : Int) := t48.trans (by omega)
      have k49 : ul v49 = A2 / 2 ^ (32 - n0 % 32) := by rw [e49, ul_ushr t48' (by omega), k42]
      have hb : A2 / 2 ^ (32 - n0 % 32) < 2 ^ (n0 % 32) := by
        rw [Nat.div_lt_iff_lt_mul (pw_p _), ← Nat.pow_add, show n0 % 32 + (32 - n0 % 32) = 32 by omega]
        exact hl2
      have k62 : ul v62 = A1 * 2 ^ (n0 % 32) + A2 / 2 ^ (32 - n0 % 32) := by rw [e62]; exact ul_or k32 k49 hb
      have k63 : uw v63 = A1 * 2 ^ (n0 % 32) % 4294967296 + A2 / 2 ^ (32 - n0 % 32) := by
        rw [e63, uw_l2i, k62]
        exact or_mod (by omega) hb
      exact ih (x2) (x3) (v65) (i - 1) (upd k (i - 1) v63) H locs ls (by omega) ((t65).trans (by omega)) ((t_x3).trans (by omega)) ((t_x2).trans (by omega)) (by omega) (by intro j h; rw [pk_un (by omega)]; exact hk j (by omega)) (by intro j h1 h2; rcases Nat.lt_or_ge j i with h | h; skip; rw [show j = i - 1 by omega, pk_us, k63, hsh]; rw [pk_un (by omega)]; exact hw j h h2) (va_Psub hP [0, 1] rfl) (hD.sub [0, 1] (by decide) rfl) hS (lv_sub hl [0, 3, 4, 5] rfl)
set_option maxHeartbeats 4000000 in
set_option maxRecDepth 100000 in
theorem c_Natural_shiftLeft (l : Launch) (dC : Nat → ClassId) (dI : Nat → Nat → Nat) (cI cB cJ : ClassId) (h0 : Nat) (a0 : Nat) (f : Nat → Int32) (x : Int32) (n0 : Nat) (hx0 : x.toInt = (n0 : Int)) : Cv l dC dI cI cB cJ y_Natural_shiftLeft w_Natural_shiftLeft ({ frames := 1, cells := 0, slots := 0, locals := 21 } : Room) [.ref h0, .int x] [(h0, .inr (1, [.ref a0])), (a0, .inl (cI, 12, .inl f))] (fun (u : (Nat → Int32)) => nv u 12 = nv f 12 * 2 ^ n0 % 2 ^ (32 * 12)) (fun u : (Nat → Int32) => [(h0, .inr (1, [.ref a0])), (a0, .inl (cI, 12, .inl u))]) := by
  refine Cv.intro (cc := b_Natural_shiftLeft) (maxL := 9) (by decide) rfl (Nat.le_of_ble_eq_true rfl) ?_
  intro p e s m below meth c A ls C0 hin hA hP hD hS hl
  obtain ⟨hx, hb, hml, hown, hts, hr, hlocks, hK, hN⟩ := id C0
  obtain ⟨H, hH⟩ : ∃ H, H = s.heap := ⟨_, rfl⟩
  have hP : va_P (dC, dI) vwCl [(h0, .inr (1, [.ref a0])), (a0, .inl (cI, 12, .inl f))] s.heap := hP
  have hl : lv_has ls 9 [(0, .ref h0), (1, .int x)] := hl
  have r_x := q_r32 x
  suffices h : ∀ (H : Heap) (locs : List Loc), va_P (dC, dI) vwCl [(h0, .inr (1, [.ref a0])), (a0, .inl (cI, 12, .inl f))] H → va_D A [(h0, .inr (1, [.ref a0])), (a0, .inl (cI, 12, .inl f))] → va_S A s.heap H locs → W p l e ({ frames := 1, cells := 0, slots := 0, locals := 21 } : Room) s m ([.ref h0, .int x] : List Value).toArray below meth c H locs 0 0 (MQ below (va_Qv (fun (u : (Nat → Int32)) => nv u 12 = nv f 12 * 2 ^ n0 % 2 ^ (32 * 12)) (poG dC dI A (fun u : (Nat → Int32) => [(h0, .inr (1, [.ref a0])), (a0, .inl (cI, 12, .inl u))])) A) ([.ref h0, .int x] : List Value).toArray s 0 0 A) (F0 m 0 ls []) from h _ _ hP hD hS
  clear hP hD hS hH H
  intro H locs hP hD hS
  refine lv_iload_n hx hb d_Natural_shiftLeft_0 rfl (lv_at hl 1 rfl) ?_
  refine lv_if_gt (tgt := 5) hx hb d_Natural_shiftLeft_1 (by decide) (fun b1 => ?_) (fun b1 => ?_)
  · skip
    rw [q_ilt (show (0 : Int32).toInt = 0 by decide) hx0] at b1
    refine lv_iload_n hx hb d_Natural_shiftLeft_5 rfl (lv_at hl 1 rfl) ?_
    refine lv_iconst (v := 5) hx hb d_Natural_shiftLeft_6 (by decide) ?_
    have hr0 := q_r32 x
    refine lv_ishr hx hb d_Natural_shiftLeft_7 ?_
    refine lv_topi (fun v7 e7 => ?_)
    have t7 : v7.toInt = (n0 : Int) / 32 := by rw [e7]; exact q_ishr5 hx0
    refine lv_istore_n (lv' := [(2, .int v7), (0, .ref h0), (1, .int x)]) hx hb d_Natural_shiftLeft_8 rfl hl (by decide) rfl (fun ls hl => ?_)
    refine lv_iload_n hx hb d_Natural_shiftLeft_9 rfl (lv_at hl 2 rfl) ?_
    refine lv_bipush (v := 31) hx hb d_Natural_shiftLeft_10 (by decide) ?_
    refine lv_iand hx hb d_Natural_shiftLeft_12 ?_
    refine lv_topi (fun v12 e12 => ?_)
    have t12 : v12.toInt = ((n0 % 32 : Nat) : Int) := by rw [e12]; exact q_iand31 hx0
    refine lv_istore_n (lv' := [(3, .int v12), (2, .int v7), (0, .ref h0), (1, .int x)]) hx hb d_Natural_shiftLeft_13 rfl hl (by decide) rfl (fun ls hl => ?_)
    refine lv_bipush (v := 11) hx hb d_Natural_shiftLeft_14 (by decide) ?_
    refine lv_istore (lv' := [(4, .int 11), (3, .int v12), (2, .int v7), (0, .ref h0), (1, .int x)]) hx hb d_Natural_shiftLeft_16 hl (by decide) rfl (fun ls hl => ?_)
    exact L_Natural_shiftLeft_18 (h0) (a0) (f) (x) (n0) C0 hA (hx0) _ (v7) (v12) (11) (12) (f) H locs ls (Nat.lt_succ_self _) (((show (11 : Int32).toInt = 11 by decide)).trans (by omega)) ((t12).trans (by omega)) ((t7).trans (by omega)) (by omega) (by intro j h; rfl) (by intro j h h2; omega) (va_Psub hP [0, 1] rfl) (hD.sub [0, 1] (by decide) rfl) hS (lv_sub hl [0, 1, 2, 3] rfl)
  · skip
    rw [q_ilt (show (0 : Int32).toInt = 0 by decide) hx0] at b1
    exact Cv.ret C0 (u := (f)) (Nat.le_of_ble_eq_true rfl) (Nat.le_of_ble_eq_true rfl) (by have hz : n0 = 0 := (by omega); subst hz; rw [Nat.pow_zero, Nat.mul_one, Nat.mod_eq_of_lt (nv_lt f 12)]) hP hD hS [0, 1] (by decide) rfl d_Natural_shiftLeft_4
set_option maxHeartbeats 4000000 in
set_option maxRecDepth 100000 in
theorem c_Natural_timesPowerOfTen (l : Launch) (dC : Nat → ClassId) (dI : Nat → Nat → Nat) (cI cB cJ : ClassId) (h0 : Nat) (a0 : Nat) (f : Nat → Int32) (pw : Int32) (n0 : Nat) (hpw : pw.toInt = (n0 : Int)) : Cv l dC dI cI cB cJ y_Natural_timesPowerOfTen w_Natural_timesPowerOfTen ({ frames := 2, cells := 0, slots := 0, locals := 49 } : Room) [.ref h0, .int pw] [(h0, .inr (1, [.ref a0])), (a0, .inl (cI, 12, .inl f))] (fun (u : (Nat → Int32)) => nv u 12 = nv f 12 * 10 ^ n0 % 2 ^ (32 * 12)) (fun u : (Nat → Int32) => [(h0, .inr (1, [.ref a0])), (a0, .inl (cI, 12, .inl u))]) := by
  refine Cv.intro (cc := b_Natural_timesPowerOfTen) (maxL := 2) (by decide) rfl (Nat.le_of_ble_eq_true rfl) ?_
  intro p e s m below meth c A ls C0 hin hA hP hD hS hl
  obtain ⟨hx, hb, hml, hown, hts, hr, hlocks, hK, hN⟩ := id C0
  obtain ⟨H, hH⟩ : ∃ H, H = s.heap := ⟨_, rfl⟩
  have hP : va_P (dC, dI) vwCl [(h0, .inr (1, [.ref a0])), (a0, .inl (cI, 12, .inl f))] s.heap := hP
  have hl : lv_has ls 2 [(0, .ref h0), (1, .int pw)] := hl
  have r_pw := q_r32 pw
  suffices h : ∀ (H : Heap) (locs : List Loc), va_P (dC, dI) vwCl [(h0, .inr (1, [.ref a0])), (a0, .inl (cI, 12, .inl f))] H → va_D A [(h0, .inr (1, [.ref a0])), (a0, .inl (cI, 12, .inl f))] → va_S A s.heap H locs → W p l e ({ frames := 2, cells := 0, slots := 0, locals := 49 } : Room) s m ([.ref h0, .int pw] : List Value).toArray below meth c H locs 0 0 (MQ below (va_Qv (fun (u : (Nat → Int32)) => nv u 12 = nv f 12 * 10 ^ n0 % 2 ^ (32 * 12)) (poG dC dI A (fun u : (Nat → Int32) => [(h0, .inr (1, [.ref a0])), (a0, .inl (cI, 12, .inl u))])) A) ([.ref h0, .int pw] : List Value).toArray s 0 0 A) (F0 m 0 ls []) from h _ _ hP hD hS
  clear hP hD hS hH H
  intro H locs hP hD hS
  refine lv_aload_n hx hb d_Natural_timesPowerOfTen_0 rfl (lv_at hl 0 rfl) ?_
  refine lv_iload_n hx hb d_Natural_timesPowerOfTen_1 rfl (lv_at hl 1 rfl) ?_
  refine callV_v (wr := []) C0 (c_Natural_timesPowerOfFive l dC dI cI cB cJ (h0) (a0) (f) (pw) (n0) (by exact hpw)) (cwV 1 hts (gV m_351 m_352 m_353 m_51 m_354) rfl rfl rfl (by decide +kernel) ⟨Nat.le_of_ble_eq_true rfl, Nat.le_of_ble_eq_true rfl⟩) 1 rfl rfl 0 rfl hP hD hS hA [0, 1] [] rfl rfl (by decide) (by decide) (by decide) rfl hl.1 rfl (Nat.le_of_ble_eq_true rfl) d_Natural_timesPowerOfTen_2 ⟨Nat.le_of_ble_eq_true rfl, Nat.le_of_ble_eq_true rfl⟩ (fun k2 H locs hw9 hP hD hS => ?_)
  have h2 : nv k2 12 = nv f 12 * 5 ^ n0 % 2 ^ (32 * 12) := hw9
  have hP : va_P (dC, dI) vwCl [(h0, .inr (1, [.ref a0])), (a0, .inl (cI, 12, .inl k2))] H := hP
  have hD : va_D A [(h0, .inr (1, [.ref a0])), (a0, .inl (cI, 12, .inl k2))] := hD
  refine lv_aload_n hx hb d_Natural_timesPowerOfTen_5 rfl (lv_at hl 0 rfl) ?_
  refine lv_iload_n hx hb d_Natural_timesPowerOfTen_6 rfl (lv_at hl 1 rfl) ?_
  refine callV_v (wr := []) C0 (c_Natural_shiftLeft l dC dI cI cB cJ (h0) (a0) (k2) (pw) (n0) (by exact hpw)) (cwV 1 hts (gV m_357 m_358 m_359 m_51 m_360) rfl rfl rfl (by decide +kernel) ⟨Nat.le_of_ble_eq_true rfl, Nat.le_of_ble_eq_true rfl⟩) 1 rfl rfl 0 rfl hP hD hS hA [0, 1] [] rfl rfl (by decide) (by decide) (by decide) rfl hl.1 rfl (Nat.le_of_ble_eq_true rfl) d_Natural_timesPowerOfTen_7 ⟨Nat.le_of_ble_eq_true rfl, Nat.le_of_ble_eq_true rfl⟩ (fun k7 H locs hw9 hP hD hS => ?_)
  have h7 : nv k7 12 = nv k2 12 * 2 ^ n0 % 2 ^ (32 * 12) := hw9
  have hP : va_P (dC, dI) vwCl [(h0, .inr (1, [.ref a0])), (a0, .inl (cI, 12, .inl k7))] H := hP
  have hD : va_D A [(h0, .inr (1, [.ref a0])), (a0, .inl (cI, 12, .inl k7))] := hD
  exact Cv.ret C0 (u := (k7)) (Nat.le_of_ble_eq_true rfl) (Nat.le_of_ble_eq_true rfl) (by rw [h7, h2, mm, Nat.mul_assoc, ← Nat.mul_pow]) hP hD hS [0, 1] (by decide) rfl d_Natural_timesPowerOfTen_10
set_option maxHeartbeats 4000000 in
set_option maxRecDepth 100000 in
theorem L_Natural_divide_12 {p : Program} {l : Launch} {e : Env} {s : State} {m : MethodId} {below : List Frame} {meth : Method} {c : Code} {dC : Nat → ClassId} {dI : Nat → Nat → Nat} {cI cB cJ : ClassId} {A : Nat → Prop} (h0 : Nat) (a0 : Nat) (f : Nat → Int32) (x : Int32) (dv : Nat) (C0 : cx dC dI cI cB cJ R_Natural b_Natural_divide 5 (some .int) p s m ([.ref h0, .int x] : List Value).toArray meth c) (hA : ∀ q : Nat, s.heap.size ≤ q → A q) (hx0 : x.toInt = (dv : Int)) (hd0 : 0 < dv) : ∀ n : Nat, (∀ (x4 : Int32) (i : Nat) (c2 : Int64) (t : Nat) (k : Nat → Int32) (H : Heap) (locs : List Loc) (ls : Array Slot), i < n → x4.toInt = (i : Int) - 1 → c2.toInt = (t : Int) → x.toInt = (dv : Int) → (i ≤ 12) → (∀ j, j < i → k j = f j) → (t < dv) → (hv f i (12 - i) = hv k i (12 - i) * dv + t) → va_P (dC, dI) vwCl [(h0, .inr (1, [.ref a0])), (a0, .inl (cI, 12, .inl k))] H → va_D A [(h0, .inr (1, [.ref a0])), (a0, .inl (cI, 12, .inl k))] → va_S A s.heap H locs → lv_has ls 5 [(4, .int x4), (2, .long c2), (1, .int x), (0, .ref h0)] → W p l e ({ frames := 0, cells := 0, slots := 0, locals := 0 } : Room) s m ([.ref h0, .int x] : List Value).toArray below meth c H locs 0 0 (MQ below (va_Qi (fun (r : Int32) (u : (Nat → Int32)) => nv u 12 = nv f 12 / dv ∧ r.toInt = ((nv f 12 % dv : Nat) : Int)) (poG dC dI A (fun u : (Nat → Int32) => [(h0, .inr (1, [.ref a0])), (a0, .inl (cI, 12, .inl u))])) A) ([.ref h0, .int x] : List Value).toArray s 0 0 A) (F0 m 12 ls [])) := by
  obtain ⟨hx, hb, hml, hown, hts, hr, hlocks, hK, hN⟩ := id C0
  intro n
  induction n with
  | zero => exact fun _ _ _ _ _ _ _ _ h0 _ _ _ _ _ _ _ _ _ _ _ => absurd h0 (Nat.not_lt_zero _)
  | succ n ih =>
    intro x4 i c2 t k H locs ls hn t_x4 t_c2 t_x hi hk ht hv0 hP hD hS hl
    have r_x4 := q_r32 x4
    have r_c2 := q_r64 c2
    have r_x := q_r32 x
    refine lv_iload hx hb d_Natural_divide_12 (lv_at hl 0 rfl) ?_
    refine lv_if_lt (tgt := 58) hx hb d_Natural_divide_14 (by decide) (fun b14 => ?_) (fun b14 => ?_)
    · skip
      rw [q_ilt t_x4 (show (0 : Int32).toInt = 0 by decide)] at b14
      refine lv_lload_n hx hb d_Natural_divide_58 rfl (lv_at hl 1 rfl) ?_
      refine lv_l2i hx hb d_Natural_divide_59 rfl ?_
      refine lv_topi (fun v59 e59 => ?_)
      have t59 : v59.toInt = (t : Int) := by rw [e59]; exact q_l2i t_c2 (by omega)
      have hi0 : i = 0 := by omega
      subst hi0
      have hend := hv_div_end ht hv0
      have hrx := q_r32 x
      exact Ci.ret C0 (v := v59) (u := (k)) (Nat.le_of_ble_eq_true rfl) (Nat.le_of_ble_eq_true rfl) (by exact ⟨hend.1, by rw [t59, hend.2]⟩) hP hD hS [0, 1] (by decide) rfl d_Natural_divide_60
    · skip
      rw [q_ilt t_x4 (show (0 : Int32).toInt = 0 by decide)] at b14
      refine lv_lload_n hx hb d_Natural_divide_17 rfl (lv_at hl 1 rfl) ?_
      refine lv_bipush (v := 32) hx hb d_Natural_divide_18 (by decide) ?_
      have hrx := q_r32 x
      refine lv_lshl hx hb d_Natural_divide_20 rfl ?_
      refine lv_topl (fun v20 e20 => ?_)
      have t20 : v20.toInt = ((t * 4294967296 : Nat) : Int) := by rw [e20]; exact q_shl32 t_c2 (by omega)
      refine lv_aload_n hx hb d_Natural_divide_21 rfl (lv_at hl 3 rfl) ?_
      refine va_get (D := (dC, dI)) (ci := 1) (v := .ref a0) (C := R_Natural) (T := F_Natural) (N := 1) hx hb hts u_Natural hown hK hP 0 rfl rfl 0 (by decide) (hts _ m_105) (fun _ h9 => h9) rfl d_Natural_divide_22 ?_
      refine lv_iload hx hb d_Natural_divide_25 (lv_at hl 0 rfl) ?_
      refine va_iald hx hb hK hP 1 0 rfl rfl (q_in t_x4 (by omega)) d_Natural_divide_27 ?_
      refine lv_topi (fun v27 e27 => ?_)
      rw [q_cl (k := i - 1) (t_x4.trans (by omega))] at e27
      refine lv_i2l hx hb d_Natural_divide_28 rfl ?_
      refine lv_topl (fun v28 e28 => ?_)
      refine lv_ldc2 (v := 4294967295) hx hb hown (hts _ m_273) d_Natural_divide_29 ?_
      refine lv_land hx hb d_Natural_divide_32 ?_
      refine lv_topl (fun v32 e32 => ?_)
      have t32 : v32.toInt = (uw v27 : Int) := by rw [e32, e28]; exact q_lo v27
      have hl27 := uw_lt v27
      refine lv_ladd hx hb d_Natural_divide_33 ?_
      refine lv_topl (fun v33 e33 => ?_)
      have t33 : v33.toInt = (((t * 4294967296 : Nat) : Int)) + (uw v27 : Int) := by rw [e33]; exact q_ladd t20 t32 (by omega)
      refine lv_lstore_n (lv' := [(2, .long v33), (4, .int x4), (1, .int x), (0, .ref h0)]) hx hb d_Natural_divide_34 rfl hl (by decide) rfl (fun ls hl => ?_)
      refine lv_aload_n hx hb d_Natural_divide_35 rfl (lv_at hl 3 rfl) ?_
      refine va_get (D := (dC, dI)) (ci := 1) (v := .ref a0) (C := R_Natural) (T := F_Natural) (N := 1) hx hb hts u_Natural hown hK hP 0 rfl rfl 0 (by decide) (hts _ m_105) (fun _ h9 => h9) rfl d_Natural_divide_36 ?_
      refine lv_iload hx hb d_Natural_divide_39 (lv_at hl 1 rfl) ?_
      refine lv_lload_n hx hb d_Natural_divide_41 rfl (lv_at hl 0 rfl) ?_
      refine lv_iload_n hx hb d_Natural_divide_42 rfl (lv_at hl 2 rfl) ?_
      refine lv_i2l hx hb d_Natural_divide_43 rfl ?_
      refine lv_topl (fun v43 e43 => ?_)
      have t43 : v43.toInt = (dv : Int) := by rw [e43]; exact q_i2l t_x
      refine lv_ldiv hx hb d_Natural_divide_44 (fun h0 => by have h1 := (q_leq t43 (show (0 : Int64).toInt = 0 by decide)).mp h0; omega) ?_
      refine lv_topl (fun v44 e44 => ?_)
      have t44 : v44.toInt = ((((t * 4294967296 : Nat) : Int)) + (uw v27 : Int)) / (dv : Int) := by rw [e44]; exact q_ldiv t33 t43 (by omega)
      refine lv_l2i hx hb d_Natural_divide_45 rfl ?_
      refine lv_topi (fun v45 e45 => ?_)
      refine va_iast hx hb hK hP hD hS 1 0 rfl rfl (q_in t_x4 (by omega)) d_Natural_divide_46 (fun H locs hP hD hS => ?_)
      rw [q_cl (k := i - 1) (t_x4.trans (by omega))] at hP hD
      have hP : va_P (dC, dI) vwCl [(h0, .inr (1, [.ref a0])), (a0, .inl (cI, 12, .inl (upd k (i - 1) v45)))] H := hP
      have hD : va_D A [(h0, .inr (1, [.ref a0])), (a0, .inl (cI, 12, .inl (upd k (i - 1) v45)))] := hD
      refine lv_lload_n hx hb d_Natural_divide_47 rfl (lv_at hl 0 rfl) ?_
      refine lv_iload_n hx hb d_Natural_divide_48 rfl (lv_at hl 2 rfl) ?_
      refine lv_i2l hx hb d_Natural_divide_49 rfl ?_
      refine lv_topl (fun v49 e49 => ?_)
      have t49 : v49.toInt = (dv : Int) := by rw [e49]; exact q_i2l t_x
      refine lv_lrem hx hb d_Natural_divide_50 (fun h0 => by have h1 := (q_leq t49 (show (0 : Int64).toInt = 0 by decide)).mp h0; omega) ?_
      refine lv_topl (fun v50 e50 => ?_)
      have t50 : v50.toInt = ((((t * 4294967296 : Nat) : Int)) + (uw v27 : Int)) % (dv : Int) := by rw [e50]; exact q_lrem t33 t49 (by omega)
      refine lv_lstore_n (lv' := [(2, .long v50), (4, .int x4), (1, .int x), (0, .ref h0)]) hx hb d_Natural_divide_51 rfl hl (by decide) rfl (fun ls hl => ?_)
      obtain ⟨v52, e52⟩ : ∃ y : Int32, y = x4 + (-1) := ⟨_, rfl⟩
      have t52 : v52.toInt = (i : Int) - 1 + (-1) := by rw [e52]; exact q_iadd t_x4 (show ((-1) : Int32).toInt = (-1) by decide) (by omega)
      refine lv_iinc (v := v52) (lv' := [(4, .int v52), (2, .long v50), (1, .int x), (0, .ref h0)]) hx hb d_Natural_divide_52 hl (k := 1) rfl (by rw [e52]; rfl) (by decide) rfl (fun ls hl => ?_)
      refine lv_goto (tgt := 12) hx hb d_Natural_divide_55 (by decide) ?_
      have z27 : v27 = f (i - 1) := by rw [e27]; exact hk (i - 1) (by omega)
      have hdm := Nat.div_add_mod (t * 4294967296 + uw (f (i - 1))) dv
      have hml2 := Nat.mod_lt (t * 4294967296 + uw (f (i - 1))) hd0
      have hql : (t * 4294967296 + uw (f (i - 1))) / dv < 4294967296 := by
        rw [Nat.div_lt_iff_lt_mul hd0, Nat.mul_comm]
        have := uw_lt (f (i - 1))
        have h1 : (t + 1) * 4294967296 ≤ dv * 4294967296 := Nat.mul_le_mul_right _ ht
        omega
      have k45 : uw v45 = (t * 4294967296 + uw (f (i - 1))) / dv := by
        have h1 := uw_l2i_int t44
        rw [← e45, z27, ← Int.natCast_add, ← Int.natCast_ediv] at h1
        generalize (t * 4294967296 + uw (f (i - 1))) / dv = Z at h1 hql ⊢
        omega
      have hstep := hv_div_step (f := f) (g := k) (i := i - 1) (n := 12 - i) (d := dv) (r := t) (x := v45) hd0 (by rw [show i - 1 + 1 = i by omega]; exact hv0) (fun j h1 h2 => (pk_un (by omega)).symm) k45
      exact ih (v52) (i - 1) (v50) ((t * 4294967296 + uw (f (i - 1))) % dv) (upd k (i - 1) v45) H locs ls (by omega) ((t52).trans (by omega)) (t50.trans (by rw [z27, ← Int.natCast_add, ← Int.natCast_emod])) ((t_x).trans (by omega)) (by omega) (by intro j h; rw [pk_un (by omega)]; exact hk j (by omega)) (by exact hml2) (by rw [show 12 - (i - 1) = 12 - i + 1 by omega]; exact hstep) (va_Psub hP [0, 1] rfl) (hD.sub [0, 1] (by decide) rfl) hS (lv_sub hl [0, 1, 2, 3] rfl)
set_option maxHeartbeats 4000000 in
set_option maxRecDepth 100000 in
theorem c_Natural_divide (l : Launch) (dC : Nat → ClassId) (dI : Nat → Nat → Nat) (cI cB cJ : ClassId) (h0 : Nat) (a0 : Nat) (f : Nat → Int32) (x : Int32) (dv : Nat) (hx0 : x.toInt = (dv : Int)) (hd0 : 0 < dv) : Ci l dC dI cI cB cJ y_Natural_divide w_Natural_divide ({ frames := 0, cells := 0, slots := 0, locals := 0 } : Room) [.ref h0, .int x] [(h0, .inr (1, [.ref a0])), (a0, .inl (cI, 12, .inl f))] (fun (r : Int32) (u : (Nat → Int32)) => nv u 12 = nv f 12 / dv ∧ r.toInt = ((nv f 12 % dv : Nat) : Int)) (fun u : (Nat → Int32) => [(h0, .inr (1, [.ref a0])), (a0, .inl (cI, 12, .inl u))]) := by
  refine Ci.intro (cc := b_Natural_divide) (maxL := 5) (by decide) rfl (Nat.le_of_ble_eq_true rfl) ?_
  intro p e s m below meth c A ls C0 hin hA hP hD hS hl
  obtain ⟨hx, hb, hml, hown, hts, hr, hlocks, hK, hN⟩ := id C0
  obtain ⟨H, hH⟩ : ∃ H, H = s.heap := ⟨_, rfl⟩
  have hP : va_P (dC, dI) vwCl [(h0, .inr (1, [.ref a0])), (a0, .inl (cI, 12, .inl f))] s.heap := hP
  have hl : lv_has ls 5 [(0, .ref h0), (1, .int x)] := hl
  have r_x := q_r32 x
  suffices h : ∀ (H : Heap) (locs : List Loc), va_P (dC, dI) vwCl [(h0, .inr (1, [.ref a0])), (a0, .inl (cI, 12, .inl f))] H → va_D A [(h0, .inr (1, [.ref a0])), (a0, .inl (cI, 12, .inl f))] → va_S A s.heap H locs → W p l e ({ frames := 0, cells := 0, slots := 0, locals := 0 } : Room) s m ([.ref h0, .int x] : List Value).toArray below meth c H locs 0 0 (MQ below (va_Qi (fun (r : Int32) (u : (Nat → Int32)) => nv u 12 = nv f 12 / dv ∧ r.toInt = ((nv f 12 % dv : Nat) : Int)) (poG dC dI A (fun u : (Nat → Int32) => [(h0, .inr (1, [.ref a0])), (a0, .inl (cI, 12, .inl u))])) A) ([.ref h0, .int x] : List Value).toArray s 0 0 A) (F0 m 0 ls []) from h _ _ hP hD hS
  clear hP hD hS hH H
  intro H locs hP hD hS
  refine lv_iload_n hx hb d_Natural_divide_0 rfl (lv_at hl 1 rfl) ?_
  refine lv_if_gt (tgt := 6) hx hb d_Natural_divide_1 (by decide) (fun b1 => ?_) (fun b1 => ?_)
  · skip
    rw [q_ilt (show (0 : Int32).toInt = 0 by decide) hx0] at b1
    refine lv_lconst (v := 0) hx hb d_Natural_divide_6 (by decide) ?_
    refine lv_lstore_n (lv' := [(2, .long 0), (0, .ref h0), (1, .int x)]) hx hb d_Natural_divide_7 rfl hl (by decide) rfl (fun ls hl => ?_)
    refine lv_bipush (v := 11) hx hb d_Natural_divide_8 (by decide) ?_
    refine lv_istore (lv' := [(4, .int 11), (2, .long 0), (0, .ref h0), (1, .int x)]) hx hb d_Natural_divide_10 hl (by decide) rfl (fun ls hl => ?_)
    exact L_Natural_divide_12 (h0) (a0) (f) (x) (dv) C0 hA (hx0) (hd0) _ (11) (12) (0) (0) (f) H locs ls (Nat.lt_succ_self _) (((show (11 : Int32).toInt = 11 by decide)).trans (by omega)) (((show (0 : Int64).toInt = 0 by decide)).trans (by omega)) ((hx0).trans (by omega)) (by omega) (by intro j h; rfl) (by omega) (by show 0 = 0 * dv + 0; omega) (va_Psub hP [0, 1] rfl) (hD.sub [0, 1] (by decide) rfl) hS (lv_sub hl [0, 1, 3, 2] rfl)
  · skip
    rw [q_ilt (show (0 : Int32).toInt = 0 by decide) hx0] at b1
    exact absurd b1 (by omega)
set_option maxHeartbeats 4000000 in
set_option maxRecDepth 100000 in
theorem L_Integer_numberOfLeadingZeros_73 {p : Program} {l : Launch} {e : Env} {s : State} {m : MethodId} {below : List Frame} {meth : Method} {c : Code} {dC : Nat → ClassId} {dI : Nat → Nat → Nat} {cI cB cJ : ClassId} {A : Nat → Prop} (x : Int32) (C0 : cx dC dI cI cB cJ R_Integer b_Integer_numberOfLeadingZeros 2 (some .int) p s m ([.int x] : List Value).toArray meth c) (hA : ∀ q : Nat, s.heap.size ≤ q → A q)  : (∀ (x0 : Int32) (x1 : Int32) (w : Nat) (z : Nat) (H : Heap) (locs : List Loc) (ls : Array Slot), x1.toInt = 31 - (z : Int) → x0.toInt = (w : Int) → (w = uw x / 2 ^ z) → (0 < w) → (w < 4) → (z ≤ 30) → va_P (dC, dI) vwCl [] H → va_D A [] → va_S A s.heap H locs → lv_has ls 2 [(1, .int x1), (0, .int x0)] → W p l e ({ frames := 0, cells := 0, slots := 0, locals := 0 } : Room) s m ([.int x] : List Value).toArray below meth c H locs 0 0 (MQ below (va_Qi (fun (r : Int32) (u : Unit) => ∃ z : Nat, r.toInt = (z : Int) ∧ ((x.toInt = 0 ∧ z = 32) ∨ (z < 32 ∧ 2 ^ (31 - z) ≤ uw x ∧ uw x < 2 ^ (32 - z)))) (poG dC dI A (fun u : Unit => [])) A) ([.int x] : List Value).toArray s 0 0 A) (F0 m 73 ls [])) := by
  obtain ⟨hx, hb, hml, hown, hts, hr, hlocks, hK, hN⟩ := id C0
  intro x0 x1 w z H locs ls t_x1 t_x0 hw hw0 hw1 hz hP hD hS hl
  have r_x1 := q_r32 x1
  have r_x0 := q_r32 x0
  refine lv_iload_n hx hb d_Integer_numberOfLeadingZeros_73 rfl (lv_at hl 0 rfl) ?_
  refine lv_iload_n hx hb d_Integer_numberOfLeadingZeros_74 rfl (lv_at hl 1 rfl) ?_
  refine lv_iconst (v := 1) hx hb d_Integer_numberOfLeadingZeros_75 (by decide) ?_
  refine lv_iushr hx hb d_Integer_numberOfLeadingZeros_76 rfl ?_
  refine lv_topi (fun v76 e76 => ?_)
  have t76 : v76.toInt = ((w / 2 : Nat) : Int) := by rw [e76]; exact q_iushr (k := 1) t_x0 (by decide)
  refine lv_isub hx hb d_Integer_numberOfLeadingZeros_77 ?_
  refine lv_topi (fun v77 e77 => ?_)
  have t77 : v77.toInt = (31 - (z : Int)) - (((w / 2 : Nat) : Int)) := by rw [e77]; exact q_isub t_x1 t76 (by omega)
  exact Ci.ret C0 (v := v77) (u := ()) (Nat.le_of_ble_eq_true rfl) (Nat.le_of_ble_eq_true rfl) (by exact ⟨31 - z - w / 2, by rw [t77]; omega, Or.inr (nlz_end hw hw0 hw1 hz)⟩) hP hD hS [] (by decide) rfl d_Integer_numberOfLeadingZeros_78
set_option maxHeartbeats 4000000 in
set_option maxRecDepth 100000 in
theorem L_Integer_numberOfLeadingZeros_61 {p : Program} {l : Launch} {e : Env} {s : State} {m : MethodId} {below : List Frame} {meth : Method} {c : Code} {dC : Nat → ClassId} {dI : Nat → Nat → Nat} {cI cB cJ : ClassId} {A : Nat → Prop} (x : Int32) (C0 : cx dC dI cI cB cJ R_Integer b_Integer_numberOfLeadingZeros 2 (some .int) p s m ([.int x] : List Value).toArray meth c) (hA : ∀ q : Nat, s.heap.size ≤ q → A q)  : (∀ (x0 : Int32) (x1 : Int32) (w : Nat) (z : Nat) (H : Heap) (locs : List Loc) (ls : Array Slot), x1.toInt = 31 - (z : Int) → x0.toInt = (w : Int) → (w = uw x / 2 ^ z) → (0 < w) → (w < 16) → (z ≤ 28) → va_P (dC, dI) vwCl [] H → va_D A [] → va_S A s.heap H locs → lv_has ls 2 [(1, .int x1), (0, .int x0)] → W p l e ({ frames := 0, cells := 0, slots := 0, locals := 0 } : Room) s m ([.int x] : List Value).toArray below meth c H locs 0 0 (MQ below (va_Qi (fun (r : Int32) (u : Unit) => ∃ z : Nat, r.toInt = (z : Int) ∧ ((x.toInt = 0 ∧ z = 32) ∨ (z < 32 ∧ 2 ^ (31 - z) ≤ uw x ∧ uw x < 2 ^ (32 - z)))) (poG dC dI A (fun u : Unit => [])) A) ([.int x] : List Value).toArray s 0 0 A) (F0 m 61 ls [])) := by
  obtain ⟨hx, hb, hml, hown, hts, hr, hlocks, hK, hN⟩ := id C0
  intro x0 x1 w z H locs ls t_x1 t_x0 hw hw0 hw1 hz hP hD hS hl
  have r_x1 := q_r32 x1
  have r_x0 := q_r32 x0
  refine lv_iload_n hx hb d_Integer_numberOfLeadingZeros_61 rfl (lv_at hl 1 rfl) ?_
  refine lv_iconst (v := 4) hx hb d_Integer_numberOfLeadingZeros_62 (by decide) ?_
  refine lv_icmp_lt (tgt := 73) hx hb d_Integer_numberOfLeadingZeros_63 (by decide) (fun b63 => ?_) (fun b63 => ?_)
  · skip
    rw [q_ilt t_x0 (show (4 : Int32).toInt = 4 by decide)] at b63
    exact L_Integer_numberOfLeadingZeros_73 (x) C0 hA  (x0) (x1) (w) (z) H locs ls ((t_x1).trans (by omega)) ((t_x0).trans (by omega)) (by exact hw) (by omega) (by omega) (by omega) (va_Psub hP [] rfl) (hD.sub [] (by decide) rfl) hS (lv_sub hl [0, 1] rfl)
  · skip
    rw [q_ilt t_x0 (show (4 : Int32).toInt = 4 by decide)] at b63
    obtain ⟨v66, e66⟩ : ∃ y : Int32, y = x1 + (-2) := ⟨_, rfl⟩
    have t66 : v66.toInt = 31 - (z : Int) + (-2) := by rw [e66]; exact q_iadd t_x1 (show ((-2) : Int32).toInt = (-2) by decide) (by omega)
    refine lv_iinc (v := v66) (lv' := [(1, .int v66), (0, .int x0)]) hx hb d_Integer_numberOfLeadingZeros_66 hl (k := 0) rfl (by rw [e66]; rfl) (by decide) rfl (fun ls hl => ?_)
    refine lv_iload_n hx hb d_Integer_numberOfLeadingZeros_69 rfl (lv_at hl 1 rfl) ?_
    refine lv_iconst (v := 2) hx hb d_Integer_numberOfLeadingZeros_70 (by decide) ?_
    refine lv_iushr hx hb d_Integer_numberOfLeadingZeros_71 rfl ?_
    refine lv_topi (fun v71 e71 => ?_)
    have t71 : v71.toInt = ((w / 4 : Nat) : Int) := by rw [e71]; exact q_iushr (k := 2) t_x0 (by decide)
    refine lv_istore_n (lv' := [(0, .int v71), (1, .int v66)]) hx hb d_Integer_numberOfLeadingZeros_72 rfl hl (by decide) rfl (fun ls hl => ?_)
    exact L_Integer_numberOfLeadingZeros_73 (x) C0 hA  (v71) (v66) (w / 4) (z + 2) H locs ls ((t66).trans (by omega)) ((t71).trans (by omega)) (by rw [hw, Nat.div_div_eq_div_mul, Nat.pow_add]) (by omega) (by omega) (by omega) (va_Psub hP [] rfl) (hD.sub [] (by decide) rfl) hS (lv_sub hl [1, 0] rfl)
set_option maxHeartbeats 4000000 in
set_option maxRecDepth 100000 in
theorem L_Integer_numberOfLeadingZeros_48 {p : Program} {l : Launch} {e : Env} {s : State} {m : MethodId} {below : List Frame} {meth : Method} {c : Code} {dC : Nat → ClassId} {dI : Nat → Nat → Nat} {cI cB cJ : ClassId} {A : Nat → Prop} (x : Int32) (C0 : cx dC dI cI cB cJ R_Integer b_Integer_numberOfLeadingZeros 2 (some .int) p s m ([.int x] : List Value).toArray meth c) (hA : ∀ q : Nat, s.heap.size ≤ q → A q)  : (∀ (x0 : Int32) (x1 : Int32) (w : Nat) (z : Nat) (H : Heap) (locs : List Loc) (ls : Array Slot), x1.toInt = 31 - (z : Int) → x0.toInt = (w : Int) → (w = uw x / 2 ^ z) → (0 < w) → (w < 256) → (z ≤ 24) → va_P (dC, dI) vwCl [] H → va_D A [] → va_S A s.heap H locs → lv_has ls 2 [(1, .int x1), (0, .int x0)] → W p l e ({ frames := 0, cells := 0, slots := 0, locals := 0 } : Room) s m ([.int x] : List Value).toArray below meth c H locs 0 0 (MQ below (va_Qi (fun (r : Int32) (u : Unit) => ∃ z : Nat, r.toInt = (z : Int) ∧ ((x.toInt = 0 ∧ z = 32) ∨ (z < 32 ∧ 2 ^ (31 - z) ≤ uw x ∧ uw x < 2 ^ (32 - z)))) (poG dC dI A (fun u : Unit => [])) A) ([.int x] : List Value).toArray s 0 0 A) (F0 m 48 ls [])) := by
  obtain ⟨hx, hb, hml, hown, hts, hr, hlocks, hK, hN⟩ := id C0
  intro x0 x1 w z H locs ls t_x1 t_x0 hw hw0 hw1 hz hP hD hS hl
  have r_x1 := q_r32 x1
  have r_x0 := q_r32 x0
  refine lv_iload_n hx hb d_Integer_numberOfLeadingZeros_48 rfl (lv_at hl 1 rfl) ?_
  refine lv_bipush (v := 16) hx hb d_Integer_numberOfLeadingZeros_49 (by decide) ?_
  refine lv_icmp_lt (tgt := 61) hx hb d_Integer_numberOfLeadingZeros_51 (by decide) (fun b51 => ?_) (fun b51 => ?_)
  · skip
    rw [q_ilt t_x0 (show (16 : Int32).toInt = 16 by decide)] at b51
    exact L_Integer_numberOfLeadingZeros_61 (x) C0 hA  (x0) (x1) (w) (z) H locs ls ((t_x1).trans (by omega)) ((t_x0).trans (by omega)) (by exact hw) (by omega) (by omega) (by omega) (va_Psub hP [] rfl) (hD.sub [] (by decide) rfl) hS (lv_sub hl [0, 1] rfl)
  · skip
    rw [q_ilt t_x0 (show (16 : Int32).toInt = 16 by decide)] at b51
    obtain ⟨v54, e54⟩ : ∃ y : Int32, y = x1 + (-4) := ⟨_, rfl⟩
    have t54 : v54.toInt = 31 - (z : Int) + (-4) := by rw [e54]; exact q_iadd t_x1 (show ((-4) : Int32).toInt = (-4) by decide) (by omega)
    refine lv_iinc (v := v54) (lv' := [(1, .int v54), (0, .int x0)]) hx hb d_Integer_numberOfLeadingZeros_54 hl (k := 0) rfl (by rw [e54]; rfl) (by decide) rfl (fun ls hl => ?_)
    refine lv_iload_n hx hb d_Integer_numberOfLeadingZeros_57 rfl (lv_at hl 1 rfl) ?_
    refine lv_iconst (v := 4) hx hb d_Integer_numberOfLeadingZeros_58 (by decide) ?_
    refine lv_iushr hx hb d_Integer_numberOfLeadingZeros_59 rfl ?_
    refine lv_topi (fun v59 e59 => ?_)
    have t59 : v59.toInt = ((w / 16 : Nat) : Int) := by rw [e59]; exact q_iushr (k := 4) t_x0 (by decide)
    refine lv_istore_n (lv' := [(0, .int v59), (1, .int v54)]) hx hb d_Integer_numberOfLeadingZeros_60 rfl hl (by decide) rfl (fun ls hl => ?_)
    exact L_Integer_numberOfLeadingZeros_61 (x) C0 hA  (v59) (v54) (w / 16) (z + 4) H locs ls ((t54).trans (by omega)) ((t59).trans (by omega)) (by rw [hw, Nat.div_div_eq_div_mul, Nat.pow_add]) (by omega) (by omega) (by omega) (va_Psub hP [] rfl) (hD.sub [] (by decide) rfl) hS (lv_sub hl [1, 0] rfl)
set_option maxHeartbeats 4000000 in
set_option maxRecDepth 100000 in
theorem L_Integer_numberOfLeadingZeros_33 {p : Program} {l : Launch} {e : Env} {s : State} {m : MethodId} {below : List Frame} {meth : Method} {c : Code} {dC : Nat → ClassId} {dI : Nat → Nat → Nat} {cI cB cJ : ClassId} {A : Nat → Prop} (x : Int32) (C0 : cx dC dI cI cB cJ R_Integer b_Integer_numberOfLeadingZeros 2 (some .int) p s m ([.int x] : List Value).toArray meth c) (hA : ∀ q : Nat, s.heap.size ≤ q → A q)  : (∀ (x0 : Int32) (x1 : Int32) (w : Nat) (z : Nat) (H : Heap) (locs : List Loc) (ls : Array Slot), x1.toInt = 31 - (z : Int) → x0.toInt = (w : Int) → (w = uw x / 2 ^ z) → (0 < w) → (w < 65536) → (z ≤ 16) → va_P (dC, dI) vwCl [] H → va_D A [] → va_S A s.heap H locs → lv_has ls 2 [(1, .int x1), (0, .int x0)] → W p l e ({ frames := 0, cells := 0, slots := 0, locals := 0 } : Room) s m ([.int x] : List Value).toArray below meth c H locs 0 0 (MQ below (va_Qi (fun (r : Int32) (u : Unit) => ∃ z : Nat, r.toInt = (z : Int) ∧ ((x.toInt = 0 ∧ z = 32) ∨ (z < 32 ∧ 2 ^ (31 - z) ≤ uw x ∧ uw x < 2 ^ (32 - z)))) (poG dC dI A (fun u : Unit => [])) A) ([.int x] : List Value).toArray s 0 0 A) (F0 m 33 ls [])) := by
  obtain ⟨hx, hb, hml, hown, hts, hr, hlocks, hK, hN⟩ := id C0
  intro x0 x1 w z H locs ls t_x1 t_x0 hw hw0 hw1 hz hP hD hS hl
  have r_x1 := q_r32 x1
  have r_x0 := q_r32 x0
  refine lv_iload_n hx hb d_Integer_numberOfLeadingZeros_33 rfl (lv_at hl 1 rfl) ?_
  refine lv_sipush (v := 256) hx hb d_Integer_numberOfLeadingZeros_34 (by decide) ?_
  refine lv_icmp_lt (tgt := 48) hx hb d_Integer_numberOfLeadingZeros_37 (by decide) (fun b37 => ?_) (fun b37 => ?_)
  · skip
    rw [q_ilt t_x0 (show (256 : Int32).toInt = 256 by decide)] at b37
    exact L_Integer_numberOfLeadingZeros_48 (x) C0 hA  (x0) (x1) (w) (z) H locs ls ((t_x1).trans (by omega)) ((t_x0).trans (by omega)) (by exact hw) (by omega) (by omega) (by omega) (va_Psub hP [] rfl) (hD.sub [] (by decide) rfl) hS (lv_sub hl [0, 1] rfl)
  · skip
    rw [q_ilt t_x0 (show (256 : Int32).toInt = 256 by decide)] at b37
    obtain ⟨v40, e40⟩ : ∃ y : Int32, y = x1 + (-8) := ⟨_, rfl⟩
    have t40 : v40.toInt = 31 - (z : Int) + (-8) := by rw [e40]; exact q_iadd t_x1 (show ((-8) : Int32).toInt = (-8) by decide) (by omega)
    refine lv_iinc (v := v40) (lv' := [(1, .int v40), (0, .int x0)]) hx hb d_Integer_numberOfLeadingZeros_40 hl (k := 0) rfl (by rw [e40]; rfl) (by decide) rfl (fun ls hl => ?_)
    refine lv_iload_n hx hb d_Integer_numberOfLeadingZeros_43 rfl (lv_at hl 1 rfl) ?_
    refine lv_bipush (v := 8) hx hb d_Integer_numberOfLeadingZeros_44 (by decide) ?_
    refine lv_iushr hx hb d_Integer_numberOfLeadingZeros_46 rfl ?_
    refine lv_topi (fun v46 e46 => ?_)
    have t46 : v46.toInt = ((w / 256 : Nat) : Int) := by rw [e46]; exact q_iushr (k := 8) t_x0 (by decide)
    refine lv_istore_n (lv' := [(0, .int v46), (1, .int v40)]) hx hb d_Integer_numberOfLeadingZeros_47 rfl hl (by decide) rfl (fun ls hl => ?_)
    exact L_Integer_numberOfLeadingZeros_48 (x) C0 hA  (v46) (v40) (w / 256) (z + 8) H locs ls ((t40).trans (by omega)) ((t46).trans (by omega)) (by rw [hw, Nat.div_div_eq_div_mul, Nat.pow_add]) (by omega) (by omega) (by omega) (va_Psub hP [] rfl) (hD.sub [] (by decide) rfl) hS (lv_sub hl [1, 0] rfl)
set_option maxHeartbeats 4000000 in
set_option maxRecDepth 100000 in
theorem c_Integer_numberOfLeadingZeros (l : Launch) (dC : Nat → ClassId) (dI : Nat → Nat → Nat) (cI cB cJ : ClassId) (x : Int32)  : Ci l dC dI cI cB cJ y_Integer_numberOfLeadingZeros w_Integer_numberOfLeadingZeros ({ frames := 0, cells := 0, slots := 0, locals := 0 } : Room) [.int x] [] (fun (r : Int32) (u : Unit) => ∃ z : Nat, r.toInt = (z : Int) ∧ ((x.toInt = 0 ∧ z = 32) ∨ (z < 32 ∧ 2 ^ (31 - z) ≤ uw x ∧ uw x < 2 ^ (32 - z)))) (fun u : Unit => []) := by
  refine Ci.intro (cc := b_Integer_numberOfLeadingZeros) (maxL := 2) (by decide) rfl (Nat.le_of_ble_eq_true rfl) ?_
  intro p e s m below meth c A ls C0 hin hA hP hD hS hl
  obtain ⟨hx, hb, hml, hown, hts, hr, hlocks, hK, hN⟩ := id C0
  obtain ⟨H, hH⟩ : ∃ H, H = s.heap := ⟨_, rfl⟩
  have hP : va_P (dC, dI) vwCl [] s.heap := hP
  have hl : lv_has ls 2 [(0, .int x)] := hl
  have r_x := q_r32 x
  suffices h : ∀ (H : Heap) (locs : List Loc), va_P (dC, dI) vwCl [] H → va_D A [] → va_S A s.heap H locs → W p l e ({ frames := 0, cells := 0, slots := 0, locals := 0 } : Room) s m ([.int x] : List Value).toArray below meth c H locs 0 0 (MQ below (va_Qi (fun (r : Int32) (u : Unit) => ∃ z : Nat, r.toInt = (z : Int) ∧ ((x.toInt = 0 ∧ z = 32) ∨ (z < 32 ∧ 2 ^ (31 - z) ≤ uw x ∧ uw x < 2 ^ (32 - z)))) (poG dC dI A (fun u : Unit => [])) A) ([.int x] : List Value).toArray s 0 0 A) (F0 m 0 ls []) from h _ _ hP hD hS
  clear hP hD hS hH H
  intro H locs hP hD hS
  refine lv_iload_n hx hb d_Integer_numberOfLeadingZeros_0 rfl (lv_at hl 0 rfl) ?_
  refine lv_if_gt (tgt := 15) hx hb d_Integer_numberOfLeadingZeros_1 (by decide) (fun b1 => ?_) (fun b1 => ?_)
  · skip
    rw [q_ilt (show (0 : Int32).toInt = 0 by decide) (rfl : x.toInt = x.toInt)] at b1
    obtain ⟨u0, hu0⟩ : ∃ u0, u0 = uw x := ⟨_, rfl⟩
    have tu : x.toInt = (u0 : Int) := by rw [hu0]; exact uw_pos_to (by omega)
    refine lv_bipush (v := 31) hx hb d_Integer_numberOfLeadingZeros_15 (by decide) ?_
    refine lv_istore_n (lv' := [(1, .int 31), (0, .int x)]) hx hb d_Integer_numberOfLeadingZeros_17 rfl hl (by decide) rfl (fun ls hl => ?_)
    refine lv_iload_n hx hb d_Integer_numberOfLeadingZeros_18 rfl (lv_at hl 1 rfl) ?_
    refine lv_ldcw (v := 65536) hx hb hown (hts _ m_374) d_Integer_numberOfLeadingZeros_19 ?_
    refine lv_icmp_lt (tgt := 33) hx hb d_Integer_numberOfLeadingZeros_22 (by decide) (fun b22 => ?_) (fun b22 => ?_)
    · skip
      rw [q_ilt (rfl : x.toInt = x.toInt) (show (65536 : Int32).toInt = 65536 by decide)] at b22
      exact L_Integer_numberOfLeadingZeros_33 (x) C0 hA  (x) (31) (u0) (0) H locs ls (((show (31 : Int32).toInt = 31 by decide)).trans (by omega)) (tu) (by rw [hu0, Nat.pow_zero, Nat.div_one]) (by omega) (by omega) (by omega) (va_Psub hP [] rfl) (hD.sub [] (by decide) rfl) hS (lv_sub hl [0, 1] rfl)
    · skip
      rw [q_ilt (rfl : x.toInt = x.toInt) (show (65536 : Int32).toInt = 65536 by decide)] at b22
      obtain ⟨v25, e25⟩ : ∃ y : Int32, y = 31 + (-16) := ⟨_, rfl⟩
      have t25 : v25.toInt = 31 + (-16) := by rw [e25]; exact q_iadd (show (31 : Int32).toInt = 31 by decide) (show ((-16) : Int32).toInt = (-16) by decide) (by omega)
      refine lv_iinc (v := v25) (lv' := [(1, .int v25), (0, .int x)]) hx hb d_Integer_numberOfLeadingZeros_25 hl (k := 0) rfl (by rw [e25]; rfl) (by decide) rfl (fun ls hl => ?_)
      refine lv_iload_n hx hb d_Integer_numberOfLeadingZeros_28 rfl (lv_at hl 1 rfl) ?_
      refine lv_bipush (v := 16) hx hb d_Integer_numberOfLeadingZeros_29 (by decide) ?_
      refine lv_iushr hx hb d_Integer_numberOfLeadingZeros_31 rfl ?_
      refine lv_topi (fun v31 e31 => ?_)
      have t31 : v31.toInt = ((u0 / 65536 : Nat) : Int) := by rw [e31]; exact q_iushr (k := 16) tu (by decide)
      refine lv_istore_n (lv' := [(0, .int v31), (1, .int v25)]) hx hb d_Integer_numberOfLeadingZeros_32 rfl hl (by decide) rfl (fun ls hl => ?_)
      exact L_Integer_numberOfLeadingZeros_33 (x) C0 hA  (v31) (v25) (u0 / 65536) (16) H locs ls ((t25).trans (by omega)) ((t31).trans (by omega)) (by rw [hu0]) (by omega) (by omega) (by omega) (va_Psub hP [] rfl) (hD.sub [] (by decide) rfl) hS (lv_sub hl [1, 0] rfl)
  · skip
    rw [q_ilt (show (0 : Int32).toInt = 0 by decide) (rfl : x.toInt = x.toInt)] at b1
    refine lv_iload_n hx hb d_Integer_numberOfLeadingZeros_4 rfl (lv_at hl 0 rfl) ?_
    refine lv_if_ne (tgt := 13) hx hb d_Integer_numberOfLeadingZeros_5 (by decide) (fun b5 => ?_) (fun b5 => ?_)
    · skip
      rw [q_ieq (rfl : x.toInt = x.toInt) (show (0 : Int32).toInt = 0 by decide)] at b5
      refine lv_iconst (v := 0) hx hb d_Integer_numberOfLeadingZeros_13 (by decide) ?_
      exact Ci.ret C0 (v := 0) (u := ()) (Nat.le_of_ble_eq_true rfl) (Nat.le_of_ble_eq_true rfl) (by exact ⟨0, by decide, Or.inr ⟨by decide, nlz_neg (by omega)⟩⟩) hP hD hS [] (by decide) rfl d_Integer_numberOfLeadingZeros_14
    · skip
      rw [q_ieq (rfl : x.toInt = x.toInt) (show (0 : Int32).toInt = 0 by decide)] at b5
      refine lv_bipush (v := 32) hx hb d_Integer_numberOfLeadingZeros_8 (by decide) ?_
      refine lv_goto (tgt := 14) hx hb d_Integer_numberOfLeadingZeros_10 (by decide) ?_
      exact Ci.ret C0 (v := 32) (u := ()) (Nat.le_of_ble_eq_true rfl) (Nat.le_of_ble_eq_true rfl) (by exact ⟨32, by decide, Or.inl ⟨b5, rfl⟩⟩) hP hD hS [] (by decide) rfl d_Integer_numberOfLeadingZeros_14
set_option maxHeartbeats 4000000 in
set_option maxRecDepth 100000 in
theorem L_Natural_bitLength_3 {p : Program} {l : Launch} {e : Env} {s : State} {m : MethodId} {below : List Frame} {meth : Method} {c : Code} {dC : Nat → ClassId} {dI : Nat → Nat → Nat} {cI cB cJ : ClassId} {A : Nat → Prop} (h0 : Nat) (a0 : Nat) (f : Nat → Int32) (C0 : cx dC dI cI cB cJ R_Natural b_Natural_bitLength 2 (some .int) p s m ([.ref h0] : List Value).toArray meth c) (hA : ∀ q : Nat, s.heap.size ≤ q → A q)  : ∀ n : Nat, (∀ (x1 : Int32) (i : Nat) (H : Heap) (locs : List Loc) (ls : Array Slot), i < n → x1.toInt = (i : Int) - 1 → (i ≤ 12) → (∀ j, i ≤ j → j < 12 → f j = 0) → va_P (dC, dI) vwCl [(h0, .inr (1, [.ref a0])), (a0, .inl (cI, 12, .inl f))] H → va_D A [(h0, .inr (1, [.ref a0])), (a0, .inl (cI, 12, .inl f))] → va_S A s.heap H locs → lv_has ls 2 [(1, .int x1), (0, .ref h0)] → W p l e ({ frames := 1, cells := 0, slots := 0, locals := 21 } : Room) s m ([.ref h0] : List Value).toArray below meth c H locs 0 0 (MQ below (va_Qi (fun (r : Int32) (u : Unit) => ∃ b : Nat, r.toInt = (b : Int) ∧ b ≤ 384 ∧ nv f 12 < 2 ^ b ∧ (0 < nv f 12 → 0 < b ∧ 2 ^ (b - 1) ≤ nv f 12)) (poG dC dI A (fun u : Unit => [(h0, .inr (1, [.ref a0])), (a0, .inl (cI, 12, .inl f))])) A) ([.ref h0] : List Value).toArray s 0 0 A) (F0 m 3 ls [])) := by
  obtain ⟨hx, hb, hml, hown, hts, hr, hlocks, hK, hN⟩ := id C0
  intro n
  induction n with
  | zero => exact fun _ _ _ _ _ h0 _ _ _ _ _ _ _ => absurd h0 (Nat.not_lt_zero _)
  | succ n ih =>
    intro x1 i H locs ls hn t_x1 hi hs hP hD hS hl
    have r_x1 := q_r32 x1
    refine lv_iload_n hx hb d_Natural_bitLength_3 rfl (lv_at hl 0 rfl) ?_
    refine lv_if_lt (tgt := 40) hx hb d_Natural_bitLength_4 (by decide) (fun b4 => ?_) (fun b4 => ?_)
    · skip
      rw [q_ilt t_x1 (show (0 : Int32).toInt = 0 by decide)] at b4
      refine lv_iconst (v := 0) hx hb d_Natural_bitLength_40 (by decide) ?_
      exact Ci.ret C0 (v := 0) (u := ()) (Nat.le_of_ble_eq_true rfl) (Nat.le_of_ble_eq_true rfl) (by exact ⟨0, by decide, by omega, by rw [nv_zero (fun j hj => hs j (by omega) hj)]; decide, fun h => by rw [nv_zero (fun j hj => hs j (by omega) hj)] at h; omega⟩) hP hD hS [0, 1] (by decide) rfl d_Natural_bitLength_41
    · skip
      rw [q_ilt t_x1 (show (0 : Int32).toInt = 0 by decide)] at b4
      refine lv_aload_n hx hb d_Natural_bitLength_7 rfl (lv_at hl 1 rfl) ?_
      refine va_get (D := (dC, dI)) (ci := 1) (v := .ref a0) (C := R_Natural) (T := F_Natural) (N := 1) hx hb hts u_Natural hown hK hP 0 rfl rfl 0 (by decide) (hts _ m_105) (fun _ h9 => h9) rfl d_Natural_bitLength_8 ?_
      refine lv_iload_n hx hb d_Natural_bitLength_11 rfl (lv_at hl 0 rfl) ?_
      refine va_iald hx hb hK hP 1 0 rfl rfl (q_in t_x1 (by omega)) d_Natural_bitLength_12 ?_
      refine lv_topi (fun v12 e12 => ?_)
      rw [q_cl (k := i - 1) (t_x1.trans (by omega))] at e12
      refine lv_if_eq (tgt := 34) hx hb d_Natural_bitLength_13 (by decide) (fun b13 => ?_) (fun b13 => ?_)
      · skip
        obtain ⟨v34, e34⟩ : ∃ y : Int32, y = x1 + (-1) := ⟨_, rfl⟩
        have t34 : v34.toInt = (i : Int) - 1 + (-1) := by rw [e34]; exact q_iadd t_x1 (show ((-1) : Int32).toInt = (-1) by decide) (by omega)
        refine lv_iinc (v := v34) (lv' := [(1, .int v34), (0, .ref h0)]) hx hb d_Natural_bitLength_34 hl (k := 0) rfl (by rw [e34]; rfl) (by decide) rfl (fun ls hl => ?_)
        refine lv_goto (tgt := 3) hx hb d_Natural_bitLength_37 (by decide) ?_
        exact ih (v34) (i - 1) H locs ls (by omega) ((t34).trans (by omega)) (by omega) (by intro j h1 h2; rcases Nat.lt_or_ge j i with h | h; rw [show j = i - 1 by omega, ← e12]; exact b13; exact hs j h h2) (va_Psub hP [0, 1] rfl) (hD.sub [0, 1] (by decide) rfl) hS (lv_sub hl [0, 1] rfl)
      · skip
        refine lv_bipush (v := 32) hx hb d_Natural_bitLength_16 (by decide) ?_
        refine lv_iload_n hx hb d_Natural_bitLength_18 rfl (lv_at hl 0 rfl) ?_
        refine lv_imul hx hb d_Natural_bitLength_19 ?_
        refine lv_topi (fun v19 e19 => ?_)
        have t19 : v19.toInt = 32 * ((i : Int) - 1) := by rw [e19]; exact q_imul (show (32 : Int32).toInt = 32 by decide) t_x1 (by omega)
        refine lv_bipush (v := 32) hx hb d_Natural_bitLength_20 (by decide) ?_
        refine lv_iadd hx hb d_Natural_bitLength_22 ?_
        refine lv_topi (fun v22 e22 => ?_)
        have t22 : v22.toInt = (32 * ((i : Int) - 1)) + 32 := by rw [e22]; exact q_iadd t19 (show (32 : Int32).toInt = 32 by decide) (by omega)
        refine lv_aload_n hx hb d_Natural_bitLength_23 rfl (lv_at hl 1 rfl) ?_
        refine va_get (D := (dC, dI)) (ci := 1) (v := .ref a0) (C := R_Natural) (T := F_Natural) (N := 1) hx hb hts u_Natural hown hK hP 0 rfl rfl 0 (by decide) (hts _ m_105) (fun _ h9 => h9) rfl d_Natural_bitLength_24 ?_
        refine lv_iload_n hx hb d_Natural_bitLength_27 rfl (lv_at hl 0 rfl) ?_
        refine va_iald hx hb hK hP 1 0 rfl rfl (q_in t_x1 (by omega)) d_Natural_bitLength_28 ?_
        refine lv_topi (fun v28 e28 => ?_)
        rw [q_cl (k := i - 1) (t_x1.trans (by omega))] at e28
        refine callS_i (wr := [(h0, .inr (1, [.ref a0])), (a0, .inl (cI, 12, .inl f))]) C0 (c_Integer_numberOfLeadingZeros l dC dI cI cB cJ (v28)) (cwSx 1 hts m_371 m_372 m_61 m_373 (by decide +kernel) ⟨Nat.le_of_ble_eq_true rfl, Nat.le_of_ble_eq_true rfl⟩) hP hD hS hA [] [0, 1] rfl rfl (by decide) (by decide) (by decide) rfl hl.1 rfl (Nat.le_of_ble_eq_true rfl) d_Natural_bitLength_29 ⟨Nat.le_of_ble_eq_true rfl, Nat.le_of_ble_eq_true rfl⟩ (fun r29 u29 H locs hw9 hP hD hS => ?_)
        have h29 : ∃ z : Nat, r29.toInt = (z : Int) ∧ ((v28.toInt = 0 ∧ z = 32) ∨ (z < 32 ∧ 2 ^ (31 - z) ≤ uw v28 ∧ uw v28 < 2 ^ (32 - z))) := hw9
        have hP : va_P (dC, dI) vwCl [(h0, .inr (1, [.ref a0])), (a0, .inl (cI, 12, .inl f))] H := hP
        have hD : va_D A [(h0, .inr (1, [.ref a0])), (a0, .inl (cI, 12, .inl f))] := hD
        obtain ⟨z, tz, hz⟩ := h29
        have t29 : r29.toInt = (z : Int) := tz
        refine lv_isub hx hb d_Natural_bitLength_32 ?_
        refine lv_topi (fun v32 e32 => ?_)
        have t32 : v32.toInt = ((32 * ((i : Int) - 1)) + 32) - (z : Int) := by rw [e32]; exact q_isub t22 t29 (by omega)
        have hz2 : z < 32 ∧ 2 ^ (31 - z) ≤ uw v28 ∧ uw v28 < 2 ^ (32 - z) := by
          rcases hz with ⟨h1, -⟩ | h1
          · exact absurd (Int32.toInt_inj.mp (h1.trans (show (0 : Int) = (0 : Int32).toInt by decide))) (by rw [e28, ← e12]; exact b13)
          · exact h1
        obtain ⟨hz3, hz4, hz5⟩ := hz2
        rw [e28] at hz4 hz5
        exact Ci.ret C0 (v := v32) (u := ()) (Nat.le_of_ble_eq_true rfl) (Nat.le_of_ble_eq_true rfl) (by exact ⟨32 * (i - 1) + 32 - z, by rw [t32]; omega, by omega, nlz_nv (by omega) (by omega) hs hz3 hz4 hz5⟩) hP hD hS [0, 1] (by decide) rfl d_Natural_bitLength_33
set_option maxHeartbeats 4000000 in
set_option maxRecDepth 100000 in
theorem c_Natural_bitLength (l : Launch) (dC : Nat → ClassId) (dI : Nat → Nat → Nat) (cI cB cJ : ClassId) (h0 : Nat) (a0 : Nat) (f : Nat → Int32)  : Ci l dC dI cI cB cJ y_Natural_bitLength w_Natural_bitLength ({ frames := 1, cells := 0, slots := 0, locals := 21 } : Room) [.ref h0] [(h0, .inr (1, [.ref a0])), (a0, .inl (cI, 12, .inl f))] (fun (r : Int32) (u : Unit) => ∃ b : Nat, r.toInt = (b : Int) ∧ b ≤ 384 ∧ nv f 12 < 2 ^ b ∧ (0 < nv f 12 → 0 < b ∧ 2 ^ (b - 1) ≤ nv f 12)) (fun u : Unit => [(h0, .inr (1, [.ref a0])), (a0, .inl (cI, 12, .inl f))]) := by
  refine Ci.intro (cc := b_Natural_bitLength) (maxL := 2) (by decide) rfl (Nat.le_of_ble_eq_true rfl) ?_
  intro p e s m below meth c A ls C0 hin hA hP hD hS hl
  obtain ⟨hx, hb, hml, hown, hts, hr, hlocks, hK, hN⟩ := id C0
  obtain ⟨H, hH⟩ : ∃ H, H = s.heap := ⟨_, rfl⟩
  have hP : va_P (dC, dI) vwCl [(h0, .inr (1, [.ref a0])), (a0, .inl (cI, 12, .inl f))] s.heap := hP
  have hl : lv_has ls 2 [(0, .ref h0)] := hl
  suffices h : ∀ (H : Heap) (locs : List Loc), va_P (dC, dI) vwCl [(h0, .inr (1, [.ref a0])), (a0, .inl (cI, 12, .inl f))] H → va_D A [(h0, .inr (1, [.ref a0])), (a0, .inl (cI, 12, .inl f))] → va_S A s.heap H locs → W p l e ({ frames := 1, cells := 0, slots := 0, locals := 21 } : Room) s m ([.ref h0] : List Value).toArray below meth c H locs 0 0 (MQ below (va_Qi (fun (r : Int32) (u : Unit) => ∃ b : Nat, r.toInt = (b : Int) ∧ b ≤ 384 ∧ nv f 12 < 2 ^ b ∧ (0 < nv f 12 → 0 < b ∧ 2 ^ (b - 1) ≤ nv f 12)) (poG dC dI A (fun u : Unit => [(h0, .inr (1, [.ref a0])), (a0, .inl (cI, 12, .inl f))])) A) ([.ref h0] : List Value).toArray s 0 0 A) (F0 m 0 ls []) from h _ _ hP hD hS
  clear hP hD hS hH H
  intro H locs hP hD hS
  refine lv_bipush (v := 11) hx hb d_Natural_bitLength_0 (by decide) ?_
  refine lv_istore_n (lv' := [(1, .int 11), (0, .ref h0)]) hx hb d_Natural_bitLength_2 rfl hl (by decide) rfl (fun ls hl => ?_)
  exact L_Natural_bitLength_3 (h0) (a0) (f) C0 hA  _ (11) (12) H locs ls (Nat.lt_succ_self _) (((show (11 : Int32).toInt = 11 by decide)).trans (by omega)) (by omega) (by intro j h1 h2; omega) (va_Psub hP [0, 1] rfl) (hD.sub [0, 1] (by decide) rfl) hS (lv_sub hl [0, 1] rfl)
end
