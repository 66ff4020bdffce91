section
-- ===== PART A: goes FIRST, ahead of the names: the tables' words, and 'selects' of the private methods out of them =====
/-- a private method of a class that the tables say can be made, by its rows of tables_1 -/
def lw_okq (q : MethodName × Nat) : Prop := (q.1.cls ≠ "java/lang/invoke/MethodHandle" ∧ q.1.cls ≠ "java/lang/invoke/VarHandle") ∧ Cond.instantiable q.1.cls q.2 ∈ tables_1 ∧ Cond.privateMethod q.1 ∈ tables_1 ∧ Cond.instanceMethod q.1 ∈ tables_1
theorem lw_p0 : lw_okq (⟨"DecimalDesk$Decimal", "takeDigits", "(LDecimalDesk$Tape;I)I"⟩, 3) := ⟨⟨by decide +kernel, by decide +kernel⟩, List.mem_of_getElem? (i := 57) (by decide +kernel), List.mem_of_getElem? (i := 275) (by decide +kernel), List.mem_of_getElem? (i := 276) (by decide +kernel)⟩
theorem lw_p1 : lw_okq (⟨"DecimalDesk$Decimal", "takePower", "(LDecimalDesk$Tape;I)Z"⟩, 3) := ⟨⟨by decide +kernel, by decide +kernel⟩, List.mem_of_getElem? (i := 57) (by decide +kernel), List.mem_of_getElem? (i := 287) (by decide +kernel), List.mem_of_getElem? (i := 288) (by decide +kernel)⟩
theorem lw_p2 : lw_okq (⟨"java/lang/Throwable", "fillInStackTrace", "(I)Ljava/lang/Throwable;"⟩, 6) := ⟨⟨by decide +kernel, by decide +kernel⟩, List.mem_of_getElem? (i := 332) (by decide +kernel), List.mem_of_getElem? (i := 330) (by decide +kernel), List.mem_of_getElem? (i := 331) (by decide +kernel)⟩
theorem lw_p3 : lw_okq (⟨"DecimalDesk$Rounder", "setFraction", "(LDecimalDesk$Decimal;)V"⟩, 5) := ⟨⟨by decide +kernel, by decide +kernel⟩, List.mem_of_getElem? (i := 88) (by decide +kernel), List.mem_of_getElem? (i := 369) (by decide +kernel), List.mem_of_getElem? (i := 370) (by decide +kernel)⟩
theorem lw_p4 : lw_okq (⟨"DecimalDesk$Natural", "limbAt", "(I)J"⟩, 1) := ⟨⟨by decide +kernel, by decide +kernel⟩, List.mem_of_getElem? (i := 63) (by decide +kernel), List.mem_of_getElem? (i := 398) (by decide +kernel), List.mem_of_getElem? (i := 399) (by decide +kernel)⟩
theorem lw_p5 : lw_okq (⟨"DecimalDesk$Rounder", "normalise", "()I"⟩, 5) := ⟨⟨by decide +kernel, by decide +kernel⟩, List.mem_of_getElem? (i := 88) (by decide +kernel), List.mem_of_getElem? (i := 402) (by decide +kernel), List.mem_of_getElem? (i := 403) (by decide +kernel)⟩
theorem lw_p6 : lw_okq (⟨"DecimalDesk$Rounder", "takeBits", "(I)J"⟩, 5) := ⟨⟨by decide +kernel, by decide +kernel⟩, List.mem_of_getElem? (i := 88) (by decide +kernel), List.mem_of_getElem? (i := 428) (by decide +kernel), List.mem_of_getElem? (i := 429) (by decide +kernel)⟩
theorem lw_p7 : lw_okq (⟨"DecimalDesk", "sizeByOverflow", "(Z)J"⟩, 9) := ⟨⟨by decide +kernel, by decide +kernel⟩, List.mem_of_getElem? (i := 19) (by decide +kernel), List.mem_of_getElem? (i := 440) (by decide +kernel), List.mem_of_getElem? (i := 441) (by decide +kernel)⟩
theorem lw_p8 : lw_okq (⟨"DecimalDesk", "raiseFlags", "(Z)V"⟩, 9) := ⟨⟨by decide +kernel, by decide +kernel⟩, List.mem_of_getElem? (i := 19) (by decide +kernel), List.mem_of_getElem? (i := 444) (by decide +kernel), List.mem_of_getElem? (i := 445) (by decide +kernel)⟩
theorem lw_p9 : lw_okq (⟨"DecimalDesk", "tellNotFinite", "(J)Z"⟩, 9) := ⟨⟨by decide +kernel, by decide +kernel⟩, List.mem_of_getElem? (i := 19) (by decide +kernel), List.mem_of_getElem? (i := 456) (by decide +kernel), List.mem_of_getElem? (i := 457) (by decide +kernel)⟩
theorem lw_p10 : lw_okq (⟨"DecimalDesk", "tellShortest", "(J)V"⟩, 9) := ⟨⟨by decide +kernel, by decide +kernel⟩, List.mem_of_getElem? (i := 19) (by decide +kernel), List.mem_of_getElem? (i := 469) (by decide +kernel), List.mem_of_getElem? (i := 470) (by decide +kernel)⟩
theorem lw_p11 : lw_okq (⟨"DecimalDesk$Told", "addReversed", "(II)V"⟩, 3) := ⟨⟨by decide +kernel, by decide +kernel⟩, List.mem_of_getElem? (i := 156) (by decide +kernel), List.mem_of_getElem? (i := 486) (by decide +kernel), List.mem_of_getElem? (i := 487) (by decide +kernel)⟩
theorem lw_p12 : lw_okq (⟨"DecimalDesk$ShortestFinder", "setRange", "(JLDecimalDesk$Layout;)V"⟩, 9) := ⟨⟨by decide +kernel, by decide +kernel⟩, List.mem_of_getElem? (i := 115) (by decide +kernel), List.mem_of_getElem? (i := 495) (by decide +kernel), List.mem_of_getElem? (i := 496) (by decide +kernel)⟩
theorem lw_p13 : lw_okq (⟨"DecimalDesk$ShortestFinder", "setPower", "(JLDecimalDesk$Layout;)V"⟩, 9) := ⟨⟨by decide +kernel, by decide +kernel⟩, List.mem_of_getElem? (i := 115) (by decide +kernel), List.mem_of_getElem? (i := 523) (by decide +kernel), List.mem_of_getElem? (i := 524) (by decide +kernel)⟩
theorem lw_p14 : lw_okq (⟨"DecimalDesk$ShortestFinder", "timesTen", "()V"⟩, 9) := ⟨⟨by decide +kernel, by decide +kernel⟩, List.mem_of_getElem? (i := 115) (by decide +kernel), List.mem_of_getElem? (i := 539) (by decide +kernel), List.mem_of_getElem? (i := 540) (by decide +kernel)⟩
theorem lw_p15 : lw_okq (⟨"DecimalDesk$ShortestFinder", "takeDigit", "()I"⟩, 9) := ⟨⟨by decide +kernel, by decide +kernel⟩, List.mem_of_getElem? (i := 115) (by decide +kernel), List.mem_of_getElem? (i := 544) (by decide +kernel), List.mem_of_getElem? (i := 545) (by decide +kernel)⟩
def lw_privs_1 : List (MethodName × Nat) := [(⟨"DecimalDesk$Decimal", "takeDigits", "(LDecimalDesk$Tape;I)I"⟩, 3), (⟨"DecimalDesk$Decimal", "takePower", "(LDecimalDesk$Tape;I)Z"⟩, 3), (⟨"java/lang/Throwable", "fillInStackTrace", "(I)Ljava/lang/Throwable;"⟩, 6), (⟨"DecimalDesk$Rounder", "setFraction", "(LDecimalDesk$Decimal;)V"⟩, 5), (⟨"DecimalDesk$Natural", "limbAt", "(I)J"⟩, 1), (⟨"DecimalDesk$Rounder", "normalise", "()I"⟩, 5), (⟨"DecimalDesk$Rounder", "takeBits", "(I)J"⟩, 5), (⟨"DecimalDesk", "sizeByOverflow", "(Z)J"⟩, 9), (⟨"DecimalDesk", "raiseFlags", "(Z)V"⟩, 9), (⟨"DecimalDesk", "tellNotFinite", "(J)Z"⟩, 9), (⟨"DecimalDesk", "tellShortest", "(J)V"⟩, 9), (⟨"DecimalDesk$Told", "addReversed", "(II)V"⟩, 3), (⟨"DecimalDesk$ShortestFinder", "setRange", "(JLDecimalDesk$Layout;)V"⟩, 9), (⟨"DecimalDesk$ShortestFinder", "setPower", "(JLDecimalDesk$Layout;)V"⟩, 9), (⟨"DecimalDesk$ShortestFinder", "timesTen", "()V"⟩, 9), (⟨"DecimalDesk$ShortestFinder", "takeDigit", "()I"⟩, 9)]
theorem lw_r1 : ∀ q ∈ lw_privs_1, lw_okq q := List.forall_mem_cons.mpr ⟨lw_p0, List.forall_mem_cons.mpr ⟨lw_p1, List.forall_mem_cons.mpr ⟨lw_p2, List.forall_mem_cons.mpr ⟨lw_p3, List.forall_mem_cons.mpr ⟨lw_p4, List.forall_mem_cons.mpr ⟨lw_p5, List.forall_mem_cons.mpr ⟨lw_p6, List.forall_mem_cons.mpr ⟨lw_p7, List.forall_mem_cons.mpr ⟨lw_p8, List.forall_mem_cons.mpr ⟨lw_p9, List.forall_mem_cons.mpr ⟨lw_p10, List.forall_mem_cons.mpr ⟨lw_p11, List.forall_mem_cons.mpr ⟨lw_p12, List.forall_mem_cons.mpr ⟨lw_p13, List.forall_mem_cons.mpr ⟨lw_p14, List.forall_mem_cons.mpr ⟨lw_p15, fun _ h => absurd h List.not_mem_nil⟩⟩⟩⟩⟩⟩⟩⟩⟩⟩⟩⟩⟩⟩⟩⟩
theorem lw_p16 : lw_okq (⟨"DecimalDesk$ShortestFinder", "choose", "()Z"⟩, 9) := ⟨⟨by decide +kernel, by decide +kernel⟩, List.mem_of_getElem? (i := 115) (by decide +kernel), List.mem_of_getElem? (i := 549) (by decide +kernel), List.mem_of_getElem? (i := 550) (by decide +kernel)⟩
theorem lw_p17 : lw_okq (⟨"DecimalDesk$ShortestFinder", "isWithin", "(I)Z"⟩, 9) := ⟨⟨by decide +kernel, by decide +kernel⟩, List.mem_of_getElem? (i := 115) (by decide +kernel), List.mem_of_getElem? (i := 553) (by decide +kernel), List.mem_of_getElem? (i := 554) (by decide +kernel)⟩
theorem lw_p18 : lw_okq (⟨"DecimalDesk", "tellAllDigits", "(J)V"⟩, 9) := ⟨⟨by decide +kernel, by decide +kernel⟩, List.mem_of_getElem? (i := 19) (by decide +kernel), List.mem_of_getElem? (i := 569) (by decide +kernel), List.mem_of_getElem? (i := 570) (by decide +kernel)⟩
theorem lw_p19 : lw_okq (⟨"DecimalDeskModel", "isDecimal", "()Z"⟩, 26) := ⟨⟨by decide +kernel, by decide +kernel⟩, List.mem_of_getElem? (i := 616) (by decide +kernel), List.mem_of_getElem? (i := 726) (by decide +kernel), List.mem_of_getElem? (i := 727) (by decide +kernel)⟩
theorem lw_p20 : lw_okq (⟨"DecimalDeskModel", "see", "(I)I"⟩, 26) := ⟨⟨by decide +kernel, by decide +kernel⟩, List.mem_of_getElem? (i := 616) (by decide +kernel), List.mem_of_getElem? (i := 730) (by decide +kernel), List.mem_of_getElem? (i := 731) (by decide +kernel)⟩
theorem lw_p21 : lw_okq (⟨"DecimalDeskModel", "run", "()I"⟩, 26) := ⟨⟨by decide +kernel, by decide +kernel⟩, List.mem_of_getElem? (i := 616) (by decide +kernel), List.mem_of_getElem? (i := 734) (by decide +kernel), List.mem_of_getElem? (i := 735) (by decide +kernel)⟩
theorem lw_p22 : lw_okq (⟨"DecimalDeskModel", "raise", "(I)I"⟩, 26) := ⟨⟨by decide +kernel, by decide +kernel⟩, List.mem_of_getElem? (i := 616) (by decide +kernel), List.mem_of_getElem? (i := 741) (by decide +kernel), List.mem_of_getElem? (i := 742) (by decide +kernel)⟩
theorem lw_p23 : lw_okq (⟨"DecimalDeskModel", "valued", "(I)J"⟩, 26) := ⟨⟨by decide +kernel, by decide +kernel⟩, List.mem_of_getElem? (i := 616) (by decide +kernel), List.mem_of_getElem? (i := 745) (by decide +kernel), List.mem_of_getElem? (i := 746) (by decide +kernel)⟩
theorem lw_p24 : lw_okq (⟨"DecimalDeskModel", "packed", "(IJIZI)J"⟩, 26) := ⟨⟨by decide +kernel, by decide +kernel⟩, List.mem_of_getElem? (i := 616) (by decide +kernel), List.mem_of_getElem? (i := 749) (by decide +kernel), List.mem_of_getElem? (i := 750) (by decide +kernel)⟩
theorem lw_p25 : lw_okq (⟨"DecimalDeskModel", "goesUp", "(ZIJI)Z"⟩, 26) := ⟨⟨by decide +kernel, by decide +kernel⟩, List.mem_of_getElem? (i := 616) (by decide +kernel), List.mem_of_getElem? (i := 753) (by decide +kernel), List.mem_of_getElem? (i := 754) (by decide +kernel)⟩
theorem lw_p26 : lw_okq (⟨"DecimalDeskModel", "bias", "()I"⟩, 26) := ⟨⟨by decide +kernel, by decide +kernel⟩, List.mem_of_getElem? (i := 616) (by decide +kernel), List.mem_of_getElem? (i := 758) (by decide +kernel), List.mem_of_getElem? (i := 759) (by decide +kernel)⟩
theorem lw_p27 : lw_okq (⟨"DecimalDeskModel", "beyond", "()J"⟩, 26) := ⟨⟨by decide +kernel, by decide +kernel⟩, List.mem_of_getElem? (i := 616) (by decide +kernel), List.mem_of_getElem? (i := 762) (by decide +kernel), List.mem_of_getElem? (i := 763) (by decide +kernel)⟩
theorem lw_p28 : lw_okq (⟨"DecimalDeskModel", "wipe", "()V"⟩, 26) := ⟨⟨by decide +kernel, by decide +kernel⟩, List.mem_of_getElem? (i := 616) (by decide +kernel), List.mem_of_getElem? (i := 766) (by decide +kernel), List.mem_of_getElem? (i := 767) (by decide +kernel)⟩
theorem lw_p29 : lw_okq (⟨"DecimalDeskModel", "dig", "(II)V"⟩, 26) := ⟨⟨by decide +kernel, by decide +kernel⟩, List.mem_of_getElem? (i := 616) (by decide +kernel), List.mem_of_getElem? (i := 770) (by decide +kernel), List.mem_of_getElem? (i := 771) (by decide +kernel)⟩
theorem lw_p30 : lw_okq (⟨"DecimalDeskModel", "rounded", "(ZI)J"⟩, 26) := ⟨⟨by decide +kernel, by decide +kernel⟩, List.mem_of_getElem? (i := 616) (by decide +kernel), List.mem_of_getElem? (i := 774) (by decide +kernel), List.mem_of_getElem? (i := 775) (by decide +kernel)⟩
theorem lw_p31 : lw_okq (⟨"DecimalDeskModel", "ahead", "()I"⟩, 26) := ⟨⟨by decide +kernel, by decide +kernel⟩, List.mem_of_getElem? (i := 616) (by decide +kernel), List.mem_of_getElem? (i := 778) (by decide +kernel), List.mem_of_getElem? (i := 779) (by decide +kernel)⟩
def lw_privs_2 : List (MethodName × Nat) := [(⟨"DecimalDesk$ShortestFinder", "choose", "()Z"⟩, 9), (⟨"DecimalDesk$ShortestFinder", "isWithin", "(I)Z"⟩, 9), (⟨"DecimalDesk", "tellAllDigits", "(J)V"⟩, 9), (⟨"DecimalDeskModel", "isDecimal", "()Z"⟩, 26), (⟨"DecimalDeskModel", "see", "(I)I"⟩, 26), (⟨"DecimalDeskModel", "run", "()I"⟩, 26), (⟨"DecimalDeskModel", "raise", "(I)I"⟩, 26), (⟨"DecimalDeskModel", "valued", "(I)J"⟩, 26), (⟨"DecimalDeskModel", "packed", "(IJIZI)J"⟩, 26), (⟨"DecimalDeskModel", "goesUp", "(ZIJI)Z"⟩, 26), (⟨"DecimalDeskModel", "bias", "()I"⟩, 26), (⟨"DecimalDeskModel", "beyond", "()J"⟩, 26), (⟨"DecimalDeskModel", "wipe", "()V"⟩, 26), (⟨"DecimalDeskModel", "dig", "(II)V"⟩, 26), (⟨"DecimalDeskModel", "rounded", "(ZI)J"⟩, 26), (⟨"DecimalDeskModel", "ahead", "()I"⟩, 26)]
theorem lw_r2 : ∀ q ∈ lw_privs_2, lw_okq q := List.forall_mem_cons.mpr ⟨lw_p16, List.forall_mem_cons.mpr ⟨lw_p17, List.forall_mem_cons.mpr ⟨lw_p18, List.forall_mem_cons.mpr ⟨lw_p19, List.forall_mem_cons.mpr ⟨lw_p20, List.forall_mem_cons.mpr ⟨lw_p21, List.forall_mem_cons.mpr ⟨lw_p22, List.forall_mem_cons.mpr ⟨lw_p23, List.forall_mem_cons.mpr ⟨lw_p24, List.forall_mem_cons.mpr ⟨lw_p25, List.forall_mem_cons.mpr ⟨lw_p26, List.forall_mem_cons.mpr ⟨lw_p27, List.forall_mem_cons.mpr ⟨lw_p28, List.forall_mem_cons.mpr ⟨lw_p29, List.forall_mem_cons.mpr ⟨lw_p30, List.forall_mem_cons.mpr ⟨lw_p31, fun _ h => absurd h List.not_mem_nil⟩⟩⟩⟩⟩⟩⟩⟩⟩⟩⟩⟩⟩⟩⟩⟩
theorem lw_p32 : lw_okq (⟨"DecimalDeskModel", "half", "()V"⟩, 26) := ⟨⟨by decide +kernel, by decide +kernel⟩, List.mem_of_getElem? (i := 616) (by decide +kernel), List.mem_of_getElem? (i := 782) (by decide +kernel), List.mem_of_getElem? (i := 783) (by decide +kernel)⟩
theorem lw_p33 : lw_okq (⟨"DecimalDeskModel", "twice", "()V"⟩, 26) := ⟨⟨by decide +kernel, by decide +kernel⟩, List.mem_of_getElem? (i := 616) (by decide +kernel), List.mem_of_getElem? (i := 786) (by decide +kernel), List.mem_of_getElem? (i := 787) (by decide +kernel)⟩
theorem lw_p34 : lw_okq (⟨"DecimalDeskModel", "behind", "()I"⟩, 26) := ⟨⟨by decide +kernel, by decide +kernel⟩, List.mem_of_getElem? (i := 616) (by decide +kernel), List.mem_of_getElem? (i := 790) (by decide +kernel), List.mem_of_getElem? (i := 791) (by decide +kernel)⟩
theorem lw_p35 : lw_okq (⟨"DecimalDeskModel", "isPattern", "(J)Z"⟩, 26) := ⟨⟨by decide +kernel, by decide +kernel⟩, List.mem_of_getElem? (i := 616) (by decide +kernel), List.mem_of_getElem? (i := 798) (by decide +kernel), List.mem_of_getElem? (i := 799) (by decide +kernel)⟩
theorem lw_p36 : lw_okq (⟨"DecimalDeskModel", "isStrange", "(J)Z"⟩, 26) := ⟨⟨by decide +kernel, by decide +kernel⟩, List.mem_of_getElem? (i := 616) (by decide +kernel), List.mem_of_getElem? (i := 802) (by decide +kernel), List.mem_of_getElem? (i := 803) (by decide +kernel)⟩
theorem lw_p37 : lw_okq (⟨"DecimalDeskModel", "sizeOf", "(J)J"⟩, 26) := ⟨⟨by decide +kernel, by decide +kernel⟩, List.mem_of_getElem? (i := 616) (by decide +kernel), List.mem_of_getElem? (i := 806) (by decide +kernel), List.mem_of_getElem? (i := 807) (by decide +kernel)⟩
theorem lw_p38 : lw_okq (⟨"DecimalDeskModel", "isBelow", "(J)Z"⟩, 26) := ⟨⟨by decide +kernel, by decide +kernel⟩, List.mem_of_getElem? (i := 616) (by decide +kernel), List.mem_of_getElem? (i := 810) (by decide +kernel), List.mem_of_getElem? (i := 811) (by decide +kernel)⟩
theorem lw_p39 : lw_okq (⟨"DecimalDeskModel", "say", "(I)V"⟩, 26) := ⟨⟨by decide +kernel, by decide +kernel⟩, List.mem_of_getElem? (i := 616) (by decide +kernel), List.mem_of_getElem? (i := 814) (by decide +kernel), List.mem_of_getElem? (i := 815) (by decide +kernel)⟩
theorem lw_p40 : lw_okq (⟨"DecimalDeskModel", "spread", "(J)V"⟩, 26) := ⟨⟨by decide +kernel, by decide +kernel⟩, List.mem_of_getElem? (i := 616) (by decide +kernel), List.mem_of_getElem? (i := 818) (by decide +kernel), List.mem_of_getElem? (i := 819) (by decide +kernel)⟩
theorem lw_p41 : lw_okq (⟨"DecimalDeskModel", "keepWhole", "()V"⟩, 26) := ⟨⟨by decide +kernel, by decide +kernel⟩, List.mem_of_getElem? (i := 616) (by decide +kernel), List.mem_of_getElem? (i := 827) (by decide +kernel), List.mem_of_getElem? (i := 828) (by decide +kernel)⟩
theorem lw_p42 : lw_okq (⟨"DecimalDeskModel", "cut", "(IZ)V"⟩, 26) := ⟨⟨by decide +kernel, by decide +kernel⟩, List.mem_of_getElem? (i := 616) (by decide +kernel), List.mem_of_getElem? (i := 831) (by decide +kernel), List.mem_of_getElem? (i := 832) (by decide +kernel)⟩
theorem lw_p43 : lw_okq (⟨"DecimalDeskModel", "comesBack", "(IJ)Z"⟩, 26) := ⟨⟨by decide +kernel, by decide +kernel⟩, List.mem_of_getElem? (i := 616) (by decide +kernel), List.mem_of_getElem? (i := 835) (by decide +kernel), List.mem_of_getElem? (i := 836) (by decide +kernel)⟩
theorem lw_p44 : lw_okq (⟨"DecimalDeskModel", "beside", "(I)I"⟩, 26) := ⟨⟨by decide +kernel, by decide +kernel⟩, List.mem_of_getElem? (i := 616) (by decide +kernel), List.mem_of_getElem? (i := 839) (by decide +kernel), List.mem_of_getElem? (i := 840) (by decide +kernel)⟩
theorem lw_p45 : lw_okq (⟨"DecimalDeskModel", "sayTried", "(I)V"⟩, 26) := ⟨⟨by decide +kernel, by decide +kernel⟩, List.mem_of_getElem? (i := 616) (by decide +kernel), List.mem_of_getElem? (i := 843) (by decide +kernel), List.mem_of_getElem? (i := 844) (by decide +kernel)⟩
def lw_privs_3 : List (MethodName × Nat) := [(⟨"DecimalDeskModel", "half", "()V"⟩, 26), (⟨"DecimalDeskModel", "twice", "()V"⟩, 26), (⟨"DecimalDeskModel", "behind", "()I"⟩, 26), (⟨"DecimalDeskModel", "isPattern", "(J)Z"⟩, 26), (⟨"DecimalDeskModel", "isStrange", "(J)Z"⟩, 26), (⟨"DecimalDeskModel", "sizeOf", "(J)J"⟩, 26), (⟨"DecimalDeskModel", "isBelow", "(J)Z"⟩, 26), (⟨"DecimalDeskModel", "say", "(I)V"⟩, 26), (⟨"DecimalDeskModel", "spread", "(J)V"⟩, 26), (⟨"DecimalDeskModel", "keepWhole", "()V"⟩, 26), (⟨"DecimalDeskModel", "cut", "(IZ)V"⟩, 26), (⟨"DecimalDeskModel", "comesBack", "(IJ)Z"⟩, 26), (⟨"DecimalDeskModel", "beside", "(I)I"⟩, 26), (⟨"DecimalDeskModel", "sayTried", "(I)V"⟩, 26)]
theorem lw_r3 : ∀ q ∈ lw_privs_3, lw_okq q := List.forall_mem_cons.mpr ⟨lw_p32, List.forall_mem_cons.mpr ⟨lw_p33, List.forall_mem_cons.mpr ⟨lw_p34, List.forall_mem_cons.mpr ⟨lw_p35, List.forall_mem_cons.mpr ⟨lw_p36, List.forall_mem_cons.mpr ⟨lw_p37, List.forall_mem_cons.mpr ⟨lw_p38, List.forall_mem_cons.mpr ⟨lw_p39, List.forall_mem_cons.mpr ⟨lw_p40, List.forall_mem_cons.mpr ⟨lw_p41, List.forall_mem_cons.mpr ⟨lw_p42, List.forall_mem_cons.mpr ⟨lw_p43, List.forall_mem_cons.mpr ⟨lw_p44, List.forall_mem_cons.mpr ⟨lw_p45, fun _ h => absurd h List.not_mem_nil⟩⟩⟩⟩⟩⟩⟩⟩⟩⟩⟩⟩⟩⟩
def lw_privs : List (MethodName × Nat) := lw_privs_1 ++ (lw_privs_2 ++ (lw_privs_3))
def lw_tbl : List Cond := k2_sels lw_privs ++ tables_1
theorem lw_privs_ok : ∀ q ∈ lw_privs, lw_okq q := by
  show ∀ q ∈ lw_privs_1 ++ (lw_privs_2 ++ (lw_privs_3)), lw_okq q
  exact List.forall_mem_append.mpr ⟨lw_r1, List.forall_mem_append.mpr ⟨lw_r2, lw_r3⟩⟩
end
section
abbrev R_Layout : String := "DecimalDesk$Layout"
def F_Layout : u_T := fun k => match k with
  | 0 => ("DecimalDesk$Layout", "expBits", "I", false)
  | _ => ("DecimalDesk$Layout", "fracBits", "I", false)
def t_Layout : Nat → FieldType := fun k => match k with
  | 0 => .int
  | _ => .int
theorem n_Layout : ∀ a, a < 2 → ∀ b, b < 2 → a ≠ b → (F_Layout a).2.1 ≠ (F_Layout b).2.1 := by decide +kernel
theorem t_Layout_ok : ∀ k, k < 2 → parseFieldDescriptor (F_Layout k).2.2.1 = some (t_Layout k) := by decide +kernel
abbrev R_Natural : String := "DecimalDesk$Natural"
def F_Natural : u_T := fun k => match k with
  | _ => ("DecimalDesk$Natural", "limbs", "[I", true)
def t_Natural : Nat → FieldType := fun k => match k with
  | _ => .array .int
theorem n_Natural : ∀ a, a < 1 → ∀ b, b < 1 → a ≠ b → (F_Natural a).2.1 ≠ (F_Natural b).2.1 := by decide +kernel
theorem t_Natural_ok : ∀ k, k < 1 → parseFieldDescriptor (F_Natural k).2.2.1 = some (t_Natural k) := by decide +kernel
abbrev R_Tape : String := "DecimalDesk$Tape"
def F_Tape : u_T := fun k => match k with
  | 0 => ("DecimalDesk$Tape", "bytes", "[B", true)
  | _ => ("DecimalDesk$Tape", "length", "I", false)
def t_Tape : Nat → FieldType := fun k => match k with
  | 0 => .array .byte
  | _ => .int
theorem n_Tape : ∀ a, a < 2 → ∀ b, b < 2 → a ≠ b → (F_Tape a).2.1 ≠ (F_Tape b).2.1 := by decide +kernel
theorem t_Tape_ok : ∀ k, k < 2 → parseFieldDescriptor (F_Tape k).2.2.1 = some (t_Tape k) := by decide +kernel
abbrev R_Decimal : String := "DecimalDesk$Decimal"
def F_Decimal : u_T := fun k => match k with
  | 0 => ("DecimalDesk$Decimal", "digits", "LDecimalDesk$Natural;", true)
  | 1 => ("DecimalDesk$Decimal", "negative", "Z", false)
  | _ => ("DecimalDesk$Decimal", "exponent", "I", false)
def t_Decimal : Nat → FieldType := fun k => match k with
  | 0 => .object "DecimalDesk$Natural"
  | 1 => .boolean
  | _ => .int
theorem n_Decimal : ∀ a, a < 3 → ∀ b, b < 3 → a ≠ b → (F_Decimal a).2.1 ≠ (F_Decimal b).2.1 := by decide +kernel
theorem t_Decimal_ok : ∀ k, k < 3 → parseFieldDescriptor (F_Decimal k).2.2.1 = some (t_Decimal k) := by decide +kernel
abbrev R_Rounder : String := "DecimalDesk$Rounder"
def F_Rounder : u_T := fun k => match k with
  | 0 => ("DecimalDesk$Rounder", "top", "LDecimalDesk$Natural;", true)
  | 1 => ("DecimalDesk$Rounder", "bottom", "LDecimalDesk$Natural;", true)
  | 2 => ("DecimalDesk$Rounder", "size", "J", false)
  | 3 => ("DecimalDesk$Rounder", "inexact", "Z", false)
  | _ => ("DecimalDesk$Rounder", "tiny", "Z", false)
def t_Rounder : Nat → FieldType := fun k => match k with
  | 0 => .object "DecimalDesk$Natural"
  | 1 => .object "DecimalDesk$Natural"
  | 2 => .long
  | 3 => .boolean
  | _ => .boolean
theorem n_Rounder : ∀ a, a < 5 → ∀ b, b < 5 → a ≠ b → (F_Rounder a).2.1 ≠ (F_Rounder b).2.1 := by decide +kernel
theorem t_Rounder_ok : ∀ k, k < 5 → parseFieldDescriptor (F_Rounder k).2.2.1 = some (t_Rounder k) := by decide +kernel
abbrev R_Finder : String := "DecimalDesk$ShortestFinder"
def F_Finder : u_T := fun k => match k with
  | 0 => ("DecimalDesk$ShortestFinder", "rest", "LDecimalDesk$Natural;", true)
  | 1 => ("DecimalDesk$ShortestFinder", "unit", "LDecimalDesk$Natural;", true)
  | 2 => ("DecimalDesk$ShortestFinder", "reachBelow", "LDecimalDesk$Natural;", true)
  | 3 => ("DecimalDesk$ShortestFinder", "reachAbove", "LDecimalDesk$Natural;", true)
  | 4 => ("DecimalDesk$ShortestFinder", "sum", "LDecimalDesk$Natural;", true)
  | 5 => ("DecimalDesk$ShortestFinder", "endsBelong", "Z", false)
  | 6 => ("DecimalDesk$ShortestFinder", "digits", "J", false)
  | 7 => ("DecimalDesk$ShortestFinder", "count", "I", false)
  | _ => ("DecimalDesk$ShortestFinder", "power", "I", false)
def t_Finder : Nat → FieldType := fun k => match k with
  | 0 => .object "DecimalDesk$Natural"
  | 1 => .object "DecimalDesk$Natural"
  | 2 => .object "DecimalDesk$Natural"
  | 3 => .object "DecimalDesk$Natural"
  | 4 => .object "DecimalDesk$Natural"
  | 5 => .boolean
  | 6 => .long
  | 7 => .int
  | _ => .int
theorem n_Finder : ∀ a, a < 9 → ∀ b, b < 9 → a ≠ b → (F_Finder a).2.1 ≠ (F_Finder b).2.1 := by decide +kernel
theorem t_Finder_ok : ∀ k, k < 9 → parseFieldDescriptor (F_Finder k).2.2.1 = some (t_Finder k) := by decide +kernel
abbrev R_Told : String := "DecimalDesk$Told"
def F_Told : u_T := fun k => match k with
  | 0 => ("DecimalDesk$Told", "letters", "[B", true)
  | 1 => ("DecimalDesk$Told", "reversed", "[B", true)
  | _ => ("DecimalDesk$Told", "length", "I", false)
def t_Told : Nat → FieldType := fun k => match k with
  | 0 => .array .byte
  | 1 => .array .byte
  | _ => .int
theorem n_Told : ∀ a, a < 3 → ∀ b, b < 3 → a ≠ b → (F_Told a).2.1 ≠ (F_Told b).2.1 := by decide +kernel
theorem t_Told_ok : ∀ k, k < 3 → parseFieldDescriptor (F_Told k).2.2.1 = some (t_Told k) := by decide +kernel
abbrev R_Desk : String := "DecimalDesk"
def F_Desk : u_T := fun k => match k with
  | 0 => ("DecimalDesk", "layout", "LDecimalDesk$Layout;", true)
  | 1 => ("DecimalDesk", "tape", "LDecimalDesk$Tape;", true)
  | 2 => ("DecimalDesk", "decimal", "LDecimalDesk$Decimal;", true)
  | 3 => ("DecimalDesk", "rounder", "LDecimalDesk$Rounder;", true)
  | 4 => ("DecimalDesk", "finder", "LDecimalDesk$ShortestFinder;", true)
  | 5 => ("DecimalDesk", "digits", "LDecimalDesk$Natural;", true)
  | 6 => ("DecimalDesk", "told", "LDecimalDesk$Told;", true)
  | 7 => ("DecimalDesk", "mode", "I", false)
  | _ => ("DecimalDesk", "flags", "I", false)
def t_Desk : Nat → FieldType := fun k => match k with
  | 0 => .object "DecimalDesk$Layout"
  | 1 => .object "DecimalDesk$Tape"
  | 2 => .object "DecimalDesk$Decimal"
  | 3 => .object "DecimalDesk$Rounder"
  | 4 => .object "DecimalDesk$ShortestFinder"
  | 5 => .object "DecimalDesk$Natural"
  | 6 => .object "DecimalDesk$Told"
  | 7 => .int
  | _ => .int
theorem n_Desk : ∀ a, a < 9 → ∀ b, b < 9 → a ≠ b → (F_Desk a).2.1 ≠ (F_Desk b).2.1 := by decide +kernel
theorem t_Desk_ok : ∀ k, k < 9 → parseFieldDescriptor (F_Desk k).2.2.1 = some (t_Desk k) := by decide +kernel
abbrev R_Model : String := "DecimalDeskModel"
def F_Model : u_T := fun k => match k with
  | 0 => ("DecimalDeskModel", "thrown", "I", false)
  | 1 => ("DecimalDeskModel", "widthE", "I", false)
  | 2 => ("DecimalDeskModel", "widthM", "I", false)
  | 3 => ("DecimalDeskModel", "way", "I", false)
  | 4 => ("DecimalDeskModel", "raised", "I", false)
  | 5 => ("DecimalDeskModel", "tape", "[I", true)
  | 6 => ("DecimalDeskModel", "taped", "I", false)
  | 7 => ("DecimalDeskModel", "told", "[I", true)
  | 8 => ("DecimalDeskModel", "toldLong", "I", false)
  | 9 => ("DecimalDeskModel", "row", "[I", true)
  | 10 => ("DecimalDeskModel", "first", "I", false)
  | 11 => ("DecimalDeskModel", "last", "I", false)
  | 12 => ("DecimalDeskModel", "whole", "[I", true)
  | 13 => ("DecimalDeskModel", "wholeFirst", "I", false)
  | 14 => ("DecimalDeskModel", "wholeLast", "I", false)
  | 15 => ("DecimalDeskModel", "lost", "Z", false)
  | 16 => ("DecimalDeskModel", "over", "Z", false)
  | 17 => ("DecimalDeskModel", "under", "Z", false)
  | 18 => ("DecimalDeskModel", "at", "I", false)
  | 19 => ("DecimalDeskModel", "minus", "Z", false)
  | 20 => ("DecimalDeskModel", "digits", "I", false)
  | 21 => ("DecimalDeskModel", "digit", "[I", true)
  | 22 => ("DecimalDeskModel", "ahead0", "I", false)
  | 23 => ("DecimalDeskModel", "exponent", "I", false)
  | 24 => ("DecimalDeskModel", "tried", "[I", true)
  | _ => ("DecimalDeskModel", "ten", "I", false)
def t_Model : Nat → FieldType := fun k => match k with
  | 0 => .int
  | 1 => .int
  | 2 => .int
  | 3 => .int
  | 4 => .int
  | 5 => .array .int
  | 6 => .int
  | 7 => .array .int
  | 8 => .int
  | 9 => .array .int
  | 10 => .int
  | 11 => .int
  | 12 => .array .int
  | 13 => .int
  | 14 => .int
  | 15 => .boolean
  | 16 => .boolean
  | 17 => .boolean
  | 18 => .int
  | 19 => .boolean
  | 20 => .int
  | 21 => .array .int
  | 22 => .int
  | 23 => .int
  | 24 => .array .int
  | _ => .int
theorem n_Model : ∀ a, a < 26 → ∀ b, b < 26 → a ≠ b → (F_Model a).2.1 ≠ (F_Model b).2.1 := by decide +kernel
theorem t_Model_ok : ∀ k, k < 26 → parseFieldDescriptor (F_Model k).2.2.1 = some (t_Model k) := by decide +kernel
abbrev R_Law : String := "DecimalDeskLaw"
abbrev R_Integer : String := "java/lang/Integer"
abbrev R_Long : String := "java/lang/Long"
abbrev R_Math : String := "java/lang/Math"
abbrev y_Desk_init : MethodName := ⟨"DecimalDesk", "<init>", "()V"⟩
abbrev b_Desk_init : ByteArray := prog_1_method_1_code
abbrev y_Desk_format : MethodName := ⟨"DecimalDesk", "format", "(II)Z"⟩
abbrev b_Desk_format : ByteArray := prog_1_method_2_code
abbrev y_Desk_mode : MethodName := ⟨"DecimalDesk", "mode", "(I)Z"⟩
abbrev b_Desk_mode : ByteArray := prog_1_method_3_code
abbrev y_Desk_type : MethodName := ⟨"DecimalDesk", "type", "(JI)Z"⟩
abbrev b_Desk_type : ByteArray := prog_1_method_4_code
abbrev y_Desk_read : MethodName := ⟨"DecimalDesk", "read", "()J"⟩
abbrev b_Desk_read : ByteArray := prog_1_method_5_code
abbrev y_Desk_flags : MethodName := ⟨"DecimalDesk", "flags", "()I"⟩
abbrev b_Desk_flags : ByteArray := prog_1_method_6_code
abbrev y_Desk_clear : MethodName := ⟨"DecimalDesk", "clear", "(I)I"⟩
abbrev b_Desk_clear : ByteArray := prog_1_method_7_code
abbrev y_Desk_shortest : MethodName := ⟨"DecimalDesk", "shortest", "(J)I"⟩
abbrev b_Desk_shortest : ByteArray := prog_1_method_8_code
abbrev y_Desk_exact : MethodName := ⟨"DecimalDesk", "exact", "(J)I"⟩
abbrev b_Desk_exact : ByteArray := prog_1_method_9_code
abbrev y_Desk_letter : MethodName := ⟨"DecimalDesk", "letter", "(I)I"⟩
abbrev b_Desk_letter : ByteArray := prog_1_method_10_code
abbrev y_Desk_next : MethodName := ⟨"DecimalDesk", "next", "(JZ)J"⟩
abbrev b_Desk_next : ByteArray := prog_1_method_11_code
abbrev y_Desk_sizeByOverflow : MethodName := ⟨"DecimalDesk", "sizeByOverflow", "(Z)J"⟩
abbrev b_Desk_sizeByOverflow : ByteArray := prog_1_method_12_code
abbrev y_Desk_raiseFlags : MethodName := ⟨"DecimalDesk", "raiseFlags", "(Z)V"⟩
abbrev b_Desk_raiseFlags : ByteArray := prog_1_method_13_code
abbrev y_Desk_tellNotFinite : MethodName := ⟨"DecimalDesk", "tellNotFinite", "(J)Z"⟩
abbrev b_Desk_tellNotFinite : ByteArray := prog_1_method_14_code
abbrev y_Desk_tellShortest : MethodName := ⟨"DecimalDesk", "tellShortest", "(J)V"⟩
abbrev b_Desk_tellShortest : ByteArray := prog_1_method_15_code
abbrev y_Desk_tellAllDigits : MethodName := ⟨"DecimalDesk", "tellAllDigits", "(J)V"⟩
abbrev b_Desk_tellAllDigits : ByteArray := prog_1_method_16_code
abbrev y_Model_init : MethodName := ⟨"DecimalDeskModel", "<init>", "()V"⟩
abbrev b_Model_init : ByteArray := prog_10_method_1_code
abbrev y_Model_raise : MethodName := ⟨"DecimalDeskModel", "raise", "(I)I"⟩
abbrev b_Model_raise : ByteArray := prog_10_method_3_code
abbrev y_Model_format : MethodName := ⟨"DecimalDeskModel", "format", "(II)Z"⟩
abbrev b_Model_format : ByteArray := prog_10_method_4_code
abbrev y_Model_mode : MethodName := ⟨"DecimalDeskModel", "mode", "(I)Z"⟩
abbrev b_Model_mode : ByteArray := prog_10_method_5_code
abbrev y_Model_type : MethodName := ⟨"DecimalDeskModel", "type", "(JI)Z"⟩
abbrev b_Model_type : ByteArray := prog_10_method_6_code
abbrev y_Model_flags : MethodName := ⟨"DecimalDeskModel", "flags", "()I"⟩
abbrev b_Model_flags : ByteArray := prog_10_method_7_code
abbrev y_Model_clear : MethodName := ⟨"DecimalDeskModel", "clear", "(I)I"⟩
abbrev b_Model_clear : ByteArray := prog_10_method_8_code
abbrev y_Model_wipe : MethodName := ⟨"DecimalDeskModel", "wipe", "()V"⟩
abbrev b_Model_wipe : ByteArray := prog_10_method_9_code
abbrev y_Model_dig : MethodName := ⟨"DecimalDeskModel", "dig", "(II)V"⟩
abbrev b_Model_dig : ByteArray := prog_10_method_10_code
abbrev y_Model_twice : MethodName := ⟨"DecimalDeskModel", "twice", "()V"⟩
abbrev b_Model_twice : ByteArray := prog_10_method_11_code
abbrev y_Model_half : MethodName := ⟨"DecimalDeskModel", "half", "()V"⟩
abbrev b_Model_half : ByteArray := prog_10_method_12_code
abbrev y_Model_ahead : MethodName := ⟨"DecimalDeskModel", "ahead", "()I"⟩
abbrev b_Model_ahead : ByteArray := prog_10_method_13_code
abbrev y_Model_behind : MethodName := ⟨"DecimalDeskModel", "behind", "()I"⟩
abbrev b_Model_behind : ByteArray := prog_10_method_14_code
abbrev y_Model_bias : MethodName := ⟨"DecimalDeskModel", "bias", "()I"⟩
abbrev b_Model_bias : ByteArray := prog_10_method_15_code
abbrev y_Model_beyond : MethodName := ⟨"DecimalDeskModel", "beyond", "()J"⟩
abbrev b_Model_beyond : ByteArray := prog_10_method_16_code
abbrev y_Model_goesUp : MethodName := ⟨"DecimalDeskModel", "goesUp", "(ZIJI)Z"⟩
abbrev b_Model_goesUp : ByteArray := prog_10_method_17_code
abbrev y_Model_rounded : MethodName := ⟨"DecimalDeskModel", "rounded", "(ZI)J"⟩
abbrev b_Model_rounded : ByteArray := prog_10_method_18_code
abbrev y_Model_packed : MethodName := ⟨"DecimalDeskModel", "packed", "(IJIZI)J"⟩
abbrev b_Model_packed : ByteArray := prog_10_method_19_code
abbrev y_Model_see : MethodName := ⟨"DecimalDeskModel", "see", "(I)I"⟩
abbrev b_Model_see : ByteArray := prog_10_method_20_code
abbrev y_Model_isDigit : MethodName := ⟨"DecimalDeskModel", "isDigit", "(I)Z"⟩
abbrev b_Model_isDigit : ByteArray := prog_10_method_21_code
abbrev y_Model_run : MethodName := ⟨"DecimalDeskModel", "run", "()I"⟩
abbrev b_Model_run : ByteArray := prog_10_method_22_code
abbrev y_Model_isDecimal : MethodName := ⟨"DecimalDeskModel", "isDecimal", "()Z"⟩
abbrev b_Model_isDecimal : ByteArray := prog_10_method_23_code
abbrev y_Model_valued : MethodName := ⟨"DecimalDeskModel", "valued", "(I)J"⟩
abbrev b_Model_valued : ByteArray := prog_10_method_24_code
abbrev y_Model_read : MethodName := ⟨"DecimalDeskModel", "read", "()J"⟩
abbrev b_Model_read : ByteArray := prog_10_method_25_code
abbrev y_Model_isPattern : MethodName := ⟨"DecimalDeskModel", "isPattern", "(J)Z"⟩
abbrev b_Model_isPattern : ByteArray := prog_10_method_26_code
abbrev y_Model_sizeOf : MethodName := ⟨"DecimalDeskModel", "sizeOf", "(J)J"⟩
abbrev b_Model_sizeOf : ByteArray := prog_10_method_27_code
abbrev y_Model_isBelow : MethodName := ⟨"DecimalDeskModel", "isBelow", "(J)Z"⟩
abbrev b_Model_isBelow : ByteArray := prog_10_method_28_code
abbrev y_Model_spread : MethodName := ⟨"DecimalDeskModel", "spread", "(J)V"⟩
abbrev b_Model_spread : ByteArray := prog_10_method_29_code
abbrev y_Model_say : MethodName := ⟨"DecimalDeskModel", "say", "(I)V"⟩
abbrev b_Model_say : ByteArray := prog_10_method_30_code
abbrev y_Model_isStrange : MethodName := ⟨"DecimalDeskModel", "isStrange", "(J)Z"⟩
abbrev b_Model_isStrange : ByteArray := prog_10_method_31_code
abbrev y_Model_exact : MethodName := ⟨"DecimalDeskModel", "exact", "(J)I"⟩
abbrev b_Model_exact : ByteArray := prog_10_method_32_code
abbrev y_Model_keepWhole : MethodName := ⟨"DecimalDeskModel", "keepWhole", "()V"⟩
abbrev b_Model_keepWhole : ByteArray := prog_10_method_33_code
abbrev y_Model_cut : MethodName := ⟨"DecimalDeskModel", "cut", "(IZ)V"⟩
abbrev b_Model_cut : ByteArray := prog_10_method_34_code
abbrev y_Model_comesBack : MethodName := ⟨"DecimalDeskModel", "comesBack", "(IJ)Z"⟩
abbrev b_Model_comesBack : ByteArray := prog_10_method_35_code
abbrev y_Model_beside : MethodName := ⟨"DecimalDeskModel", "beside", "(I)I"⟩
abbrev b_Model_beside : ByteArray := prog_10_method_36_code
abbrev y_Model_sayTried : MethodName := ⟨"DecimalDeskModel", "sayTried", "(I)V"⟩
abbrev b_Model_sayTried : ByteArray := prog_10_method_37_code
abbrev y_Model_shortest : MethodName := ⟨"DecimalDeskModel", "shortest", "(J)I"⟩
abbrev b_Model_shortest : ByteArray := prog_10_method_38_code
abbrev y_Model_letter : MethodName := ⟨"DecimalDeskModel", "letter", "(I)I"⟩
abbrev b_Model_letter : ByteArray := prog_10_method_39_code
abbrev y_Model_next : MethodName := ⟨"DecimalDeskModel", "next", "(JZ)J"⟩
abbrev b_Model_next : ByteArray := prog_10_method_40_code
abbrev y_Decimal_init : MethodName := ⟨"DecimalDesk$Decimal", "<init>", "()V"⟩
abbrev b_Decimal_init : ByteArray := prog_2_method_1_code
abbrev y_Decimal_parse : MethodName := ⟨"DecimalDesk$Decimal", "parse", "(LDecimalDesk$Tape;)Z"⟩
abbrev b_Decimal_parse : ByteArray := prog_2_method_2_code
abbrev y_Decimal_takeDigits : MethodName := ⟨"DecimalDesk$Decimal", "takeDigits", "(LDecimalDesk$Tape;I)I"⟩
abbrev b_Decimal_takeDigits : ByteArray := prog_2_method_3_code
abbrev y_Decimal_takePower : MethodName := ⟨"DecimalDesk$Decimal", "takePower", "(LDecimalDesk$Tape;I)Z"⟩
abbrev b_Decimal_takePower : ByteArray := prog_2_method_4_code
abbrev y_Decimal_isDigit : MethodName := ⟨"DecimalDesk$Decimal", "isDigit", "(I)Z"⟩
abbrev b_Decimal_isDigit : ByteArray := prog_2_method_5_code
abbrev y_Layout_init : MethodName := ⟨"DecimalDesk$Layout", "<init>", "()V"⟩
abbrev b_Layout_init : ByteArray := prog_3_method_1_code
abbrev y_Layout_bias : MethodName := ⟨"DecimalDesk$Layout", "bias", "()I"⟩
abbrev b_Layout_bias : ByteArray := prog_3_method_2_code
abbrev y_Layout_lowestPower : MethodName := ⟨"DecimalDesk$Layout", "lowestPower", "()I"⟩
abbrev b_Layout_lowestPower : ByteArray := prog_3_method_3_code
abbrev y_Layout_signBit : MethodName := ⟨"DecimalDesk$Layout", "signBit", "()J"⟩
abbrev b_Layout_signBit : ByteArray := prog_3_method_4_code
abbrev y_Layout_infinity : MethodName := ⟨"DecimalDesk$Layout", "infinity", "()J"⟩
abbrev b_Layout_infinity : ByteArray := prog_3_method_5_code
abbrev y_Layout_holds : MethodName := ⟨"DecimalDesk$Layout", "holds", "(J)Z"⟩
abbrev b_Layout_holds : ByteArray := prog_3_method_6_code
abbrev y_Layout_isNegative : MethodName := ⟨"DecimalDesk$Layout", "isNegative", "(J)Z"⟩
abbrev b_Layout_isNegative : ByteArray := prog_3_method_7_code
abbrev y_Layout_sizeOf : MethodName := ⟨"DecimalDesk$Layout", "sizeOf", "(J)J"⟩
abbrev b_Layout_sizeOf : ByteArray := prog_3_method_8_code
abbrev y_Layout_fractionOf : MethodName := ⟨"DecimalDesk$Layout", "fractionOf", "(J)J"⟩
abbrev b_Layout_fractionOf : ByteArray := prog_3_method_9_code
abbrev y_Layout_exponentOf : MethodName := ⟨"DecimalDesk$Layout", "exponentOf", "(J)I"⟩
abbrev b_Layout_exponentOf : ByteArray := prog_3_method_10_code
abbrev y_Layout_significandOf : MethodName := ⟨"DecimalDesk$Layout", "significandOf", "(J)J"⟩
abbrev b_Layout_significandOf : ByteArray := prog_3_method_11_code
abbrev y_Layout_powerOf : MethodName := ⟨"DecimalDesk$Layout", "powerOf", "(J)I"⟩
abbrev b_Layout_powerOf : ByteArray := prog_3_method_12_code
abbrev y_Natural_init : MethodName := ⟨"DecimalDesk$Natural", "<init>", "()V"⟩
abbrev b_Natural_init : ByteArray := prog_4_method_1_code
abbrev y_Natural_set : MethodName := ⟨"DecimalDesk$Natural", "set", "(J)V"⟩
abbrev b_Natural_set : ByteArray := prog_4_method_2_code
abbrev y_Natural_copy : MethodName := ⟨"DecimalDesk$Natural", "copy", "(LDecimalDesk$Natural;)V"⟩
abbrev b_Natural_copy : ByteArray := prog_4_method_3_code
abbrev y_Natural_isZero : MethodName := ⟨"DecimalDesk$Natural", "isZero", "()Z"⟩
abbrev b_Natural_isZero : ByteArray := prog_4_method_4_code
abbrev y_Natural_against : MethodName := ⟨"DecimalDesk$Natural", "against", "(LDecimalDesk$Natural;)I"⟩
abbrev b_Natural_against : ByteArray := prog_4_method_5_code
abbrev y_Natural_bitLength : MethodName := ⟨"DecimalDesk$Natural", "bitLength", "()I"⟩
abbrev b_Natural_bitLength : ByteArray := prog_4_method_6_code
abbrev y_Natural_add : MethodName := ⟨"DecimalDesk$Natural", "add", "(LDecimalDesk$Natural;)V"⟩
abbrev b_Natural_add : ByteArray := prog_4_method_7_code
abbrev y_Natural_subtract : MethodName := ⟨"DecimalDesk$Natural", "subtract", "(LDecimalDesk$Natural;)V"⟩
abbrev b_Natural_subtract : ByteArray := prog_4_method_8_code
abbrev y_Natural_timesPlus : MethodName := ⟨"DecimalDesk$Natural", "timesPlus", "(II)V"⟩
abbrev b_Natural_timesPlus : ByteArray := prog_4_method_9_code
abbrev y_Natural_timesPowerOfTen : MethodName := ⟨"DecimalDesk$Natural", "timesPowerOfTen", "(I)V"⟩
abbrev b_Natural_timesPowerOfTen : ByteArray := prog_4_method_10_code
abbrev y_Natural_timesPowerOfFive : MethodName := ⟨"DecimalDesk$Natural", "timesPowerOfFive", "(I)V"⟩
abbrev b_Natural_timesPowerOfFive : ByteArray := prog_4_method_11_code
abbrev y_Natural_shiftLeft : MethodName := ⟨"DecimalDesk$Natural", "shiftLeft", "(I)V"⟩
abbrev b_Natural_shiftLeft : ByteArray := prog_4_method_12_code
abbrev y_Natural_divide : MethodName := ⟨"DecimalDesk$Natural", "divide", "(I)I"⟩
abbrev b_Natural_divide : ByteArray := prog_4_method_13_code
abbrev y_Natural_limbAt : MethodName := ⟨"DecimalDesk$Natural", "limbAt", "(I)J"⟩
abbrev b_Natural_limbAt : ByteArray := prog_4_method_14_code
abbrev y_Rounder_init : MethodName := ⟨"DecimalDesk$Rounder", "<init>", "()V"⟩
abbrev b_Rounder_init : ByteArray := prog_5_method_1_code
abbrev y_Rounder_round : MethodName := ⟨"DecimalDesk$Rounder", "round", "(LDecimalDesk$Decimal;LDecimalDesk$Layout;I)V"⟩
abbrev b_Rounder_round : ByteArray := prog_5_method_2_code
abbrev y_Rounder_setFraction : MethodName := ⟨"DecimalDesk$Rounder", "setFraction", "(LDecimalDesk$Decimal;)V"⟩
abbrev b_Rounder_setFraction : ByteArray := prog_5_method_3_code
abbrev y_Rounder_normalise : MethodName := ⟨"DecimalDesk$Rounder", "normalise", "()I"⟩
abbrev b_Rounder_normalise : ByteArray := prog_5_method_4_code
abbrev y_Rounder_takeBits : MethodName := ⟨"DecimalDesk$Rounder", "takeBits", "(I)J"⟩
abbrev b_Rounder_takeBits : ByteArray := prog_5_method_5_code
abbrev y_Rounder_goesFarther : MethodName := ⟨"DecimalDesk$Rounder", "goesFarther", "(IZZI)Z"⟩
abbrev b_Rounder_goesFarther : ByteArray := prog_5_method_6_code
abbrev y_Finder_init : MethodName := ⟨"DecimalDesk$ShortestFinder", "<init>", "()V"⟩
abbrev b_Finder_init : ByteArray := prog_6_method_1_code
abbrev y_Finder_find : MethodName := ⟨"DecimalDesk$ShortestFinder", "find", "(JLDecimalDesk$Layout;)V"⟩
abbrev b_Finder_find : ByteArray := prog_6_method_2_code
abbrev y_Finder_setRange : MethodName := ⟨"DecimalDesk$ShortestFinder", "setRange", "(JLDecimalDesk$Layout;)V"⟩
abbrev b_Finder_setRange : ByteArray := prog_6_method_3_code
abbrev y_Finder_setPower : MethodName := ⟨"DecimalDesk$ShortestFinder", "setPower", "(JLDecimalDesk$Layout;)V"⟩
abbrev b_Finder_setPower : ByteArray := prog_6_method_4_code
abbrev y_Finder_timesTen : MethodName := ⟨"DecimalDesk$ShortestFinder", "timesTen", "()V"⟩
abbrev b_Finder_timesTen : ByteArray := prog_6_method_5_code
abbrev y_Finder_takeDigit : MethodName := ⟨"DecimalDesk$ShortestFinder", "takeDigit", "()I"⟩
abbrev b_Finder_takeDigit : ByteArray := prog_6_method_6_code
abbrev y_Finder_choose : MethodName := ⟨"DecimalDesk$ShortestFinder", "choose", "()Z"⟩
abbrev b_Finder_choose : ByteArray := prog_6_method_7_code
abbrev y_Finder_isWithin : MethodName := ⟨"DecimalDesk$ShortestFinder", "isWithin", "(I)Z"⟩
abbrev b_Finder_isWithin : ByteArray := prog_6_method_8_code
abbrev y_Tape_init : MethodName := ⟨"DecimalDesk$Tape", "<init>", "()V"⟩
abbrev b_Tape_init : ByteArray := prog_7_method_1_code
abbrev y_Tape_put : MethodName := ⟨"DecimalDesk$Tape", "put", "(JI)Z"⟩
abbrev b_Tape_put : ByteArray := prog_7_method_2_code
abbrev y_Tape_wipe : MethodName := ⟨"DecimalDesk$Tape", "wipe", "()V"⟩
abbrev b_Tape_wipe : ByteArray := prog_7_method_3_code
abbrev y_Tape_at : MethodName := ⟨"DecimalDesk$Tape", "at", "(I)I"⟩
abbrev b_Tape_at : ByteArray := prog_7_method_4_code
abbrev y_Tape_byteOf : MethodName := ⟨"DecimalDesk$Tape", "byteOf", "(JI)I"⟩
abbrev b_Tape_byteOf : ByteArray := prog_7_method_5_code
abbrev y_Told_init : MethodName := ⟨"DecimalDesk$Told", "<init>", "()V"⟩
abbrev b_Told_init : ByteArray := prog_8_method_1_code
abbrev y_Told_at : MethodName := ⟨"DecimalDesk$Told", "at", "(I)I"⟩
abbrev b_Told_at : ByteArray := prog_8_method_2_code
abbrev y_Told_start : MethodName := ⟨"DecimalDesk$Told", "start", "(Z)V"⟩
abbrev b_Told_start : ByteArray := prog_8_method_3_code
abbrev y_Told_add : MethodName := ⟨"DecimalDesk$Told", "add", "(I)V"⟩
abbrev b_Told_add : ByteArray := prog_8_method_4_code
abbrev y_Told_addPower : MethodName := ⟨"DecimalDesk$Told", "addPower", "(I)V"⟩
abbrev b_Told_addPower : ByteArray := prog_8_method_5_code
abbrev y_Told_addDigits : MethodName := ⟨"DecimalDesk$Told", "addDigits", "(JII)V"⟩
abbrev b_Told_addDigits : ByteArray := prog_8_method_6_code
abbrev y_Told_addNatural : MethodName := ⟨"DecimalDesk$Told", "addNatural", "(LDecimalDesk$Natural;I)V"⟩
abbrev b_Told_addNatural : ByteArray := prog_8_method_7_code
abbrev y_Told_addReversed : MethodName := ⟨"DecimalDesk$Told", "addReversed", "(II)V"⟩
abbrev b_Told_addReversed : ByteArray := prog_8_method_8_code
abbrev y_Law_read : MethodName := ⟨"DecimalDeskLaw", "read", "(LDecimalDesk;[J)I"⟩
abbrev b_Law_read : ByteArray := method_3_code
abbrev y_Law_shortest : MethodName := ⟨"DecimalDeskLaw", "shortest", "(LDecimalDesk;J[J)I"⟩
abbrev b_Law_shortest : ByteArray := method_4_code
abbrev y_Law_exact : MethodName := ⟨"DecimalDeskLaw", "exact", "(LDecimalDesk;J[J)I"⟩
abbrev b_Law_exact : ByteArray := method_5_code
abbrev y_Law_letter : MethodName := ⟨"DecimalDeskLaw", "letter", "(LDecimalDesk;I[J)I"⟩
abbrev b_Law_letter : ByteArray := method_6_code
abbrev y_Law_law : MethodName := ⟨"DecimalDeskLaw", "law", "([I)Z"⟩
abbrev b_Law_law : ByteArray := code
abbrev y_Exception_init : MethodName := ⟨"java/lang/Exception", "<init>", "(Ljava/lang/String;)V"⟩
abbrev b_Exception_init : ByteArray := prog_11_method_2_code
abbrev y_IllegalArg_init : MethodName := ⟨"java/lang/IllegalArgumentException", "<init>", "(Ljava/lang/String;)V"⟩
abbrev b_IllegalArg_init : ByteArray := prog_12_method_2_code
abbrev y_Integer_numberOfLeadingZeros : MethodName := ⟨"java/lang/Integer", "numberOfLeadingZeros", "(I)I"⟩
abbrev b_Integer_numberOfLeadingZeros : ByteArray := prog_13_method_47_code
abbrev y_Long_numberOfLeadingZeros : MethodName := ⟨"java/lang/Long", "numberOfLeadingZeros", "(J)I"⟩
abbrev b_Long_numberOfLeadingZeros : ByteArray := prog_14_method_48_code
abbrev y_Math_abs : MethodName := ⟨"java/lang/Math", "abs", "(I)I"⟩
abbrev b_Math_abs : ByteArray := prog_15_method_59_code
abbrev y_Math_floorDiv : MethodName := ⟨"java/lang/Math", "floorDiv", "(II)I"⟩
abbrev b_Math_floorDiv : ByteArray := prog_15_method_47_code
abbrev y_Math_max : MethodName := ⟨"java/lang/Math", "max", "(II)I"⟩
abbrev b_Math_max : ByteArray := prog_15_method_65_code
abbrev y_Math_min : MethodName := ⟨"java/lang/Math", "min", "(II)I"⟩
abbrev b_Math_min : ByteArray := prog_15_method_69_code
abbrev y_RuntimeEx_init : MethodName := ⟨"java/lang/RuntimeException", "<init>", "(Ljava/lang/String;)V"⟩
abbrev b_RuntimeEx_init : ByteArray := prog_16_method_2_code
abbrev y_Throwable_init : MethodName := ⟨"java/lang/Throwable", "<init>", "(Ljava/lang/String;)V"⟩
abbrev b_Throwable_init : ByteArray := prog_18_method_2_code
abbrev y_Throwable_fillInStackTrace : MethodName := ⟨"java/lang/Throwable", "fillInStackTrace", "()Ljava/lang/Throwable;"⟩
abbrev b_Throwable_fillInStackTrace : ByteArray := prog_18_method_18_code
abbrev y_Throwable_fillInStackTraceI : MethodName := ⟨"java/lang/Throwable", "fillInStackTrace", "(I)Ljava/lang/Throwable;"⟩
abbrev y_NoSuchEl_init : MethodName := ⟨"java/util/NoSuchElementException", "<init>", "(Ljava/lang/String;)V"⟩
abbrev b_NoSuchEl_init : ByteArray := prog_19_method_4_code
def gT_0 : List Cond := [.selects "DecimalDesk$Decimal" y_Decimal_takeDigits y_Decimal_takeDigits, .selects "DecimalDesk$Decimal" y_Decimal_takePower y_Decimal_takePower, .selects "java/lang/Throwable" y_Throwable_fillInStackTraceI y_Throwable_fillInStackTraceI, .selects "DecimalDesk$Rounder" y_Rounder_setFraction y_Rounder_setFraction, .selects "DecimalDesk$Natural" y_Natural_limbAt y_Natural_limbAt, .selects "DecimalDesk$Rounder" y_Rounder_normalise y_Rounder_normalise, .selects "DecimalDesk$Rounder" y_Rounder_takeBits y_Rounder_takeBits, .selects "DecimalDesk" y_Desk_sizeByOverflow y_Desk_sizeByOverflow, .selects "DecimalDesk" y_Desk_raiseFlags y_Desk_raiseFlags, .selects "DecimalDesk" y_Desk_tellNotFinite y_Desk_tellNotFinite, .selects "DecimalDesk" y_Desk_tellShortest y_Desk_tellShortest, .selects "DecimalDesk$Told" y_Told_addReversed y_Told_addReversed, .selects "DecimalDesk$ShortestFinder" y_Finder_setRange y_Finder_setRange, .selects "DecimalDesk$ShortestFinder" y_Finder_setPower y_Finder_setPower, .selects "DecimalDesk$ShortestFinder" y_Finder_timesTen y_Finder_timesTen, .selects "DecimalDesk$ShortestFinder" y_Finder_takeDigit y_Finder_takeDigit, .selects "DecimalDesk$ShortestFinder" y_Finder_choose y_Finder_choose, .selects "DecimalDesk$ShortestFinder" y_Finder_isWithin y_Finder_isWithin, .selects "DecimalDesk" y_Desk_tellAllDigits y_Desk_tellAllDigits, .selects "DecimalDeskModel" y_Model_isDecimal y_Model_isDecimal, .selects "DecimalDeskModel" y_Model_see y_Model_see, .selects "DecimalDeskModel" y_Model_run y_Model_run, .selects "DecimalDeskModel" y_Model_raise y_Model_raise, .selects "DecimalDeskModel" y_Model_valued y_Model_valued, .selects "DecimalDeskModel" y_Model_packed y_Model_packed, .selects "DecimalDeskModel" y_Model_goesUp y_Model_goesUp, .selects "DecimalDeskModel" y_Model_bias y_Model_bias, .selects "DecimalDeskModel" y_Model_beyond y_Model_beyond, .selects "DecimalDeskModel" y_Model_wipe y_Model_wipe, .selects "DecimalDeskModel" y_Model_dig y_Model_dig, .selects "DecimalDeskModel" y_Model_rounded y_Model_rounded, .selects "DecimalDeskModel" y_Model_ahead y_Model_ahead, .selects "DecimalDeskModel" y_Model_half y_Model_half, .selects "DecimalDeskModel" y_Model_twice y_Model_twice, .selects "DecimalDeskModel" y_Model_behind y_Model_behind, .selects "DecimalDeskModel" y_Model_isPattern y_Model_isPattern, .selects "DecimalDeskModel" y_Model_isStrange y_Model_isStrange, .selects "DecimalDeskModel" y_Model_sizeOf y_Model_sizeOf, .selects "DecimalDeskModel" y_Model_isBelow y_Model_isBelow, .selects "DecimalDeskModel" y_Model_say y_Model_say, .selects "DecimalDeskModel" y_Model_spread y_Model_spread, .selects "DecimalDeskModel" y_Model_keepWhole y_Model_keepWhole, .selects "DecimalDeskModel" y_Model_cut y_Model_cut, .selects "DecimalDeskModel" y_Model_comesBack y_Model_comesBack, .selects "DecimalDeskModel" y_Model_beside y_Model_beside, .selects "DecimalDeskModel" y_Model_sayTried y_Model_sayTried, .initialized "DecimalDeskLaw", .initialized "DecimalDesk", .initialized "DecimalDesk$Layout", .initialized "DecimalDesk$Tape", .initialized "DecimalDesk$Decimal", .initialized "DecimalDesk$Natural", .initialized "DecimalDesk$Rounder", .initialized "DecimalDesk$ShortestFinder", .initialized "DecimalDesk$Told", .initialized "DecimalDeskModel", .initialized "java/lang/Throwable", .initialized "java/lang/Exception", .initialized "java/lang/RuntimeException", .initialized "java/lang/IllegalArgumentException"]
theorem gT_0_good : gT_0.all goodWord = true := by decide +kernel
def gT_1 : List Cond := [.initialized "java/lang/Math", .initialized "java/lang/Integer", .initialized "java/lang/Long", .initialized "java/util/NoSuchElementException", .classLink "DecimalDeskLaw" 8 "DecimalDesk", .instantiable "DecimalDesk" 9, .methodLink "DecimalDeskLaw" 28 y_Desk_init, .instanceMethod y_Desk_init, .code y_Desk_init prog_1_method_1_code 1 none, .methodLink "DecimalDesk" 1 objectInit, .instanceMethod objectInit, .code objectInit object_method_1_code 1 none, .classLink "DecimalDesk" 7 "DecimalDesk$Layout", .instantiable "DecimalDesk$Layout" 2, .methodLink "DecimalDesk" 9 y_Layout_init, .instanceMethod y_Layout_init, .code y_Layout_init prog_3_method_1_code 1 none, .methodLink "DecimalDesk$Layout" 1 objectInit, .fieldLink "DecimalDesk$Layout" 7 "DecimalDesk$Layout" "expBits" "I", .fieldLink "DecimalDesk$Layout" 13 "DecimalDesk$Layout" "fracBits" "I", .lays "DecimalDesk$Layout" "DecimalDesk$Layout" "expBits" "I", .lays "DecimalDesk$Layout" "DecimalDesk$Layout" "fracBits" "I", .classLink "DecimalDesk" 16 "DecimalDesk$Tape", .instantiable "DecimalDesk$Tape" 2, .methodLink "DecimalDesk" 18 y_Tape_init, .instanceMethod y_Tape_init, .code y_Tape_init prog_7_method_1_code 1 none, .methodLink "DecimalDesk$Tape" 1 objectInit, .fieldLink "DecimalDesk$Tape" 9 "DecimalDesk$Tape" "bytes" "[B", .fieldLink "DecimalDesk$Tape" 13 "DecimalDesk$Tape" "length" "I", .laysFinal "DecimalDesk$Tape" "DecimalDesk$Tape" "bytes" "[B", .lays "DecimalDesk$Tape" "DecimalDesk$Tape" "length" "I", .arrayClass .byte, .classLink "DecimalDesk" 23 "DecimalDesk$Decimal", .instantiable "DecimalDesk$Decimal" 3, .methodLink "DecimalDesk" 25 y_Decimal_init, .instanceMethod y_Decimal_init, .code y_Decimal_init prog_2_method_1_code 1 none, .methodLink "DecimalDesk$Decimal" 1 objectInit, .classLink "DecimalDesk$Decimal" 7 "DecimalDesk$Natural", .instantiable "DecimalDesk$Natural" 1, .methodLink "DecimalDesk$Decimal" 9 y_Natural_init, .instanceMethod y_Natural_init, .code y_Natural_init prog_4_method_1_code 1 none, .methodLink "DecimalDesk$Natural" 1 objectInit, .fieldLink "DecimalDesk$Natural" 9 "DecimalDesk$Natural" "limbs" "[I", .laysFinal "DecimalDesk$Natural" "DecimalDesk$Natural" "limbs" "[I", .arrayClass .int, .fieldLink "DecimalDesk$Decimal" 10 "DecimalDesk$Decimal" "digits" "LDecimalDesk$Natural;", .fieldLink "DecimalDesk$Decimal" 16 "DecimalDesk$Decimal" "negative" "Z", .fieldLink "DecimalDesk$Decimal" 20 "DecimalDesk$Decimal" "exponent" "I", .laysFinal "DecimalDesk$Decimal" "DecimalDesk$Decimal" "digits" "LDecimalDesk$Natural;", .lays "DecimalDesk$Decimal" "DecimalDesk$Decimal" "negative" "Z", .lays "DecimalDesk$Decimal" "DecimalDesk$Decimal" "exponent" "I", .classLink "DecimalDesk" 30 "DecimalDesk$Rounder", .instantiable "DecimalDesk$Rounder" 5, .methodLink "DecimalDesk" 32 y_Rounder_init, .instanceMethod y_Rounder_init, .code y_Rounder_init prog_5_method_1_code 1 none, .methodLink "DecimalDesk$Rounder" 3 objectInit]
theorem gT_1_good : gT_1.all goodWord = true := by decide +kernel
def gT_2 : List Cond := [.classLink "DecimalDesk$Rounder" 9 "DecimalDesk$Natural", .methodLink "DecimalDesk$Rounder" 11 y_Natural_init, .fieldLink "DecimalDesk$Rounder" 12 "DecimalDesk$Rounder" "top" "LDecimalDesk$Natural;", .fieldLink "DecimalDesk$Rounder" 18 "DecimalDesk$Rounder" "bottom" "LDecimalDesk$Natural;", .fieldLink "DecimalDesk$Rounder" 21 "DecimalDesk$Rounder" "size" "J", .fieldLink "DecimalDesk$Rounder" 25 "DecimalDesk$Rounder" "inexact" "Z", .fieldLink "DecimalDesk$Rounder" 29 "DecimalDesk$Rounder" "tiny" "Z", .laysFinal "DecimalDesk$Rounder" "DecimalDesk$Rounder" "top" "LDecimalDesk$Natural;", .laysFinal "DecimalDesk$Rounder" "DecimalDesk$Rounder" "bottom" "LDecimalDesk$Natural;", .lays "DecimalDesk$Rounder" "DecimalDesk$Rounder" "size" "J", .lays "DecimalDesk$Rounder" "DecimalDesk$Rounder" "inexact" "Z", .lays "DecimalDesk$Rounder" "DecimalDesk$Rounder" "tiny" "Z", .classLink "DecimalDesk" 37 "DecimalDesk$ShortestFinder", .instantiable "DecimalDesk$ShortestFinder" 9, .methodLink "DecimalDesk" 39 y_Finder_init, .instanceMethod y_Finder_init, .code y_Finder_init prog_6_method_1_code 1 none, .methodLink "DecimalDesk$ShortestFinder" 1 objectInit, .classLink "DecimalDesk$ShortestFinder" 7 "DecimalDesk$Natural", .methodLink "DecimalDesk$ShortestFinder" 9 y_Natural_init, .fieldLink "DecimalDesk$ShortestFinder" 10 "DecimalDesk$ShortestFinder" "rest" "LDecimalDesk$Natural;", .fieldLink "DecimalDesk$ShortestFinder" 16 "DecimalDesk$ShortestFinder" "unit" "LDecimalDesk$Natural;", .fieldLink "DecimalDesk$ShortestFinder" 19 "DecimalDesk$ShortestFinder" "reachBelow" "LDecimalDesk$Natural;", .fieldLink "DecimalDesk$ShortestFinder" 22 "DecimalDesk$ShortestFinder" "reachAbove" "LDecimalDesk$Natural;", .fieldLink "DecimalDesk$ShortestFinder" 25 "DecimalDesk$ShortestFinder" "sum" "LDecimalDesk$Natural;", .fieldLink "DecimalDesk$ShortestFinder" 28 "DecimalDesk$ShortestFinder" "endsBelong" "Z", .fieldLink "DecimalDesk$ShortestFinder" 32 "DecimalDesk$ShortestFinder" "digits" "J", .fieldLink "DecimalDesk$ShortestFinder" 36 "DecimalDesk$ShortestFinder" "count" "I", .fieldLink "DecimalDesk$ShortestFinder" 40 "DecimalDesk$ShortestFinder" "power" "I", .laysFinal "DecimalDesk$ShortestFinder" "DecimalDesk$ShortestFinder" "rest" "LDecimalDesk$Natural;", .laysFinal "DecimalDesk$ShortestFinder" "DecimalDesk$ShortestFinder" "unit" "LDecimalDesk$Natural;", .laysFinal "DecimalDesk$ShortestFinder" "DecimalDesk$ShortestFinder" "reachBelow" "LDecimalDesk$Natural;", .laysFinal "DecimalDesk$ShortestFinder" "DecimalDesk$ShortestFinder" "reachAbove" "LDecimalDesk$Natural;", .laysFinal "DecimalDesk$ShortestFinder" "DecimalDesk$ShortestFinder" "sum" "LDecimalDesk$Natural;", .lays "DecimalDesk$ShortestFinder" "DecimalDesk$ShortestFinder" "endsBelong" "Z", .lays "DecimalDesk$ShortestFinder" "DecimalDesk$ShortestFinder" "digits" "J", .lays "DecimalDesk$ShortestFinder" "DecimalDesk$ShortestFinder" "count" "I", .lays "DecimalDesk$ShortestFinder" "DecimalDesk$ShortestFinder" "power" "I", .classLink "DecimalDesk" 44 "DecimalDesk$Natural", .methodLink "DecimalDesk" 46 y_Natural_init, .classLink "DecimalDesk" 51 "DecimalDesk$Told", .instantiable "DecimalDesk$Told" 3, .methodLink "DecimalDesk" 53 y_Told_init, .instanceMethod y_Told_init, .code y_Told_init prog_8_method_1_code 1 none, .methodLink "DecimalDesk$Told" 1 objectInit, .fieldLink "DecimalDesk$Told" 9 "DecimalDesk$Told" "letters" "[B", .fieldLink "DecimalDesk$Told" 13 "DecimalDesk$Told" "reversed" "[B", .fieldLink "DecimalDesk$Told" 16 "DecimalDesk$Told" "length" "I", .laysFinal "DecimalDesk$Told" "DecimalDesk$Told" "letters" "[B", .laysFinal "DecimalDesk$Told" "DecimalDesk$Told" "reversed" "[B", .lays "DecimalDesk$Told" "DecimalDesk$Told" "length" "I", .fieldLink "DecimalDesk" 10 "DecimalDesk" "layout" "LDecimalDesk$Layout;", .fieldLink "DecimalDesk" 19 "DecimalDesk" "tape" "LDecimalDesk$Tape;", .fieldLink "DecimalDesk" 26 "DecimalDesk" "decimal" "LDecimalDesk$Decimal;", .fieldLink "DecimalDesk" 33 "DecimalDesk" "rounder" "LDecimalDesk$Rounder;", .fieldLink "DecimalDesk" 40 "DecimalDesk" "finder" "LDecimalDesk$ShortestFinder;", .fieldLink "DecimalDesk" 47 "DecimalDesk" "digits" "LDecimalDesk$Natural;", .fieldLink "DecimalDesk" 54 "DecimalDesk" "told" "LDecimalDesk$Told;", .fieldLink "DecimalDesk" 58 "DecimalDesk" "mode" "I"]
theorem gT_2_good : gT_2.all goodWord = true := by decide +kernel
def gT_3 : List Cond := [.fieldLink "DecimalDesk" 62 "DecimalDesk" "flags" "I", .laysFinal "DecimalDesk" "DecimalDesk" "layout" "LDecimalDesk$Layout;", .laysFinal "DecimalDesk" "DecimalDesk" "tape" "LDecimalDesk$Tape;", .laysFinal "DecimalDesk" "DecimalDesk" "decimal" "LDecimalDesk$Decimal;", .laysFinal "DecimalDesk" "DecimalDesk" "rounder" "LDecimalDesk$Rounder;", .laysFinal "DecimalDesk" "DecimalDesk" "finder" "LDecimalDesk$ShortestFinder;", .laysFinal "DecimalDesk" "DecimalDesk" "digits" "LDecimalDesk$Natural;", .laysFinal "DecimalDesk" "DecimalDesk" "told" "LDecimalDesk$Told;", .lays "DecimalDesk" "DecimalDesk" "mode" "I", .lays "DecimalDesk" "DecimalDesk" "flags" "I", .methodLink "DecimalDeskLaw" 32 y_Desk_format, .instanceMethod y_Desk_format, .selects "DecimalDesk" y_Desk_format y_Desk_format, .code y_Desk_format prog_1_method_2_code 3 (some .boolean), .methodLink "DecimalDeskLaw" 37 y_Desk_mode, .instanceMethod y_Desk_mode, .selects "DecimalDesk" y_Desk_mode y_Desk_mode, .code y_Desk_mode prog_1_method_3_code 2 (some .boolean), .methodLink "DecimalDeskLaw" 44 y_Desk_type, .instanceMethod y_Desk_type, .selects "DecimalDesk" y_Desk_type y_Desk_type, .code y_Desk_type prog_1_method_4_code 4 (some .boolean), .methodLink "DecimalDesk" 71 y_Tape_put, .instanceMethod y_Tape_put, .selects "DecimalDesk$Tape" y_Tape_put y_Tape_put, .code y_Tape_put prog_7_method_2_code 6 (some .boolean), .methodLink "DecimalDesk$Tape" 17 y_Tape_byteOf, .static y_Tape_byteOf, .code y_Tape_byteOf prog_7_method_5_code 3 (some .int), .methodLink "DecimalDeskLaw" 55 y_Desk_flags, .instanceMethod y_Desk_flags, .selects "DecimalDesk" y_Desk_flags y_Desk_flags, .code y_Desk_flags prog_1_method_6_code 1 (some .int), .methodLink "DecimalDeskLaw" 60 y_Desk_clear, .instanceMethod y_Desk_clear, .selects "DecimalDesk" y_Desk_clear y_Desk_clear, .code y_Desk_clear prog_1_method_7_code 3 (some .int), .methodLink "DecimalDeskLaw" 75 y_Desk_next, .instanceMethod y_Desk_next, .selects "DecimalDesk" y_Desk_next y_Desk_next, .code y_Desk_next prog_1_method_11_code 5 (some .long), .methodLink "DecimalDesk" 116 y_Layout_holds, .instanceMethod y_Layout_holds, .selects "DecimalDesk$Layout" y_Layout_holds y_Layout_holds, .code y_Layout_holds prog_3_method_6_code 3 (some .boolean), .constantLong "DecimalDesk$Layout" 20 2, .methodLink "DecimalDesk$Layout" 22 y_Layout_signBit, .instanceMethod y_Layout_signBit, .selects "DecimalDesk$Layout" y_Layout_signBit y_Layout_signBit, .code y_Layout_signBit prog_3_method_4_code 1 (some .long), .methodLink "DecimalDesk" 144 y_Layout_sizeOf, .instanceMethod y_Layout_sizeOf, .selects "DecimalDesk$Layout" y_Layout_sizeOf y_Layout_sizeOf, .code y_Layout_sizeOf prog_3_method_8_code 3 (some .long), .methodLink "DecimalDesk" 97 y_Layout_infinity, .instanceMethod y_Layout_infinity, .selects "DecimalDesk$Layout" y_Layout_infinity y_Layout_infinity, .code y_Layout_infinity prog_3_method_5_code 1 (some .long), .constantLong "DecimalDesk" 148 (-1), .methodLink "DecimalDesk" 113 y_Layout_signBit]
theorem gT_3_good : gT_3.all goodWord = true := by decide +kernel
def gT_4 : List Cond := [.methodLink "DecimalDesk" 150 y_Layout_isNegative, .instanceMethod y_Layout_isNegative, .selects "DecimalDesk$Layout" y_Layout_isNegative y_Layout_isNegative, .code y_Layout_isNegative prog_3_method_7_code 3 (some .boolean), .methodLink "DecimalDeskLaw" 49 y_Law_read, .static y_Law_read, .classLink "DecimalDeskLaw" 13 "java/lang/IllegalArgumentException", .methodLink "DecimalDeskLaw" 7 y_Desk_read, .instanceMethod y_Desk_read, .selects "DecimalDesk" y_Desk_read y_Desk_read, .code y_Desk_read prog_1_method_5_code 5 (some .long), .methodLink "DecimalDesk" 75 y_Decimal_parse, .instanceMethod y_Decimal_parse, .selects "DecimalDesk$Decimal" y_Decimal_parse y_Decimal_parse, .code y_Decimal_parse prog_2_method_2_code 3 (some .boolean), .methodLink "DecimalDesk$Decimal" 24 y_Natural_set, .instanceMethod y_Natural_set, .selects "DecimalDesk$Natural" y_Natural_set y_Natural_set, .code y_Natural_set prog_4_method_2_code 4 none, .methodLink "DecimalDesk$Decimal" 28 y_Tape_at, .instanceMethod y_Tape_at, .selects "DecimalDesk$Tape" y_Tape_at y_Tape_at, .code y_Tape_at prog_7_method_4_code 2 (some .int), .methodLink "DecimalDesk$Decimal" 34 y_Decimal_takeDigits, .instanceMethod y_Decimal_takeDigits, .code y_Decimal_takeDigits prog_2_method_3_code 7 (some .int), .methodLink "DecimalDesk$Decimal" 42 y_Decimal_isDigit, .static y_Decimal_isDigit, .code y_Decimal_isDigit prog_2_method_5_code 1 (some .boolean), .methodLink "DecimalDesk$Decimal" 46 y_Natural_timesPlus, .instanceMethod y_Natural_timesPlus, .selects "DecimalDesk$Natural" y_Natural_timesPlus y_Natural_timesPlus, .code y_Natural_timesPlus prog_4_method_9_code 6 none, .constantLong "DecimalDesk$Natural" 13 4294967295, .methodLink "DecimalDesk$Decimal" 38 y_Decimal_takePower, .instanceMethod y_Decimal_takePower, .code y_Decimal_takePower prog_2_method_4_code 7 (some .boolean), .methodLink "DecimalDesk" 79 y_Tape_wipe, .instanceMethod y_Tape_wipe, .selects "DecimalDesk$Tape" y_Tape_wipe y_Tape_wipe, .code y_Tape_wipe prog_7_method_3_code 1 none, .classLink "DecimalDesk" 82 "java/lang/IllegalArgumentException", .instantiable "java/lang/IllegalArgumentException" 6, .selects "java/lang/IllegalArgumentException" y_Throwable_fillInStackTraceI y_Throwable_fillInStackTraceI, .selects "java/lang/IllegalArgumentException" y_Throwable_fillInStackTrace y_Throwable_fillInStackTrace, .lays "java/lang/IllegalArgumentException" "java/lang/Throwable" "cause" "Ljava/lang/Throwable;", .lays "java/lang/Throwable" "java/lang/Throwable" "cause" "Ljava/lang/Throwable;", .lays "java/lang/IllegalArgumentException" "java/lang/Throwable" "stackTrace" "[Ljava/lang/StackTraceElement;", .lays "java/lang/Throwable" "java/lang/Throwable" "stackTrace" "[Ljava/lang/StackTraceElement;", .lays "java/lang/IllegalArgumentException" "java/lang/Throwable" "suppressedExceptions" "Ljava/util/List;", .lays "java/lang/Throwable" "java/lang/Throwable" "suppressedExceptions" "Ljava/util/List;", .lays "java/lang/IllegalArgumentException" "java/lang/Throwable" "detailMessage" "Ljava/lang/String;", .lays "java/lang/Throwable" "java/lang/Throwable" "detailMessage" "Ljava/lang/String;", .lays "java/lang/IllegalArgumentException" "java/lang/Throwable" "backtrace" "Ljava/lang/Object;", .lays "java/lang/Throwable" "java/lang/Throwable" "backtrace" "Ljava/lang/Object;", .fieldLink "java/lang/Throwable" 198 "java/lang/Throwable" "backtrace" "Ljava/lang/Object;", .instanceMethod ⟨"java/lang/Throwable", "<init>", "()V"⟩, .code ⟨"java/lang/Throwable", "<init>", "()V"⟩ prog_18_method_1_code 1 none, .methodLink "java/lang/Throwable" 1 objectInit, .fieldLink "java/lang/Throwable" 13 "java/lang/Throwable" "UNASSIGNED_STACK" "[Ljava/lang/StackTraceElement;"]
theorem gT_4_good : gT_4.all goodWord = true := by decide +kernel
def gT_5 : List Cond := [.fieldLink "java/lang/Throwable" 20 "java/lang/Throwable" "SUPPRESSED_SENTINEL" "Ljava/util/List;", .methodLink "java/lang/Throwable" 27 y_Throwable_fillInStackTrace, .instanceMethod y_Throwable_fillInStackTrace, .selects "java/util/NoSuchElementException" y_Throwable_fillInStackTrace y_Throwable_fillInStackTrace, .methodLink "java/lang/Throwable" 202 y_Throwable_fillInStackTraceI, .instanceMethod y_Throwable_fillInStackTraceI, .instantiable "java/lang/Throwable" 6, .methodLink "DecimalDesk" 86 y_IllegalArg_init, .instanceMethod y_IllegalArg_init, .code y_IllegalArg_init prog_12_method_2_code 2 none, .methodLink "java/lang/IllegalArgumentException" 7 y_RuntimeEx_init, .instanceMethod y_RuntimeEx_init, .code y_RuntimeEx_init prog_16_method_2_code 2 none, .methodLink "java/lang/RuntimeException" 7 y_Exception_init, .instanceMethod y_Exception_init, .code y_Exception_init prog_11_method_2_code 2 none, .methodLink "java/lang/Exception" 7 y_Throwable_init, .instanceMethod y_Throwable_init, .code y_Throwable_init prog_18_method_2_code 2 none, .fieldLink "java/lang/Throwable" 198 "java/lang/Throwable" "backtrace" "Ljava/lang/Object;", .fieldLink "java/lang/Throwable" 31 "java/lang/Throwable" "detailMessage" "Ljava/lang/String;", .fieldLink "java/lang/Throwable" 7 "java/lang/Throwable" "cause" "Ljava/lang/Throwable;", .fieldLink "java/lang/Throwable" 17 "java/lang/Throwable" "stackTrace" "[Ljava/lang/StackTraceElement;", .fieldLink "java/lang/Throwable" 24 "java/lang/Throwable" "suppressedExceptions" "Ljava/util/List;", .lays "java/lang/IllegalArgumentException" "java/lang/Throwable" "depth" "I", .methodLink "DecimalDesk" 89 y_Rounder_round, .instanceMethod y_Rounder_round, .selects "DecimalDesk$Rounder" y_Rounder_round y_Rounder_round, .code y_Rounder_round prog_5_method_2_code 12 none, .methodLink "DecimalDesk$Rounder" 37 y_Natural_isZero, .instanceMethod y_Natural_isZero, .selects "DecimalDesk$Natural" y_Natural_isZero y_Natural_isZero, .code y_Natural_isZero prog_4_method_4_code 2 (some .boolean), .methodLink "DecimalDesk$Rounder" 41 y_Rounder_setFraction, .instanceMethod y_Rounder_setFraction, .code y_Rounder_setFraction prog_5_method_3_code 3 none, .methodLink "DecimalDesk$Rounder" 58 y_Math_max, .static y_Math_max, .code y_Math_max prog_15_method_65_code 2 (some .int), .methodLink "DecimalDesk$Rounder" 85 y_Math_min, .static y_Math_min, .code y_Math_min prog_15_method_69_code 2 (some .int), .methodLink "DecimalDesk$Rounder" 88 y_Natural_copy, .instanceMethod y_Natural_copy, .selects "DecimalDesk$Natural" y_Natural_copy y_Natural_copy, .code y_Natural_copy prog_4_method_3_code 3 none, .methodLink "DecimalDesk$Rounder" 92 y_Natural_set, .methodLink "DecimalDesk$Rounder" 96 y_Natural_timesPowerOfTen, .instanceMethod y_Natural_timesPowerOfTen, .selects "DecimalDesk$Natural" y_Natural_timesPowerOfTen y_Natural_timesPowerOfTen, .code y_Natural_timesPowerOfTen prog_4_method_10_code 2 none, .methodLink "DecimalDesk$Natural" 21 y_Natural_timesPowerOfFive, .instanceMethod y_Natural_timesPowerOfFive, .selects "DecimalDesk$Natural" y_Natural_timesPowerOfFive y_Natural_timesPowerOfFive, .code y_Natural_timesPowerOfFive prog_4_method_11_code 4 none, .constant "DecimalDesk$Natural" 28 1220703125, .methodLink "DecimalDesk$Natural" 29 y_Natural_timesPlus, .methodLink "DecimalDesk$Natural" 25 y_Natural_shiftLeft, .instanceMethod y_Natural_shiftLeft, .selects "DecimalDesk$Natural" y_Natural_shiftLeft y_Natural_shiftLeft]
theorem gT_5_good : gT_5.all goodWord = true := by decide +kernel
def gT_6 : List Cond := [.code y_Natural_shiftLeft prog_4_method_12_code 9 none, .methodLink "DecimalDesk$Natural" 33 y_Natural_limbAt, .instanceMethod y_Natural_limbAt, .code y_Natural_limbAt prog_4_method_14_code 2 (some .long), .methodLink "DecimalDesk$Rounder" 45 y_Rounder_normalise, .instanceMethod y_Rounder_normalise, .code y_Rounder_normalise prog_5_method_4_code 2 (some .int), .methodLink "DecimalDesk$Rounder" 100 y_Natural_bitLength, .instanceMethod y_Natural_bitLength, .selects "DecimalDesk$Natural" y_Natural_bitLength y_Natural_bitLength, .code y_Natural_bitLength prog_4_method_6_code 2 (some .int), .methodLink "DecimalDesk$Natural" 15 y_Integer_numberOfLeadingZeros, .static y_Integer_numberOfLeadingZeros, .code y_Integer_numberOfLeadingZeros prog_13_method_47_code 2 (some .int), .constant "java/lang/Integer" 264 65536, .methodLink "DecimalDesk$Rounder" 103 y_Natural_shiftLeft, .methodLink "DecimalDesk$Rounder" 68 y_Natural_against, .instanceMethod y_Natural_against, .selects "DecimalDesk$Natural" y_Natural_against y_Natural_against, .code y_Natural_against prog_4_method_5_code 3 (some .int), .methodLink "DecimalDesk$Rounder" 106 y_Natural_timesPlus, .methodLink "DecimalDesk$Rounder" 49 y_Layout_lowestPower, .instanceMethod y_Layout_lowestPower, .selects "DecimalDesk$Layout" y_Layout_lowestPower y_Layout_lowestPower, .code y_Layout_lowestPower prog_3_method_3_code 1 (some .int), .methodLink "DecimalDesk$Layout" 16 y_Layout_bias, .instanceMethod y_Layout_bias, .selects "DecimalDesk$Layout" y_Layout_bias y_Layout_bias, .code y_Layout_bias prog_3_method_2_code 1 (some .int), .methodLink "DecimalDesk$Rounder" 64 y_Rounder_takeBits, .instanceMethod y_Rounder_takeBits, .code y_Rounder_takeBits prog_5_method_5_code 5 (some .long), .methodLink "DecimalDesk$Rounder" 110 y_Natural_subtract, .instanceMethod y_Natural_subtract, .selects "DecimalDesk$Natural" y_Natural_subtract y_Natural_subtract, .code y_Natural_subtract prog_4_method_8_code 5 none, .methodLink "DecimalDesk$Rounder" 72 y_Layout_bias, .methodLink "DecimalDesk$Rounder" 78 y_Rounder_goesFarther, .static y_Rounder_goesFarther, .code y_Rounder_goesFarther prog_5_method_6_code 4 (some .boolean), .methodLink "DecimalDesk" 105 y_Desk_sizeByOverflow, .instanceMethod y_Desk_sizeByOverflow, .code y_Desk_sizeByOverflow prog_1_method_12_code 3 (some .long), .methodLink "DecimalDesk" 109 y_Desk_raiseFlags, .instanceMethod y_Desk_raiseFlags, .code y_Desk_raiseFlags prog_1_method_13_code 2 none, .methodLink "DecimalDeskLaw" 64 y_Law_shortest, .static y_Law_shortest, .methodLink "DecimalDeskLaw" 15 y_Desk_shortest, .instanceMethod y_Desk_shortest, .selects "DecimalDesk" y_Desk_shortest y_Desk_shortest, .code y_Desk_shortest prog_1_method_8_code 3 (some .int), .methodLink "DecimalDesk" 122 y_Desk_tellNotFinite, .instanceMethod y_Desk_tellNotFinite, .code y_Desk_tellNotFinite prog_1_method_14_code 5 (some .boolean), .methodLink "DecimalDesk" 159 y_Told_start, .instanceMethod y_Told_start, .selects "DecimalDesk$Told" y_Told_start y_Told_start, .code y_Told_start prog_8_method_3_code 2 none, .methodLink "DecimalDesk$Told" 20 y_Told_add]
theorem gT_6_good : gT_6.all goodWord = true := by decide +kernel
def gT_7 : List Cond := [.instanceMethod y_Told_add, .selects "DecimalDesk$Told" y_Told_add y_Told_add, .code y_Told_add prog_8_method_4_code 2 none, .methodLink "DecimalDesk" 162 y_Told_add, .methodLink "DecimalDesk" 125 y_Desk_tellShortest, .instanceMethod y_Desk_tellShortest, .code y_Desk_tellShortest prog_1_method_15_code 5 none, .methodLink "DecimalDesk" 166 y_Told_addPower, .instanceMethod y_Told_addPower, .selects "DecimalDesk$Told" y_Told_addPower y_Told_addPower, .code y_Told_addPower prog_8_method_5_code 4 none, .methodLink "DecimalDesk$Told" 24 y_Math_abs, .static y_Math_abs, .code y_Math_abs prog_15_method_59_code 1 (some .int), .methodLink "DecimalDesk$Told" 30 y_Told_addDigits, .instanceMethod y_Told_addDigits, .selects "DecimalDesk$Told" y_Told_addDigits y_Told_addDigits, .code y_Told_addDigits prog_8_method_6_code 8 none, .constantLong "DecimalDesk$Told" 34 48, .constantLong "DecimalDesk$Told" 36 10, .methodLink "DecimalDesk$Told" 38 y_Told_addReversed, .instanceMethod y_Told_addReversed, .code y_Told_addReversed prog_8_method_8_code 4 none, .methodLink "DecimalDesk$Told" 52 y_Math_min, .methodLink "DecimalDesk" 169 y_Finder_find, .instanceMethod y_Finder_find, .selects "DecimalDesk$ShortestFinder" y_Finder_find y_Finder_find, .code y_Finder_find prog_6_method_2_code 7 none, .methodLink "DecimalDesk$ShortestFinder" 43 y_Finder_setRange, .instanceMethod y_Finder_setRange, .code y_Finder_setRange prog_6_method_3_code 6 none, .methodLink "DecimalDesk$ShortestFinder" 63 y_Layout_fractionOf, .instanceMethod y_Layout_fractionOf, .selects "DecimalDesk$Layout" y_Layout_fractionOf y_Layout_fractionOf, .code y_Layout_fractionOf prog_3_method_9_code 3 (some .long), .methodLink "DecimalDesk$ShortestFinder" 69 y_Layout_exponentOf, .instanceMethod y_Layout_exponentOf, .selects "DecimalDesk$Layout" y_Layout_exponentOf y_Layout_exponentOf, .code y_Layout_exponentOf prog_3_method_10_code 3 (some .int), .methodLink "DecimalDesk$ShortestFinder" 73 y_Layout_significandOf, .instanceMethod y_Layout_significandOf, .selects "DecimalDesk$Layout" y_Layout_significandOf y_Layout_significandOf, .code y_Layout_significandOf prog_3_method_11_code 3 (some .long), .methodLink "DecimalDesk$Layout" 26 y_Layout_exponentOf, .methodLink "DecimalDesk$Layout" 30 y_Layout_fractionOf, .constantLong "DecimalDesk$ShortestFinder" 76 4, .methodLink "DecimalDesk$ShortestFinder" 78 y_Natural_set, .constantLong "DecimalDesk$ShortestFinder" 82 2, .methodLink "DecimalDesk$ShortestFinder" 84 y_Layout_powerOf, .instanceMethod y_Layout_powerOf, .selects "DecimalDesk$Layout" y_Layout_powerOf y_Layout_powerOf, .code y_Layout_powerOf prog_3_method_12_code 3 (some .int), .methodLink "DecimalDesk$Layout" 34 y_Layout_lowestPower, .methodLink "DecimalDesk$Layout" 37 y_Math_max, .methodLink "DecimalDesk$ShortestFinder" 87 y_Natural_shiftLeft, .methodLink "DecimalDesk$ShortestFinder" 47 y_Finder_setPower, .instanceMethod y_Finder_setPower, .code y_Finder_setPower prog_6_method_4_code 5 none, .methodLink "DecimalDesk$ShortestFinder" 91 y_Long_numberOfLeadingZeros, .static y_Long_numberOfLeadingZeros]
theorem gT_7_good : gT_7.all goodWord = true := by decide +kernel
def gT_8 : List Cond := [.code y_Long_numberOfLeadingZeros prog_14_method_48_code 3 (some .int), .methodLink "java/lang/Long" 308 y_Integer_numberOfLeadingZeros, .constant "DecimalDesk$ShortestFinder" 96 100000, .methodLink "DecimalDesk$ShortestFinder" 97 y_Math_floorDiv, .static y_Math_floorDiv, .code y_Math_floorDiv prog_15_method_47_code 3 (some .int), .methodLink "DecimalDesk$ShortestFinder" 103 y_Natural_timesPowerOfTen, .methodLink "DecimalDesk$ShortestFinder" 106 y_Natural_copy, .methodLink "DecimalDesk$ShortestFinder" 110 y_Natural_timesPlus, .methodLink "DecimalDesk$ShortestFinder" 114 y_Natural_against, .methodLink "DecimalDesk$ShortestFinder" 50 y_Finder_timesTen, .instanceMethod y_Finder_timesTen, .code y_Finder_timesTen prog_6_method_5_code 1 none, .constantLong "DecimalDesk$ShortestFinder" 53 10, .methodLink "DecimalDesk$ShortestFinder" 55 y_Finder_takeDigit, .instanceMethod y_Finder_takeDigit, .code y_Finder_takeDigit prog_6_method_6_code 2 (some .int), .methodLink "DecimalDesk$ShortestFinder" 118 y_Natural_subtract, .methodLink "DecimalDesk$ShortestFinder" 59 y_Finder_choose, .instanceMethod y_Finder_choose, .code y_Finder_choose prog_6_method_7_code 4 (some .boolean), .methodLink "DecimalDesk$ShortestFinder" 121 y_Finder_isWithin, .instanceMethod y_Finder_isWithin, .code y_Finder_isWithin prog_6_method_8_code 2 (some .boolean), .methodLink "DecimalDesk$ShortestFinder" 125 y_Natural_add, .instanceMethod y_Natural_add, .selects "DecimalDesk$Natural" y_Natural_add y_Natural_add, .code y_Natural_add prog_4_method_7_code 5 none, .methodLink "DecimalDesk" 178 y_Told_addDigits, .methodLink "DecimalDeskLaw" 68 y_Law_exact, .static y_Law_exact, .methodLink "DecimalDeskLaw" 19 y_Desk_exact, .instanceMethod y_Desk_exact, .selects "DecimalDesk" y_Desk_exact y_Desk_exact, .code y_Desk_exact prog_1_method_9_code 3 (some .int), .methodLink "DecimalDesk" 132 y_Desk_tellAllDigits, .instanceMethod y_Desk_tellAllDigits, .code y_Desk_tellAllDigits prog_1_method_16_code 8 none, .methodLink "DecimalDesk" 185 y_Layout_significandOf, .methodLink "DecimalDesk" 188 y_Layout_powerOf, .methodLink "DecimalDesk" 192 y_Natural_set, .methodLink "DecimalDesk" 195 y_Natural_shiftLeft, .methodLink "DecimalDesk" 198 y_Told_addNatural, .instanceMethod y_Told_addNatural, .selects "DecimalDesk$Told" y_Told_addNatural y_Told_addNatural, .code y_Told_addNatural prog_8_method_7_code 6 none, .methodLink "DecimalDesk$Told" 42 y_Natural_isZero, .constant "DecimalDesk$Told" 48 1000000000, .methodLink "DecimalDesk$Told" 49 y_Natural_divide, .instanceMethod y_Natural_divide, .selects "DecimalDesk$Natural" y_Natural_divide y_Natural_divide, .code y_Natural_divide prog_4_method_13_code 5 (some .int), .methodLink "DecimalDesk" 202 y_Natural_timesPowerOfFive, .methodLink "DecimalDeskLaw" 71 y_Law_letter, .static y_Law_letter, .classLink "DecimalDeskLaw" 26 "java/util/NoSuchElementException", .methodLink "DecimalDeskLaw" 22 y_Desk_letter, .instanceMethod y_Desk_letter, .selects "DecimalDesk" y_Desk_letter y_Desk_letter, .code y_Desk_letter prog_1_method_10_code 2 (some .int)]
theorem gT_8_good : gT_8.all goodWord = true := by decide +kernel
def gT_9 : List Cond := [.classLink "DecimalDesk" 135 "java/util/NoSuchElementException", .instantiable "java/util/NoSuchElementException" 6, .selects "java/util/NoSuchElementException" y_Throwable_fillInStackTraceI y_Throwable_fillInStackTraceI, .lays "java/util/NoSuchElementException" "java/lang/Throwable" "cause" "Ljava/lang/Throwable;", .lays "java/util/NoSuchElementException" "java/lang/Throwable" "stackTrace" "[Ljava/lang/StackTraceElement;", .lays "java/util/NoSuchElementException" "java/lang/Throwable" "suppressedExceptions" "Ljava/util/List;", .lays "java/util/NoSuchElementException" "java/lang/Throwable" "detailMessage" "Ljava/lang/String;", .lays "java/util/NoSuchElementException" "java/lang/Throwable" "backtrace" "Ljava/lang/Object;", .methodLink "DecimalDesk" 139 y_NoSuchEl_init, .instanceMethod y_NoSuchEl_init, .code y_NoSuchEl_init prog_19_method_4_code 2 none, .methodLink "java/util/NoSuchElementException" 13 y_RuntimeEx_init, .lays "java/util/NoSuchElementException" "java/lang/Throwable" "depth" "I", .methodLink "DecimalDesk" 140 y_Told_at, .instanceMethod y_Told_at, .selects "DecimalDesk$Told" y_Told_at y_Told_at, .code y_Told_at prog_8_method_2_code 2 (some .int), .classLink "DecimalDeskLaw" 29 "DecimalDeskModel", .instantiable "DecimalDeskModel" 26, .methodLink "DecimalDeskLaw" 31 y_Model_init, .instanceMethod y_Model_init, .code y_Model_init prog_10_method_1_code 1 none, .methodLink "DecimalDeskModel" 1 objectInit, .fieldLink "DecimalDeskModel" 41 "DecimalDeskModel" "thrown" "I", .fieldLink "DecimalDeskModel" 7 "DecimalDeskModel" "widthE" "I", .fieldLink "DecimalDeskModel" 13 "DecimalDeskModel" "widthM" "I", .fieldLink "DecimalDeskModel" 44 "DecimalDeskModel" "way" "I", .fieldLink "DecimalDeskModel" 52 "DecimalDeskModel" "raised" "I", .fieldLink "DecimalDeskModel" 16 "DecimalDeskModel" "tape" "[I", .fieldLink "DecimalDeskModel" 47 "DecimalDeskModel" "taped" "I", .fieldLink "DecimalDeskModel" 20 "DecimalDeskModel" "told" "[I", .fieldLink "DecimalDeskModel" 149 "DecimalDeskModel" "toldLong" "I", .fieldLink "DecimalDeskModel" 23 "DecimalDeskModel" "row" "[I", .fieldLink "DecimalDeskModel" 26 "DecimalDeskModel" "first" "I", .fieldLink "DecimalDeskModel" 29 "DecimalDeskModel" "last" "I", .fieldLink "DecimalDeskModel" 32 "DecimalDeskModel" "whole" "[I", .fieldLink "DecimalDeskModel" 170 "DecimalDeskModel" "wholeFirst" "I", .fieldLink "DecimalDeskModel" 173 "DecimalDeskModel" "wholeLast" "I", .fieldLink "DecimalDeskModel" 81 "DecimalDeskModel" "lost" "Z", .fieldLink "DecimalDeskModel" 88 "DecimalDeskModel" "over" "Z", .fieldLink "DecimalDeskModel" 68 "DecimalDeskModel" "under" "Z", .fieldLink "DecimalDeskModel" 95 "DecimalDeskModel" "at" "I", .fieldLink "DecimalDeskModel" 112 "DecimalDeskModel" "minus" "Z", .fieldLink "DecimalDeskModel" 106 "DecimalDeskModel" "digits" "I", .fieldLink "DecimalDeskModel" 35 "DecimalDeskModel" "digit" "[I", .fieldLink "DecimalDeskModel" 118 "DecimalDeskModel" "ahead0" "I", .fieldLink "DecimalDeskModel" 109 "DecimalDeskModel" "exponent" "I", .fieldLink "DecimalDeskModel" 38 "DecimalDeskModel" "tried" "[I", .fieldLink "DecimalDeskModel" 176 "DecimalDeskModel" "ten" "I", .lays "DecimalDeskModel" "DecimalDeskModel" "thrown" "I", .lays "DecimalDeskModel" "DecimalDeskModel" "widthE" "I", .lays "DecimalDeskModel" "DecimalDeskModel" "widthM" "I", .lays "DecimalDeskModel" "DecimalDeskModel" "way" "I", .lays "DecimalDeskModel" "DecimalDeskModel" "raised" "I", .laysFinal "DecimalDeskModel" "DecimalDeskModel" "tape" "[I", .lays "DecimalDeskModel" "DecimalDeskModel" "taped" "I", .laysFinal "DecimalDeskModel" "DecimalDeskModel" "told" "[I", .lays "DecimalDeskModel" "DecimalDeskModel" "toldLong" "I", .laysFinal "DecimalDeskModel" "DecimalDeskModel" "row" "[I", .lays "DecimalDeskModel" "DecimalDeskModel" "first" "I"]
theorem gT_9_good : gT_9.all goodWord = true := by decide +kernel
def gT_10 : List Cond := [.lays "DecimalDeskModel" "DecimalDeskModel" "last" "I", .laysFinal "DecimalDeskModel" "DecimalDeskModel" "whole" "[I", .lays "DecimalDeskModel" "DecimalDeskModel" "wholeFirst" "I", .lays "DecimalDeskModel" "DecimalDeskModel" "wholeLast" "I", .lays "DecimalDeskModel" "DecimalDeskModel" "lost" "Z", .lays "DecimalDeskModel" "DecimalDeskModel" "over" "Z", .lays "DecimalDeskModel" "DecimalDeskModel" "under" "Z", .lays "DecimalDeskModel" "DecimalDeskModel" "at" "I", .lays "DecimalDeskModel" "DecimalDeskModel" "minus" "Z", .lays "DecimalDeskModel" "DecimalDeskModel" "digits" "I", .laysFinal "DecimalDeskModel" "DecimalDeskModel" "digit" "[I", .lays "DecimalDeskModel" "DecimalDeskModel" "ahead0" "I", .lays "DecimalDeskModel" "DecimalDeskModel" "exponent" "I", .laysFinal "DecimalDeskModel" "DecimalDeskModel" "tried" "[I", .lays "DecimalDeskModel" "DecimalDeskModel" "ten" "I", .methodLink "DecimalDeskLaw" 36 y_Model_format, .instanceMethod y_Model_format, .selects "DecimalDeskModel" y_Model_format y_Model_format, .code y_Model_format prog_10_method_4_code 3 (some .boolean), .methodLink "DecimalDeskLaw" 41 y_Model_mode, .instanceMethod y_Model_mode, .selects "DecimalDeskModel" y_Model_mode y_Model_mode, .code y_Model_mode prog_10_method_5_code 2 (some .boolean), .methodLink "DecimalDeskLaw" 48 y_Model_type, .instanceMethod y_Model_type, .selects "DecimalDeskModel" y_Model_type y_Model_type, .code y_Model_type prog_10_method_6_code 6 (some .boolean), .constantLong "DecimalDeskModel" 50 255, .methodLink "DecimalDeskLaw" 59 y_Model_flags, .instanceMethod y_Model_flags, .selects "DecimalDeskModel" y_Model_flags y_Model_flags, .code y_Model_flags prog_10_method_7_code 1 (some .int), .methodLink "DecimalDeskLaw" 63 y_Model_clear, .instanceMethod y_Model_clear, .selects "DecimalDeskModel" y_Model_clear y_Model_clear, .code y_Model_clear prog_10_method_8_code 3 (some .int), .methodLink "DecimalDeskLaw" 54 y_Model_read, .instanceMethod y_Model_read, .selects "DecimalDeskModel" y_Model_read y_Model_read, .code y_Model_read prog_10_method_25_code 4 (some .long), .methodLink "DecimalDeskModel" 132 y_Model_isDecimal, .instanceMethod y_Model_isDecimal, .code y_Model_isDecimal prog_10_method_23_code 3 (some .boolean), .methodLink "DecimalDeskModel" 98 y_Model_see, .instanceMethod y_Model_see, .code y_Model_see prog_10_method_20_code 2 (some .int), .methodLink "DecimalDeskModel" 115 y_Model_run, .instanceMethod y_Model_run, .code y_Model_run prog_10_method_22_code 2 (some .int), .methodLink "DecimalDeskModel" 102 y_Model_isDigit, .static y_Model_isDigit, .code y_Model_isDigit prog_10_method_21_code 1 (some .boolean), .methodLink "DecimalDeskModel" 136 y_Model_raise, .instanceMethod y_Model_raise, .code y_Model_raise prog_10_method_3_code 2 (some .int), .methodLink "DecimalDeskModel" 139 y_Model_valued, .instanceMethod y_Model_valued, .code y_Model_valued prog_10_method_24_code 5 (some .long), .methodLink "DecimalDeskModel" 77 y_Model_packed, .instanceMethod y_Model_packed]
theorem gT_10_good : gT_10.all goodWord = true := by decide +kernel
def gT_11 : List Cond := [.code y_Model_packed prog_10_method_19_code 14 (some .long), .methodLink "DecimalDeskModel" 84 y_Model_goesUp, .instanceMethod y_Model_goesUp, .code y_Model_goesUp prog_10_method_17_code 6 (some .boolean), .constantLong "DecimalDeskModel" 72 2, .methodLink "DecimalDeskModel" 55 y_Model_bias, .instanceMethod y_Model_bias, .code y_Model_bias prog_10_method_15_code 1 (some .int), .methodLink "DecimalDeskModel" 91 y_Model_beyond, .instanceMethod y_Model_beyond, .code y_Model_beyond prog_10_method_16_code 1 (some .long), .methodLink "DecimalDeskModel" 121 y_Model_wipe, .instanceMethod y_Model_wipe, .code y_Model_wipe prog_10_method_9_code 2 none, .methodLink "DecimalDeskModel" 124 y_Model_dig, .instanceMethod y_Model_dig, .code y_Model_dig prog_10_method_10_code 3 none, .methodLink "DecimalDeskModel" 128 y_Model_rounded, .instanceMethod y_Model_rounded, .code y_Model_rounded prog_10_method_18_code 8 (some .long), .methodLink "DecimalDeskModel" 59 y_Model_ahead, .instanceMethod y_Model_ahead, .code y_Model_ahead prog_10_method_13_code 1 (some .int), .methodLink "DecimalDeskModel" 62 y_Model_half, .instanceMethod y_Model_half, .code y_Model_half prog_10_method_12_code 4 none, .methodLink "DecimalDeskModel" 65 y_Model_twice, .instanceMethod y_Model_twice, .code y_Model_twice prog_10_method_11_code 4 none, .methodLink "DecimalDeskModel" 74 y_Model_behind, .instanceMethod y_Model_behind, .code y_Model_behind prog_10_method_14_code 3 (some .int), .methodLink "DecimalDeskLaw" 70 y_Model_exact, .instanceMethod y_Model_exact, .selects "DecimalDeskModel" y_Model_exact y_Model_exact, .code y_Model_exact prog_10_method_32_code 4 (some .int), .methodLink "DecimalDeskModel" 160 y_Model_isPattern, .instanceMethod y_Model_isPattern, .code y_Model_isPattern prog_10_method_26_code 3 (some .boolean), .methodLink "DecimalDeskModel" 163 y_Model_isStrange, .instanceMethod y_Model_isStrange, .code y_Model_isStrange prog_10_method_31_code 5 (some .boolean), .methodLink "DecimalDeskModel" 143 y_Model_sizeOf, .instanceMethod y_Model_sizeOf, .code y_Model_sizeOf prog_10_method_27_code 3 (some .long), .methodLink "DecimalDeskModel" 152 y_Model_isBelow, .instanceMethod y_Model_isBelow, .code y_Model_isBelow prog_10_method_28_code 3 (some .boolean), .methodLink "DecimalDeskModel" 156 y_Model_say, .instanceMethod y_Model_say, .code y_Model_say prog_10_method_30_code 2 none, .methodLink "DecimalDeskModel" 166 y_Model_spread, .instanceMethod y_Model_spread, .code y_Model_spread prog_10_method_29_code 10 none, .constantLong "DecimalDeskModel" 147 10, .methodLink "DecimalDeskLaw" 67 y_Model_shortest, .instanceMethod y_Model_shortest, .selects "DecimalDeskModel" y_Model_shortest y_Model_shortest, .code y_Model_shortest prog_10_method_38_code 8 (some .int), .methodLink "DecimalDeskModel" 179 y_Model_keepWhole]
theorem gT_11_good : gT_11.all goodWord = true := by decide +kernel
def gT_12 : List Cond := [.instanceMethod y_Model_keepWhole, .code y_Model_keepWhole prog_10_method_33_code 2 none, .methodLink "DecimalDeskModel" 182 y_Model_cut, .instanceMethod y_Model_cut, .code y_Model_cut prog_10_method_34_code 4 none, .methodLink "DecimalDeskModel" 186 y_Model_comesBack, .instanceMethod y_Model_comesBack, .code y_Model_comesBack prog_10_method_35_code 5 (some .boolean), .methodLink "DecimalDeskModel" 190 y_Model_beside, .instanceMethod y_Model_beside, .code y_Model_beside prog_10_method_36_code 4 (some .int), .methodLink "DecimalDeskModel" 193 y_Model_sayTried, .instanceMethod y_Model_sayTried, .code y_Model_sayTried prog_10_method_37_code 4 none, .methodLink "DecimalDeskLaw" 74 y_Model_letter, .instanceMethod y_Model_letter, .selects "DecimalDeskModel" y_Model_letter y_Model_letter, .code y_Model_letter prog_10_method_39_code 2 (some .int), .methodLink "DecimalDeskLaw" 79 y_Model_next, .instanceMethod y_Model_next, .selects "DecimalDeskModel" y_Model_next y_Model_next, .code y_Model_next prog_10_method_40_code 10 (some .long), .constantLong "DecimalDeskModel" 196 (-1), .constantLong "DecimalDeskLaw" 42 4294967295, .arrayClass .long]
theorem gT_12_good : gT_12.all goodWord = true := by decide +kernel
def gT : List Cond := gT_0 ++ (gT_1 ++ (gT_2 ++ (gT_3 ++ (gT_4 ++ (gT_5 ++ (gT_6 ++ (gT_7 ++ (gT_8 ++ (gT_9 ++ (gT_10 ++ (gT_11 ++ (gT_12))))))))))))
theorem gT_good : ∀ w ∈ gT, goodWord w = true := by
  intro w h
  rcases List.mem_append.mp h with h | h
  · exact List.all_eq_true.mp gT_0_good w h
  rcases List.mem_append.mp h with h | h
  · exact List.all_eq_true.mp gT_1_good w h
  rcases List.mem_append.mp h with h | h
  · exact List.all_eq_true.mp gT_2_good w h
  rcases List.mem_append.mp h with h | h
  · exact List.all_eq_true.mp gT_3_good w h
  rcases List.mem_append.mp h with h | h
  · exact List.all_eq_true.mp gT_4_good w h
  rcases List.mem_append.mp h with h | h
  · exact List.all_eq_true.mp gT_5_good w h
  rcases List.mem_append.mp h with h | h
  · exact List.all_eq_true.mp gT_6_good w h
  rcases List.mem_append.mp h with h | h
  · exact List.all_eq_true.mp gT_7_good w h
  rcases List.mem_append.mp h with h | h
  · exact List.all_eq_true.mp gT_8_good w h
  rcases List.mem_append.mp h with h | h
  · exact List.all_eq_true.mp gT_9_good w h
  rcases List.mem_append.mp h with h | h
  · exact List.all_eq_true.mp gT_10_good w h
  rcases List.mem_append.mp h with h | h
  · exact List.all_eq_true.mp gT_11_good w h
  exact List.all_eq_true.mp gT_12_good w h
theorem m_0 : Cond.selects "DecimalDesk$Decimal" y_Decimal_takeDigits y_Decimal_takeDigits ∈ gT := List.mem_append_left _ (List.mem_of_getElem? (l := gT_0) (i := 0) rfl)
theorem m_1 : Cond.selects "DecimalDesk$Decimal" y_Decimal_takePower y_Decimal_takePower ∈ gT := List.mem_append_left _ (List.mem_of_getElem? (l := gT_0) (i := 1) rfl)
theorem m_2 : Cond.selects "java/lang/Throwable" y_Throwable_fillInStackTraceI y_Throwable_fillInStackTraceI ∈ gT := List.mem_append_left _ (List.mem_of_getElem? (l := gT_0) (i := 2) rfl)
theorem m_3 : Cond.selects "DecimalDesk$Rounder" y_Rounder_setFraction y_Rounder_setFraction ∈ gT := List.mem_append_left _ (List.mem_of_getElem? (l := gT_0) (i := 3) rfl)
theorem m_4 : Cond.selects "DecimalDesk$Natural" y_Natural_limbAt y_Natural_limbAt ∈ gT := List.mem_append_left _ (List.mem_of_getElem? (l := gT_0) (i := 4) rfl)
theorem m_5 : Cond.selects "DecimalDesk$Rounder" y_Rounder_normalise y_Rounder_normalise ∈ gT := List.mem_append_left _ (List.mem_of_getElem? (l := gT_0) (i := 5) rfl)
theorem m_6 : Cond.selects "DecimalDesk$Rounder" y_Rounder_takeBits y_Rounder_takeBits ∈ gT := List.mem_append_left _ (List.mem_of_getElem? (l := gT_0) (i := 6) rfl)
theorem m_7 : Cond.selects "DecimalDesk" y_Desk_sizeByOverflow y_Desk_sizeByOverflow ∈ gT := List.mem_append_left _ (List.mem_of_getElem? (l := gT_0) (i := 7) rfl)
theorem m_8 : Cond.selects "DecimalDesk" y_Desk_raiseFlags y_Desk_raiseFlags ∈ gT := List.mem_append_left _ (List.mem_of_getElem? (l := gT_0) (i := 8) rfl)
theorem m_9 : Cond.selects "DecimalDesk" y_Desk_tellNotFinite y_Desk_tellNotFinite ∈ gT := List.mem_append_left _ (List.mem_of_getElem? (l := gT_0) (i := 9) rfl)
theorem m_10 : Cond.selects "DecimalDesk" y_Desk_tellShortest y_Desk_tellShortest ∈ gT := List.mem_append_left _ (List.mem_of_getElem? (l := gT_0) (i := 10) rfl)
theorem m_11 : Cond.selects "DecimalDesk$Told" y_Told_addReversed y_Told_addReversed ∈ gT := List.mem_append_left _ (List.mem_of_getElem? (l := gT_0) (i := 11) rfl)
theorem m_12 : Cond.selects "DecimalDesk$ShortestFinder" y_Finder_setRange y_Finder_setRange ∈ gT := List.mem_append_left _ (List.mem_of_getElem? (l := gT_0) (i := 12) rfl)
theorem m_13 : Cond.selects "DecimalDesk$ShortestFinder" y_Finder_setPower y_Finder_setPower ∈ gT := List.mem_append_left _ (List.mem_of_getElem? (l := gT_0) (i := 13) rfl)
theorem m_14 : Cond.selects "DecimalDesk$ShortestFinder" y_Finder_timesTen y_Finder_timesTen ∈ gT := List.mem_append_left _ (List.mem_of_getElem? (l := gT_0) (i := 14) rfl)
theorem m_15 : Cond.selects "DecimalDesk$ShortestFinder" y_Finder_takeDigit y_Finder_takeDigit ∈ gT := List.mem_append_left _ (List.mem_of_getElem? (l := gT_0) (i := 15) rfl)
theorem m_16 : Cond.selects "DecimalDesk$ShortestFinder" y_Finder_choose y_Finder_choose ∈ gT := List.mem_append_left _ (List.mem_of_getElem? (l := gT_0) (i := 16) rfl)
theorem m_17 : Cond.selects "DecimalDesk$ShortestFinder" y_Finder_isWithin y_Finder_isWithin ∈ gT := List.mem_append_left _ (List.mem_of_getElem? (l := gT_0) (i := 17) rfl)
theorem m_18 : Cond.selects "DecimalDesk" y_Desk_tellAllDigits y_Desk_tellAllDigits ∈ gT := List.mem_append_left _ (List.mem_of_getElem? (l := gT_0) (i := 18) rfl)
theorem m_19 : Cond.selects "DecimalDeskModel" y_Model_isDecimal y_Model_isDecimal ∈ gT := List.mem_append_left _ (List.mem_of_getElem? (l := gT_0) (i := 19) rfl)
theorem m_20 : Cond.selects "DecimalDeskModel" y_Model_see y_Model_see ∈ gT := List.mem_append_left _ (List.mem_of_getElem? (l := gT_0) (i := 20) rfl)
theorem m_21 : Cond.selects "DecimalDeskModel" y_Model_run y_Model_run ∈ gT := List.mem_append_left _ (List.mem_of_getElem? (l := gT_0) (i := 21) rfl)
theorem m_22 : Cond.selects "DecimalDeskModel" y_Model_raise y_Model_raise ∈ gT := List.mem_append_left _ (List.mem_of_getElem? (l := gT_0) (i := 22) rfl)
theorem m_23 : Cond.selects "DecimalDeskModel" y_Model_valued y_Model_valued ∈ gT := List.mem_append_left _ (List.mem_of_getElem? (l := gT_0) (i := 23) rfl)
theorem m_24 : Cond.selects "DecimalDeskModel" y_Model_packed y_Model_packed ∈ gT := List.mem_append_left _ (List.mem_of_getElem? (l := gT_0) (i := 24) rfl)
theorem m_25 : Cond.selects "DecimalDeskModel" y_Model_goesUp y_Model_goesUp ∈ gT := List.mem_append_left _ (List.mem_of_getElem? (l := gT_0) (i := 25) rfl)
theorem m_26 : Cond.selects "DecimalDeskModel" y_Model_bias y_Model_bias ∈ gT := List.mem_append_left _ (List.mem_of_getElem? (l := gT_0) (i := 26) rfl)
theorem m_27 : Cond.selects "DecimalDeskModel" y_Model_beyond y_Model_beyond ∈ gT := List.mem_append_left _ (List.mem_of_getElem? (l := gT_0) (i := 27) rfl)
theorem m_28 : Cond.selects "DecimalDeskModel" y_Model_wipe y_Model_wipe ∈ gT := List.mem_append_left _ (List.mem_of_getElem? (l := gT_0) (i := 28) rfl)
theorem m_29 : Cond.selects "DecimalDeskModel" y_Model_dig y_Model_dig ∈ gT := List.mem_append_left _ (List.mem_of_getElem? (l := gT_0) (i := 29) rfl)
theorem m_30 : Cond.selects "DecimalDeskModel" y_Model_rounded y_Model_rounded ∈ gT := List.mem_append_left _ (List.mem_of_getElem? (l := gT_0) (i := 30) rfl)
theorem m_31 : Cond.selects "DecimalDeskModel" y_Model_ahead y_Model_ahead ∈ gT := List.mem_append_left _ (List.mem_of_getElem? (l := gT_0) (i := 31) rfl)
theorem m_32 : Cond.selects "DecimalDeskModel" y_Model_half y_Model_half ∈ gT := List.mem_append_left _ (List.mem_of_getElem? (l := gT_0) (i := 32) rfl)
theorem m_33 : Cond.selects "DecimalDeskModel" y_Model_twice y_Model_twice ∈ gT := List.mem_append_left _ (List.mem_of_getElem? (l := gT_0) (i := 33) rfl)
theorem m_34 : Cond.selects "DecimalDeskModel" y_Model_behind y_Model_behind ∈ gT := List.mem_append_left _ (List.mem_of_getElem? (l := gT_0) (i := 34) rfl)
theorem m_35 : Cond.selects "DecimalDeskModel" y_Model_isPattern y_Model_isPattern ∈ gT := List.mem_append_left _ (List.mem_of_getElem? (l := gT_0) (i := 35) rfl)
theorem m_36 : Cond.selects "DecimalDeskModel" y_Model_isStrange y_Model_isStrange ∈ gT := List.mem_append_left _ (List.mem_of_getElem? (l := gT_0) (i := 36) rfl)
theorem m_37 : Cond.selects "DecimalDeskModel" y_Model_sizeOf y_Model_sizeOf ∈ gT := List.mem_append_left _ (List.mem_of_getElem? (l := gT_0) (i := 37) rfl)
theorem m_38 : Cond.selects "DecimalDeskModel" y_Model_isBelow y_Model_isBelow ∈ gT := List.mem_append_left _ (List.mem_of_getElem? (l := gT_0) (i := 38) rfl)
theorem m_39 : Cond.selects "DecimalDeskModel" y_Model_say y_Model_say ∈ gT := List.mem_append_left _ (List.mem_of_getElem? (l := gT_0) (i := 39) rfl)
theorem m_40 : Cond.selects "DecimalDeskModel" y_Model_spread y_Model_spread ∈ gT := List.mem_append_left _ (List.mem_of_getElem? (l := gT_0) (i := 40) rfl)
theorem m_41 : Cond.selects "DecimalDeskModel" y_Model_keepWhole y_Model_keepWhole ∈ gT := List.mem_append_left _ (List.mem_of_getElem? (l := gT_0) (i := 41) rfl)
theorem m_42 : Cond.selects "DecimalDeskModel" y_Model_cut y_Model_cut ∈ gT := List.mem_append_left _ (List.mem_of_getElem? (l := gT_0) (i := 42) rfl)
theorem m_43 : Cond.selects "DecimalDeskModel" y_Model_comesBack y_Model_comesBack ∈ gT := List.mem_append_left _ (List.mem_of_getElem? (l := gT_0) (i := 43) rfl)
theorem m_44 : Cond.selects "DecimalDeskModel" y_Model_beside y_Model_beside ∈ gT := List.mem_append_left _ (List.mem_of_getElem? (l := gT_0) (i := 44) rfl)
theorem m_45 : Cond.selects "DecimalDeskModel" y_Model_sayTried y_Model_sayTried ∈ gT := List.mem_append_left _ (List.mem_of_getElem? (l := gT_0) (i := 45) rfl)
theorem m_46 : Cond.initialized "DecimalDeskLaw" ∈ gT := List.mem_append_left _ (List.mem_of_getElem? (l := gT_0) (i := 46) rfl)
theorem m_47 : Cond.initialized "DecimalDesk" ∈ gT := List.mem_append_left _ (List.mem_of_getElem? (l := gT_0) (i := 47) rfl)
theorem m_48 : Cond.initialized "DecimalDesk$Layout" ∈ gT := List.mem_append_left _ (List.mem_of_getElem? (l := gT_0) (i := 48) rfl)
theorem m_49 : Cond.initialized "DecimalDesk$Tape" ∈ gT := List.mem_append_left _ (List.mem_of_getElem? (l := gT_0) (i := 49) rfl)
theorem m_50 : Cond.initialized "DecimalDesk$Decimal" ∈ gT := List.mem_append_left _ (List.mem_of_getElem? (l := gT_0) (i := 50) rfl)
theorem m_51 : Cond.initialized "DecimalDesk$Natural" ∈ gT := List.mem_append_left _ (List.mem_of_getElem? (l := gT_0) (i := 51) rfl)
theorem m_52 : Cond.initialized "DecimalDesk$Rounder" ∈ gT := List.mem_append_left _ (List.mem_of_getElem? (l := gT_0) (i := 52) rfl)
theorem m_53 : Cond.initialized "DecimalDesk$ShortestFinder" ∈ gT := List.mem_append_left _ (List.mem_of_getElem? (l := gT_0) (i := 53) rfl)
theorem m_54 : Cond.initialized "DecimalDesk$Told" ∈ gT := List.mem_append_left _ (List.mem_of_getElem? (l := gT_0) (i := 54) rfl)
theorem m_55 : Cond.initialized "DecimalDeskModel" ∈ gT := List.mem_append_left _ (List.mem_of_getElem? (l := gT_0) (i := 55) rfl)
theorem m_56 : Cond.initialized "java/lang/Throwable" ∈ gT := List.mem_append_left _ (List.mem_of_getElem? (l := gT_0) (i := 56) rfl)
theorem m_57 : Cond.initialized "java/lang/Exception" ∈ gT := List.mem_append_left _ (List.mem_of_getElem? (l := gT_0) (i := 57) rfl)
theorem m_58 : Cond.initialized "java/lang/RuntimeException" ∈ gT := List.mem_append_left _ (List.mem_of_getElem? (l := gT_0) (i := 58) rfl)
theorem m_59 : Cond.initialized "java/lang/IllegalArgumentException" ∈ gT := List.mem_append_left _ (List.mem_of_getElem? (l := gT_0) (i := 59) rfl)
theorem m_60 : Cond.initialized "java/lang/Math" ∈ gT := List.mem_append_right _ (List.mem_append_left _ (List.mem_of_getElem? (l := gT_1) (i := 0) rfl))
theorem m_61 : Cond.initialized "java/lang/Integer" ∈ gT := List.mem_append_right _ (List.mem_append_left _ (List.mem_of_getElem? (l := gT_1) (i := 1) rfl))
theorem m_62 : Cond.initialized "java/lang/Long" ∈ gT := List.mem_append_right _ (List.mem_append_left _ (List.mem_of_getElem? (l := gT_1) (i := 2) rfl))
theorem m_63 : Cond.initialized "java/util/NoSuchElementException" ∈ gT := List.mem_append_right _ (List.mem_append_left _ (List.mem_of_getElem? (l := gT_1) (i := 3) rfl))
theorem m_64 : Cond.classLink "DecimalDeskLaw" 8 "DecimalDesk" ∈ gT := List.mem_append_right _ (List.mem_append_left _ (List.mem_of_getElem? (l := gT_1) (i := 4) rfl))
theorem m_65 : Cond.instantiable "DecimalDesk" 9 ∈ gT := List.mem_append_right _ (List.mem_append_left _ (List.mem_of_getElem? (l := gT_1) (i := 5) rfl))
theorem m_66 : Cond.methodLink "DecimalDeskLaw" 28 y_Desk_init ∈ gT := List.mem_append_right _ (List.mem_append_left _ (List.mem_of_getElem? (l := gT_1) (i := 6) rfl))
theorem m_67 : Cond.instanceMethod y_Desk_init ∈ gT := List.mem_append_right _ (List.mem_append_left _ (List.mem_of_getElem? (l := gT_1) (i := 7) rfl))
theorem m_68 : Cond.code y_Desk_init prog_1_method_1_code 1 none ∈ gT := List.mem_append_right _ (List.mem_append_left _ (List.mem_of_getElem? (l := gT_1) (i := 8) rfl))
theorem m_69 : Cond.methodLink "DecimalDesk" 1 objectInit ∈ gT := List.mem_append_right _ (List.mem_append_left _ (List.mem_of_getElem? (l := gT_1) (i := 9) rfl))
theorem m_70 : Cond.instanceMethod objectInit ∈ gT := List.mem_append_right _ (List.mem_append_left _ (List.mem_of_getElem? (l := gT_1) (i := 10) rfl))
theorem m_71 : Cond.code objectInit object_method_1_code 1 none ∈ gT := List.mem_append_right _ (List.mem_append_left _ (List.mem_of_getElem? (l := gT_1) (i := 11) rfl))
theorem m_72 : Cond.classLink "DecimalDesk" 7 "DecimalDesk$Layout" ∈ gT := List.mem_append_right _ (List.mem_append_left _ (List.mem_of_getElem? (l := gT_1) (i := 12) rfl))
theorem m_73 : Cond.instantiable "DecimalDesk$Layout" 2 ∈ gT := List.mem_append_right _ (List.mem_append_left _ (List.mem_of_getElem? (l := gT_1) (i := 13) rfl))
theorem m_74 : Cond.methodLink "DecimalDesk" 9 y_Layout_init ∈ gT := List.mem_append_right _ (List.mem_append_left _ (List.mem_of_getElem? (l := gT_1) (i := 14) rfl))
theorem m_75 : Cond.instanceMethod y_Layout_init ∈ gT := List.mem_append_right _ (List.mem_append_left _ (List.mem_of_getElem? (l := gT_1) (i := 15) rfl))
theorem m_76 : Cond.code y_Layout_init prog_3_method_1_code 1 none ∈ gT := List.mem_append_right _ (List.mem_append_left _ (List.mem_of_getElem? (l := gT_1) (i := 16) rfl))
theorem m_77 : Cond.methodLink "DecimalDesk$Layout" 1 objectInit ∈ gT := List.mem_append_right _ (List.mem_append_left _ (List.mem_of_getElem? (l := gT_1) (i := 17) rfl))
theorem m_78 : Cond.fieldLink "DecimalDesk$Layout" 7 "DecimalDesk$Layout" "expBits" "I" ∈ gT := List.mem_append_right _ (List.mem_append_left _ (List.mem_of_getElem? (l := gT_1) (i := 18) rfl))
theorem m_79 : Cond.fieldLink "DecimalDesk$Layout" 13 "DecimalDesk$Layout" "fracBits" "I" ∈ gT := List.mem_append_right _ (List.mem_append_left _ (List.mem_of_getElem? (l := gT_1) (i := 19) rfl))
theorem m_80 : Cond.lays "DecimalDesk$Layout" "DecimalDesk$Layout" "expBits" "I" ∈ gT := List.mem_append_right _ (List.mem_append_left _ (List.mem_of_getElem? (l := gT_1) (i := 20) rfl))
theorem m_81 : Cond.lays "DecimalDesk$Layout" "DecimalDesk$Layout" "fracBits" "I" ∈ gT := List.mem_append_right _ (List.mem_append_left _ (List.mem_of_getElem? (l := gT_1) (i := 21) rfl))
theorem m_82 : Cond.classLink "DecimalDesk" 16 "DecimalDesk$Tape" ∈ gT := List.mem_append_right _ (List.mem_append_left _ (List.mem_of_getElem? (l := gT_1) (i := 22) rfl))
theorem m_83 : Cond.instantiable "DecimalDesk$Tape" 2 ∈ gT := List.mem_append_right _ (List.mem_append_left _ (List.mem_of_getElem? (l := gT_1) (i := 23) rfl))
theorem m_84 : Cond.methodLink "DecimalDesk" 18 y_Tape_init ∈ gT := List.mem_append_right _ (List.mem_append_left _ (List.mem_of_getElem? (l := gT_1) (i := 24) rfl))
theorem m_85 : Cond.instanceMethod y_Tape_init ∈ gT := List.mem_append_right _ (List.mem_append_left _ (List.mem_of_getElem? (l := gT_1) (i := 25) rfl))
theorem m_86 : Cond.code y_Tape_init prog_7_method_1_code 1 none ∈ gT := List.mem_append_right _ (List.mem_append_left _ (List.mem_of_getElem? (l := gT_1) (i := 26) rfl))
theorem m_87 : Cond.methodLink "DecimalDesk$Tape" 1 objectInit ∈ gT := List.mem_append_right _ (List.mem_append_left _ (List.mem_of_getElem? (l := gT_1) (i := 27) rfl))
theorem m_88 : Cond.fieldLink "DecimalDesk$Tape" 9 "DecimalDesk$Tape" "bytes" "[B" ∈ gT := List.mem_append_right _ (List.mem_append_left _ (List.mem_of_getElem? (l := gT_1) (i := 28) rfl))
theorem m_89 : Cond.fieldLink "DecimalDesk$Tape" 13 "DecimalDesk$Tape" "length" "I" ∈ gT := List.mem_append_right _ (List.mem_append_left _ (List.mem_of_getElem? (l := gT_1) (i := 29) rfl))
theorem m_90 : Cond.laysFinal "DecimalDesk$Tape" "DecimalDesk$Tape" "bytes" "[B" ∈ gT := List.mem_append_right _ (List.mem_append_left _ (List.mem_of_getElem? (l := gT_1) (i := 30) rfl))
theorem m_91 : Cond.lays "DecimalDesk$Tape" "DecimalDesk$Tape" "length" "I" ∈ gT := List.mem_append_right _ (List.mem_append_left _ (List.mem_of_getElem? (l := gT_1) (i := 31) rfl))
theorem m_92 : Cond.arrayClass .byte ∈ gT := List.mem_append_right _ (List.mem_append_left _ (List.mem_of_getElem? (l := gT_1) (i := 32) rfl))
theorem m_93 : Cond.classLink "DecimalDesk" 23 "DecimalDesk$Decimal" ∈ gT := List.mem_append_right _ (List.mem_append_left _ (List.mem_of_getElem? (l := gT_1) (i := 33) rfl))
theorem m_94 : Cond.instantiable "DecimalDesk$Decimal" 3 ∈ gT := List.mem_append_right _ (List.mem_append_left _ (List.mem_of_getElem? (l := gT_1) (i := 34) rfl))
theorem m_95 : Cond.methodLink "DecimalDesk" 25 y_Decimal_init ∈ gT := List.mem_append_right _ (List.mem_append_left _ (List.mem_of_getElem? (l := gT_1) (i := 35) rfl))
theorem m_96 : Cond.instanceMethod y_Decimal_init ∈ gT := List.mem_append_right _ (List.mem_append_left _ (List.mem_of_getElem? (l := gT_1) (i := 36) rfl))
theorem m_97 : Cond.code y_Decimal_init prog_2_method_1_code 1 none ∈ gT := List.mem_append_right _ (List.mem_append_left _ (List.mem_of_getElem? (l := gT_1) (i := 37) rfl))
theorem m_98 : Cond.methodLink "DecimalDesk$Decimal" 1 objectInit ∈ gT := List.mem_append_right _ (List.mem_append_left _ (List.mem_of_getElem? (l := gT_1) (i := 38) rfl))
theorem m_99 : Cond.classLink "DecimalDesk$Decimal" 7 "DecimalDesk$Natural" ∈ gT := List.mem_append_right _ (List.mem_append_left _ (List.mem_of_getElem? (l := gT_1) (i := 39) rfl))
theorem m_100 : Cond.instantiable "DecimalDesk$Natural" 1 ∈ gT := List.mem_append_right _ (List.mem_append_left _ (List.mem_of_getElem? (l := gT_1) (i := 40) rfl))
theorem m_101 : Cond.methodLink "DecimalDesk$Decimal" 9 y_Natural_init ∈ gT := List.mem_append_right _ (List.mem_append_left _ (List.mem_of_getElem? (l := gT_1) (i := 41) rfl))
theorem m_102 : Cond.instanceMethod y_Natural_init ∈ gT := List.mem_append_right _ (List.mem_append_left _ (List.mem_of_getElem? (l := gT_1) (i := 42) rfl))
theorem m_103 : Cond.code y_Natural_init prog_4_method_1_code 1 none ∈ gT := List.mem_append_right _ (List.mem_append_left _ (List.mem_of_getElem? (l := gT_1) (i := 43) rfl))
theorem m_104 : Cond.methodLink "DecimalDesk$Natural" 1 objectInit ∈ gT := List.mem_append_right _ (List.mem_append_left _ (List.mem_of_getElem? (l := gT_1) (i := 44) rfl))
theorem m_105 : Cond.fieldLink "DecimalDesk$Natural" 9 "DecimalDesk$Natural" "limbs" "[I" ∈ gT := List.mem_append_right _ (List.mem_append_left _ (List.mem_of_getElem? (l := gT_1) (i := 45) rfl))
theorem m_106 : Cond.laysFinal "DecimalDesk$Natural" "DecimalDesk$Natural" "limbs" "[I" ∈ gT := List.mem_append_right _ (List.mem_append_left _ (List.mem_of_getElem? (l := gT_1) (i := 46) rfl))
theorem m_107 : Cond.arrayClass .int ∈ gT := List.mem_append_right _ (List.mem_append_left _ (List.mem_of_getElem? (l := gT_1) (i := 47) rfl))
theorem m_108 : Cond.fieldLink "DecimalDesk$Decimal" 10 "DecimalDesk$Decimal" "digits" "LDecimalDesk$Natural;" ∈ gT := List.mem_append_right _ (List.mem_append_left _ (List.mem_of_getElem? (l := gT_1) (i := 48) rfl))
theorem m_109 : Cond.fieldLink "DecimalDesk$Decimal" 16 "DecimalDesk$Decimal" "negative" "Z" ∈ gT := List.mem_append_right _ (List.mem_append_left _ (List.mem_of_getElem? (l := gT_1) (i := 49) rfl))
theorem m_110 : Cond.fieldLink "DecimalDesk$Decimal" 20 "DecimalDesk$Decimal" "exponent" "I" ∈ gT := List.mem_append_right _ (List.mem_append_left _ (List.mem_of_getElem? (l := gT_1) (i := 50) rfl))
theorem m_111 : Cond.laysFinal "DecimalDesk$Decimal" "DecimalDesk$Decimal" "digits" "LDecimalDesk$Natural;" ∈ gT := List.mem_append_right _ (List.mem_append_left _ (List.mem_of_getElem? (l := gT_1) (i := 51) rfl))
theorem m_112 : Cond.lays "DecimalDesk$Decimal" "DecimalDesk$Decimal" "negative" "Z" ∈ gT := List.mem_append_right _ (List.mem_append_left _ (List.mem_of_getElem? (l := gT_1) (i := 52) rfl))
theorem m_113 : Cond.lays "DecimalDesk$Decimal" "DecimalDesk$Decimal" "exponent" "I" ∈ gT := List.mem_append_right _ (List.mem_append_left _ (List.mem_of_getElem? (l := gT_1) (i := 53) rfl))
theorem m_114 : Cond.classLink "DecimalDesk" 30 "DecimalDesk$Rounder" ∈ gT := List.mem_append_right _ (List.mem_append_left _ (List.mem_of_getElem? (l := gT_1) (i := 54) rfl))
theorem m_115 : Cond.instantiable "DecimalDesk$Rounder" 5 ∈ gT := List.mem_append_right _ (List.mem_append_left _ (List.mem_of_getElem? (l := gT_1) (i := 55) rfl))
theorem m_116 : Cond.methodLink "DecimalDesk" 32 y_Rounder_init ∈ gT := List.mem_append_right _ (List.mem_append_left _ (List.mem_of_getElem? (l := gT_1) (i := 56) rfl))
theorem m_117 : Cond.instanceMethod y_Rounder_init ∈ gT := List.mem_append_right _ (List.mem_append_left _ (List.mem_of_getElem? (l := gT_1) (i := 57) rfl))
theorem m_118 : Cond.code y_Rounder_init prog_5_method_1_code 1 none ∈ gT := List.mem_append_right _ (List.mem_append_left _ (List.mem_of_getElem? (l := gT_1) (i := 58) rfl))
theorem m_119 : Cond.methodLink "DecimalDesk$Rounder" 3 objectInit ∈ gT := List.mem_append_right _ (List.mem_append_left _ (List.mem_of_getElem? (l := gT_1) (i := 59) rfl))
theorem m_120 : Cond.classLink "DecimalDesk$Rounder" 9 "DecimalDesk$Natural" ∈ gT := List.mem_append_right _ (List.mem_append_right _ (List.mem_append_left _ (List.mem_of_getElem? (l := gT_2) (i := 0) rfl)))
theorem m_121 : Cond.methodLink "DecimalDesk$Rounder" 11 y_Natural_init ∈ gT := List.mem_append_right _ (List.mem_append_right _ (List.mem_append_left _ (List.mem_of_getElem? (l := gT_2) (i := 1) rfl)))
theorem m_122 : Cond.fieldLink "DecimalDesk$Rounder" 12 "DecimalDesk$Rounder" "top" "LDecimalDesk$Natural;" ∈ gT := List.mem_append_right _ (List.mem_append_right _ (List.mem_append_left _ (List.mem_of_getElem? (l := gT_2) (i := 2) rfl)))
theorem m_123 : Cond.fieldLink "DecimalDesk$Rounder" 18 "DecimalDesk$Rounder" "bottom" "LDecimalDesk$Natural;" ∈ gT := List.mem_append_right _ (List.mem_append_right _ (List.mem_append_left _ (List.mem_of_getElem? (l := gT_2) (i := 3) rfl)))
theorem m_124 : Cond.fieldLink "DecimalDesk$Rounder" 21 "DecimalDesk$Rounder" "size" "J" ∈ gT := List.mem_append_right _ (List.mem_append_right _ (List.mem_append_left _ (List.mem_of_getElem? (l := gT_2) (i := 4) rfl)))
theorem m_125 : Cond.fieldLink "DecimalDesk$Rounder" 25 "DecimalDesk$Rounder" "inexact" "Z" ∈ gT := List.mem_append_right _ (List.mem_append_right _ (List.mem_append_left _ (List.mem_of_getElem? (l := gT_2) (i := 5) rfl)))
theorem m_126 : Cond.fieldLink "DecimalDesk$Rounder" 29 "DecimalDesk$Rounder" "tiny" "Z" ∈ gT := List.mem_append_right _ (List.mem_append_right _ (List.mem_append_left _ (List.mem_of_getElem? (l := gT_2) (i := 6) rfl)))
theorem m_127 : Cond.laysFinal "DecimalDesk$Rounder" "DecimalDesk$Rounder" "top" "LDecimalDesk$Natural;" ∈ gT := List.mem_append_right _ (List.mem_append_right _ (List.mem_append_left _ (List.mem_of_getElem? (l := gT_2) (i := 7) rfl)))
theorem m_128 : Cond.laysFinal "DecimalDesk$Rounder" "DecimalDesk$Rounder" "bottom" "LDecimalDesk$Natural;" ∈ gT := List.mem_append_right _ (List.mem_append_right _ (List.mem_append_left _ (List.mem_of_getElem? (l := gT_2) (i := 8) rfl)))
theorem m_129 : Cond.lays "DecimalDesk$Rounder" "DecimalDesk$Rounder" "size" "J" ∈ gT := List.mem_append_right _ (List.mem_append_right _ (List.mem_append_left _ (List.mem_of_getElem? (l := gT_2) (i := 9) rfl)))
theorem m_130 : Cond.lays "DecimalDesk$Rounder" "DecimalDesk$Rounder" "inexact" "Z" ∈ gT := List.mem_append_right _ (List.mem_append_right _ (List.mem_append_left _ (List.mem_of_getElem? (l := gT_2) (i := 10) rfl)))
theorem m_131 : Cond.lays "DecimalDesk$Rounder" "DecimalDesk$Rounder" "tiny" "Z" ∈ gT := List.mem_append_right _ (List.mem_append_right _ (List.mem_append_left _ (List.mem_of_getElem? (l := gT_2) (i := 11) rfl)))
theorem m_132 : Cond.classLink "DecimalDesk" 37 "DecimalDesk$ShortestFinder" ∈ gT := List.mem_append_right _ (List.mem_append_right _ (List.mem_append_left _ (List.mem_of_getElem? (l := gT_2) (i := 12) rfl)))
theorem m_133 : Cond.instantiable "DecimalDesk$ShortestFinder" 9 ∈ gT := List.mem_append_right _ (List.mem_append_right _ (List.mem_append_left _ (List.mem_of_getElem? (l := gT_2) (i := 13) rfl)))
theorem m_134 : Cond.methodLink "DecimalDesk" 39 y_Finder_init ∈ gT := List.mem_append_right _ (List.mem_append_right _ (List.mem_append_left _ (List.mem_of_getElem? (l := gT_2) (i := 14) rfl)))
theorem m_135 : Cond.instanceMethod y_Finder_init ∈ gT := List.mem_append_right _ (List.mem_append_right _ (List.mem_append_left _ (List.mem_of_getElem? (l := gT_2) (i := 15) rfl)))
theorem m_136 : Cond.code y_Finder_init prog_6_method_1_code 1 none ∈ gT := List.mem_append_right _ (List.mem_append_right _ (List.mem_append_left _ (List.mem_of_getElem? (l := gT_2) (i := 16) rfl)))
theorem m_137 : Cond.methodLink "DecimalDesk$ShortestFinder" 1 objectInit ∈ gT := List.mem_append_right _ (List.mem_append_right _ (List.mem_append_left _ (List.mem_of_getElem? (l := gT_2) (i := 17) rfl)))
theorem m_138 : Cond.classLink "DecimalDesk$ShortestFinder" 7 "DecimalDesk$Natural" ∈ gT := List.mem_append_right _ (List.mem_append_right _ (List.mem_append_left _ (List.mem_of_getElem? (l := gT_2) (i := 18) rfl)))
theorem m_139 : Cond.methodLink "DecimalDesk$ShortestFinder" 9 y_Natural_init ∈ gT := List.mem_append_right _ (List.mem_append_right _ (List.mem_append_left _ (List.mem_of_getElem? (l := gT_2) (i := 19) rfl)))
theorem m_140 : Cond.fieldLink "DecimalDesk$ShortestFinder" 10 "DecimalDesk$ShortestFinder" "rest" "LDecimalDesk$Natural;" ∈ gT := List.mem_append_right _ (List.mem_append_right _ (List.mem_append_left _ (List.mem_of_getElem? (l := gT_2) (i := 20) rfl)))
theorem m_141 : Cond.fieldLink "DecimalDesk$ShortestFinder" 16 "DecimalDesk$ShortestFinder" "unit" "LDecimalDesk$Natural;" ∈ gT := List.mem_append_right _ (List.mem_append_right _ (List.mem_append_left _ (List.mem_of_getElem? (l := gT_2) (i := 21) rfl)))
theorem m_142 : Cond.fieldLink "DecimalDesk$ShortestFinder" 19 "DecimalDesk$ShortestFinder" "reachBelow" "LDecimalDesk$Natural;" ∈ gT := List.mem_append_right _ (List.mem_append_right _ (List.mem_append_left _ (List.mem_of_getElem? (l := gT_2) (i := 22) rfl)))
theorem m_143 : Cond.fieldLink "DecimalDesk$ShortestFinder" 22 "DecimalDesk$ShortestFinder" "reachAbove" "LDecimalDesk$Natural;" ∈ gT := List.mem_append_right _ (List.mem_append_right _ (List.mem_append_left _ (List.mem_of_getElem? (l := gT_2) (i := 23) rfl)))
theorem m_144 : Cond.fieldLink "DecimalDesk$ShortestFinder" 25 "DecimalDesk$ShortestFinder" "sum" "LDecimalDesk$Natural;" ∈ gT := List.mem_append_right _ (List.mem_append_right _ (List.mem_append_left _ (List.mem_of_getElem? (l := gT_2) (i := 24) rfl)))
theorem m_145 : Cond.fieldLink "DecimalDesk$ShortestFinder" 28 "DecimalDesk$ShortestFinder" "endsBelong" "Z" ∈ gT := List.mem_append_right _ (List.mem_append_right _ (List.mem_append_left _ (List.mem_of_getElem? (l := gT_2) (i := 25) rfl)))
theorem m_146 : Cond.fieldLink "DecimalDesk$ShortestFinder" 32 "DecimalDesk$ShortestFinder" "digits" "J" ∈ gT := List.mem_append_right _ (List.mem_append_right _ (List.mem_append_left _ (List.mem_of_getElem? (l := gT_2) (i := 26) rfl)))
theorem m_147 : Cond.fieldLink "DecimalDesk$ShortestFinder" 36 "DecimalDesk$ShortestFinder" "count" "I" ∈ gT := List.mem_append_right _ (List.mem_append_right _ (List.mem_append_left _ (List.mem_of_getElem? (l := gT_2) (i := 27) rfl)))
theorem m_148 : Cond.fieldLink "DecimalDesk$ShortestFinder" 40 "DecimalDesk$ShortestFinder" "power" "I" ∈ gT := List.mem_append_right _ (List.mem_append_right _ (List.mem_append_left _ (List.mem_of_getElem? (l := gT_2) (i := 28) rfl)))
theorem m_149 : Cond.laysFinal "DecimalDesk$ShortestFinder" "DecimalDesk$ShortestFinder" "rest" "LDecimalDesk$Natural;" ∈ gT := List.mem_append_right _ (List.mem_append_right _ (List.mem_append_left _ (List.mem_of_getElem? (l := gT_2) (i := 29) rfl)))
theorem m_150 : Cond.laysFinal "DecimalDesk$ShortestFinder" "DecimalDesk$ShortestFinder" "unit" "LDecimalDesk$Natural;" ∈ gT := List.mem_append_right _ (List.mem_append_right _ (List.mem_append_left _ (List.mem_of_getElem? (l := gT_2) (i := 30) rfl)))
theorem m_151 : Cond.laysFinal "DecimalDesk$ShortestFinder" "DecimalDesk$ShortestFinder" "reachBelow" "LDecimalDesk$Natural;" ∈ gT := List.mem_append_right _ (List.mem_append_right _ (List.mem_append_left _ (List.mem_of_getElem? (l := gT_2) (i := 31) rfl)))
theorem m_152 : Cond.laysFinal "DecimalDesk$ShortestFinder" "DecimalDesk$ShortestFinder" "reachAbove" "LDecimalDesk$Natural;" ∈ gT := List.mem_append_right _ (List.mem_append_right _ (List.mem_append_left _ (List.mem_of_getElem? (l := gT_2) (i := 32) rfl)))
theorem m_153 : Cond.laysFinal "DecimalDesk$ShortestFinder" "DecimalDesk$ShortestFinder" "sum" "LDecimalDesk$Natural;" ∈ gT := List.mem_append_right _ (List.mem_append_right _ (List.mem_append_left _ (List.mem_of_getElem? (l := gT_2) (i := 33) rfl)))
theorem m_154 : Cond.lays "DecimalDesk$ShortestFinder" "DecimalDesk$ShortestFinder" "endsBelong" "Z" ∈ gT := List.mem_append_right _ (List.mem_append_right _ (List.mem_append_left _ (List.mem_of_getElem? (l := gT_2) (i := 34) rfl)))
theorem m_155 : Cond.lays "DecimalDesk$ShortestFinder" "DecimalDesk$ShortestFinder" "digits" "J" ∈ gT := List.mem_append_right _ (List.mem_append_right _ (List.mem_append_left _ (List.mem_of_getElem? (l := gT_2) (i := 35) rfl)))
theorem m_156 : Cond.lays "DecimalDesk$ShortestFinder" "DecimalDesk$ShortestFinder" "count" "I" ∈ gT := List.mem_append_right _ (List.mem_append_right _ (List.mem_append_left _ (List.mem_of_getElem? (l := gT_2) (i := 36) rfl)))
theorem m_157 : Cond.lays "DecimalDesk$ShortestFinder" "DecimalDesk$ShortestFinder" "power" "I" ∈ gT := List.mem_append_right _ (List.mem_append_right _ (List.mem_append_left _ (List.mem_of_getElem? (l := gT_2) (i := 37) rfl)))
theorem m_158 : Cond.classLink "DecimalDesk" 44 "DecimalDesk$Natural" ∈ gT := List.mem_append_right _ (List.mem_append_right _ (List.mem_append_left _ (List.mem_of_getElem? (l := gT_2) (i := 38) rfl)))
theorem m_159 : Cond.methodLink "DecimalDesk" 46 y_Natural_init ∈ gT := List.mem_append_right _ (List.mem_append_right _ (List.mem_append_left _ (List.mem_of_getElem? (l := gT_2) (i := 39) rfl)))
theorem m_160 : Cond.classLink "DecimalDesk" 51 "DecimalDesk$Told" ∈ gT := List.mem_append_right _ (List.mem_append_right _ (List.mem_append_left _ (List.mem_of_getElem? (l := gT_2) (i := 40) rfl)))
theorem m_161 : Cond.instantiable "DecimalDesk$Told" 3 ∈ gT := List.mem_append_right _ (List.mem_append_right _ (List.mem_append_left _ (List.mem_of_getElem? (l := gT_2) (i := 41) rfl)))
theorem m_162 : Cond.methodLink "DecimalDesk" 53 y_Told_init ∈ gT := List.mem_append_right _ (List.mem_append_right _ (List.mem_append_left _ (List.mem_of_getElem? (l := gT_2) (i := 42) rfl)))
theorem m_163 : Cond.instanceMethod y_Told_init ∈ gT := List.mem_append_right _ (List.mem_append_right _ (List.mem_append_left _ (List.mem_of_getElem? (l := gT_2) (i := 43) rfl)))
theorem m_164 : Cond.code y_Told_init prog_8_method_1_code 1 none ∈ gT := List.mem_append_right _ (List.mem_append_right _ (List.mem_append_left _ (List.mem_of_getElem? (l := gT_2) (i := 44) rfl)))
theorem m_165 : Cond.methodLink "DecimalDesk$Told" 1 objectInit ∈ gT := List.mem_append_right _ (List.mem_append_right _ (List.mem_append_left _ (List.mem_of_getElem? (l := gT_2) (i := 45) rfl)))
theorem m_166 : Cond.fieldLink "DecimalDesk$Told" 9 "DecimalDesk$Told" "letters" "[B" ∈ gT := List.mem_append_right _ (List.mem_append_right _ (List.mem_append_left _ (List.mem_of_getElem? (l := gT_2) (i := 46) rfl)))
theorem m_167 : Cond.fieldLink "DecimalDesk$Told" 13 "DecimalDesk$Told" "reversed" "[B" ∈ gT := List.mem_append_right _ (List.mem_append_right _ (List.mem_append_left _ (List.mem_of_getElem? (l := gT_2) (i := 47) rfl)))
theorem m_168 : Cond.fieldLink "DecimalDesk$Told" 16 "DecimalDesk$Told" "length" "I" ∈ gT := List.mem_append_right _ (List.mem_append_right _ (List.mem_append_left _ (List.mem_of_getElem? (l := gT_2) (i := 48) rfl)))
theorem m_169 : Cond.laysFinal "DecimalDesk$Told" "DecimalDesk$Told" "letters" "[B" ∈ gT := List.mem_append_right _ (List.mem_append_right _ (List.mem_append_left _ (List.mem_of_getElem? (l := gT_2) (i := 49) rfl)))
theorem m_170 : Cond.laysFinal "DecimalDesk$Told" "DecimalDesk$Told" "reversed" "[B" ∈ gT := List.mem_append_right _ (List.mem_append_right _ (List.mem_append_left _ (List.mem_of_getElem? (l := gT_2) (i := 50) rfl)))
theorem m_171 : Cond.lays "DecimalDesk$Told" "DecimalDesk$Told" "length" "I" ∈ gT := List.mem_append_right _ (List.mem_append_right _ (List.mem_append_left _ (List.mem_of_getElem? (l := gT_2) (i := 51) rfl)))
theorem m_172 : Cond.fieldLink "DecimalDesk" 10 "DecimalDesk" "layout" "LDecimalDesk$Layout;" ∈ gT := List.mem_append_right _ (List.mem_append_right _ (List.mem_append_left _ (List.mem_of_getElem? (l := gT_2) (i := 52) rfl)))
theorem m_173 : Cond.fieldLink "DecimalDesk" 19 "DecimalDesk" "tape" "LDecimalDesk$Tape;" ∈ gT := List.mem_append_right _ (List.mem_append_right _ (List.mem_append_left _ (List.mem_of_getElem? (l := gT_2) (i := 53) rfl)))
theorem m_174 : Cond.fieldLink "DecimalDesk" 26 "DecimalDesk" "decimal" "LDecimalDesk$Decimal;" ∈ gT := List.mem_append_right _ (List.mem_append_right _ (List.mem_append_left _ (List.mem_of_getElem? (l := gT_2) (i := 54) rfl)))
theorem m_175 : Cond.fieldLink "DecimalDesk" 33 "DecimalDesk" "rounder" "LDecimalDesk$Rounder;" ∈ gT := List.mem_append_right _ (List.mem_append_right _ (List.mem_append_left _ (List.mem_of_getElem? (l := gT_2) (i := 55) rfl)))
theorem m_176 : Cond.fieldLink "DecimalDesk" 40 "DecimalDesk" "finder" "LDecimalDesk$ShortestFinder;" ∈ gT := List.mem_append_right _ (List.mem_append_right _ (List.mem_append_left _ (List.mem_of_getElem? (l := gT_2) (i := 56) rfl)))
theorem m_177 : Cond.fieldLink "DecimalDesk" 47 "DecimalDesk" "digits" "LDecimalDesk$Natural;" ∈ gT := List.mem_append_right _ (List.mem_append_right _ (List.mem_append_left _ (List.mem_of_getElem? (l := gT_2) (i := 57) rfl)))
theorem m_178 : Cond.fieldLink "DecimalDesk" 54 "DecimalDesk" "told" "LDecimalDesk$Told;" ∈ gT := List.mem_append_right _ (List.mem_append_right _ (List.mem_append_left _ (List.mem_of_getElem? (l := gT_2) (i := 58) rfl)))
theorem m_179 : Cond.fieldLink "DecimalDesk" 58 "DecimalDesk" "mode" "I" ∈ gT := List.mem_append_right _ (List.mem_append_right _ (List.mem_append_left _ (List.mem_of_getElem? (l := gT_2) (i := 59) rfl)))
theorem m_180 : Cond.fieldLink "DecimalDesk" 62 "DecimalDesk" "flags" "I" ∈ gT := List.mem_append_right _ (List.mem_append_right _ (List.mem_append_right _ (List.mem_append_left _ (List.mem_of_getElem? (l := gT_3) (i := 0) rfl))))
theorem m_181 : Cond.laysFinal "DecimalDesk" "DecimalDesk" "layout" "LDecimalDesk$Layout;" ∈ gT := List.mem_append_right _ (List.mem_append_right _ (List.mem_append_right _ (List.mem_append_left _ (List.mem_of_getElem? (l := gT_3) (i := 1) rfl))))
theorem m_182 : Cond.laysFinal "DecimalDesk" "DecimalDesk" "tape" "LDecimalDesk$Tape;" ∈ gT := List.mem_append_right _ (List.mem_append_right _ (List.mem_append_right _ (List.mem_append_left _ (List.mem_of_getElem? (l := gT_3) (i := 2) rfl))))
theorem m_183 : Cond.laysFinal "DecimalDesk" "DecimalDesk" "decimal" "LDecimalDesk$Decimal;" ∈ gT := List.mem_append_right _ (List.mem_append_right _ (List.mem_append_right _ (List.mem_append_left _ (List.mem_of_getElem? (l := gT_3) (i := 3) rfl))))
theorem m_184 : Cond.laysFinal "DecimalDesk" "DecimalDesk" "rounder" "LDecimalDesk$Rounder;" ∈ gT := List.mem_append_right _ (List.mem_append_right _ (List.mem_append_right _ (List.mem_append_left _ (List.mem_of_getElem? (l := gT_3) (i := 4) rfl))))
theorem m_185 : Cond.laysFinal "DecimalDesk" "DecimalDesk" "finder" "LDecimalDesk$ShortestFinder;" ∈ gT := List.mem_append_right _ (List.mem_append_right _ (List.mem_append_right _ (List.mem_append_left _ (List.mem_of_getElem? (l := gT_3) (i := 5) rfl))))
theorem m_186 : Cond.laysFinal "DecimalDesk" "DecimalDesk" "digits" "LDecimalDesk$Natural;" ∈ gT := List.mem_append_right _ (List.mem_append_right _ (List.mem_append_right _ (List.mem_append_left _ (List.mem_of_getElem? (l := gT_3) (i := 6) rfl))))
theorem m_187 : Cond.laysFinal "DecimalDesk" "DecimalDesk" "told" "LDecimalDesk$Told;" ∈ gT := List.mem_append_right _ (List.mem_append_right _ (List.mem_append_right _ (List.mem_append_left _ (List.mem_of_getElem? (l := gT_3) (i := 7) rfl))))
theorem m_188 : Cond.lays "DecimalDesk" "DecimalDesk" "mode" "I" ∈ gT := List.mem_append_right _ (List.mem_append_right _ (List.mem_append_right _ (List.mem_append_left _ (List.mem_of_getElem? (l := gT_3) (i := 8) rfl))))
theorem m_189 : Cond.lays "DecimalDesk" "DecimalDesk" "flags" "I" ∈ gT := List.mem_append_right _ (List.mem_append_right _ (List.mem_append_right _ (List.mem_append_left _ (List.mem_of_getElem? (l := gT_3) (i := 9) rfl))))
theorem m_190 : Cond.methodLink "DecimalDeskLaw" 32 y_Desk_format ∈ gT := List.mem_append_right _ (List.mem_append_right _ (List.mem_append_right _ (List.mem_append_left _ (List.mem_of_getElem? (l := gT_3) (i := 10) rfl))))
theorem m_191 : Cond.instanceMethod y_Desk_format ∈ gT := List.mem_append_right _ (List.mem_append_right _ (List.mem_append_right _ (List.mem_append_left _ (List.mem_of_getElem? (l := gT_3) (i := 11) rfl))))
theorem m_192 : Cond.selects "DecimalDesk" y_Desk_format y_Desk_format ∈ gT := List.mem_append_right _ (List.mem_append_right _ (List.mem_append_right _ (List.mem_append_left _ (List.mem_of_getElem? (l := gT_3) (i := 12) rfl))))
theorem m_193 : Cond.code y_Desk_format prog_1_method_2_code 3 (some .boolean) ∈ gT := List.mem_append_right _ (List.mem_append_right _ (List.mem_append_right _ (List.mem_append_left _ (List.mem_of_getElem? (l := gT_3) (i := 13) rfl))))
theorem m_194 : Cond.methodLink "DecimalDeskLaw" 37 y_Desk_mode ∈ gT := List.mem_append_right _ (List.mem_append_right _ (List.mem_append_right _ (List.mem_append_left _ (List.mem_of_getElem? (l := gT_3) (i := 14) rfl))))
theorem m_195 : Cond.instanceMethod y_Desk_mode ∈ gT := List.mem_append_right _ (List.mem_append_right _ (List.mem_append_right _ (List.mem_append_left _ (List.mem_of_getElem? (l := gT_3) (i := 15) rfl))))
theorem m_196 : Cond.selects "DecimalDesk" y_Desk_mode y_Desk_mode ∈ gT := List.mem_append_right _ (List.mem_append_right _ (List.mem_append_right _ (List.mem_append_left _ (List.mem_of_getElem? (l := gT_3) (i := 16) rfl))))
theorem m_197 : Cond.code y_Desk_mode prog_1_method_3_code 2 (some .boolean) ∈ gT := List.mem_append_right _ (List.mem_append_right _ (List.mem_append_right _ (List.mem_append_left _ (List.mem_of_getElem? (l := gT_3) (i := 17) rfl))))
theorem m_198 : Cond.methodLink "DecimalDeskLaw" 44 y_Desk_type ∈ gT := List.mem_append_right _ (List.mem_append_right _ (List.mem_append_right _ (List.mem_append_left _ (List.mem_of_getElem? (l := gT_3) (i := 18) rfl))))
theorem m_199 : Cond.instanceMethod y_Desk_type ∈ gT := List.mem_append_right _ (List.mem_append_right _ (List.mem_append_right _ (List.mem_append_left _ (List.mem_of_getElem? (l := gT_3) (i := 19) rfl))))
theorem m_200 : Cond.selects "DecimalDesk" y_Desk_type y_Desk_type ∈ gT := List.mem_append_right _ (List.mem_append_right _ (List.mem_append_right _ (List.mem_append_left _ (List.mem_of_getElem? (l := gT_3) (i := 20) rfl))))
theorem m_201 : Cond.code y_Desk_type prog_1_method_4_code 4 (some .boolean) ∈ gT := List.mem_append_right _ (List.mem_append_right _ (List.mem_append_right _ (List.mem_append_left _ (List.mem_of_getElem? (l := gT_3) (i := 21) rfl))))
theorem m_202 : Cond.methodLink "DecimalDesk" 71 y_Tape_put ∈ gT := List.mem_append_right _ (List.mem_append_right _ (List.mem_append_right _ (List.mem_append_left _ (List.mem_of_getElem? (l := gT_3) (i := 22) rfl))))
theorem m_203 : Cond.instanceMethod y_Tape_put ∈ gT := List.mem_append_right _ (List.mem_append_right _ (List.mem_append_right _ (List.mem_append_left _ (List.mem_of_getElem? (l := gT_3) (i := 23) rfl))))
theorem m_204 : Cond.selects "DecimalDesk$Tape" y_Tape_put y_Tape_put ∈ gT := List.mem_append_right _ (List.mem_append_right _ (List.mem_append_right _ (List.mem_append_left _ (List.mem_of_getElem? (l := gT_3) (i := 24) rfl))))
theorem m_205 : Cond.code y_Tape_put prog_7_method_2_code 6 (some .boolean) ∈ gT := List.mem_append_right _ (List.mem_append_right _ (List.mem_append_right _ (List.mem_append_left _ (List.mem_of_getElem? (l := gT_3) (i := 25) rfl))))
theorem m_206 : Cond.methodLink "DecimalDesk$Tape" 17 y_Tape_byteOf ∈ gT := List.mem_append_right _ (List.mem_append_right _ (List.mem_append_right _ (List.mem_append_left _ (List.mem_of_getElem? (l := gT_3) (i := 26) rfl))))
theorem m_207 : Cond.static y_Tape_byteOf ∈ gT := List.mem_append_right _ (List.mem_append_right _ (List.mem_append_right _ (List.mem_append_left _ (List.mem_of_getElem? (l := gT_3) (i := 27) rfl))))
theorem m_208 : Cond.code y_Tape_byteOf prog_7_method_5_code 3 (some .int) ∈ gT := List.mem_append_right _ (List.mem_append_right _ (List.mem_append_right _ (List.mem_append_left _ (List.mem_of_getElem? (l := gT_3) (i := 28) rfl))))
theorem m_209 : Cond.methodLink "DecimalDeskLaw" 55 y_Desk_flags ∈ gT := List.mem_append_right _ (List.mem_append_right _ (List.mem_append_right _ (List.mem_append_left _ (List.mem_of_getElem? (l := gT_3) (i := 29) rfl))))
theorem m_210 : Cond.instanceMethod y_Desk_flags ∈ gT := List.mem_append_right _ (List.mem_append_right _ (List.mem_append_right _ (List.mem_append_left _ (List.mem_of_getElem? (l := gT_3) (i := 30) rfl))))
theorem m_211 : Cond.selects "DecimalDesk" y_Desk_flags y_Desk_flags ∈ gT := List.mem_append_right _ (List.mem_append_right _ (List.mem_append_right _ (List.mem_append_left _ (List.mem_of_getElem? (l := gT_3) (i := 31) rfl))))
theorem m_212 : Cond.code y_Desk_flags prog_1_method_6_code 1 (some .int) ∈ gT := List.mem_append_right _ (List.mem_append_right _ (List.mem_append_right _ (List.mem_append_left _ (List.mem_of_getElem? (l := gT_3) (i := 32) rfl))))
theorem m_213 : Cond.methodLink "DecimalDeskLaw" 60 y_Desk_clear ∈ gT := List.mem_append_right _ (List.mem_append_right _ (List.mem_append_right _ (List.mem_append_left _ (List.mem_of_getElem? (l := gT_3) (i := 33) rfl))))
theorem m_214 : Cond.instanceMethod y_Desk_clear ∈ gT := List.mem_append_right _ (List.mem_append_right _ (List.mem_append_right _ (List.mem_append_left _ (List.mem_of_getElem? (l := gT_3) (i := 34) rfl))))
theorem m_215 : Cond.selects "DecimalDesk" y_Desk_clear y_Desk_clear ∈ gT := List.mem_append_right _ (List.mem_append_right _ (List.mem_append_right _ (List.mem_append_left _ (List.mem_of_getElem? (l := gT_3) (i := 35) rfl))))
theorem m_216 : Cond.code y_Desk_clear prog_1_method_7_code 3 (some .int) ∈ gT := List.mem_append_right _ (List.mem_append_right _ (List.mem_append_right _ (List.mem_append_left _ (List.mem_of_getElem? (l := gT_3) (i := 36) rfl))))
theorem m_217 : Cond.methodLink "DecimalDeskLaw" 75 y_Desk_next ∈ gT := List.mem_append_right _ (List.mem_append_right _ (List.mem_append_right _ (List.mem_append_left _ (List.mem_of_getElem? (l := gT_3) (i := 37) rfl))))
theorem m_218 : Cond.instanceMethod y_Desk_next ∈ gT := List.mem_append_right _ (List.mem_append_right _ (List.mem_append_right _ (List.mem_append_left _ (List.mem_of_getElem? (l := gT_3) (i := 38) rfl))))
theorem m_219 : Cond.selects "DecimalDesk" y_Desk_next y_Desk_next ∈ gT := List.mem_append_right _ (List.mem_append_right _ (List.mem_append_right _ (List.mem_append_left _ (List.mem_of_getElem? (l := gT_3) (i := 39) rfl))))
theorem m_220 : Cond.code y_Desk_next prog_1_method_11_code 5 (some .long) ∈ gT := List.mem_append_right _ (List.mem_append_right _ (List.mem_append_right _ (List.mem_append_left _ (List.mem_of_getElem? (l := gT_3) (i := 40) rfl))))
theorem m_221 : Cond.methodLink "DecimalDesk" 116 y_Layout_holds ∈ gT := List.mem_append_right _ (List.mem_append_right _ (List.mem_append_right _ (List.mem_append_left _ (List.mem_of_getElem? (l := gT_3) (i := 41) rfl))))
theorem m_222 : Cond.instanceMethod y_Layout_holds ∈ gT := List.mem_append_right _ (List.mem_append_right _ (List.mem_append_right _ (List.mem_append_left _ (List.mem_of_getElem? (l := gT_3) (i := 42) rfl))))
theorem m_223 : Cond.selects "DecimalDesk$Layout" y_Layout_holds y_Layout_holds ∈ gT := List.mem_append_right _ (List.mem_append_right _ (List.mem_append_right _ (List.mem_append_left _ (List.mem_of_getElem? (l := gT_3) (i := 43) rfl))))
theorem m_224 : Cond.code y_Layout_holds prog_3_method_6_code 3 (some .boolean) ∈ gT := List.mem_append_right _ (List.mem_append_right _ (List.mem_append_right _ (List.mem_append_left _ (List.mem_of_getElem? (l := gT_3) (i := 44) rfl))))
theorem m_225 : Cond.constantLong "DecimalDesk$Layout" 20 2 ∈ gT := List.mem_append_right _ (List.mem_append_right _ (List.mem_append_right _ (List.mem_append_left _ (List.mem_of_getElem? (l := gT_3) (i := 45) rfl))))
theorem m_226 : Cond.methodLink "DecimalDesk$Layout" 22 y_Layout_signBit ∈ gT := List.mem_append_right _ (List.mem_append_right _ (List.mem_append_right _ (List.mem_append_left _ (List.mem_of_getElem? (l := gT_3) (i := 46) rfl))))
theorem m_227 : Cond.instanceMethod y_Layout_signBit ∈ gT := List.mem_append_right _ (List.mem_append_right _ (List.mem_append_right _ (List.mem_append_left _ (List.mem_of_getElem? (l := gT_3) (i := 47) rfl))))
theorem m_228 : Cond.selects "DecimalDesk$Layout" y_Layout_signBit y_Layout_signBit ∈ gT := List.mem_append_right _ (List.mem_append_right _ (List.mem_append_right _ (List.mem_append_left _ (List.mem_of_getElem? (l := gT_3) (i := 48) rfl))))
theorem m_229 : Cond.code y_Layout_signBit prog_3_method_4_code 1 (some .long) ∈ gT := List.mem_append_right _ (List.mem_append_right _ (List.mem_append_right _ (List.mem_append_left _ (List.mem_of_getElem? (l := gT_3) (i := 49) rfl))))
theorem m_230 : Cond.methodLink "DecimalDesk" 144 y_Layout_sizeOf ∈ gT := List.mem_append_right _ (List.mem_append_right _ (List.mem_append_right _ (List.mem_append_left _ (List.mem_of_getElem? (l := gT_3) (i := 50) rfl))))
theorem m_231 : Cond.instanceMethod y_Layout_sizeOf ∈ gT := List.mem_append_right _ (List.mem_append_right _ (List.mem_append_right _ (List.mem_append_left _ (List.mem_of_getElem? (l := gT_3) (i := 51) rfl))))
theorem m_232 : Cond.selects "DecimalDesk$Layout" y_Layout_sizeOf y_Layout_sizeOf ∈ gT := List.mem_append_right _ (List.mem_append_right _ (List.mem_append_right _ (List.mem_append_left _ (List.mem_of_getElem? (l := gT_3) (i := 52) rfl))))
theorem m_233 : Cond.code y_Layout_sizeOf prog_3_method_8_code 3 (some .long) ∈ gT := List.mem_append_right _ (List.mem_append_right _ (List.mem_append_right _ (List.mem_append_left _ (List.mem_of_getElem? (l := gT_3) (i := 53) rfl))))
theorem m_234 : Cond.methodLink "DecimalDesk" 97 y_Layout_infinity ∈ gT := List.mem_append_right _ (List.mem_append_right _ (List.mem_append_right _ (List.mem_append_left _ (List.mem_of_getElem? (l := gT_3) (i := 54) rfl))))
theorem m_235 : Cond.instanceMethod y_Layout_infinity ∈ gT := List.mem_append_right _ (List.mem_append_right _ (List.mem_append_right _ (List.mem_append_left _ (List.mem_of_getElem? (l := gT_3) (i := 55) rfl))))
theorem m_236 : Cond.selects "DecimalDesk$Layout" y_Layout_infinity y_Layout_infinity ∈ gT := List.mem_append_right _ (List.mem_append_right _ (List.mem_append_right _ (List.mem_append_left _ (List.mem_of_getElem? (l := gT_3) (i := 56) rfl))))
theorem m_237 : Cond.code y_Layout_infinity prog_3_method_5_code 1 (some .long) ∈ gT := List.mem_append_right _ (List.mem_append_right _ (List.mem_append_right _ (List.mem_append_left _ (List.mem_of_getElem? (l := gT_3) (i := 57) rfl))))
theorem m_238 : Cond.constantLong "DecimalDesk" 148 (-1) ∈ gT := List.mem_append_right _ (List.mem_append_right _ (List.mem_append_right _ (List.mem_append_left _ (List.mem_of_getElem? (l := gT_3) (i := 58) rfl))))
theorem m_239 : Cond.methodLink "DecimalDesk" 113 y_Layout_signBit ∈ gT := List.mem_append_right _ (List.mem_append_right _ (List.mem_append_right _ (List.mem_append_left _ (List.mem_of_getElem? (l := gT_3) (i := 59) rfl))))
theorem m_240 : Cond.methodLink "DecimalDesk" 150 y_Layout_isNegative ∈ gT := List.mem_append_right _ (List.mem_append_right _ (List.mem_append_right _ (List.mem_append_right _ (List.mem_append_left _ (List.mem_of_getElem? (l := gT_4) (i := 0) rfl)))))
theorem m_241 : Cond.instanceMethod y_Layout_isNegative ∈ gT := List.mem_append_right _ (List.mem_append_right _ (List.mem_append_right _ (List.mem_append_right _ (List.mem_append_left _ (List.mem_of_getElem? (l := gT_4) (i := 1) rfl)))))
theorem m_242 : Cond.selects "DecimalDesk$Layout" y_Layout_isNegative y_Layout_isNegative ∈ gT := List.mem_append_right _ (List.mem_append_right _ (List.mem_append_right _ (List.mem_append_right _ (List.mem_append_left _ (List.mem_of_getElem? (l := gT_4) (i := 2) rfl)))))
theorem m_243 : Cond.code y_Layout_isNegative prog_3_method_7_code 3 (some .boolean) ∈ gT := List.mem_append_right _ (List.mem_append_right _ (List.mem_append_right _ (List.mem_append_right _ (List.mem_append_left _ (List.mem_of_getElem? (l := gT_4) (i := 3) rfl)))))
theorem m_244 : Cond.methodLink "DecimalDeskLaw" 49 y_Law_read ∈ gT := List.mem_append_right _ (List.mem_append_right _ (List.mem_append_right _ (List.mem_append_right _ (List.mem_append_left _ (List.mem_of_getElem? (l := gT_4) (i := 4) rfl)))))
theorem m_245 : Cond.static y_Law_read ∈ gT := List.mem_append_right _ (List.mem_append_right _ (List.mem_append_right _ (List.mem_append_right _ (List.mem_append_left _ (List.mem_of_getElem? (l := gT_4) (i := 5) rfl)))))
theorem m_246 : Cond.classLink "DecimalDeskLaw" 13 "java/lang/IllegalArgumentException" ∈ gT := List.mem_append_right _ (List.mem_append_right _ (List.mem_append_right _ (List.mem_append_right _ (List.mem_append_left _ (List.mem_of_getElem? (l := gT_4) (i := 6) rfl)))))
theorem m_247 : Cond.methodLink "DecimalDeskLaw" 7 y_Desk_read ∈ gT := List.mem_append_right _ (List.mem_append_right _ (List.mem_append_right _ (List.mem_append_right _ (List.mem_append_left _ (List.mem_of_getElem? (l := gT_4) (i := 7) rfl)))))
theorem m_248 : Cond.instanceMethod y_Desk_read ∈ gT := List.mem_append_right _ (List.mem_append_right _ (List.mem_append_right _ (List.mem_append_right _ (List.mem_append_left _ (List.mem_of_getElem? (l := gT_4) (i := 8) rfl)))))
theorem m_249 : Cond.selects "DecimalDesk" y_Desk_read y_Desk_read ∈ gT := List.mem_append_right _ (List.mem_append_right _ (List.mem_append_right _ (List.mem_append_right _ (List.mem_append_left _ (List.mem_of_getElem? (l := gT_4) (i := 9) rfl)))))
theorem m_250 : Cond.code y_Desk_read prog_1_method_5_code 5 (some .long) ∈ gT := List.mem_append_right _ (List.mem_append_right _ (List.mem_append_right _ (List.mem_append_right _ (List.mem_append_left _ (List.mem_of_getElem? (l := gT_4) (i := 10) rfl)))))
theorem m_251 : Cond.methodLink "DecimalDesk" 75 y_Decimal_parse ∈ gT := List.mem_append_right _ (List.mem_append_right _ (List.mem_append_right _ (List.mem_append_right _ (List.mem_append_left _ (List.mem_of_getElem? (l := gT_4) (i := 11) rfl)))))
theorem m_252 : Cond.instanceMethod y_Decimal_parse ∈ gT := List.mem_append_right _ (List.mem_append_right _ (List.mem_append_right _ (List.mem_append_right _ (List.mem_append_left _ (List.mem_of_getElem? (l := gT_4) (i := 12) rfl)))))
theorem m_253 : Cond.selects "DecimalDesk$Decimal" y_Decimal_parse y_Decimal_parse ∈ gT := List.mem_append_right _ (List.mem_append_right _ (List.mem_append_right _ (List.mem_append_right _ (List.mem_append_left _ (List.mem_of_getElem? (l := gT_4) (i := 13) rfl)))))
theorem m_254 : Cond.code y_Decimal_parse prog_2_method_2_code 3 (some .boolean) ∈ gT := List.mem_append_right _ (List.mem_append_right _ (List.mem_append_right _ (List.mem_append_right _ (List.mem_append_left _ (List.mem_of_getElem? (l := gT_4) (i := 14) rfl)))))
theorem m_255 : Cond.methodLink "DecimalDesk$Decimal" 24 y_Natural_set ∈ gT := List.mem_append_right _ (List.mem_append_right _ (List.mem_append_right _ (List.mem_append_right _ (List.mem_append_left _ (List.mem_of_getElem? (l := gT_4) (i := 15) rfl)))))
theorem m_256 : Cond.instanceMethod y_Natural_set ∈ gT := List.mem_append_right _ (List.mem_append_right _ (List.mem_append_right _ (List.mem_append_right _ (List.mem_append_left _ (List.mem_of_getElem? (l := gT_4) (i := 16) rfl)))))
theorem m_257 : Cond.selects "DecimalDesk$Natural" y_Natural_set y_Natural_set ∈ gT := List.mem_append_right _ (List.mem_append_right _ (List.mem_append_right _ (List.mem_append_right _ (List.mem_append_left _ (List.mem_of_getElem? (l := gT_4) (i := 17) rfl)))))
theorem m_258 : Cond.code y_Natural_set prog_4_method_2_code 4 none ∈ gT := List.mem_append_right _ (List.mem_append_right _ (List.mem_append_right _ (List.mem_append_right _ (List.mem_append_left _ (List.mem_of_getElem? (l := gT_4) (i := 18) rfl)))))
theorem m_259 : Cond.methodLink "DecimalDesk$Decimal" 28 y_Tape_at ∈ gT := List.mem_append_right _ (List.mem_append_right _ (List.mem_append_right _ (List.mem_append_right _ (List.mem_append_left _ (List.mem_of_getElem? (l := gT_4) (i := 19) rfl)))))
theorem m_260 : Cond.instanceMethod y_Tape_at ∈ gT := List.mem_append_right _ (List.mem_append_right _ (List.mem_append_right _ (List.mem_append_right _ (List.mem_append_left _ (List.mem_of_getElem? (l := gT_4) (i := 20) rfl)))))
theorem m_261 : Cond.selects "DecimalDesk$Tape" y_Tape_at y_Tape_at ∈ gT := List.mem_append_right _ (List.mem_append_right _ (List.mem_append_right _ (List.mem_append_right _ (List.mem_append_left _ (List.mem_of_getElem? (l := gT_4) (i := 21) rfl)))))
theorem m_262 : Cond.code y_Tape_at prog_7_method_4_code 2 (some .int) ∈ gT := List.mem_append_right _ (List.mem_append_right _ (List.mem_append_right _ (List.mem_append_right _ (List.mem_append_left _ (List.mem_of_getElem? (l := gT_4) (i := 22) rfl)))))
theorem m_263 : Cond.methodLink "DecimalDesk$Decimal" 34 y_Decimal_takeDigits ∈ gT := List.mem_append_right _ (List.mem_append_right _ (List.mem_append_right _ (List.mem_append_right _ (List.mem_append_left _ (List.mem_of_getElem? (l := gT_4) (i := 23) rfl)))))
theorem m_264 : Cond.instanceMethod y_Decimal_takeDigits ∈ gT := List.mem_append_right _ (List.mem_append_right _ (List.mem_append_right _ (List.mem_append_right _ (List.mem_append_left _ (List.mem_of_getElem? (l := gT_4) (i := 24) rfl)))))
theorem m_265 : Cond.code y_Decimal_takeDigits prog_2_method_3_code 7 (some .int) ∈ gT := List.mem_append_right _ (List.mem_append_right _ (List.mem_append_right _ (List.mem_append_right _ (List.mem_append_left _ (List.mem_of_getElem? (l := gT_4) (i := 25) rfl)))))
theorem m_266 : Cond.methodLink "DecimalDesk$Decimal" 42 y_Decimal_isDigit ∈ gT := List.mem_append_right _ (List.mem_append_right _ (List.mem_append_right _ (List.mem_append_right _ (List.mem_append_left _ (List.mem_of_getElem? (l := gT_4) (i := 26) rfl)))))
theorem m_267 : Cond.static y_Decimal_isDigit ∈ gT := List.mem_append_right _ (List.mem_append_right _ (List.mem_append_right _ (List.mem_append_right _ (List.mem_append_left _ (List.mem_of_getElem? (l := gT_4) (i := 27) rfl)))))
theorem m_268 : Cond.code y_Decimal_isDigit prog_2_method_5_code 1 (some .boolean) ∈ gT := List.mem_append_right _ (List.mem_append_right _ (List.mem_append_right _ (List.mem_append_right _ (List.mem_append_left _ (List.mem_of_getElem? (l := gT_4) (i := 28) rfl)))))
theorem m_269 : Cond.methodLink "DecimalDesk$Decimal" 46 y_Natural_timesPlus ∈ gT := List.mem_append_right _ (List.mem_append_right _ (List.mem_append_right _ (List.mem_append_right _ (List.mem_append_left _ (List.mem_of_getElem? (l := gT_4) (i := 29) rfl)))))
theorem m_270 : Cond.instanceMethod y_Natural_timesPlus ∈ gT := List.mem_append_right _ (List.mem_append_right _ (List.mem_append_right _ (List.mem_append_right _ (List.mem_append_left _ (List.mem_of_getElem? (l := gT_4) (i := 30) rfl)))))
theorem m_271 : Cond.selects "DecimalDesk$Natural" y_Natural_timesPlus y_Natural_timesPlus ∈ gT := List.mem_append_right _ (List.mem_append_right _ (List.mem_append_right _ (List.mem_append_right _ (List.mem_append_left _ (List.mem_of_getElem? (l := gT_4) (i := 31) rfl)))))
theorem m_272 : Cond.code y_Natural_timesPlus prog_4_method_9_code 6 none ∈ gT := List.mem_append_right _ (List.mem_append_right _ (List.mem_append_right _ (List.mem_append_right _ (List.mem_append_left _ (List.mem_of_getElem? (l := gT_4) (i := 32) rfl)))))
theorem m_273 : Cond.constantLong "DecimalDesk$Natural" 13 4294967295 ∈ gT := List.mem_append_right _ (List.mem_append_right _ (List.mem_append_right _ (List.mem_append_right _ (List.mem_append_left _ (List.mem_of_getElem? (l := gT_4) (i := 33) rfl)))))
theorem m_274 : Cond.methodLink "DecimalDesk$Decimal" 38 y_Decimal_takePower ∈ gT := List.mem_append_right _ (List.mem_append_right _ (List.mem_append_right _ (List.mem_append_right _ (List.mem_append_left _ (List.mem_of_getElem? (l := gT_4) (i := 34) rfl)))))
theorem m_275 : Cond.instanceMethod y_Decimal_takePower ∈ gT := List.mem_append_right _ (List.mem_append_right _ (List.mem_append_right _ (List.mem_append_right _ (List.mem_append_left _ (List.mem_of_getElem? (l := gT_4) (i := 35) rfl)))))
theorem m_276 : Cond.code y_Decimal_takePower prog_2_method_4_code 7 (some .boolean) ∈ gT := List.mem_append_right _ (List.mem_append_right _ (List.mem_append_right _ (List.mem_append_right _ (List.mem_append_left _ (List.mem_of_getElem? (l := gT_4) (i := 36) rfl)))))
theorem m_277 : Cond.methodLink "DecimalDesk" 79 y_Tape_wipe ∈ gT := List.mem_append_right _ (List.mem_append_right _ (List.mem_append_right _ (List.mem_append_right _ (List.mem_append_left _ (List.mem_of_getElem? (l := gT_4) (i := 37) rfl)))))
theorem m_278 : Cond.instanceMethod y_Tape_wipe ∈ gT := List.mem_append_right _ (List.mem_append_right _ (List.mem_append_right _ (List.mem_append_right _ (List.mem_append_left _ (List.mem_of_getElem? (l := gT_4) (i := 38) rfl)))))
theorem m_279 : Cond.selects "DecimalDesk$Tape" y_Tape_wipe y_Tape_wipe ∈ gT := List.mem_append_right _ (List.mem_append_right _ (List.mem_append_right _ (List.mem_append_right _ (List.mem_append_left _ (List.mem_of_getElem? (l := gT_4) (i := 39) rfl)))))
theorem m_280 : Cond.code y_Tape_wipe prog_7_method_3_code 1 none ∈ gT := List.mem_append_right _ (List.mem_append_right _ (List.mem_append_right _ (List.mem_append_right _ (List.mem_append_left _ (List.mem_of_getElem? (l := gT_4) (i := 40) rfl)))))
theorem m_281 : Cond.classLink "DecimalDesk" 82 "java/lang/IllegalArgumentException" ∈ gT := List.mem_append_right _ (List.mem_append_right _ (List.mem_append_right _ (List.mem_append_right _ (List.mem_append_left _ (List.mem_of_getElem? (l := gT_4) (i := 41) rfl)))))
theorem m_282 : Cond.instantiable "java/lang/IllegalArgumentException" 6 ∈ gT := List.mem_append_right _ (List.mem_append_right _ (List.mem_append_right _ (List.mem_append_right _ (List.mem_append_left _ (List.mem_of_getElem? (l := gT_4) (i := 42) rfl)))))
theorem m_283 : Cond.selects "java/lang/IllegalArgumentException" y_Throwable_fillInStackTraceI y_Throwable_fillInStackTraceI ∈ gT := List.mem_append_right _ (List.mem_append_right _ (List.mem_append_right _ (List.mem_append_right _ (List.mem_append_left _ (List.mem_of_getElem? (l := gT_4) (i := 43) rfl)))))
theorem m_284 : Cond.selects "java/lang/IllegalArgumentException" y_Throwable_fillInStackTrace y_Throwable_fillInStackTrace ∈ gT := List.mem_append_right _ (List.mem_append_right _ (List.mem_append_right _ (List.mem_append_right _ (List.mem_append_left _ (List.mem_of_getElem? (l := gT_4) (i := 44) rfl)))))
theorem m_285 : Cond.lays "java/lang/IllegalArgumentException" "java/lang/Throwable" "cause" "Ljava/lang/Throwable;" ∈ gT := List.mem_append_right _ (List.mem_append_right _ (List.mem_append_right _ (List.mem_append_right _ (List.mem_append_left _ (List.mem_of_getElem? (l := gT_4) (i := 45) rfl)))))
theorem m_286 : Cond.lays "java/lang/Throwable" "java/lang/Throwable" "cause" "Ljava/lang/Throwable;" ∈ gT := List.mem_append_right _ (List.mem_append_right _ (List.mem_append_right _ (List.mem_append_right _ (List.mem_append_left _ (List.mem_of_getElem? (l := gT_4) (i := 46) rfl)))))
theorem m_287 : Cond.lays "java/lang/IllegalArgumentException" "java/lang/Throwable" "stackTrace" "[Ljava/lang/StackTraceElement;" ∈ gT := List.mem_append_right _ (List.mem_append_right _ (List.mem_append_right _ (List.mem_append_right _ (List.mem_append_left _ (List.mem_of_getElem? (l := gT_4) (i := 47) rfl)))))
theorem m_288 : Cond.lays "java/lang/Throwable" "java/lang/Throwable" "stackTrace" "[Ljava/lang/StackTraceElement;" ∈ gT := List.mem_append_right _ (List.mem_append_right _ (List.mem_append_right _ (List.mem_append_right _ (List.mem_append_left _ (List.mem_of_getElem? (l := gT_4) (i := 48) rfl)))))
theorem m_289 : Cond.lays "java/lang/IllegalArgumentException" "java/lang/Throwable" "suppressedExceptions" "Ljava/util/List;" ∈ gT := List.mem_append_right _ (List.mem_append_right _ (List.mem_append_right _ (List.mem_append_right _ (List.mem_append_left _ (List.mem_of_getElem? (l := gT_4) (i := 49) rfl)))))
theorem m_290 : Cond.lays "java/lang/Throwable" "java/lang/Throwable" "suppressedExceptions" "Ljava/util/List;" ∈ gT := List.mem_append_right _ (List.mem_append_right _ (List.mem_append_right _ (List.mem_append_right _ (List.mem_append_left _ (List.mem_of_getElem? (l := gT_4) (i := 50) rfl)))))
theorem m_291 : Cond.lays "java/lang/IllegalArgumentException" "java/lang/Throwable" "detailMessage" "Ljava/lang/String;" ∈ gT := List.mem_append_right _ (List.mem_append_right _ (List.mem_append_right _ (List.mem_append_right _ (List.mem_append_left _ (List.mem_of_getElem? (l := gT_4) (i := 51) rfl)))))
theorem m_292 : Cond.lays "java/lang/Throwable" "java/lang/Throwable" "detailMessage" "Ljava/lang/String;" ∈ gT := List.mem_append_right _ (List.mem_append_right _ (List.mem_append_right _ (List.mem_append_right _ (List.mem_append_left _ (List.mem_of_getElem? (l := gT_4) (i := 52) rfl)))))
theorem m_293 : Cond.lays "java/lang/IllegalArgumentException" "java/lang/Throwable" "backtrace" "Ljava/lang/Object;" ∈ gT := List.mem_append_right _ (List.mem_append_right _ (List.mem_append_right _ (List.mem_append_right _ (List.mem_append_left _ (List.mem_of_getElem? (l := gT_4) (i := 53) rfl)))))
theorem m_294 : Cond.lays "java/lang/Throwable" "java/lang/Throwable" "backtrace" "Ljava/lang/Object;" ∈ gT := List.mem_append_right _ (List.mem_append_right _ (List.mem_append_right _ (List.mem_append_right _ (List.mem_append_left _ (List.mem_of_getElem? (l := gT_4) (i := 54) rfl)))))
theorem m_295 : Cond.fieldLink "java/lang/Throwable" 198 "java/lang/Throwable" "backtrace" "Ljava/lang/Object;" ∈ gT := List.mem_append_right _ (List.mem_append_right _ (List.mem_append_right _ (List.mem_append_right _ (List.mem_append_left _ (List.mem_of_getElem? (l := gT_4) (i := 55) rfl)))))
theorem m_296 : Cond.instanceMethod ⟨"java/lang/Throwable", "<init>", "()V"⟩ ∈ gT := List.mem_append_right _ (List.mem_append_right _ (List.mem_append_right _ (List.mem_append_right _ (List.mem_append_left _ (List.mem_of_getElem? (l := gT_4) (i := 56) rfl)))))
theorem m_297 : Cond.code ⟨"java/lang/Throwable", "<init>", "()V"⟩ prog_18_method_1_code 1 none ∈ gT := List.mem_append_right _ (List.mem_append_right _ (List.mem_append_right _ (List.mem_append_right _ (List.mem_append_left _ (List.mem_of_getElem? (l := gT_4) (i := 57) rfl)))))
theorem m_298 : Cond.methodLink "java/lang/Throwable" 1 objectInit ∈ gT := List.mem_append_right _ (List.mem_append_right _ (List.mem_append_right _ (List.mem_append_right _ (List.mem_append_left _ (List.mem_of_getElem? (l := gT_4) (i := 58) rfl)))))
theorem m_299 : Cond.fieldLink "java/lang/Throwable" 13 "java/lang/Throwable" "UNASSIGNED_STACK" "[Ljava/lang/StackTraceElement;" ∈ gT := List.mem_append_right _ (List.mem_append_right _ (List.mem_append_right _ (List.mem_append_right _ (List.mem_append_left _ (List.mem_of_getElem? (l := gT_4) (i := 59) rfl)))))
theorem m_300 : Cond.fieldLink "java/lang/Throwable" 20 "java/lang/Throwable" "SUPPRESSED_SENTINEL" "Ljava/util/List;" ∈ gT := List.mem_append_right _ (List.mem_append_right _ (List.mem_append_right _ (List.mem_append_right _ (List.mem_append_right _ (List.mem_append_left _ (List.mem_of_getElem? (l := gT_5) (i := 0) rfl))))))
theorem m_301 : Cond.methodLink "java/lang/Throwable" 27 y_Throwable_fillInStackTrace ∈ gT := List.mem_append_right _ (List.mem_append_right _ (List.mem_append_right _ (List.mem_append_right _ (List.mem_append_right _ (List.mem_append_left _ (List.mem_of_getElem? (l := gT_5) (i := 1) rfl))))))
theorem m_302 : Cond.instanceMethod y_Throwable_fillInStackTrace ∈ gT := List.mem_append_right _ (List.mem_append_right _ (List.mem_append_right _ (List.mem_append_right _ (List.mem_append_right _ (List.mem_append_left _ (List.mem_of_getElem? (l := gT_5) (i := 2) rfl))))))
theorem m_303 : Cond.selects "java/util/NoSuchElementException" y_Throwable_fillInStackTrace y_Throwable_fillInStackTrace ∈ gT := List.mem_append_right _ (List.mem_append_right _ (List.mem_append_right _ (List.mem_append_right _ (List.mem_append_right _ (List.mem_append_left _ (List.mem_of_getElem? (l := gT_5) (i := 3) rfl))))))
theorem m_304 : Cond.methodLink "java/lang/Throwable" 202 y_Throwable_fillInStackTraceI ∈ gT := List.mem_append_right _ (List.mem_append_right _ (List.mem_append_right _ (List.mem_append_right _ (List.mem_append_right _ (List.mem_append_left _ (List.mem_of_getElem? (l := gT_5) (i := 4) rfl))))))
theorem m_305 : Cond.instanceMethod y_Throwable_fillInStackTraceI ∈ gT := List.mem_append_right _ (List.mem_append_right _ (List.mem_append_right _ (List.mem_append_right _ (List.mem_append_right _ (List.mem_append_left _ (List.mem_of_getElem? (l := gT_5) (i := 5) rfl))))))
theorem m_306 : Cond.instantiable "java/lang/Throwable" 6 ∈ gT := List.mem_append_right _ (List.mem_append_right _ (List.mem_append_right _ (List.mem_append_right _ (List.mem_append_right _ (List.mem_append_left _ (List.mem_of_getElem? (l := gT_5) (i := 6) rfl))))))
theorem m_307 : Cond.methodLink "DecimalDesk" 86 y_IllegalArg_init ∈ gT := List.mem_append_right _ (List.mem_append_right _ (List.mem_append_right _ (List.mem_append_right _ (List.mem_append_right _ (List.mem_append_left _ (List.mem_of_getElem? (l := gT_5) (i := 7) rfl))))))
theorem m_308 : Cond.instanceMethod y_IllegalArg_init ∈ gT := List.mem_append_right _ (List.mem_append_right _ (List.mem_append_right _ (List.mem_append_right _ (List.mem_append_right _ (List.mem_append_left _ (List.mem_of_getElem? (l := gT_5) (i := 8) rfl))))))
theorem m_309 : Cond.code y_IllegalArg_init prog_12_method_2_code 2 none ∈ gT := List.mem_append_right _ (List.mem_append_right _ (List.mem_append_right _ (List.mem_append_right _ (List.mem_append_right _ (List.mem_append_left _ (List.mem_of_getElem? (l := gT_5) (i := 9) rfl))))))
theorem m_310 : Cond.methodLink "java/lang/IllegalArgumentException" 7 y_RuntimeEx_init ∈ gT := List.mem_append_right _ (List.mem_append_right _ (List.mem_append_right _ (List.mem_append_right _ (List.mem_append_right _ (List.mem_append_left _ (List.mem_of_getElem? (l := gT_5) (i := 10) rfl))))))
theorem m_311 : Cond.instanceMethod y_RuntimeEx_init ∈ gT := List.mem_append_right _ (List.mem_append_right _ (List.mem_append_right _ (List.mem_append_right _ (List.mem_append_right _ (List.mem_append_left _ (List.mem_of_getElem? (l := gT_5) (i := 11) rfl))))))
theorem m_312 : Cond.code y_RuntimeEx_init prog_16_method_2_code 2 none ∈ gT := List.mem_append_right _ (List.mem_append_right _ (List.mem_append_right _ (List.mem_append_right _ (List.mem_append_right _ (List.mem_append_left _ (List.mem_of_getElem? (l := gT_5) (i := 12) rfl))))))
theorem m_313 : Cond.methodLink "java/lang/RuntimeException" 7 y_Exception_init ∈ gT := List.mem_append_right _ (List.mem_append_right _ (List.mem_append_right _ (List.mem_append_right _ (List.mem_append_right _ (List.mem_append_left _ (List.mem_of_getElem? (l := gT_5) (i := 13) rfl))))))
theorem m_314 : Cond.instanceMethod y_Exception_init ∈ gT := List.mem_append_right _ (List.mem_append_right _ (List.mem_append_right _ (List.mem_append_right _ (List.mem_append_right _ (List.mem_append_left _ (List.mem_of_getElem? (l := gT_5) (i := 14) rfl))))))
theorem m_315 : Cond.code y_Exception_init prog_11_method_2_code 2 none ∈ gT := List.mem_append_right _ (List.mem_append_right _ (List.mem_append_right _ (List.mem_append_right _ (List.mem_append_right _ (List.mem_append_left _ (List.mem_of_getElem? (l := gT_5) (i := 15) rfl))))))
theorem m_316 : Cond.methodLink "java/lang/Exception" 7 y_Throwable_init ∈ gT := List.mem_append_right _ (List.mem_append_right _ (List.mem_append_right _ (List.mem_append_right _ (List.mem_append_right _ (List.mem_append_left _ (List.mem_of_getElem? (l := gT_5) (i := 16) rfl))))))
theorem m_317 : Cond.instanceMethod y_Throwable_init ∈ gT := List.mem_append_right _ (List.mem_append_right _ (List.mem_append_right _ (List.mem_append_right _ (List.mem_append_right _ (List.mem_append_left _ (List.mem_of_getElem? (l := gT_5) (i := 17) rfl))))))
theorem m_318 : Cond.code y_Throwable_init prog_18_method_2_code 2 none ∈ gT := List.mem_append_right _ (List.mem_append_right _ (List.mem_append_right _ (List.mem_append_right _ (List.mem_append_right _ (List.mem_append_left _ (List.mem_of_getElem? (l := gT_5) (i := 18) rfl))))))
theorem m_320 : Cond.fieldLink "java/lang/Throwable" 31 "java/lang/Throwable" "detailMessage" "Ljava/lang/String;" ∈ gT := List.mem_append_right _ (List.mem_append_right _ (List.mem_append_right _ (List.mem_append_right _ (List.mem_append_right _ (List.mem_append_left _ (List.mem_of_getElem? (l := gT_5) (i := 20) rfl))))))
theorem m_321 : Cond.fieldLink "java/lang/Throwable" 7 "java/lang/Throwable" "cause" "Ljava/lang/Throwable;" ∈ gT := List.mem_append_right _ (List.mem_append_right _ (List.mem_append_right _ (List.mem_append_right _ (List.mem_append_right _ (List.mem_append_left _ (List.mem_of_getElem? (l := gT_5) (i := 21) rfl))))))
theorem m_322 : Cond.fieldLink "java/lang/Throwable" 17 "java/lang/Throwable" "stackTrace" "[Ljava/lang/StackTraceElement;" ∈ gT := List.mem_append_right _ (List.mem_append_right _ (List.mem_append_right _ (List.mem_append_right _ (List.mem_append_right _ (List.mem_append_left _ (List.mem_of_getElem? (l := gT_5) (i := 22) rfl))))))
theorem m_323 : Cond.fieldLink "java/lang/Throwable" 24 "java/lang/Throwable" "suppressedExceptions" "Ljava/util/List;" ∈ gT := List.mem_append_right _ (List.mem_append_right _ (List.mem_append_right _ (List.mem_append_right _ (List.mem_append_right _ (List.mem_append_left _ (List.mem_of_getElem? (l := gT_5) (i := 23) rfl))))))
theorem m_324 : Cond.lays "java/lang/IllegalArgumentException" "java/lang/Throwable" "depth" "I" ∈ gT := List.mem_append_right _ (List.mem_append_right _ (List.mem_append_right _ (List.mem_append_right _ (List.mem_append_right _ (List.mem_append_left _ (List.mem_of_getElem? (l := gT_5) (i := 24) rfl))))))
theorem m_325 : Cond.methodLink "DecimalDesk" 89 y_Rounder_round ∈ gT := List.mem_append_right _ (List.mem_append_right _ (List.mem_append_right _ (List.mem_append_right _ (List.mem_append_right _ (List.mem_append_left _ (List.mem_of_getElem? (l := gT_5) (i := 25) rfl))))))
theorem m_326 : Cond.instanceMethod y_Rounder_round ∈ gT := List.mem_append_right _ (List.mem_append_right _ (List.mem_append_right _ (List.mem_append_right _ (List.mem_append_right _ (List.mem_append_left _ (List.mem_of_getElem? (l := gT_5) (i := 26) rfl))))))
theorem m_327 : Cond.selects "DecimalDesk$Rounder" y_Rounder_round y_Rounder_round ∈ gT := List.mem_append_right _ (List.mem_append_right _ (List.mem_append_right _ (List.mem_append_right _ (List.mem_append_right _ (List.mem_append_left _ (List.mem_of_getElem? (l := gT_5) (i := 27) rfl))))))
theorem m_328 : Cond.code y_Rounder_round prog_5_method_2_code 12 none ∈ gT := List.mem_append_right _ (List.mem_append_right _ (List.mem_append_right _ (List.mem_append_right _ (List.mem_append_right _ (List.mem_append_left _ (List.mem_of_getElem? (l := gT_5) (i := 28) rfl))))))
theorem m_329 : Cond.methodLink "DecimalDesk$Rounder" 37 y_Natural_isZero ∈ gT := List.mem_append_right _ (List.mem_append_right _ (List.mem_append_right _ (List.mem_append_right _ (List.mem_append_right _ (List.mem_append_left _ (List.mem_of_getElem? (l := gT_5) (i := 29) rfl))))))
theorem m_330 : Cond.instanceMethod y_Natural_isZero ∈ gT := List.mem_append_right _ (List.mem_append_right _ (List.mem_append_right _ (List.mem_append_right _ (List.mem_append_right _ (List.mem_append_left _ (List.mem_of_getElem? (l := gT_5) (i := 30) rfl))))))
theorem m_331 : Cond.selects "DecimalDesk$Natural" y_Natural_isZero y_Natural_isZero ∈ gT := List.mem_append_right _ (List.mem_append_right _ (List.mem_append_right _ (List.mem_append_right _ (List.mem_append_right _ (List.mem_append_left _ (List.mem_of_getElem? (l := gT_5) (i := 31) rfl))))))
theorem m_332 : Cond.code y_Natural_isZero prog_4_method_4_code 2 (some .boolean) ∈ gT := List.mem_append_right _ (List.mem_append_right _ (List.mem_append_right _ (List.mem_append_right _ (List.mem_append_right _ (List.mem_append_left _ (List.mem_of_getElem? (l := gT_5) (i := 32) rfl))))))
theorem m_333 : Cond.methodLink "DecimalDesk$Rounder" 41 y_Rounder_setFraction ∈ gT := List.mem_append_right _ (List.mem_append_right _ (List.mem_append_right _ (List.mem_append_right _ (List.mem_append_right _ (List.mem_append_left _ (List.mem_of_getElem? (l := gT_5) (i := 33) rfl))))))
theorem m_334 : Cond.instanceMethod y_Rounder_setFraction ∈ gT := List.mem_append_right _ (List.mem_append_right _ (List.mem_append_right _ (List.mem_append_right _ (List.mem_append_right _ (List.mem_append_left _ (List.mem_of_getElem? (l := gT_5) (i := 34) rfl))))))
theorem m_335 : Cond.code y_Rounder_setFraction prog_5_method_3_code 3 none ∈ gT := List.mem_append_right _ (List.mem_append_right _ (List.mem_append_right _ (List.mem_append_right _ (List.mem_append_right _ (List.mem_append_left _ (List.mem_of_getElem? (l := gT_5) (i := 35) rfl))))))
theorem m_336 : Cond.methodLink "DecimalDesk$Rounder" 58 y_Math_max ∈ gT := List.mem_append_right _ (List.mem_append_right _ (List.mem_append_right _ (List.mem_append_right _ (List.mem_append_right _ (List.mem_append_left _ (List.mem_of_getElem? (l := gT_5) (i := 36) rfl))))))
theorem m_337 : Cond.static y_Math_max ∈ gT := List.mem_append_right _ (List.mem_append_right _ (List.mem_append_right _ (List.mem_append_right _ (List.mem_append_right _ (List.mem_append_left _ (List.mem_of_getElem? (l := gT_5) (i := 37) rfl))))))
theorem m_338 : Cond.code y_Math_max prog_15_method_65_code 2 (some .int) ∈ gT := List.mem_append_right _ (List.mem_append_right _ (List.mem_append_right _ (List.mem_append_right _ (List.mem_append_right _ (List.mem_append_left _ (List.mem_of_getElem? (l := gT_5) (i := 38) rfl))))))
theorem m_339 : Cond.methodLink "DecimalDesk$Rounder" 85 y_Math_min ∈ gT := List.mem_append_right _ (List.mem_append_right _ (List.mem_append_right _ (List.mem_append_right _ (List.mem_append_right _ (List.mem_append_left _ (List.mem_of_getElem? (l := gT_5) (i := 39) rfl))))))
theorem m_340 : Cond.static y_Math_min ∈ gT := List.mem_append_right _ (List.mem_append_right _ (List.mem_append_right _ (List.mem_append_right _ (List.mem_append_right _ (List.mem_append_left _ (List.mem_of_getElem? (l := gT_5) (i := 40) rfl))))))
theorem m_341 : Cond.code y_Math_min prog_15_method_69_code 2 (some .int) ∈ gT := List.mem_append_right _ (List.mem_append_right _ (List.mem_append_right _ (List.mem_append_right _ (List.mem_append_right _ (List.mem_append_left _ (List.mem_of_getElem? (l := gT_5) (i := 41) rfl))))))
theorem m_342 : Cond.methodLink "DecimalDesk$Rounder" 88 y_Natural_copy ∈ gT := List.mem_append_right _ (List.mem_append_right _ (List.mem_append_right _ (List.mem_append_right _ (List.mem_append_right _ (List.mem_append_left _ (List.mem_of_getElem? (l := gT_5) (i := 42) rfl))))))
theorem m_343 : Cond.instanceMethod y_Natural_copy ∈ gT := List.mem_append_right _ (List.mem_append_right _ (List.mem_append_right _ (List.mem_append_right _ (List.mem_append_right _ (List.mem_append_left _ (List.mem_of_getElem? (l := gT_5) (i := 43) rfl))))))
theorem m_344 : Cond.selects "DecimalDesk$Natural" y_Natural_copy y_Natural_copy ∈ gT := List.mem_append_right _ (List.mem_append_right _ (List.mem_append_right _ (List.mem_append_right _ (List.mem_append_right _ (List.mem_append_left _ (List.mem_of_getElem? (l := gT_5) (i := 44) rfl))))))
theorem m_345 : Cond.code y_Natural_copy prog_4_method_3_code 3 none ∈ gT := List.mem_append_right _ (List.mem_append_right _ (List.mem_append_right _ (List.mem_append_right _ (List.mem_append_right _ (List.mem_append_left _ (List.mem_of_getElem? (l := gT_5) (i := 45) rfl))))))
theorem m_346 : Cond.methodLink "DecimalDesk$Rounder" 92 y_Natural_set ∈ gT := List.mem_append_right _ (List.mem_append_right _ (List.mem_append_right _ (List.mem_append_right _ (List.mem_append_right _ (List.mem_append_left _ (List.mem_of_getElem? (l := gT_5) (i := 46) rfl))))))
theorem m_347 : Cond.methodLink "DecimalDesk$Rounder" 96 y_Natural_timesPowerOfTen ∈ gT := List.mem_append_right _ (List.mem_append_right _ (List.mem_append_right _ (List.mem_append_right _ (List.mem_append_right _ (List.mem_append_left _ (List.mem_of_getElem? (l := gT_5) (i := 47) rfl))))))
theorem m_348 : Cond.instanceMethod y_Natural_timesPowerOfTen ∈ gT := List.mem_append_right _ (List.mem_append_right _ (List.mem_append_right _ (List.mem_append_right _ (List.mem_append_right _ (List.mem_append_left _ (List.mem_of_getElem? (l := gT_5) (i := 48) rfl))))))
theorem m_349 : Cond.selects "DecimalDesk$Natural" y_Natural_timesPowerOfTen y_Natural_timesPowerOfTen ∈ gT := List.mem_append_right _ (List.mem_append_right _ (List.mem_append_right _ (List.mem_append_right _ (List.mem_append_right _ (List.mem_append_left _ (List.mem_of_getElem? (l := gT_5) (i := 49) rfl))))))
theorem m_350 : Cond.code y_Natural_timesPowerOfTen prog_4_method_10_code 2 none ∈ gT := List.mem_append_right _ (List.mem_append_right _ (List.mem_append_right _ (List.mem_append_right _ (List.mem_append_right _ (List.mem_append_left _ (List.mem_of_getElem? (l := gT_5) (i := 50) rfl))))))
theorem m_351 : Cond.methodLink "DecimalDesk$Natural" 21 y_Natural_timesPowerOfFive ∈ gT := List.mem_append_right _ (List.mem_append_right _ (List.mem_append_right _ (List.mem_append_right _ (List.mem_append_right _ (List.mem_append_left _ (List.mem_of_getElem? (l := gT_5) (i := 51) rfl))))))
theorem m_352 : Cond.instanceMethod y_Natural_timesPowerOfFive ∈ gT := List.mem_append_right _ (List.mem_append_right _ (List.mem_append_right _ (List.mem_append_right _ (List.mem_append_right _ (List.mem_append_left _ (List.mem_of_getElem? (l := gT_5) (i := 52) rfl))))))
theorem m_353 : Cond.selects "DecimalDesk$Natural" y_Natural_timesPowerOfFive y_Natural_timesPowerOfFive ∈ gT := List.mem_append_right _ (List.mem_append_right _ (List.mem_append_right _ (List.mem_append_right _ (List.mem_append_right _ (List.mem_append_left _ (List.mem_of_getElem? (l := gT_5) (i := 53) rfl))))))
theorem m_354 : Cond.code y_Natural_timesPowerOfFive prog_4_method_11_code 4 none ∈ gT := List.mem_append_right _ (List.mem_append_right _ (List.mem_append_right _ (List.mem_append_right _ (List.mem_append_right _ (List.mem_append_left _ (List.mem_of_getElem? (l := gT_5) (i := 54) rfl))))))
theorem m_355 : Cond.constant "DecimalDesk$Natural" 28 1220703125 ∈ gT := List.mem_append_right _ (List.mem_append_right _ (List.mem_append_right _ (List.mem_append_right _ (List.mem_append_right _ (List.mem_append_left _ (List.mem_of_getElem? (l := gT_5) (i := 55) rfl))))))
theorem m_356 : Cond.methodLink "DecimalDesk$Natural" 29 y_Natural_timesPlus ∈ gT := List.mem_append_right _ (List.mem_append_right _ (List.mem_append_right _ (List.mem_append_right _ (List.mem_append_right _ (List.mem_append_left _ (List.mem_of_getElem? (l := gT_5) (i := 56) rfl))))))
theorem m_357 : Cond.methodLink "DecimalDesk$Natural" 25 y_Natural_shiftLeft ∈ gT := List.mem_append_right _ (List.mem_append_right _ (List.mem_append_right _ (List.mem_append_right _ (List.mem_append_right _ (List.mem_append_left _ (List.mem_of_getElem? (l := gT_5) (i := 57) rfl))))))
theorem m_358 : Cond.instanceMethod y_Natural_shiftLeft ∈ gT := List.mem_append_right _ (List.mem_append_right _ (List.mem_append_right _ (List.mem_append_right _ (List.mem_append_right _ (List.mem_append_left _ (List.mem_of_getElem? (l := gT_5) (i := 58) rfl))))))
theorem m_359 : Cond.selects "DecimalDesk$Natural" y_Natural_shiftLeft y_Natural_shiftLeft ∈ gT := List.mem_append_right _ (List.mem_append_right _ (List.mem_append_right _ (List.mem_append_right _ (List.mem_append_right _ (List.mem_append_left _ (List.mem_of_getElem? (l := gT_5) (i := 59) rfl))))))
theorem m_360 : Cond.code y_Natural_shiftLeft prog_4_method_12_code 9 none ∈ gT := List.mem_append_right _ (List.mem_append_right _ (List.mem_append_right _ (List.mem_append_right _ (List.mem_append_right _ (List.mem_append_right _ (List.mem_append_left _ (List.mem_of_getElem? (l := gT_6) (i := 0) rfl)))))))
theorem m_361 : Cond.methodLink "DecimalDesk$Natural" 33 y_Natural_limbAt ∈ gT := List.mem_append_right _ (List.mem_append_right _ (List.mem_append_right _ (List.mem_append_right _ (List.mem_append_right _ (List.mem_append_right _ (List.mem_append_left _ (List.mem_of_getElem? (l := gT_6) (i := 1) rfl)))))))
theorem m_362 : Cond.instanceMethod y_Natural_limbAt ∈ gT := List.mem_append_right _ (List.mem_append_right _ (List.mem_append_right _ (List.mem_append_right _ (List.mem_append_right _ (List.mem_append_right _ (List.mem_append_left _ (List.mem_of_getElem? (l := gT_6) (i := 2) rfl)))))))
theorem m_363 : Cond.code y_Natural_limbAt prog_4_method_14_code 2 (some .long) ∈ gT := List.mem_append_right _ (List.mem_append_right _ (List.mem_append_right _ (List.mem_append_right _ (List.mem_append_right _ (List.mem_append_right _ (List.mem_append_left _ (List.mem_of_getElem? (l := gT_6) (i := 3) rfl)))))))
theorem m_364 : Cond.methodLink "DecimalDesk$Rounder" 45 y_Rounder_normalise ∈ gT := List.mem_append_right _ (List.mem_append_right _ (List.mem_append_right _ (List.mem_append_right _ (List.mem_append_right _ (List.mem_append_right _ (List.mem_append_left _ (List.mem_of_getElem? (l := gT_6) (i := 4) rfl)))))))
theorem m_365 : Cond.instanceMethod y_Rounder_normalise ∈ gT := List.mem_append_right _ (List.mem_append_right _ (List.mem_append_right _ (List.mem_append_right _ (List.mem_append_right _ (List.mem_append_right _ (List.mem_append_left _ (List.mem_of_getElem? (l := gT_6) (i := 5) rfl)))))))
theorem m_366 : Cond.code y_Rounder_normalise prog_5_method_4_code 2 (some .int) ∈ gT := List.mem_append_right _ (List.mem_append_right _ (List.mem_append_right _ (List.mem_append_right _ (List.mem_append_right _ (List.mem_append_right _ (List.mem_append_left _ (List.mem_of_getElem? (l := gT_6) (i := 6) rfl)))))))
theorem m_367 : Cond.methodLink "DecimalDesk$Rounder" 100 y_Natural_bitLength ∈ gT := List.mem_append_right _ (List.mem_append_right _ (List.mem_append_right _ (List.mem_append_right _ (List.mem_append_right _ (List.mem_append_right _ (List.mem_append_left _ (List.mem_of_getElem? (l := gT_6) (i := 7) rfl)))))))
theorem m_368 : Cond.instanceMethod y_Natural_bitLength ∈ gT := List.mem_append_right _ (List.mem_append_right _ (List.mem_append_right _ (List.mem_append_right _ (List.mem_append_right _ (List.mem_append_right _ (List.mem_append_left _ (List.mem_of_getElem? (l := gT_6) (i := 8) rfl)))))))
theorem m_369 : Cond.selects "DecimalDesk$Natural" y_Natural_bitLength y_Natural_bitLength ∈ gT := List.mem_append_right _ (List.mem_append_right _ (List.mem_append_right _ (List.mem_append_right _ (List.mem_append_right _ (List.mem_append_right _ (List.mem_append_left _ (List.mem_of_getElem? (l := gT_6) (i := 9) rfl)))))))
theorem m_370 : Cond.code y_Natural_bitLength prog_4_method_6_code 2 (some .int) ∈ gT := List.mem_append_right _ (List.mem_append_right _ (List.mem_append_right _ (List.mem_append_right _ (List.mem_append_right _ (List.mem_append_right _ (List.mem_append_left _ (List.mem_of_getElem? (l := gT_6) (i := 10) rfl)))))))
theorem m_371 : Cond.methodLink "DecimalDesk$Natural" 15 y_Integer_numberOfLeadingZeros ∈ gT := List.mem_append_right _ (List.mem_append_right _ (List.mem_append_right _ (List.mem_append_right _ (List.mem_append_right _ (List.mem_append_right _ (List.mem_append_left _ (List.mem_of_getElem? (l := gT_6) (i := 11) rfl)))))))
theorem m_372 : Cond.static y_Integer_numberOfLeadingZeros ∈ gT := List.mem_append_right _ (List.mem_append_right _ (List.mem_append_right _ (List.mem_append_right _ (List.mem_append_right _ (List.mem_append_right _ (List.mem_append_left _ (List.mem_of_getElem? (l := gT_6) (i := 12) rfl)))))))
theorem m_373 : Cond.code y_Integer_numberOfLeadingZeros prog_13_method_47_code 2 (some .int) ∈ gT := List.mem_append_right _ (List.mem_append_right _ (List.mem_append_right _ (List.mem_append_right _ (List.mem_append_right _ (List.mem_append_right _ (List.mem_append_left _ (List.mem_of_getElem? (l := gT_6) (i := 13) rfl)))))))
theorem m_374 : Cond.constant "java/lang/Integer" 264 65536 ∈ gT := List.mem_append_right _ (List.mem_append_right _ (List.mem_append_right _ (List.mem_append_right _ (List.mem_append_right _ (List.mem_append_right _ (List.mem_append_left _ (List.mem_of_getElem? (l := gT_6) (i := 14) rfl)))))))
theorem m_375 : Cond.methodLink "DecimalDesk$Rounder" 103 y_Natural_shiftLeft ∈ gT := List.mem_append_right _ (List.mem_append_right _ (List.mem_append_right _ (List.mem_append_right _ (List.mem_append_right _ (List.mem_append_right _ (List.mem_append_left _ (List.mem_of_getElem? (l := gT_6) (i := 15) rfl)))))))
theorem m_376 : Cond.methodLink "DecimalDesk$Rounder" 68 y_Natural_against ∈ gT := List.mem_append_right _ (List.mem_append_right _ (List.mem_append_right _ (List.mem_append_right _ (List.mem_append_right _ (List.mem_append_right _ (List.mem_append_left _ (List.mem_of_getElem? (l := gT_6) (i := 16) rfl)))))))
theorem m_377 : Cond.instanceMethod y_Natural_against ∈ gT := List.mem_append_right _ (List.mem_append_right _ (List.mem_append_right _ (List.mem_append_right _ (List.mem_append_right _ (List.mem_append_right _ (List.mem_append_left _ (List.mem_of_getElem? (l := gT_6) (i := 17) rfl)))))))
theorem m_378 : Cond.selects "DecimalDesk$Natural" y_Natural_against y_Natural_against ∈ gT := List.mem_append_right _ (List.mem_append_right _ (List.mem_append_right _ (List.mem_append_right _ (List.mem_append_right _ (List.mem_append_right _ (List.mem_append_left _ (List.mem_of_getElem? (l := gT_6) (i := 18) rfl)))))))
theorem m_379 : Cond.code y_Natural_against prog_4_method_5_code 3 (some .int) ∈ gT := List.mem_append_right _ (List.mem_append_right _ (List.mem_append_right _ (List.mem_append_right _ (List.mem_append_right _ (List.mem_append_right _ (List.mem_append_left _ (List.mem_of_getElem? (l := gT_6) (i := 19) rfl)))))))
theorem m_380 : Cond.methodLink "DecimalDesk$Rounder" 106 y_Natural_timesPlus ∈ gT := List.mem_append_right _ (List.mem_append_right _ (List.mem_append_right _ (List.mem_append_right _ (List.mem_append_right _ (List.mem_append_right _ (List.mem_append_left _ (List.mem_of_getElem? (l := gT_6) (i := 20) rfl)))))))
theorem m_381 : Cond.methodLink "DecimalDesk$Rounder" 49 y_Layout_lowestPower ∈ gT := List.mem_append_right _ (List.mem_append_right _ (List.mem_append_right _ (List.mem_append_right _ (List.mem_append_right _ (List.mem_append_right _ (List.mem_append_left _ (List.mem_of_getElem? (l := gT_6) (i := 21) rfl)))))))
theorem m_382 : Cond.instanceMethod y_Layout_lowestPower ∈ gT := List.mem_append_right _ (List.mem_append_right _ (List.mem_append_right _ (List.mem_append_right _ (List.mem_append_right _ (List.mem_append_right _ (List.mem_append_left _ (List.mem_of_getElem? (l := gT_6) (i := 22) rfl)))))))
theorem m_383 : Cond.selects "DecimalDesk$Layout" y_Layout_lowestPower y_Layout_lowestPower ∈ gT := List.mem_append_right _ (List.mem_append_right _ (List.mem_append_right _ (List.mem_append_right _ (List.mem_append_right _ (List.mem_append_right _ (List.mem_append_left _ (List.mem_of_getElem? (l := gT_6) (i := 23) rfl)))))))
theorem m_384 : Cond.code y_Layout_lowestPower prog_3_method_3_code 1 (some .int) ∈ gT := List.mem_append_right _ (List.mem_append_right _ (List.mem_append_right _ (List.mem_append_right _ (List.mem_append_right _ (List.mem_append_right _ (List.mem_append_left _ (List.mem_of_getElem? (l := gT_6) (i := 24) rfl)))))))
theorem m_385 : Cond.methodLink "DecimalDesk$Layout" 16 y_Layout_bias ∈ gT := List.mem_append_right _ (List.mem_append_right _ (List.mem_append_right _ (List.mem_append_right _ (List.mem_append_right _ (List.mem_append_right _ (List.mem_append_left _ (List.mem_of_getElem? (l := gT_6) (i := 25) rfl)))))))
theorem m_386 : Cond.instanceMethod y_Layout_bias ∈ gT := List.mem_append_right _ (List.mem_append_right _ (List.mem_append_right _ (List.mem_append_right _ (List.mem_append_right _ (List.mem_append_right _ (List.mem_append_left _ (List.mem_of_getElem? (l := gT_6) (i := 26) rfl)))))))
theorem m_387 : Cond.selects "DecimalDesk$Layout" y_Layout_bias y_Layout_bias ∈ gT := List.mem_append_right _ (List.mem_append_right _ (List.mem_append_right _ (List.mem_append_right _ (List.mem_append_right _ (List.mem_append_right _ (List.mem_append_left _ (List.mem_of_getElem? (l := gT_6) (i := 27) rfl)))))))
theorem m_388 : Cond.code y_Layout_bias prog_3_method_2_code 1 (some .int) ∈ gT := List.mem_append_right _ (List.mem_append_right _ (List.mem_append_right _ (List.mem_append_right _ (List.mem_append_right _ (List.mem_append_right _ (List.mem_append_left _ (List.mem_of_getElem? (l := gT_6) (i := 28) rfl)))))))
theorem m_389 : Cond.methodLink "DecimalDesk$Rounder" 64 y_Rounder_takeBits ∈ gT := List.mem_append_right _ (List.mem_append_right _ (List.mem_append_right _ (List.mem_append_right _ (List.mem_append_right _ (List.mem_append_right _ (List.mem_append_left _ (List.mem_of_getElem? (l := gT_6) (i := 29) rfl)))))))
theorem m_390 : Cond.instanceMethod y_Rounder_takeBits ∈ gT := List.mem_append_right _ (List.mem_append_right _ (List.mem_append_right _ (List.mem_append_right _ (List.mem_append_right _ (List.mem_append_right _ (List.mem_append_left _ (List.mem_of_getElem? (l := gT_6) (i := 30) rfl)))))))
theorem m_391 : Cond.code y_Rounder_takeBits prog_5_method_5_code 5 (some .long) ∈ gT := List.mem_append_right _ (List.mem_append_right _ (List.mem_append_right _ (List.mem_append_right _ (List.mem_append_right _ (List.mem_append_right _ (List.mem_append_left _ (List.mem_of_getElem? (l := gT_6) (i := 31) rfl)))))))
theorem m_392 : Cond.methodLink "DecimalDesk$Rounder" 110 y_Natural_subtract ∈ gT := List.mem_append_right _ (List.mem_append_right _ (List.mem_append_right _ (List.mem_append_right _ (List.mem_append_right _ (List.mem_append_right _ (List.mem_append_left _ (List.mem_of_getElem? (l := gT_6) (i := 32) rfl)))))))
theorem m_393 : Cond.instanceMethod y_Natural_subtract ∈ gT := List.mem_append_right _ (List.mem_append_right _ (List.mem_append_right _ (List.mem_append_right _ (List.mem_append_right _ (List.mem_append_right _ (List.mem_append_left _ (List.mem_of_getElem? (l := gT_6) (i := 33) rfl)))))))
theorem m_394 : Cond.selects "DecimalDesk$Natural" y_Natural_subtract y_Natural_subtract ∈ gT := List.mem_append_right _ (List.mem_append_right _ (List.mem_append_right _ (List.mem_append_right _ (List.mem_append_right _ (List.mem_append_right _ (List.mem_append_left _ (List.mem_of_getElem? (l := gT_6) (i := 34) rfl)))))))
theorem m_395 : Cond.code y_Natural_subtract prog_4_method_8_code 5 none ∈ gT := List.mem_append_right _ (List.mem_append_right _ (List.mem_append_right _ (List.mem_append_right _ (List.mem_append_right _ (List.mem_append_right _ (List.mem_append_left _ (List.mem_of_getElem? (l := gT_6) (i := 35) rfl)))))))
theorem m_396 : Cond.methodLink "DecimalDesk$Rounder" 72 y_Layout_bias ∈ gT := List.mem_append_right _ (List.mem_append_right _ (List.mem_append_right _ (List.mem_append_right _ (List.mem_append_right _ (List.mem_append_right _ (List.mem_append_left _ (List.mem_of_getElem? (l := gT_6) (i := 36) rfl)))))))
theorem m_397 : Cond.methodLink "DecimalDesk$Rounder" 78 y_Rounder_goesFarther ∈ gT := List.mem_append_right _ (List.mem_append_right _ (List.mem_append_right _ (List.mem_append_right _ (List.mem_append_right _ (List.mem_append_right _ (List.mem_append_left _ (List.mem_of_getElem? (l := gT_6) (i := 37) rfl)))))))
theorem m_398 : Cond.static y_Rounder_goesFarther ∈ gT := List.mem_append_right _ (List.mem_append_right _ (List.mem_append_right _ (List.mem_append_right _ (List.mem_append_right _ (List.mem_append_right _ (List.mem_append_left _ (List.mem_of_getElem? (l := gT_6) (i := 38) rfl)))))))
theorem m_399 : Cond.code y_Rounder_goesFarther prog_5_method_6_code 4 (some .boolean) ∈ gT := List.mem_append_right _ (List.mem_append_right _ (List.mem_append_right _ (List.mem_append_right _ (List.mem_append_right _ (List.mem_append_right _ (List.mem_append_left _ (List.mem_of_getElem? (l := gT_6) (i := 39) rfl)))))))
theorem m_400 : Cond.methodLink "DecimalDesk" 105 y_Desk_sizeByOverflow ∈ gT := List.mem_append_right _ (List.mem_append_right _ (List.mem_append_right _ (List.mem_append_right _ (List.mem_append_right _ (List.mem_append_right _ (List.mem_append_left _ (List.mem_of_getElem? (l := gT_6) (i := 40) rfl)))))))
theorem m_401 : Cond.instanceMethod y_Desk_sizeByOverflow ∈ gT := List.mem_append_right _ (List.mem_append_right _ (List.mem_append_right _ (List.mem_append_right _ (List.mem_append_right _ (List.mem_append_right _ (List.mem_append_left _ (List.mem_of_getElem? (l := gT_6) (i := 41) rfl)))))))
theorem m_402 : Cond.code y_Desk_sizeByOverflow prog_1_method_12_code 3 (some .long) ∈ gT := List.mem_append_right _ (List.mem_append_right _ (List.mem_append_right _ (List.mem_append_right _ (List.mem_append_right _ (List.mem_append_right _ (List.mem_append_left _ (List.mem_of_getElem? (l := gT_6) (i := 42) rfl)))))))
theorem m_403 : Cond.methodLink "DecimalDesk" 109 y_Desk_raiseFlags ∈ gT := List.mem_append_right _ (List.mem_append_right _ (List.mem_append_right _ (List.mem_append_right _ (List.mem_append_right _ (List.mem_append_right _ (List.mem_append_left _ (List.mem_of_getElem? (l := gT_6) (i := 43) rfl)))))))
theorem m_404 : Cond.instanceMethod y_Desk_raiseFlags ∈ gT := List.mem_append_right _ (List.mem_append_right _ (List.mem_append_right _ (List.mem_append_right _ (List.mem_append_right _ (List.mem_append_right _ (List.mem_append_left _ (List.mem_of_getElem? (l := gT_6) (i := 44) rfl)))))))
theorem m_405 : Cond.code y_Desk_raiseFlags prog_1_method_13_code 2 none ∈ gT := List.mem_append_right _ (List.mem_append_right _ (List.mem_append_right _ (List.mem_append_right _ (List.mem_append_right _ (List.mem_append_right _ (List.mem_append_left _ (List.mem_of_getElem? (l := gT_6) (i := 45) rfl)))))))
theorem m_406 : Cond.methodLink "DecimalDeskLaw" 64 y_Law_shortest ∈ gT := List.mem_append_right _ (List.mem_append_right _ (List.mem_append_right _ (List.mem_append_right _ (List.mem_append_right _ (List.mem_append_right _ (List.mem_append_left _ (List.mem_of_getElem? (l := gT_6) (i := 46) rfl)))))))
theorem m_407 : Cond.static y_Law_shortest ∈ gT := List.mem_append_right _ (List.mem_append_right _ (List.mem_append_right _ (List.mem_append_right _ (List.mem_append_right _ (List.mem_append_right _ (List.mem_append_left _ (List.mem_of_getElem? (l := gT_6) (i := 47) rfl)))))))
theorem m_408 : Cond.methodLink "DecimalDeskLaw" 15 y_Desk_shortest ∈ gT := List.mem_append_right _ (List.mem_append_right _ (List.mem_append_right _ (List.mem_append_right _ (List.mem_append_right _ (List.mem_append_right _ (List.mem_append_left _ (List.mem_of_getElem? (l := gT_6) (i := 48) rfl)))))))
theorem m_409 : Cond.instanceMethod y_Desk_shortest ∈ gT := List.mem_append_right _ (List.mem_append_right _ (List.mem_append_right _ (List.mem_append_right _ (List.mem_append_right _ (List.mem_append_right _ (List.mem_append_left _ (List.mem_of_getElem? (l := gT_6) (i := 49) rfl)))))))
theorem m_410 : Cond.selects "DecimalDesk" y_Desk_shortest y_Desk_shortest ∈ gT := List.mem_append_right _ (List.mem_append_right _ (List.mem_append_right _ (List.mem_append_right _ (List.mem_append_right _ (List.mem_append_right _ (List.mem_append_left _ (List.mem_of_getElem? (l := gT_6) (i := 50) rfl)))))))
theorem m_411 : Cond.code y_Desk_shortest prog_1_method_8_code 3 (some .int) ∈ gT := List.mem_append_right _ (List.mem_append_right _ (List.mem_append_right _ (List.mem_append_right _ (List.mem_append_right _ (List.mem_append_right _ (List.mem_append_left _ (List.mem_of_getElem? (l := gT_6) (i := 51) rfl)))))))
theorem m_412 : Cond.methodLink "DecimalDesk" 122 y_Desk_tellNotFinite ∈ gT := List.mem_append_right _ (List.mem_append_right _ (List.mem_append_right _ (List.mem_append_right _ (List.mem_append_right _ (List.mem_append_right _ (List.mem_append_left _ (List.mem_of_getElem? (l := gT_6) (i := 52) rfl)))))))
theorem m_413 : Cond.instanceMethod y_Desk_tellNotFinite ∈ gT := List.mem_append_right _ (List.mem_append_right _ (List.mem_append_right _ (List.mem_append_right _ (List.mem_append_right _ (List.mem_append_right _ (List.mem_append_left _ (List.mem_of_getElem? (l := gT_6) (i := 53) rfl)))))))
theorem m_414 : Cond.code y_Desk_tellNotFinite prog_1_method_14_code 5 (some .boolean) ∈ gT := List.mem_append_right _ (List.mem_append_right _ (List.mem_append_right _ (List.mem_append_right _ (List.mem_append_right _ (List.mem_append_right _ (List.mem_append_left _ (List.mem_of_getElem? (l := gT_6) (i := 54) rfl)))))))
theorem m_415 : Cond.methodLink "DecimalDesk" 159 y_Told_start ∈ gT := List.mem_append_right _ (List.mem_append_right _ (List.mem_append_right _ (List.mem_append_right _ (List.mem_append_right _ (List.mem_append_right _ (List.mem_append_left _ (List.mem_of_getElem? (l := gT_6) (i := 55) rfl)))))))
theorem m_416 : Cond.instanceMethod y_Told_start ∈ gT := List.mem_append_right _ (List.mem_append_right _ (List.mem_append_right _ (List.mem_append_right _ (List.mem_append_right _ (List.mem_append_right _ (List.mem_append_left _ (List.mem_of_getElem? (l := gT_6) (i := 56) rfl)))))))
theorem m_417 : Cond.selects "DecimalDesk$Told" y_Told_start y_Told_start ∈ gT := List.mem_append_right _ (List.mem_append_right _ (List.mem_append_right _ (List.mem_append_right _ (List.mem_append_right _ (List.mem_append_right _ (List.mem_append_left _ (List.mem_of_getElem? (l := gT_6) (i := 57) rfl)))))))
theorem m_418 : Cond.code y_Told_start prog_8_method_3_code 2 none ∈ gT := List.mem_append_right _ (List.mem_append_right _ (List.mem_append_right _ (List.mem_append_right _ (List.mem_append_right _ (List.mem_append_right _ (List.mem_append_left _ (List.mem_of_getElem? (l := gT_6) (i := 58) rfl)))))))
theorem m_419 : Cond.methodLink "DecimalDesk$Told" 20 y_Told_add ∈ gT := List.mem_append_right _ (List.mem_append_right _ (List.mem_append_right _ (List.mem_append_right _ (List.mem_append_right _ (List.mem_append_right _ (List.mem_append_left _ (List.mem_of_getElem? (l := gT_6) (i := 59) rfl)))))))
theorem m_420 : Cond.instanceMethod y_Told_add ∈ gT := List.mem_append_right _ (List.mem_append_right _ (List.mem_append_right _ (List.mem_append_right _ (List.mem_append_right _ (List.mem_append_right _ (List.mem_append_right _ (List.mem_append_left _ (List.mem_of_getElem? (l := gT_7) (i := 0) rfl))))))))
theorem m_421 : Cond.selects "DecimalDesk$Told" y_Told_add y_Told_add ∈ gT := List.mem_append_right _ (List.mem_append_right _ (List.mem_append_right _ (List.mem_append_right _ (List.mem_append_right _ (List.mem_append_right _ (List.mem_append_right _ (List.mem_append_left _ (List.mem_of_getElem? (l := gT_7) (i := 1) rfl))))))))
theorem m_422 : Cond.code y_Told_add prog_8_method_4_code 2 none ∈ gT := List.mem_append_right _ (List.mem_append_right _ (List.mem_append_right _ (List.mem_append_right _ (List.mem_append_right _ (List.mem_append_right _ (List.mem_append_right _ (List.mem_append_left _ (List.mem_of_getElem? (l := gT_7) (i := 2) rfl))))))))
theorem m_423 : Cond.methodLink "DecimalDesk" 162 y_Told_add ∈ gT := List.mem_append_right _ (List.mem_append_right _ (List.mem_append_right _ (List.mem_append_right _ (List.mem_append_right _ (List.mem_append_right _ (List.mem_append_right _ (List.mem_append_left _ (List.mem_of_getElem? (l := gT_7) (i := 3) rfl))))))))
theorem m_424 : Cond.methodLink "DecimalDesk" 125 y_Desk_tellShortest ∈ gT := List.mem_append_right _ (List.mem_append_right _ (List.mem_append_right _ (List.mem_append_right _ (List.mem_append_right _ (List.mem_append_right _ (List.mem_append_right _ (List.mem_append_left _ (List.mem_of_getElem? (l := gT_7) (i := 4) rfl))))))))
theorem m_425 : Cond.instanceMethod y_Desk_tellShortest ∈ gT := List.mem_append_right _ (List.mem_append_right _ (List.mem_append_right _ (List.mem_append_right _ (List.mem_append_right _ (List.mem_append_right _ (List.mem_append_right _ (List.mem_append_left _ (List.mem_of_getElem? (l := gT_7) (i := 5) rfl))))))))
theorem m_426 : Cond.code y_Desk_tellShortest prog_1_method_15_code 5 none ∈ gT := List.mem_append_right _ (List.mem_append_right _ (List.mem_append_right _ (List.mem_append_right _ (List.mem_append_right _ (List.mem_append_right _ (List.mem_append_right _ (List.mem_append_left _ (List.mem_of_getElem? (l := gT_7) (i := 6) rfl))))))))
theorem m_427 : Cond.methodLink "DecimalDesk" 166 y_Told_addPower ∈ gT := List.mem_append_right _ (List.mem_append_right _ (List.mem_append_right _ (List.mem_append_right _ (List.mem_append_right _ (List.mem_append_right _ (List.mem_append_right _ (List.mem_append_left _ (List.mem_of_getElem? (l := gT_7) (i := 7) rfl))))))))
theorem m_428 : Cond.instanceMethod y_Told_addPower ∈ gT := List.mem_append_right _ (List.mem_append_right _ (List.mem_append_right _ (List.mem_append_right _ (List.mem_append_right _ (List.mem_append_right _ (List.mem_append_right _ (List.mem_append_left _ (List.mem_of_getElem? (l := gT_7) (i := 8) rfl))))))))
theorem m_429 : Cond.selects "DecimalDesk$Told" y_Told_addPower y_Told_addPower ∈ gT := List.mem_append_right _ (List.mem_append_right _ (List.mem_append_right _ (List.mem_append_right _ (List.mem_append_right _ (List.mem_append_right _ (List.mem_append_right _ (List.mem_append_left _ (List.mem_of_getElem? (l := gT_7) (i := 9) rfl))))))))
theorem m_430 : Cond.code y_Told_addPower prog_8_method_5_code 4 none ∈ gT := List.mem_append_right _ (List.mem_append_right _ (List.mem_append_right _ (List.mem_append_right _ (List.mem_append_right _ (List.mem_append_right _ (List.mem_append_right _ (List.mem_append_left _ (List.mem_of_getElem? (l := gT_7) (i := 10) rfl))))))))
theorem m_431 : Cond.methodLink "DecimalDesk$Told" 24 y_Math_abs ∈ gT := List.mem_append_right _ (List.mem_append_right _ (List.mem_append_right _ (List.mem_append_right _ (List.mem_append_right _ (List.mem_append_right _ (List.mem_append_right _ (List.mem_append_left _ (List.mem_of_getElem? (l := gT_7) (i := 11) rfl))))))))
theorem m_432 : Cond.static y_Math_abs ∈ gT := List.mem_append_right _ (List.mem_append_right _ (List.mem_append_right _ (List.mem_append_right _ (List.mem_append_right _ (List.mem_append_right _ (List.mem_append_right _ (List.mem_append_left _ (List.mem_of_getElem? (l := gT_7) (i := 12) rfl))))))))
theorem m_433 : Cond.code y_Math_abs prog_15_method_59_code 1 (some .int) ∈ gT := List.mem_append_right _ (List.mem_append_right _ (List.mem_append_right _ (List.mem_append_right _ (List.mem_append_right _ (List.mem_append_right _ (List.mem_append_right _ (List.mem_append_left _ (List.mem_of_getElem? (l := gT_7) (i := 13) rfl))))))))
theorem m_434 : Cond.methodLink "DecimalDesk$Told" 30 y_Told_addDigits ∈ gT := List.mem_append_right _ (List.mem_append_right _ (List.mem_append_right _ (List.mem_append_right _ (List.mem_append_right _ (List.mem_append_right _ (List.mem_append_right _ (List.mem_append_left _ (List.mem_of_getElem? (l := gT_7) (i := 14) rfl))))))))
theorem m_435 : Cond.instanceMethod y_Told_addDigits ∈ gT := List.mem_append_right _ (List.mem_append_right _ (List.mem_append_right _ (List.mem_append_right _ (List.mem_append_right _ (List.mem_append_right _ (List.mem_append_right _ (List.mem_append_left _ (List.mem_of_getElem? (l := gT_7) (i := 15) rfl))))))))
theorem m_436 : Cond.selects "DecimalDesk$Told" y_Told_addDigits y_Told_addDigits ∈ gT := List.mem_append_right _ (List.mem_append_right _ (List.mem_append_right _ (List.mem_append_right _ (List.mem_append_right _ (List.mem_append_right _ (List.mem_append_right _ (List.mem_append_left _ (List.mem_of_getElem? (l := gT_7) (i := 16) rfl))))))))
theorem m_437 : Cond.code y_Told_addDigits prog_8_method_6_code 8 none ∈ gT := List.mem_append_right _ (List.mem_append_right _ (List.mem_append_right _ (List.mem_append_right _ (List.mem_append_right _ (List.mem_append_right _ (List.mem_append_right _ (List.mem_append_left _ (List.mem_of_getElem? (l := gT_7) (i := 17) rfl))))))))
theorem m_438 : Cond.constantLong "DecimalDesk$Told" 34 48 ∈ gT := List.mem_append_right _ (List.mem_append_right _ (List.mem_append_right _ (List.mem_append_right _ (List.mem_append_right _ (List.mem_append_right _ (List.mem_append_right _ (List.mem_append_left _ (List.mem_of_getElem? (l := gT_7) (i := 18) rfl))))))))
theorem m_439 : Cond.constantLong "DecimalDesk$Told" 36 10 ∈ gT := List.mem_append_right _ (List.mem_append_right _ (List.mem_append_right _ (List.mem_append_right _ (List.mem_append_right _ (List.mem_append_right _ (List.mem_append_right _ (List.mem_append_left _ (List.mem_of_getElem? (l := gT_7) (i := 19) rfl))))))))
theorem m_440 : Cond.methodLink "DecimalDesk$Told" 38 y_Told_addReversed ∈ gT := List.mem_append_right _ (List.mem_append_right _ (List.mem_append_right _ (List.mem_append_right _ (List.mem_append_right _ (List.mem_append_right _ (List.mem_append_right _ (List.mem_append_left _ (List.mem_of_getElem? (l := gT_7) (i := 20) rfl))))))))
theorem m_441 : Cond.instanceMethod y_Told_addReversed ∈ gT := List.mem_append_right _ (List.mem_append_right _ (List.mem_append_right _ (List.mem_append_right _ (List.mem_append_right _ (List.mem_append_right _ (List.mem_append_right _ (List.mem_append_left _ (List.mem_of_getElem? (l := gT_7) (i := 21) rfl))))))))
theorem m_442 : Cond.code y_Told_addReversed prog_8_method_8_code 4 none ∈ gT := List.mem_append_right _ (List.mem_append_right _ (List.mem_append_right _ (List.mem_append_right _ (List.mem_append_right _ (List.mem_append_right _ (List.mem_append_right _ (List.mem_append_left _ (List.mem_of_getElem? (l := gT_7) (i := 22) rfl))))))))
theorem m_443 : Cond.methodLink "DecimalDesk$Told" 52 y_Math_min ∈ gT := List.mem_append_right _ (List.mem_append_right _ (List.mem_append_right _ (List.mem_append_right _ (List.mem_append_right _ (List.mem_append_right _ (List.mem_append_right _ (List.mem_append_left _ (List.mem_of_getElem? (l := gT_7) (i := 23) rfl))))))))
theorem m_444 : Cond.methodLink "DecimalDesk" 169 y_Finder_find ∈ gT := List.mem_append_right _ (List.mem_append_right _ (List.mem_append_right _ (List.mem_append_right _ (List.mem_append_right _ (List.mem_append_right _ (List.mem_append_right _ (List.mem_append_left _ (List.mem_of_getElem? (l := gT_7) (i := 24) rfl))))))))
theorem m_445 : Cond.instanceMethod y_Finder_find ∈ gT := List.mem_append_right _ (List.mem_append_right _ (List.mem_append_right _ (List.mem_append_right _ (List.mem_append_right _ (List.mem_append_right _ (List.mem_append_right _ (List.mem_append_left _ (List.mem_of_getElem? (l := gT_7) (i := 25) rfl))))))))
theorem m_446 : Cond.selects "DecimalDesk$ShortestFinder" y_Finder_find y_Finder_find ∈ gT := List.mem_append_right _ (List.mem_append_right _ (List.mem_append_right _ (List.mem_append_right _ (List.mem_append_right _ (List.mem_append_right _ (List.mem_append_right _ (List.mem_append_left _ (List.mem_of_getElem? (l := gT_7) (i := 26) rfl))))))))
theorem m_447 : Cond.code y_Finder_find prog_6_method_2_code 7 none ∈ gT := List.mem_append_right _ (List.mem_append_right _ (List.mem_append_right _ (List.mem_append_right _ (List.mem_append_right _ (List.mem_append_right _ (List.mem_append_right _ (List.mem_append_left _ (List.mem_of_getElem? (l := gT_7) (i := 27) rfl))))))))
theorem m_448 : Cond.methodLink "DecimalDesk$ShortestFinder" 43 y_Finder_setRange ∈ gT := List.mem_append_right _ (List.mem_append_right _ (List.mem_append_right _ (List.mem_append_right _ (List.mem_append_right _ (List.mem_append_right _ (List.mem_append_right _ (List.mem_append_left _ (List.mem_of_getElem? (l := gT_7) (i := 28) rfl))))))))
theorem m_449 : Cond.instanceMethod y_Finder_setRange ∈ gT := List.mem_append_right _ (List.mem_append_right _ (List.mem_append_right _ (List.mem_append_right _ (List.mem_append_right _ (List.mem_append_right _ (List.mem_append_right _ (List.mem_append_left _ (List.mem_of_getElem? (l := gT_7) (i := 29) rfl))))))))
theorem m_450 : Cond.code y_Finder_setRange prog_6_method_3_code 6 none ∈ gT := List.mem_append_right _ (List.mem_append_right _ (List.mem_append_right _ (List.mem_append_right _ (List.mem_append_right _ (List.mem_append_right _ (List.mem_append_right _ (List.mem_append_left _ (List.mem_of_getElem? (l := gT_7) (i := 30) rfl))))))))
theorem m_451 : Cond.methodLink "DecimalDesk$ShortestFinder" 63 y_Layout_fractionOf ∈ gT := List.mem_append_right _ (List.mem_append_right _ (List.mem_append_right _ (List.mem_append_right _ (List.mem_append_right _ (List.mem_append_right _ (List.mem_append_right _ (List.mem_append_left _ (List.mem_of_getElem? (l := gT_7) (i := 31) rfl))))))))
theorem m_452 : Cond.instanceMethod y_Layout_fractionOf ∈ gT := List.mem_append_right _ (List.mem_append_right _ (List.mem_append_right _ (List.mem_append_right _ (List.mem_append_right _ (List.mem_append_right _ (List.mem_append_right _ (List.mem_append_left _ (List.mem_of_getElem? (l := gT_7) (i := 32) rfl))))))))
theorem m_453 : Cond.selects "DecimalDesk$Layout" y_Layout_fractionOf y_Layout_fractionOf ∈ gT := List.mem_append_right _ (List.mem_append_right _ (List.mem_append_right _ (List.mem_append_right _ (List.mem_append_right _ (List.mem_append_right _ (List.mem_append_right _ (List.mem_append_left _ (List.mem_of_getElem? (l := gT_7) (i := 33) rfl))))))))
theorem m_454 : Cond.code y_Layout_fractionOf prog_3_method_9_code 3 (some .long) ∈ gT := List.mem_append_right _ (List.mem_append_right _ (List.mem_append_right _ (List.mem_append_right _ (List.mem_append_right _ (List.mem_append_right _ (List.mem_append_right _ (List.mem_append_left _ (List.mem_of_getElem? (l := gT_7) (i := 34) rfl))))))))
theorem m_455 : Cond.methodLink "DecimalDesk$ShortestFinder" 69 y_Layout_exponentOf ∈ gT := List.mem_append_right _ (List.mem_append_right _ (List.mem_append_right _ (List.mem_append_right _ (List.mem_append_right _ (List.mem_append_right _ (List.mem_append_right _ (List.mem_append_left _ (List.mem_of_getElem? (l := gT_7) (i := 35) rfl))))))))
theorem m_456 : Cond.instanceMethod y_Layout_exponentOf ∈ gT := List.mem_append_right _ (List.mem_append_right _ (List.mem_append_right _ (List.mem_append_right _ (List.mem_append_right _ (List.mem_append_right _ (List.mem_append_right _ (List.mem_append_left _ (List.mem_of_getElem? (l := gT_7) (i := 36) rfl))))))))
theorem m_457 : Cond.selects "DecimalDesk$Layout" y_Layout_exponentOf y_Layout_exponentOf ∈ gT := List.mem_append_right _ (List.mem_append_right _ (List.mem_append_right _ (List.mem_append_right _ (List.mem_append_right _ (List.mem_append_right _ (List.mem_append_right _ (List.mem_append_left _ (List.mem_of_getElem? (l := gT_7) (i := 37) rfl))))))))
theorem m_458 : Cond.code y_Layout_exponentOf prog_3_method_10_code 3 (some .int) ∈ gT := List.mem_append_right _ (List.mem_append_right _ (List.mem_append_right _ (List.mem_append_right _ (List.mem_append_right _ (List.mem_append_right _ (List.mem_append_right _ (List.mem_append_left _ (List.mem_of_getElem? (l := gT_7) (i := 38) rfl))))))))
theorem m_459 : Cond.methodLink "DecimalDesk$ShortestFinder" 73 y_Layout_significandOf ∈ gT := List.mem_append_right _ (List.mem_append_right _ (List.mem_append_right _ (List.mem_append_right _ (List.mem_append_right _ (List.mem_append_right _ (List.mem_append_right _ (List.mem_append_left _ (List.mem_of_getElem? (l := gT_7) (i := 39) rfl))))))))
theorem m_460 : Cond.instanceMethod y_Layout_significandOf ∈ gT := List.mem_append_right _ (List.mem_append_right _ (List.mem_append_right _ (List.mem_append_right _ (List.mem_append_right _ (List.mem_append_right _ (List.mem_append_right _ (List.mem_append_left _ (List.mem_of_getElem? (l := gT_7) (i := 40) rfl))))))))
theorem m_461 : Cond.selects "DecimalDesk$Layout" y_Layout_significandOf y_Layout_significandOf ∈ gT := List.mem_append_right _ (List.mem_append_right _ (List.mem_append_right _ (List.mem_append_right _ (List.mem_append_right _ (List.mem_append_right _ (List.mem_append_right _ (List.mem_append_left _ (List.mem_of_getElem? (l := gT_7) (i := 41) rfl))))))))
theorem m_462 : Cond.code y_Layout_significandOf prog_3_method_11_code 3 (some .long) ∈ gT := List.mem_append_right _ (List.mem_append_right _ (List.mem_append_right _ (List.mem_append_right _ (List.mem_append_right _ (List.mem_append_right _ (List.mem_append_right _ (List.mem_append_left _ (List.mem_of_getElem? (l := gT_7) (i := 42) rfl))))))))
theorem m_463 : Cond.methodLink "DecimalDesk$Layout" 26 y_Layout_exponentOf ∈ gT := List.mem_append_right _ (List.mem_append_right _ (List.mem_append_right _ (List.mem_append_right _ (List.mem_append_right _ (List.mem_append_right _ (List.mem_append_right _ (List.mem_append_left _ (List.mem_of_getElem? (l := gT_7) (i := 43) rfl))))))))
theorem m_464 : Cond.methodLink "DecimalDesk$Layout" 30 y_Layout_fractionOf ∈ gT := List.mem_append_right _ (List.mem_append_right _ (List.mem_append_right _ (List.mem_append_right _ (List.mem_append_right _ (List.mem_append_right _ (List.mem_append_right _ (List.mem_append_left _ (List.mem_of_getElem? (l := gT_7) (i := 44) rfl))))))))
theorem m_465 : Cond.constantLong "DecimalDesk$ShortestFinder" 76 4 ∈ gT := List.mem_append_right _ (List.mem_append_right _ (List.mem_append_right _ (List.mem_append_right _ (List.mem_append_right _ (List.mem_append_right _ (List.mem_append_right _ (List.mem_append_left _ (List.mem_of_getElem? (l := gT_7) (i := 45) rfl))))))))
theorem m_466 : Cond.methodLink "DecimalDesk$ShortestFinder" 78 y_Natural_set ∈ gT := List.mem_append_right _ (List.mem_append_right _ (List.mem_append_right _ (List.mem_append_right _ (List.mem_append_right _ (List.mem_append_right _ (List.mem_append_right _ (List.mem_append_left _ (List.mem_of_getElem? (l := gT_7) (i := 46) rfl))))))))
theorem m_467 : Cond.constantLong "DecimalDesk$ShortestFinder" 82 2 ∈ gT := List.mem_append_right _ (List.mem_append_right _ (List.mem_append_right _ (List.mem_append_right _ (List.mem_append_right _ (List.mem_append_right _ (List.mem_append_right _ (List.mem_append_left _ (List.mem_of_getElem? (l := gT_7) (i := 47) rfl))))))))
theorem m_468 : Cond.methodLink "DecimalDesk$ShortestFinder" 84 y_Layout_powerOf ∈ gT := List.mem_append_right _ (List.mem_append_right _ (List.mem_append_right _ (List.mem_append_right _ (List.mem_append_right _ (List.mem_append_right _ (List.mem_append_right _ (List.mem_append_left _ (List.mem_of_getElem? (l := gT_7) (i := 48) rfl))))))))
theorem m_469 : Cond.instanceMethod y_Layout_powerOf ∈ gT := List.mem_append_right _ (List.mem_append_right _ (List.mem_append_right _ (List.mem_append_right _ (List.mem_append_right _ (List.mem_append_right _ (List.mem_append_right _ (List.mem_append_left _ (List.mem_of_getElem? (l := gT_7) (i := 49) rfl))))))))
theorem m_470 : Cond.selects "DecimalDesk$Layout" y_Layout_powerOf y_Layout_powerOf ∈ gT := List.mem_append_right _ (List.mem_append_right _ (List.mem_append_right _ (List.mem_append_right _ (List.mem_append_right _ (List.mem_append_right _ (List.mem_append_right _ (List.mem_append_left _ (List.mem_of_getElem? (l := gT_7) (i := 50) rfl))))))))
theorem m_471 : Cond.code y_Layout_powerOf prog_3_method_12_code 3 (some .int) ∈ gT := List.mem_append_right _ (List.mem_append_right _ (List.mem_append_right _ (List.mem_append_right _ (List.mem_append_right _ (List.mem_append_right _ (List.mem_append_right _ (List.mem_append_left _ (List.mem_of_getElem? (l := gT_7) (i := 51) rfl))))))))
theorem m_472 : Cond.methodLink "DecimalDesk$Layout" 34 y_Layout_lowestPower ∈ gT := List.mem_append_right _ (List.mem_append_right _ (List.mem_append_right _ (List.mem_append_right _ (List.mem_append_right _ (List.mem_append_right _ (List.mem_append_right _ (List.mem_append_left _ (List.mem_of_getElem? (l := gT_7) (i := 52) rfl))))))))
theorem m_473 : Cond.methodLink "DecimalDesk$Layout" 37 y_Math_max ∈ gT := List.mem_append_right _ (List.mem_append_right _ (List.mem_append_right _ (List.mem_append_right _ (List.mem_append_right _ (List.mem_append_right _ (List.mem_append_right _ (List.mem_append_left _ (List.mem_of_getElem? (l := gT_7) (i := 53) rfl))))))))
theorem m_474 : Cond.methodLink "DecimalDesk$ShortestFinder" 87 y_Natural_shiftLeft ∈ gT := List.mem_append_right _ (List.mem_append_right _ (List.mem_append_right _ (List.mem_append_right _ (List.mem_append_right _ (List.mem_append_right _ (List.mem_append_right _ (List.mem_append_left _ (List.mem_of_getElem? (l := gT_7) (i := 54) rfl))))))))
theorem m_475 : Cond.methodLink "DecimalDesk$ShortestFinder" 47 y_Finder_setPower ∈ gT := List.mem_append_right _ (List.mem_append_right _ (List.mem_append_right _ (List.mem_append_right _ (List.mem_append_right _ (List.mem_append_right _ (List.mem_append_right _ (List.mem_append_left _ (List.mem_of_getElem? (l := gT_7) (i := 55) rfl))))))))
theorem m_476 : Cond.instanceMethod y_Finder_setPower ∈ gT := List.mem_append_right _ (List.mem_append_right _ (List.mem_append_right _ (List.mem_append_right _ (List.mem_append_right _ (List.mem_append_right _ (List.mem_append_right _ (List.mem_append_left _ (List.mem_of_getElem? (l := gT_7) (i := 56) rfl))))))))
theorem m_477 : Cond.code y_Finder_setPower prog_6_method_4_code 5 none ∈ gT := List.mem_append_right _ (List.mem_append_right _ (List.mem_append_right _ (List.mem_append_right _ (List.mem_append_right _ (List.mem_append_right _ (List.mem_append_right _ (List.mem_append_left _ (List.mem_of_getElem? (l := gT_7) (i := 57) rfl))))))))
theorem m_478 : Cond.methodLink "DecimalDesk$ShortestFinder" 91 y_Long_numberOfLeadingZeros ∈ gT := List.mem_append_right _ (List.mem_append_right _ (List.mem_append_right _ (List.mem_append_right _ (List.mem_append_right _ (List.mem_append_right _ (List.mem_append_right _ (List.mem_append_left _ (List.mem_of_getElem? (l := gT_7) (i := 58) rfl))))))))
theorem m_479 : Cond.static y_Long_numberOfLeadingZeros ∈ gT := List.mem_append_right _ (List.mem_append_right _ (List.mem_append_right _ (List.mem_append_right _ (List.mem_append_right _ (List.mem_append_right _ (List.mem_append_right _ (List.mem_append_left _ (List.mem_of_getElem? (l := gT_7) (i := 59) rfl))))))))
theorem m_480 : Cond.code y_Long_numberOfLeadingZeros prog_14_method_48_code 3 (some .int) ∈ gT := List.mem_append_right _ (List.mem_append_right _ (List.mem_append_right _ (List.mem_append_right _ (List.mem_append_right _ (List.mem_append_right _ (List.mem_append_right _ (List.mem_append_right _ (List.mem_append_left _ (List.mem_of_getElem? (l := gT_8) (i := 0) rfl)))))))))
theorem m_481 : Cond.methodLink "java/lang/Long" 308 y_Integer_numberOfLeadingZeros ∈ gT := List.mem_append_right _ (List.mem_append_right _ (List.mem_append_right _ (List.mem_append_right _ (List.mem_append_right _ (List.mem_append_right _ (List.mem_append_right _ (List.mem_append_right _ (List.mem_append_left _ (List.mem_of_getElem? (l := gT_8) (i := 1) rfl)))))))))
theorem m_482 : Cond.constant "DecimalDesk$ShortestFinder" 96 100000 ∈ gT := List.mem_append_right _ (List.mem_append_right _ (List.mem_append_right _ (List.mem_append_right _ (List.mem_append_right _ (List.mem_append_right _ (List.mem_append_right _ (List.mem_append_right _ (List.mem_append_left _ (List.mem_of_getElem? (l := gT_8) (i := 2) rfl)))))))))
theorem m_483 : Cond.methodLink "DecimalDesk$ShortestFinder" 97 y_Math_floorDiv ∈ gT := List.mem_append_right _ (List.mem_append_right _ (List.mem_append_right _ (List.mem_append_right _ (List.mem_append_right _ (List.mem_append_right _ (List.mem_append_right _ (List.mem_append_right _ (List.mem_append_left _ (List.mem_of_getElem? (l := gT_8) (i := 3) rfl)))))))))
theorem m_484 : Cond.static y_Math_floorDiv ∈ gT := List.mem_append_right _ (List.mem_append_right _ (List.mem_append_right _ (List.mem_append_right _ (List.mem_append_right _ (List.mem_append_right _ (List.mem_append_right _ (List.mem_append_right _ (List.mem_append_left _ (List.mem_of_getElem? (l := gT_8) (i := 4) rfl)))))))))
theorem m_485 : Cond.code y_Math_floorDiv prog_15_method_47_code 3 (some .int) ∈ gT := List.mem_append_right _ (List.mem_append_right _ (List.mem_append_right _ (List.mem_append_right _ (List.mem_append_right _ (List.mem_append_right _ (List.mem_append_right _ (List.mem_append_right _ (List.mem_append_left _ (List.mem_of_getElem? (l := gT_8) (i := 5) rfl)))))))))
theorem m_486 : Cond.methodLink "DecimalDesk$ShortestFinder" 103 y_Natural_timesPowerOfTen ∈ gT := List.mem_append_right _ (List.mem_append_right _ (List.mem_append_right _ (List.mem_append_right _ (List.mem_append_right _ (List.mem_append_right _ (List.mem_append_right _ (List.mem_append_right _ (List.mem_append_left _ (List.mem_of_getElem? (l := gT_8) (i := 6) rfl)))))))))
theorem m_487 : Cond.methodLink "DecimalDesk$ShortestFinder" 106 y_Natural_copy ∈ gT := List.mem_append_right _ (List.mem_append_right _ (List.mem_append_right _ (List.mem_append_right _ (List.mem_append_right _ (List.mem_append_right _ (List.mem_append_right _ (List.mem_append_right _ (List.mem_append_left _ (List.mem_of_getElem? (l := gT_8) (i := 7) rfl)))))))))
theorem m_488 : Cond.methodLink "DecimalDesk$ShortestFinder" 110 y_Natural_timesPlus ∈ gT := List.mem_append_right _ (List.mem_append_right _ (List.mem_append_right _ (List.mem_append_right _ (List.mem_append_right _ (List.mem_append_right _ (List.mem_append_right _ (List.mem_append_right _ (List.mem_append_left _ (List.mem_of_getElem? (l := gT_8) (i := 8) rfl)))))))))
theorem m_489 : Cond.methodLink "DecimalDesk$ShortestFinder" 114 y_Natural_against ∈ gT := List.mem_append_right _ (List.mem_append_right _ (List.mem_append_right _ (List.mem_append_right _ (List.mem_append_right _ (List.mem_append_right _ (List.mem_append_right _ (List.mem_append_right _ (List.mem_append_left _ (List.mem_of_getElem? (l := gT_8) (i := 9) rfl)))))))))
theorem m_490 : Cond.methodLink "DecimalDesk$ShortestFinder" 50 y_Finder_timesTen ∈ gT := List.mem_append_right _ (List.mem_append_right _ (List.mem_append_right _ (List.mem_append_right _ (List.mem_append_right _ (List.mem_append_right _ (List.mem_append_right _ (List.mem_append_right _ (List.mem_append_left _ (List.mem_of_getElem? (l := gT_8) (i := 10) rfl)))))))))
theorem m_491 : Cond.instanceMethod y_Finder_timesTen ∈ gT := List.mem_append_right _ (List.mem_append_right _ (List.mem_append_right _ (List.mem_append_right _ (List.mem_append_right _ (List.mem_append_right _ (List.mem_append_right _ (List.mem_append_right _ (List.mem_append_left _ (List.mem_of_getElem? (l := gT_8) (i := 11) rfl)))))))))
theorem m_492 : Cond.code y_Finder_timesTen prog_6_method_5_code 1 none ∈ gT := List.mem_append_right _ (List.mem_append_right _ (List.mem_append_right _ (List.mem_append_right _ (List.mem_append_right _ (List.mem_append_right _ (List.mem_append_right _ (List.mem_append_right _ (List.mem_append_left _ (List.mem_of_getElem? (l := gT_8) (i := 12) rfl)))))))))
theorem m_493 : Cond.constantLong "DecimalDesk$ShortestFinder" 53 10 ∈ gT := List.mem_append_right _ (List.mem_append_right _ (List.mem_append_right _ (List.mem_append_right _ (List.mem_append_right _ (List.mem_append_right _ (List.mem_append_right _ (List.mem_append_right _ (List.mem_append_left _ (List.mem_of_getElem? (l := gT_8) (i := 13) rfl)))))))))
theorem m_494 : Cond.methodLink "DecimalDesk$ShortestFinder" 55 y_Finder_takeDigit ∈ gT := List.mem_append_right _ (List.mem_append_right _ (List.mem_append_right _ (List.mem_append_right _ (List.mem_append_right _ (List.mem_append_right _ (List.mem_append_right _ (List.mem_append_right _ (List.mem_append_left _ (List.mem_of_getElem? (l := gT_8) (i := 14) rfl)))))))))
theorem m_495 : Cond.instanceMethod y_Finder_takeDigit ∈ gT := List.mem_append_right _ (List.mem_append_right _ (List.mem_append_right _ (List.mem_append_right _ (List.mem_append_right _ (List.mem_append_right _ (List.mem_append_right _ (List.mem_append_right _ (List.mem_append_left _ (List.mem_of_getElem? (l := gT_8) (i := 15) rfl)))))))))
theorem m_496 : Cond.code y_Finder_takeDigit prog_6_method_6_code 2 (some .int) ∈ gT := List.mem_append_right _ (List.mem_append_right _ (List.mem_append_right _ (List.mem_append_right _ (List.mem_append_right _ (List.mem_append_right _ (List.mem_append_right _ (List.mem_append_right _ (List.mem_append_left _ (List.mem_of_getElem? (l := gT_8) (i := 16) rfl)))))))))
theorem m_497 : Cond.methodLink "DecimalDesk$ShortestFinder" 118 y_Natural_subtract ∈ gT := List.mem_append_right _ (List.mem_append_right _ (List.mem_append_right _ (List.mem_append_right _ (List.mem_append_right _ (List.mem_append_right _ (List.mem_append_right _ (List.mem_append_right _ (List.mem_append_left _ (List.mem_of_getElem? (l := gT_8) (i := 17) rfl)))))))))
theorem m_498 : Cond.methodLink "DecimalDesk$ShortestFinder" 59 y_Finder_choose ∈ gT := List.mem_append_right _ (List.mem_append_right _ (List.mem_append_right _ (List.mem_append_right _ (List.mem_append_right _ (List.mem_append_right _ (List.mem_append_right _ (List.mem_append_right _ (List.mem_append_left _ (List.mem_of_getElem? (l := gT_8) (i := 18) rfl)))))))))
theorem m_499 : Cond.instanceMethod y_Finder_choose ∈ gT := List.mem_append_right _ (List.mem_append_right _ (List.mem_append_right _ (List.mem_append_right _ (List.mem_append_right _ (List.mem_append_right _ (List.mem_append_right _ (List.mem_append_right _ (List.mem_append_left _ (List.mem_of_getElem? (l := gT_8) (i := 19) rfl)))))))))
theorem m_500 : Cond.code y_Finder_choose prog_6_method_7_code 4 (some .boolean) ∈ gT := List.mem_append_right _ (List.mem_append_right _ (List.mem_append_right _ (List.mem_append_right _ (List.mem_append_right _ (List.mem_append_right _ (List.mem_append_right _ (List.mem_append_right _ (List.mem_append_left _ (List.mem_of_getElem? (l := gT_8) (i := 20) rfl)))))))))
theorem m_501 : Cond.methodLink "DecimalDesk$ShortestFinder" 121 y_Finder_isWithin ∈ gT := List.mem_append_right _ (List.mem_append_right _ (List.mem_append_right _ (List.mem_append_right _ (List.mem_append_right _ (List.mem_append_right _ (List.mem_append_right _ (List.mem_append_right _ (List.mem_append_left _ (List.mem_of_getElem? (l := gT_8) (i := 21) rfl)))))))))
theorem m_502 : Cond.instanceMethod y_Finder_isWithin ∈ gT := List.mem_append_right _ (List.mem_append_right _ (List.mem_append_right _ (List.mem_append_right _ (List.mem_append_right _ (List.mem_append_right _ (List.mem_append_right _ (List.mem_append_right _ (List.mem_append_left _ (List.mem_of_getElem? (l := gT_8) (i := 22) rfl)))))))))
theorem m_503 : Cond.code y_Finder_isWithin prog_6_method_8_code 2 (some .boolean) ∈ gT := List.mem_append_right _ (List.mem_append_right _ (List.mem_append_right _ (List.mem_append_right _ (List.mem_append_right _ (List.mem_append_right _ (List.mem_append_right _ (List.mem_append_right _ (List.mem_append_left _ (List.mem_of_getElem? (l := gT_8) (i := 23) rfl)))))))))
theorem m_504 : Cond.methodLink "DecimalDesk$ShortestFinder" 125 y_Natural_add ∈ gT := List.mem_append_right _ (List.mem_append_right _ (List.mem_append_right _ (List.mem_append_right _ (List.mem_append_right _ (List.mem_append_right _ (List.mem_append_right _ (List.mem_append_right _ (List.mem_append_left _ (List.mem_of_getElem? (l := gT_8) (i := 24) rfl)))))))))
theorem m_505 : Cond.instanceMethod y_Natural_add ∈ gT := List.mem_append_right _ (List.mem_append_right _ (List.mem_append_right _ (List.mem_append_right _ (List.mem_append_right _ (List.mem_append_right _ (List.mem_append_right _ (List.mem_append_right _ (List.mem_append_left _ (List.mem_of_getElem? (l := gT_8) (i := 25) rfl)))))))))
theorem m_506 : Cond.selects "DecimalDesk$Natural" y_Natural_add y_Natural_add ∈ gT := List.mem_append_right _ (List.mem_append_right _ (List.mem_append_right _ (List.mem_append_right _ (List.mem_append_right _ (List.mem_append_right _ (List.mem_append_right _ (List.mem_append_right _ (List.mem_append_left _ (List.mem_of_getElem? (l := gT_8) (i := 26) rfl)))))))))
theorem m_507 : Cond.code y_Natural_add prog_4_method_7_code 5 none ∈ gT := List.mem_append_right _ (List.mem_append_right _ (List.mem_append_right _ (List.mem_append_right _ (List.mem_append_right _ (List.mem_append_right _ (List.mem_append_right _ (List.mem_append_right _ (List.mem_append_left _ (List.mem_of_getElem? (l := gT_8) (i := 27) rfl)))))))))
theorem m_508 : Cond.methodLink "DecimalDesk" 178 y_Told_addDigits ∈ gT := List.mem_append_right _ (List.mem_append_right _ (List.mem_append_right _ (List.mem_append_right _ (List.mem_append_right _ (List.mem_append_right _ (List.mem_append_right _ (List.mem_append_right _ (List.mem_append_left _ (List.mem_of_getElem? (l := gT_8) (i := 28) rfl)))))))))
theorem m_509 : Cond.methodLink "DecimalDeskLaw" 68 y_Law_exact ∈ gT := List.mem_append_right _ (List.mem_append_right _ (List.mem_append_right _ (List.mem_append_right _ (List.mem_append_right _ (List.mem_append_right _ (List.mem_append_right _ (List.mem_append_right _ (List.mem_append_left _ (List.mem_of_getElem? (l := gT_8) (i := 29) rfl)))))))))
theorem m_510 : Cond.static y_Law_exact ∈ gT := List.mem_append_right _ (List.mem_append_right _ (List.mem_append_right _ (List.mem_append_right _ (List.mem_append_right _ (List.mem_append_right _ (List.mem_append_right _ (List.mem_append_right _ (List.mem_append_left _ (List.mem_of_getElem? (l := gT_8) (i := 30) rfl)))))))))
theorem m_511 : Cond.methodLink "DecimalDeskLaw" 19 y_Desk_exact ∈ gT := List.mem_append_right _ (List.mem_append_right _ (List.mem_append_right _ (List.mem_append_right _ (List.mem_append_right _ (List.mem_append_right _ (List.mem_append_right _ (List.mem_append_right _ (List.mem_append_left _ (List.mem_of_getElem? (l := gT_8) (i := 31) rfl)))))))))
theorem m_512 : Cond.instanceMethod y_Desk_exact ∈ gT := List.mem_append_right _ (List.mem_append_right _ (List.mem_append_right _ (List.mem_append_right _ (List.mem_append_right _ (List.mem_append_right _ (List.mem_append_right _ (List.mem_append_right _ (List.mem_append_left _ (List.mem_of_getElem? (l := gT_8) (i := 32) rfl)))))))))
theorem m_513 : Cond.selects "DecimalDesk" y_Desk_exact y_Desk_exact ∈ gT := List.mem_append_right _ (List.mem_append_right _ (List.mem_append_right _ (List.mem_append_right _ (List.mem_append_right _ (List.mem_append_right _ (List.mem_append_right _ (List.mem_append_right _ (List.mem_append_left _ (List.mem_of_getElem? (l := gT_8) (i := 33) rfl)))))))))
theorem m_514 : Cond.code y_Desk_exact prog_1_method_9_code 3 (some .int) ∈ gT := List.mem_append_right _ (List.mem_append_right _ (List.mem_append_right _ (List.mem_append_right _ (List.mem_append_right _ (List.mem_append_right _ (List.mem_append_right _ (List.mem_append_right _ (List.mem_append_left _ (List.mem_of_getElem? (l := gT_8) (i := 34) rfl)))))))))
theorem m_515 : Cond.methodLink "DecimalDesk" 132 y_Desk_tellAllDigits ∈ gT := List.mem_append_right _ (List.mem_append_right _ (List.mem_append_right _ (List.mem_append_right _ (List.mem_append_right _ (List.mem_append_right _ (List.mem_append_right _ (List.mem_append_right _ (List.mem_append_left _ (List.mem_of_getElem? (l := gT_8) (i := 35) rfl)))))))))
theorem m_516 : Cond.instanceMethod y_Desk_tellAllDigits ∈ gT := List.mem_append_right _ (List.mem_append_right _ (List.mem_append_right _ (List.mem_append_right _ (List.mem_append_right _ (List.mem_append_right _ (List.mem_append_right _ (List.mem_append_right _ (List.mem_append_left _ (List.mem_of_getElem? (l := gT_8) (i := 36) rfl)))))))))
theorem m_517 : Cond.code y_Desk_tellAllDigits prog_1_method_16_code 8 none ∈ gT := List.mem_append_right _ (List.mem_append_right _ (List.mem_append_right _ (List.mem_append_right _ (List.mem_append_right _ (List.mem_append_right _ (List.mem_append_right _ (List.mem_append_right _ (List.mem_append_left _ (List.mem_of_getElem? (l := gT_8) (i := 37) rfl)))))))))
theorem m_518 : Cond.methodLink "DecimalDesk" 185 y_Layout_significandOf ∈ gT := List.mem_append_right _ (List.mem_append_right _ (List.mem_append_right _ (List.mem_append_right _ (List.mem_append_right _ (List.mem_append_right _ (List.mem_append_right _ (List.mem_append_right _ (List.mem_append_left _ (List.mem_of_getElem? (l := gT_8) (i := 38) rfl)))))))))
theorem m_519 : Cond.methodLink "DecimalDesk" 188 y_Layout_powerOf ∈ gT := List.mem_append_right _ (List.mem_append_right _ (List.mem_append_right _ (List.mem_append_right _ (List.mem_append_right _ (List.mem_append_right _ (List.mem_append_right _ (List.mem_append_right _ (List.mem_append_left _ (List.mem_of_getElem? (l := gT_8) (i := 39) rfl)))))))))
theorem m_520 : Cond.methodLink "DecimalDesk" 192 y_Natural_set ∈ gT := List.mem_append_right _ (List.mem_append_right _ (List.mem_append_right _ (List.mem_append_right _ (List.mem_append_right _ (List.mem_append_right _ (List.mem_append_right _ (List.mem_append_right _ (List.mem_append_left _ (List.mem_of_getElem? (l := gT_8) (i := 40) rfl)))))))))
theorem m_521 : Cond.methodLink "DecimalDesk" 195 y_Natural_shiftLeft ∈ gT := List.mem_append_right _ (List.mem_append_right _ (List.mem_append_right _ (List.mem_append_right _ (List.mem_append_right _ (List.mem_append_right _ (List.mem_append_right _ (List.mem_append_right _ (List.mem_append_left _ (List.mem_of_getElem? (l := gT_8) (i := 41) rfl)))))))))
theorem m_522 : Cond.methodLink "DecimalDesk" 198 y_Told_addNatural ∈ gT := List.mem_append_right _ (List.mem_append_right _ (List.mem_append_right _ (List.mem_append_right _ (List.mem_append_right _ (List.mem_append_right _ (List.mem_append_right _ (List.mem_append_right _ (List.mem_append_left _ (List.mem_of_getElem? (l := gT_8) (i := 42) rfl)))))))))
theorem m_523 : Cond.instanceMethod y_Told_addNatural ∈ gT := List.mem_append_right _ (List.mem_append_right _ (List.mem_append_right _ (List.mem_append_right _ (List.mem_append_right _ (List.mem_append_right _ (List.mem_append_right _ (List.mem_append_right _ (List.mem_append_left _ (List.mem_of_getElem? (l := gT_8) (i := 43) rfl)))))))))
theorem m_524 : Cond.selects "DecimalDesk$Told" y_Told_addNatural y_Told_addNatural ∈ gT := List.mem_append_right _ (List.mem_append_right _ (List.mem_append_right _ (List.mem_append_right _ (List.mem_append_right _ (List.mem_append_right _ (List.mem_append_right _ (List.mem_append_right _ (List.mem_append_left _ (List.mem_of_getElem? (l := gT_8) (i := 44) rfl)))))))))
theorem m_525 : Cond.code y_Told_addNatural prog_8_method_7_code 6 none ∈ gT := List.mem_append_right _ (List.mem_append_right _ (List.mem_append_right _ (List.mem_append_right _ (List.mem_append_right _ (List.mem_append_right _ (List.mem_append_right _ (List.mem_append_right _ (List.mem_append_left _ (List.mem_of_getElem? (l := gT_8) (i := 45) rfl)))))))))
theorem m_526 : Cond.methodLink "DecimalDesk$Told" 42 y_Natural_isZero ∈ gT := List.mem_append_right _ (List.mem_append_right _ (List.mem_append_right _ (List.mem_append_right _ (List.mem_append_right _ (List.mem_append_right _ (List.mem_append_right _ (List.mem_append_right _ (List.mem_append_left _ (List.mem_of_getElem? (l := gT_8) (i := 46) rfl)))))))))
theorem m_527 : Cond.constant "DecimalDesk$Told" 48 1000000000 ∈ gT := List.mem_append_right _ (List.mem_append_right _ (List.mem_append_right _ (List.mem_append_right _ (List.mem_append_right _ (List.mem_append_right _ (List.mem_append_right _ (List.mem_append_right _ (List.mem_append_left _ (List.mem_of_getElem? (l := gT_8) (i := 47) rfl)))))))))
theorem m_528 : Cond.methodLink "DecimalDesk$Told" 49 y_Natural_divide ∈ gT := List.mem_append_right _ (List.mem_append_right _ (List.mem_append_right _ (List.mem_append_right _ (List.mem_append_right _ (List.mem_append_right _ (List.mem_append_right _ (List.mem_append_right _ (List.mem_append_left _ (List.mem_of_getElem? (l := gT_8) (i := 48) rfl)))))))))
theorem m_529 : Cond.instanceMethod y_Natural_divide ∈ gT := List.mem_append_right _ (List.mem_append_right _ (List.mem_append_right _ (List.mem_append_right _ (List.mem_append_right _ (List.mem_append_right _ (List.mem_append_right _ (List.mem_append_right _ (List.mem_append_left _ (List.mem_of_getElem? (l := gT_8) (i := 49) rfl)))))))))
theorem m_530 : Cond.selects "DecimalDesk$Natural" y_Natural_divide y_Natural_divide ∈ gT := List.mem_append_right _ (List.mem_append_right _ (List.mem_append_right _ (List.mem_append_right _ (List.mem_append_right _ (List.mem_append_right _ (List.mem_append_right _ (List.mem_append_right _ (List.mem_append_left _ (List.mem_of_getElem? (l := gT_8) (i := 50) rfl)))))))))
theorem m_531 : Cond.code y_Natural_divide prog_4_method_13_code 5 (some .int) ∈ gT := List.mem_append_right _ (List.mem_append_right _ (List.mem_append_right _ (List.mem_append_right _ (List.mem_append_right _ (List.mem_append_right _ (List.mem_append_right _ (List.mem_append_right _ (List.mem_append_left _ (List.mem_of_getElem? (l := gT_8) (i := 51) rfl)))))))))
theorem m_532 : Cond.methodLink "DecimalDesk" 202 y_Natural_timesPowerOfFive ∈ gT := List.mem_append_right _ (List.mem_append_right _ (List.mem_append_right _ (List.mem_append_right _ (List.mem_append_right _ (List.mem_append_right _ (List.mem_append_right _ (List.mem_append_right _ (List.mem_append_left _ (List.mem_of_getElem? (l := gT_8) (i := 52) rfl)))))))))
theorem m_533 : Cond.methodLink "DecimalDeskLaw" 71 y_Law_letter ∈ gT := List.mem_append_right _ (List.mem_append_right _ (List.mem_append_right _ (List.mem_append_right _ (List.mem_append_right _ (List.mem_append_right _ (List.mem_append_right _ (List.mem_append_right _ (List.mem_append_left _ (List.mem_of_getElem? (l := gT_8) (i := 53) rfl)))))))))
theorem m_534 : Cond.static y_Law_letter ∈ gT := List.mem_append_right _ (List.mem_append_right _ (List.mem_append_right _ (List.mem_append_right _ (List.mem_append_right _ (List.mem_append_right _ (List.mem_append_right _ (List.mem_append_right _ (List.mem_append_left _ (List.mem_of_getElem? (l := gT_8) (i := 54) rfl)))))))))
theorem m_535 : Cond.classLink "DecimalDeskLaw" 26 "java/util/NoSuchElementException" ∈ gT := List.mem_append_right _ (List.mem_append_right _ (List.mem_append_right _ (List.mem_append_right _ (List.mem_append_right _ (List.mem_append_right _ (List.mem_append_right _ (List.mem_append_right _ (List.mem_append_left _ (List.mem_of_getElem? (l := gT_8) (i := 55) rfl)))))))))
theorem m_536 : Cond.methodLink "DecimalDeskLaw" 22 y_Desk_letter ∈ gT := List.mem_append_right _ (List.mem_append_right _ (List.mem_append_right _ (List.mem_append_right _ (List.mem_append_right _ (List.mem_append_right _ (List.mem_append_right _ (List.mem_append_right _ (List.mem_append_left _ (List.mem_of_getElem? (l := gT_8) (i := 56) rfl)))))))))
theorem m_537 : Cond.instanceMethod y_Desk_letter ∈ gT := List.mem_append_right _ (List.mem_append_right _ (List.mem_append_right _ (List.mem_append_right _ (List.mem_append_right _ (List.mem_append_right _ (List.mem_append_right _ (List.mem_append_right _ (List.mem_append_left _ (List.mem_of_getElem? (l := gT_8) (i := 57) rfl)))))))))
theorem m_538 : Cond.selects "DecimalDesk" y_Desk_letter y_Desk_letter ∈ gT := List.mem_append_right _ (List.mem_append_right _ (List.mem_append_right _ (List.mem_append_right _ (List.mem_append_right _ (List.mem_append_right _ (List.mem_append_right _ (List.mem_append_right _ (List.mem_append_left _ (List.mem_of_getElem? (l := gT_8) (i := 58) rfl)))))))))
theorem m_539 : Cond.code y_Desk_letter prog_1_method_10_code 2 (some .int) ∈ gT := List.mem_append_right _ (List.mem_append_right _ (List.mem_append_right _ (List.mem_append_right _ (List.mem_append_right _ (List.mem_append_right _ (List.mem_append_right _ (List.mem_append_right _ (List.mem_append_left _ (List.mem_of_getElem? (l := gT_8) (i := 59) rfl)))))))))
theorem m_540 : Cond.classLink "DecimalDesk" 135 "java/util/NoSuchElementException" ∈ gT := List.mem_append_right _ (List.mem_append_right _ (List.mem_append_right _ (List.mem_append_right _ (List.mem_append_right _ (List.mem_append_right _ (List.mem_append_right _ (List.mem_append_right _ (List.mem_append_right _ (List.mem_append_left _ (List.mem_of_getElem? (l := gT_9) (i := 0) rfl))))))))))
theorem m_541 : Cond.instantiable "java/util/NoSuchElementException" 6 ∈ gT := List.mem_append_right _ (List.mem_append_right _ (List.mem_append_right _ (List.mem_append_right _ (List.mem_append_right _ (List.mem_append_right _ (List.mem_append_right _ (List.mem_append_right _ (List.mem_append_right _ (List.mem_append_left _ (List.mem_of_getElem? (l := gT_9) (i := 1) rfl))))))))))
theorem m_542 : Cond.selects "java/util/NoSuchElementException" y_Throwable_fillInStackTraceI y_Throwable_fillInStackTraceI ∈ gT := List.mem_append_right _ (List.mem_append_right _ (List.mem_append_right _ (List.mem_append_right _ (List.mem_append_right _ (List.mem_append_right _ (List.mem_append_right _ (List.mem_append_right _ (List.mem_append_right _ (List.mem_append_left _ (List.mem_of_getElem? (l := gT_9) (i := 2) rfl))))))))))
theorem m_543 : Cond.lays "java/util/NoSuchElementException" "java/lang/Throwable" "cause" "Ljava/lang/Throwable;" ∈ gT := List.mem_append_right _ (List.mem_append_right _ (List.mem_append_right _ (List.mem_append_right _ (List.mem_append_right _ (List.mem_append_right _ (List.mem_append_right _ (List.mem_append_right _ (List.mem_append_right _ (List.mem_append_left _ (List.mem_of_getElem? (l := gT_9) (i := 3) rfl))))))))))
theorem m_544 : Cond.lays "java/util/NoSuchElementException" "java/lang/Throwable" "stackTrace" "[Ljava/lang/StackTraceElement;" ∈ gT := List.mem_append_right _ (List.mem_append_right _ (List.mem_append_right _ (List.mem_append_right _ (List.mem_append_right _ (List.mem_append_right _ (List.mem_append_right _ (List.mem_append_right _ (List.mem_append_right _ (List.mem_append_left _ (List.mem_of_getElem? (l := gT_9) (i := 4) rfl))))))))))
theorem m_545 : Cond.lays "java/util/NoSuchElementException" "java/lang/Throwable" "suppressedExceptions" "Ljava/util/List;" ∈ gT := List.mem_append_right _ (List.mem_append_right _ (List.mem_append_right _ (List.mem_append_right _ (List.mem_append_right _ (List.mem_append_right _ (List.mem_append_right _ (List.mem_append_right _ (List.mem_append_right _ (List.mem_append_left _ (List.mem_of_getElem? (l := gT_9) (i := 5) rfl))))))))))
theorem m_546 : Cond.lays "java/util/NoSuchElementException" "java/lang/Throwable" "detailMessage" "Ljava/lang/String;" ∈ gT := List.mem_append_right _ (List.mem_append_right _ (List.mem_append_right _ (List.mem_append_right _ (List.mem_append_right _ (List.mem_append_right _ (List.mem_append_right _ (List.mem_append_right _ (List.mem_append_right _ (List.mem_append_left _ (List.mem_of_getElem? (l := gT_9) (i := 6) rfl))))))))))
theorem m_547 : Cond.lays "java/util/NoSuchElementException" "java/lang/Throwable" "backtrace" "Ljava/lang/Object;" ∈ gT := List.mem_append_right _ (List.mem_append_right _ (List.mem_append_right _ (List.mem_append_right _ (List.mem_append_right _ (List.mem_append_right _ (List.mem_append_right _ (List.mem_append_right _ (List.mem_append_right _ (List.mem_append_left _ (List.mem_of_getElem? (l := gT_9) (i := 7) rfl))))))))))
theorem m_548 : Cond.methodLink "DecimalDesk" 139 y_NoSuchEl_init ∈ gT := List.mem_append_right _ (List.mem_append_right _ (List.mem_append_right _ (List.mem_append_right _ (List.mem_append_right _ (List.mem_append_right _ (List.mem_append_right _ (List.mem_append_right _ (List.mem_append_right _ (List.mem_append_left _ (List.mem_of_getElem? (l := gT_9) (i := 8) rfl))))))))))
theorem m_549 : Cond.instanceMethod y_NoSuchEl_init ∈ gT := List.mem_append_right _ (List.mem_append_right _ (List.mem_append_right _ (List.mem_append_right _ (List.mem_append_right _ (List.mem_append_right _ (List.mem_append_right _ (List.mem_append_right _ (List.mem_append_right _ (List.mem_append_left _ (List.mem_of_getElem? (l := gT_9) (i := 9) rfl))))))))))
theorem m_550 : Cond.code y_NoSuchEl_init prog_19_method_4_code 2 none ∈ gT := List.mem_append_right _ (List.mem_append_right _ (List.mem_append_right _ (List.mem_append_right _ (List.mem_append_right _ (List.mem_append_right _ (List.mem_append_right _ (List.mem_append_right _ (List.mem_append_right _ (List.mem_append_left _ (List.mem_of_getElem? (l := gT_9) (i := 10) rfl))))))))))
theorem m_551 : Cond.methodLink "java/util/NoSuchElementException" 13 y_RuntimeEx_init ∈ gT := List.mem_append_right _ (List.mem_append_right _ (List.mem_append_right _ (List.mem_append_right _ (List.mem_append_right _ (List.mem_append_right _ (List.mem_append_right _ (List.mem_append_right _ (List.mem_append_right _ (List.mem_append_left _ (List.mem_of_getElem? (l := gT_9) (i := 11) rfl))))))))))
theorem m_552 : Cond.lays "java/util/NoSuchElementException" "java/lang/Throwable" "depth" "I" ∈ gT := List.mem_append_right _ (List.mem_append_right _ (List.mem_append_right _ (List.mem_append_right _ (List.mem_append_right _ (List.mem_append_right _ (List.mem_append_right _ (List.mem_append_right _ (List.mem_append_right _ (List.mem_append_left _ (List.mem_of_getElem? (l := gT_9) (i := 12) rfl))))))))))
theorem m_553 : Cond.methodLink "DecimalDesk" 140 y_Told_at ∈ gT := List.mem_append_right _ (List.mem_append_right _ (List.mem_append_right _ (List.mem_append_right _ (List.mem_append_right _ (List.mem_append_right _ (List.mem_append_right _ (List.mem_append_right _ (List.mem_append_right _ (List.mem_append_left _ (List.mem_of_getElem? (l := gT_9) (i := 13) rfl))))))))))
theorem m_554 : Cond.instanceMethod y_Told_at ∈ gT := List.mem_append_right _ (List.mem_append_right _ (List.mem_append_right _ (List.mem_append_right _ (List.mem_append_right _ (List.mem_append_right _ (List.mem_append_right _ (List.mem_append_right _ (List.mem_append_right _ (List.mem_append_left _ (List.mem_of_getElem? (l := gT_9) (i := 14) rfl))))))))))
theorem m_555 : Cond.selects "DecimalDesk$Told" y_Told_at y_Told_at ∈ gT := List.mem_append_right _ (List.mem_append_right _ (List.mem_append_right _ (List.mem_append_right _ (List.mem_append_right _ (List.mem_append_right _ (List.mem_append_right _ (List.mem_append_right _ (List.mem_append_right _ (List.mem_append_left _ (List.mem_of_getElem? (l := gT_9) (i := 15) rfl))))))))))
theorem m_556 : Cond.code y_Told_at prog_8_method_2_code 2 (some .int) ∈ gT := List.mem_append_right _ (List.mem_append_right _ (List.mem_append_right _ (List.mem_append_right _ (List.mem_append_right _ (List.mem_append_right _ (List.mem_append_right _ (List.mem_append_right _ (List.mem_append_right _ (List.mem_append_left _ (List.mem_of_getElem? (l := gT_9) (i := 16) rfl))))))))))
theorem m_557 : Cond.classLink "DecimalDeskLaw" 29 "DecimalDeskModel" ∈ gT := List.mem_append_right _ (List.mem_append_right _ (List.mem_append_right _ (List.mem_append_right _ (List.mem_append_right _ (List.mem_append_right _ (List.mem_append_right _ (List.mem_append_right _ (List.mem_append_right _ (List.mem_append_left _ (List.mem_of_getElem? (l := gT_9) (i := 17) rfl))))))))))
theorem m_558 : Cond.instantiable "DecimalDeskModel" 26 ∈ gT := List.mem_append_right _ (List.mem_append_right _ (List.mem_append_right _ (List.mem_append_right _ (List.mem_append_right _ (List.mem_append_right _ (List.mem_append_right _ (List.mem_append_right _ (List.mem_append_right _ (List.mem_append_left _ (List.mem_of_getElem? (l := gT_9) (i := 18) rfl))))))))))
theorem m_559 : Cond.methodLink "DecimalDeskLaw" 31 y_Model_init ∈ gT := List.mem_append_right _ (List.mem_append_right _ (List.mem_append_right _ (List.mem_append_right _ (List.mem_append_right _ (List.mem_append_right _ (List.mem_append_right _ (List.mem_append_right _ (List.mem_append_right _ (List.mem_append_left _ (List.mem_of_getElem? (l := gT_9) (i := 19) rfl))))))))))
theorem m_560 : Cond.instanceMethod y_Model_init ∈ gT := List.mem_append_right _ (List.mem_append_right _ (List.mem_append_right _ (List.mem_append_right _ (List.mem_append_right _ (List.mem_append_right _ (List.mem_append_right _ (List.mem_append_right _ (List.mem_append_right _ (List.mem_append_left _ (List.mem_of_getElem? (l := gT_9) (i := 20) rfl))))))))))
theorem m_561 : Cond.code y_Model_init prog_10_method_1_code 1 none ∈ gT := List.mem_append_right _ (List.mem_append_right _ (List.mem_append_right _ (List.mem_append_right _ (List.mem_append_right _ (List.mem_append_right _ (List.mem_append_right _ (List.mem_append_right _ (List.mem_append_right _ (List.mem_append_left _ (List.mem_of_getElem? (l := gT_9) (i := 21) rfl))))))))))
theorem m_562 : Cond.methodLink "DecimalDeskModel" 1 objectInit ∈ gT := List.mem_append_right _ (List.mem_append_right _ (List.mem_append_right _ (List.mem_append_right _ (List.mem_append_right _ (List.mem_append_right _ (List.mem_append_right _ (List.mem_append_right _ (List.mem_append_right _ (List.mem_append_left _ (List.mem_of_getElem? (l := gT_9) (i := 22) rfl))))))))))
theorem m_563 : Cond.fieldLink "DecimalDeskModel" 41 "DecimalDeskModel" "thrown" "I" ∈ gT := List.mem_append_right _ (List.mem_append_right _ (List.mem_append_right _ (List.mem_append_right _ (List.mem_append_right _ (List.mem_append_right _ (List.mem_append_right _ (List.mem_append_right _ (List.mem_append_right _ (List.mem_append_left _ (List.mem_of_getElem? (l := gT_9) (i := 23) rfl))))))))))
theorem m_564 : Cond.fieldLink "DecimalDeskModel" 7 "DecimalDeskModel" "widthE" "I" ∈ gT := List.mem_append_right _ (List.mem_append_right _ (List.mem_append_right _ (List.mem_append_right _ (List.mem_append_right _ (List.mem_append_right _ (List.mem_append_right _ (List.mem_append_right _ (List.mem_append_right _ (List.mem_append_left _ (List.mem_of_getElem? (l := gT_9) (i := 24) rfl))))))))))
theorem m_565 : Cond.fieldLink "DecimalDeskModel" 13 "DecimalDeskModel" "widthM" "I" ∈ gT := List.mem_append_right _ (List.mem_append_right _ (List.mem_append_right _ (List.mem_append_right _ (List.mem_append_right _ (List.mem_append_right _ (List.mem_append_right _ (List.mem_append_right _ (List.mem_append_right _ (List.mem_append_left _ (List.mem_of_getElem? (l := gT_9) (i := 25) rfl))))))))))
theorem m_566 : Cond.fieldLink "DecimalDeskModel" 44 "DecimalDeskModel" "way" "I" ∈ gT := List.mem_append_right _ (List.mem_append_right _ (List.mem_append_right _ (List.mem_append_right _ (List.mem_append_right _ (List.mem_append_right _ (List.mem_append_right _ (List.mem_append_right _ (List.mem_append_right _ (List.mem_append_left _ (List.mem_of_getElem? (l := gT_9) (i := 26) rfl))))))))))
theorem m_567 : Cond.fieldLink "DecimalDeskModel" 52 "DecimalDeskModel" "raised" "I" ∈ gT := List.mem_append_right _ (List.mem_append_right _ (List.mem_append_right _ (List.mem_append_right _ (List.mem_append_right _ (List.mem_append_right _ (List.mem_append_right _ (List.mem_append_right _ (List.mem_append_right _ (List.mem_append_left _ (List.mem_of_getElem? (l := gT_9) (i := 27) rfl))))))))))
theorem m_568 : Cond.fieldLink "DecimalDeskModel" 16 "DecimalDeskModel" "tape" "[I" ∈ gT := List.mem_append_right _ (List.mem_append_right _ (List.mem_append_right _ (List.mem_append_right _ (List.mem_append_right _ (List.mem_append_right _ (List.mem_append_right _ (List.mem_append_right _ (List.mem_append_right _ (List.mem_append_left _ (List.mem_of_getElem? (l := gT_9) (i := 28) rfl))))))))))
theorem m_569 : Cond.fieldLink "DecimalDeskModel" 47 "DecimalDeskModel" "taped" "I" ∈ gT := List.mem_append_right _ (List.mem_append_right _ (List.mem_append_right _ (List.mem_append_right _ (List.mem_append_right _ (List.mem_append_right _ (List.mem_append_right _ (List.mem_append_right _ (List.mem_append_right _ (List.mem_append_left _ (List.mem_of_getElem? (l := gT_9) (i := 29) rfl))))))))))
theorem m_570 : Cond.fieldLink "DecimalDeskModel" 20 "DecimalDeskModel" "told" "[I" ∈ gT := List.mem_append_right _ (List.mem_append_right _ (List.mem_append_right _ (List.mem_append_right _ (List.mem_append_right _ (List.mem_append_right _ (List.mem_append_right _ (List.mem_append_right _ (List.mem_append_right _ (List.mem_append_left _ (List.mem_of_getElem? (l := gT_9) (i := 30) rfl))))))))))
theorem m_571 : Cond.fieldLink "DecimalDeskModel" 149 "DecimalDeskModel" "toldLong" "I" ∈ gT := List.mem_append_right _ (List.mem_append_right _ (List.mem_append_right _ (List.mem_append_right _ (List.mem_append_right _ (List.mem_append_right _ (List.mem_append_right _ (List.mem_append_right _ (List.mem_append_right _ (List.mem_append_left _ (List.mem_of_getElem? (l := gT_9) (i := 31) rfl))))))))))
theorem m_572 : Cond.fieldLink "DecimalDeskModel" 23 "DecimalDeskModel" "row" "[I" ∈ gT := List.mem_append_right _ (List.mem_append_right _ (List.mem_append_right _ (List.mem_append_right _ (List.mem_append_right _ (List.mem_append_right _ (List.mem_append_right _ (List.mem_append_right _ (List.mem_append_right _ (List.mem_append_left _ (List.mem_of_getElem? (l := gT_9) (i := 32) rfl))))))))))
theorem m_573 : Cond.fieldLink "DecimalDeskModel" 26 "DecimalDeskModel" "first" "I" ∈ gT := List.mem_append_right _ (List.mem_append_right _ (List.mem_append_right _ (List.mem_append_right _ (List.mem_append_right _ (List.mem_append_right _ (List.mem_append_right _ (List.mem_append_right _ (List.mem_append_right _ (List.mem_append_left _ (List.mem_of_getElem? (l := gT_9) (i := 33) rfl))))))))))
theorem m_574 : Cond.fieldLink "DecimalDeskModel" 29 "DecimalDeskModel" "last" "I" ∈ gT := List.mem_append_right _ (List.mem_append_right _ (List.mem_append_right _ (List.mem_append_right _ (List.mem_append_right _ (List.mem_append_right _ (List.mem_append_right _ (List.mem_append_right _ (List.mem_append_right _ (List.mem_append_left _ (List.mem_of_getElem? (l := gT_9) (i := 34) rfl))))))))))
theorem m_575 : Cond.fieldLink "DecimalDeskModel" 32 "DecimalDeskModel" "whole" "[I" ∈ gT := List.mem_append_right _ (List.mem_append_right _ (List.mem_append_right _ (List.mem_append_right _ (List.mem_append_right _ (List.mem_append_right _ (List.mem_append_right _ (List.mem_append_right _ (List.mem_append_right _ (List.mem_append_left _ (List.mem_of_getElem? (l := gT_9) (i := 35) rfl))))))))))
theorem m_576 : Cond.fieldLink "DecimalDeskModel" 170 "DecimalDeskModel" "wholeFirst" "I" ∈ gT := List.mem_append_right _ (List.mem_append_right _ (List.mem_append_right _ (List.mem_append_right _ (List.mem_append_right _ (List.mem_append_right _ (List.mem_append_right _ (List.mem_append_right _ (List.mem_append_right _ (List.mem_append_left _ (List.mem_of_getElem? (l := gT_9) (i := 36) rfl))))))))))
theorem m_577 : Cond.fieldLink "DecimalDeskModel" 173 "DecimalDeskModel" "wholeLast" "I" ∈ gT := List.mem_append_right _ (List.mem_append_right _ (List.mem_append_right _ (List.mem_append_right _ (List.mem_append_right _ (List.mem_append_right _ (List.mem_append_right _ (List.mem_append_right _ (List.mem_append_right _ (List.mem_append_left _ (List.mem_of_getElem? (l := gT_9) (i := 37) rfl))))))))))
theorem m_578 : Cond.fieldLink "DecimalDeskModel" 81 "DecimalDeskModel" "lost" "Z" ∈ gT := List.mem_append_right _ (List.mem_append_right _ (List.mem_append_right _ (List.mem_append_right _ (List.mem_append_right _ (List.mem_append_right _ (List.mem_append_right _ (List.mem_append_right _ (List.mem_append_right _ (List.mem_append_left _ (List.mem_of_getElem? (l := gT_9) (i := 38) rfl))))))))))
theorem m_579 : Cond.fieldLink "DecimalDeskModel" 88 "DecimalDeskModel" "over" "Z" ∈ gT := List.mem_append_right _ (List.mem_append_right _ (List.mem_append_right _ (List.mem_append_right _ (List.mem_append_right _ (List.mem_append_right _ (List.mem_append_right _ (List.mem_append_right _ (List.mem_append_right _ (List.mem_append_left _ (List.mem_of_getElem? (l := gT_9) (i := 39) rfl))))))))))
theorem m_580 : Cond.fieldLink "DecimalDeskModel" 68 "DecimalDeskModel" "under" "Z" ∈ gT := List.mem_append_right _ (List.mem_append_right _ (List.mem_append_right _ (List.mem_append_right _ (List.mem_append_right _ (List.mem_append_right _ (List.mem_append_right _ (List.mem_append_right _ (List.mem_append_right _ (List.mem_append_left _ (List.mem_of_getElem? (l := gT_9) (i := 40) rfl))))))))))
theorem m_581 : Cond.fieldLink "DecimalDeskModel" 95 "DecimalDeskModel" "at" "I" ∈ gT := List.mem_append_right _ (List.mem_append_right _ (List.mem_append_right _ (List.mem_append_right _ (List.mem_append_right _ (List.mem_append_right _ (List.mem_append_right _ (List.mem_append_right _ (List.mem_append_right _ (List.mem_append_left _ (List.mem_of_getElem? (l := gT_9) (i := 41) rfl))))))))))
theorem m_582 : Cond.fieldLink "DecimalDeskModel" 112 "DecimalDeskModel" "minus" "Z" ∈ gT := List.mem_append_right _ (List.mem_append_right _ (List.mem_append_right _ (List.mem_append_right _ (List.mem_append_right _ (List.mem_append_right _ (List.mem_append_right _ (List.mem_append_right _ (List.mem_append_right _ (List.mem_append_left _ (List.mem_of_getElem? (l := gT_9) (i := 42) rfl))))))))))
theorem m_583 : Cond.fieldLink "DecimalDeskModel" 106 "DecimalDeskModel" "digits" "I" ∈ gT := List.mem_append_right _ (List.mem_append_right _ (List.mem_append_right _ (List.mem_append_right _ (List.mem_append_right _ (List.mem_append_right _ (List.mem_append_right _ (List.mem_append_right _ (List.mem_append_right _ (List.mem_append_left _ (List.mem_of_getElem? (l := gT_9) (i := 43) rfl))))))))))
theorem m_584 : Cond.fieldLink "DecimalDeskModel" 35 "DecimalDeskModel" "digit" "[I" ∈ gT := List.mem_append_right _ (List.mem_append_right _ (List.mem_append_right _ (List.mem_append_right _ (List.mem_append_right _ (List.mem_append_right _ (List.mem_append_right _ (List.mem_append_right _ (List.mem_append_right _ (List.mem_append_left _ (List.mem_of_getElem? (l := gT_9) (i := 44) rfl))))))))))
theorem m_585 : Cond.fieldLink "DecimalDeskModel" 118 "DecimalDeskModel" "ahead0" "I" ∈ gT := List.mem_append_right _ (List.mem_append_right _ (List.mem_append_right _ (List.mem_append_right _ (List.mem_append_right _ (List.mem_append_right _ (List.mem_append_right _ (List.mem_append_right _ (List.mem_append_right _ (List.mem_append_left _ (List.mem_of_getElem? (l := gT_9) (i := 45) rfl))))))))))
theorem m_586 : Cond.fieldLink "DecimalDeskModel" 109 "DecimalDeskModel" "exponent" "I" ∈ gT := List.mem_append_right _ (List.mem_append_right _ (List.mem_append_right _ (List.mem_append_right _ (List.mem_append_right _ (List.mem_append_right _ (List.mem_append_right _ (List.mem_append_right _ (List.mem_append_right _ (List.mem_append_left _ (List.mem_of_getElem? (l := gT_9) (i := 46) rfl))))))))))
theorem m_587 : Cond.fieldLink "DecimalDeskModel" 38 "DecimalDeskModel" "tried" "[I" ∈ gT := List.mem_append_right _ (List.mem_append_right _ (List.mem_append_right _ (List.mem_append_right _ (List.mem_append_right _ (List.mem_append_right _ (List.mem_append_right _ (List.mem_append_right _ (List.mem_append_right _ (List.mem_append_left _ (List.mem_of_getElem? (l := gT_9) (i := 47) rfl))))))))))
theorem m_588 : Cond.fieldLink "DecimalDeskModel" 176 "DecimalDeskModel" "ten" "I" ∈ gT := List.mem_append_right _ (List.mem_append_right _ (List.mem_append_right _ (List.mem_append_right _ (List.mem_append_right _ (List.mem_append_right _ (List.mem_append_right _ (List.mem_append_right _ (List.mem_append_right _ (List.mem_append_left _ (List.mem_of_getElem? (l := gT_9) (i := 48) rfl))))))))))
theorem m_589 : Cond.lays "DecimalDeskModel" "DecimalDeskModel" "thrown" "I" ∈ gT := List.mem_append_right _ (List.mem_append_right _ (List.mem_append_right _ (List.mem_append_right _ (List.mem_append_right _ (List.mem_append_right _ (List.mem_append_right _ (List.mem_append_right _ (List.mem_append_right _ (List.mem_append_left _ (List.mem_of_getElem? (l := gT_9) (i := 49) rfl))))))))))
theorem m_590 : Cond.lays "DecimalDeskModel" "DecimalDeskModel" "widthE" "I" ∈ gT := List.mem_append_right _ (List.mem_append_right _ (List.mem_append_right _ (List.mem_append_right _ (List.mem_append_right _ (List.mem_append_right _ (List.mem_append_right _ (List.mem_append_right _ (List.mem_append_right _ (List.mem_append_left _ (List.mem_of_getElem? (l := gT_9) (i := 50) rfl))))))))))
theorem m_591 : Cond.lays "DecimalDeskModel" "DecimalDeskModel" "widthM" "I" ∈ gT := List.mem_append_right _ (List.mem_append_right _ (List.mem_append_right _ (List.mem_append_right _ (List.mem_append_right _ (List.mem_append_right _ (List.mem_append_right _ (List.mem_append_right _ (List.mem_append_right _ (List.mem_append_left _ (List.mem_of_getElem? (l := gT_9) (i := 51) rfl))))))))))
theorem m_592 : Cond.lays "DecimalDeskModel" "DecimalDeskModel" "way" "I" ∈ gT := List.mem_append_right _ (List.mem_append_right _ (List.mem_append_right _ (List.mem_append_right _ (List.mem_append_right _ (List.mem_append_right _ (List.mem_append_right _ (List.mem_append_right _ (List.mem_append_right _ (List.mem_append_left _ (List.mem_of_getElem? (l := gT_9) (i := 52) rfl))))))))))
theorem m_593 : Cond.lays "DecimalDeskModel" "DecimalDeskModel" "raised" "I" ∈ gT := List.mem_append_right _ (List.mem_append_right _ (List.mem_append_right _ (List.mem_append_right _ (List.mem_append_right _ (List.mem_append_right _ (List.mem_append_right _ (List.mem_append_right _ (List.mem_append_right _ (List.mem_append_left _ (List.mem_of_getElem? (l := gT_9) (i := 53) rfl))))))))))
theorem m_594 : Cond.laysFinal "DecimalDeskModel" "DecimalDeskModel" "tape" "[I" ∈ gT := List.mem_append_right _ (List.mem_append_right _ (List.mem_append_right _ (List.mem_append_right _ (List.mem_append_right _ (List.mem_append_right _ (List.mem_append_right _ (List.mem_append_right _ (List.mem_append_right _ (List.mem_append_left _ (List.mem_of_getElem? (l := gT_9) (i := 54) rfl))))))))))
theorem m_595 : Cond.lays "DecimalDeskModel" "DecimalDeskModel" "taped" "I" ∈ gT := List.mem_append_right _ (List.mem_append_right _ (List.mem_append_right _ (List.mem_append_right _ (List.mem_append_right _ (List.mem_append_right _ (List.mem_append_right _ (List.mem_append_right _ (List.mem_append_right _ (List.mem_append_left _ (List.mem_of_getElem? (l := gT_9) (i := 55) rfl))))))))))
theorem m_596 : Cond.laysFinal "DecimalDeskModel" "DecimalDeskModel" "told" "[I" ∈ gT := List.mem_append_right _ (List.mem_append_right _ (List.mem_append_right _ (List.mem_append_right _ (List.mem_append_right _ (List.mem_append_right _ (List.mem_append_right _ (List.mem_append_right _ (List.mem_append_right _ (List.mem_append_left _ (List.mem_of_getElem? (l := gT_9) (i := 56) rfl))))))))))
theorem m_597 : Cond.lays "DecimalDeskModel" "DecimalDeskModel" "toldLong" "I" ∈ gT := List.mem_append_right _ (List.mem_append_right _ (List.mem_append_right _ (List.mem_append_right _ (List.mem_append_right _ (List.mem_append_right _ (List.mem_append_right _ (List.mem_append_right _ (List.mem_append_right _ (List.mem_append_left _ (List.mem_of_getElem? (l := gT_9) (i := 57) rfl))))))))))
theorem m_598 : Cond.laysFinal "DecimalDeskModel" "DecimalDeskModel" "row" "[I" ∈ gT := List.mem_append_right _ (List.mem_append_right _ (List.mem_append_right _ (List.mem_append_right _ (List.mem_append_right _ (List.mem_append_right _ (List.mem_append_right _ (List.mem_append_right _ (List.mem_append_right _ (List.mem_append_left _ (List.mem_of_getElem? (l := gT_9) (i := 58) rfl))))))))))
theorem m_599 : Cond.lays "DecimalDeskModel" "DecimalDeskModel" "first" "I" ∈ gT := List.mem_append_right _ (List.mem_append_right _ (List.mem_append_right _ (List.mem_append_right _ (List.mem_append_right _ (List.mem_append_right _ (List.mem_append_right _ (List.mem_append_right _ (List.mem_append_right _ (List.mem_append_left _ (List.mem_of_getElem? (l := gT_9) (i := 59) rfl))))))))))
theorem m_600 : Cond.lays "DecimalDeskModel" "DecimalDeskModel" "last" "I" ∈ gT := List.mem_append_right _ (List.mem_append_right _ (List.mem_append_right _ (List.mem_append_right _ (List.mem_append_right _ (List.mem_append_right _ (List.mem_append_right _ (List.mem_append_right _ (List.mem_append_right _ (List.mem_append_right _ (List.mem_append_left _ (List.mem_of_getElem? (l := gT_10) (i := 0) rfl)))))))))))
theorem m_601 : Cond.laysFinal "DecimalDeskModel" "DecimalDeskModel" "whole" "[I" ∈ gT := List.mem_append_right _ (List.mem_append_right _ (List.mem_append_right _ (List.mem_append_right _ (List.mem_append_right _ (List.mem_append_right _ (List.mem_append_right _ (List.mem_append_right _ (List.mem_append_right _ (List.mem_append_right _ (List.mem_append_left _ (List.mem_of_getElem? (l := gT_10) (i := 1) rfl)))))))))))
theorem m_602 : Cond.lays "DecimalDeskModel" "DecimalDeskModel" "wholeFirst" "I" ∈ gT := List.mem_append_right _ (List.mem_append_right _ (List.mem_append_right _ (List.mem_append_right _ (List.mem_append_right _ (List.mem_append_right _ (List.mem_append_right _ (List.mem_append_right _ (List.mem_append_right _ (List.mem_append_right _ (List.mem_append_left _ (List.mem_of_getElem? (l := gT_10) (i := 2) rfl)))))))))))
theorem m_603 : Cond.lays "DecimalDeskModel" "DecimalDeskModel" "wholeLast" "I" ∈ gT := List.mem_append_right _ (List.mem_append_right _ (List.mem_append_right _ (List.mem_append_right _ (List.mem_append_right _ (List.mem_append_right _ (List.mem_append_right _ (List.mem_append_right _ (List.mem_append_right _ (List.mem_append_right _ (List.mem_append_left _ (List.mem_of_getElem? (l := gT_10) (i := 3) rfl)))))))))))
theorem m_604 : Cond.lays "DecimalDeskModel" "DecimalDeskModel" "lost" "Z" ∈ gT := List.mem_append_right _ (List.mem_append_right _ (List.mem_append_right _ (List.mem_append_right _ (List.mem_append_right _ (List.mem_append_right _ (List.mem_append_right _ (List.mem_append_right _ (List.mem_append_right _ (List.mem_append_right _ (List.mem_append_left _ (List.mem_of_getElem? (l := gT_10) (i := 4) rfl)))))))))))
theorem m_605 : Cond.lays "DecimalDeskModel" "DecimalDeskModel" "over" "Z" ∈ gT := List.mem_append_right _ (List.mem_append_right _ (List.mem_append_right _ (List.mem_append_right _ (List.mem_append_right _ (List.mem_append_right _ (List.mem_append_right _ (List.mem_append_right _ (List.mem_append_right _ (List.mem_append_right _ (List.mem_append_left _ (List.mem_of_getElem? (l := gT_10) (i := 5) rfl)))))))))))
theorem m_606 : Cond.lays "DecimalDeskModel" "DecimalDeskModel" "under" "Z" ∈ gT := List.mem_append_right _ (List.mem_append_right _ (List.mem_append_right _ (List.mem_append_right _ (List.mem_append_right _ (List.mem_append_right _ (List.mem_append_right _ (List.mem_append_right _ (List.mem_append_right _ (List.mem_append_right _ (List.mem_append_left _ (List.mem_of_getElem? (l := gT_10) (i := 6) rfl)))))))))))
theorem m_607 : Cond.lays "DecimalDeskModel" "DecimalDeskModel" "at" "I" ∈ gT := List.mem_append_right _ (List.mem_append_right _ (List.mem_append_right _ (List.mem_append_right _ (List.mem_append_right _ (List.mem_append_right _ (List.mem_append_right _ (List.mem_append_right _ (List.mem_append_right _ (List.mem_append_right _ (List.mem_append_left _ (List.mem_of_getElem? (l := gT_10) (i := 7) rfl)))))))))))
theorem m_608 : Cond.lays "DecimalDeskModel" "DecimalDeskModel" "minus" "Z" ∈ gT := List.mem_append_right _ (List.mem_append_right _ (List.mem_append_right _ (List.mem_append_right _ (List.mem_append_right _ (List.mem_append_right _ (List.mem_append_right _ (List.mem_append_right _ (List.mem_append_right _ (List.mem_append_right _ (List.mem_append_left _ (List.mem_of_getElem? (l := gT_10) (i := 8) rfl)))))))))))
theorem m_609 : Cond.lays "DecimalDeskModel" "DecimalDeskModel" "digits" "I" ∈ gT := List.mem_append_right _ (List.mem_append_right _ (List.mem_append_right _ (List.mem_append_right _ (List.mem_append_right _ (List.mem_append_right _ (List.mem_append_right _ (List.mem_append_right _ (List.mem_append_right _ (List.mem_append_right _ (List.mem_append_left _ (List.mem_of_getElem? (l := gT_10) (i := 9) rfl)))))))))))
theorem m_610 : Cond.laysFinal "DecimalDeskModel" "DecimalDeskModel" "digit" "[I" ∈ gT := List.mem_append_right _ (List.mem_append_right _ (List.mem_append_right _ (List.mem_append_right _ (List.mem_append_right _ (List.mem_append_right _ (List.mem_append_right _ (List.mem_append_right _ (List.mem_append_right _ (List.mem_append_right _ (List.mem_append_left _ (List.mem_of_getElem? (l := gT_10) (i := 10) rfl)))))))))))
theorem m_611 : Cond.lays "DecimalDeskModel" "DecimalDeskModel" "ahead0" "I" ∈ gT := List.mem_append_right _ (List.mem_append_right _ (List.mem_append_right _ (List.mem_append_right _ (List.mem_append_right _ (List.mem_append_right _ (List.mem_append_right _ (List.mem_append_right _ (List.mem_append_right _ (List.mem_append_right _ (List.mem_append_left _ (List.mem_of_getElem? (l := gT_10) (i := 11) rfl)))))))))))
theorem m_612 : Cond.lays "DecimalDeskModel" "DecimalDeskModel" "exponent" "I" ∈ gT := List.mem_append_right _ (List.mem_append_right _ (List.mem_append_right _ (List.mem_append_right _ (List.mem_append_right _ (List.mem_append_right _ (List.mem_append_right _ (List.mem_append_right _ (List.mem_append_right _ (List.mem_append_right _ (List.mem_append_left _ (List.mem_of_getElem? (l := gT_10) (i := 12) rfl)))))))))))
theorem m_613 : Cond.laysFinal "DecimalDeskModel" "DecimalDeskModel" "tried" "[I" ∈ gT := List.mem_append_right _ (List.mem_append_right _ (List.mem_append_right _ (List.mem_append_right _ (List.mem_append_right _ (List.mem_append_right _ (List.mem_append_right _ (List.mem_append_right _ (List.mem_append_right _ (List.mem_append_right _ (List.mem_append_left _ (List.mem_of_getElem? (l := gT_10) (i := 13) rfl)))))))))))
theorem m_614 : Cond.lays "DecimalDeskModel" "DecimalDeskModel" "ten" "I" ∈ gT := List.mem_append_right _ (List.mem_append_right _ (List.mem_append_right _ (List.mem_append_right _ (List.mem_append_right _ (List.mem_append_right _ (List.mem_append_right _ (List.mem_append_right _ (List.mem_append_right _ (List.mem_append_right _ (List.mem_append_left _ (List.mem_of_getElem? (l := gT_10) (i := 14) rfl)))))))))))
theorem m_615 : Cond.methodLink "DecimalDeskLaw" 36 y_Model_format ∈ gT := List.mem_append_right _ (List.mem_append_right _ (List.mem_append_right _ (List.mem_append_right _ (List.mem_append_right _ (List.mem_append_right _ (List.mem_append_right _ (List.mem_append_right _ (List.mem_append_right _ (List.mem_append_right _ (List.mem_append_left _ (List.mem_of_getElem? (l := gT_10) (i := 15) rfl)))))))))))
theorem m_616 : Cond.instanceMethod y_Model_format ∈ gT := List.mem_append_right _ (List.mem_append_right _ (List.mem_append_right _ (List.mem_append_right _ (List.mem_append_right _ (List.mem_append_right _ (List.mem_append_right _ (List.mem_append_right _ (List.mem_append_right _ (List.mem_append_right _ (List.mem_append_left _ (List.mem_of_getElem? (l := gT_10) (i := 16) rfl)))))))))))
theorem m_617 : Cond.selects "DecimalDeskModel" y_Model_format y_Model_format ∈ gT := List.mem_append_right _ (List.mem_append_right _ (List.mem_append_right _ (List.mem_append_right _ (List.mem_append_right _ (List.mem_append_right _ (List.mem_append_right _ (List.mem_append_right _ (List.mem_append_right _ (List.mem_append_right _ (List.mem_append_left _ (List.mem_of_getElem? (l := gT_10) (i := 17) rfl)))))))))))
theorem m_618 : Cond.code y_Model_format prog_10_method_4_code 3 (some .boolean) ∈ gT := List.mem_append_right _ (List.mem_append_right _ (List.mem_append_right _ (List.mem_append_right _ (List.mem_append_right _ (List.mem_append_right _ (List.mem_append_right _ (List.mem_append_right _ (List.mem_append_right _ (List.mem_append_right _ (List.mem_append_left _ (List.mem_of_getElem? (l := gT_10) (i := 18) rfl)))))))))))
theorem m_619 : Cond.methodLink "DecimalDeskLaw" 41 y_Model_mode ∈ gT := List.mem_append_right _ (List.mem_append_right _ (List.mem_append_right _ (List.mem_append_right _ (List.mem_append_right _ (List.mem_append_right _ (List.mem_append_right _ (List.mem_append_right _ (List.mem_append_right _ (List.mem_append_right _ (List.mem_append_left _ (List.mem_of_getElem? (l := gT_10) (i := 19) rfl)))))))))))
theorem m_620 : Cond.instanceMethod y_Model_mode ∈ gT := List.mem_append_right _ (List.mem_append_right _ (List.mem_append_right _ (List.mem_append_right _ (List.mem_append_right _ (List.mem_append_right _ (List.mem_append_right _ (List.mem_append_right _ (List.mem_append_right _ (List.mem_append_right _ (List.mem_append_left _ (List.mem_of_getElem? (l := gT_10) (i := 20) rfl)))))))))))
theorem m_621 : Cond.selects "DecimalDeskModel" y_Model_mode y_Model_mode ∈ gT := List.mem_append_right _ (List.mem_append_right _ (List.mem_append_right _ (List.mem_append_right _ (List.mem_append_right _ (List.mem_append_right _ (List.mem_append_right _ (List.mem_append_right _ (List.mem_append_right _ (List.mem_append_right _ (List.mem_append_left _ (List.mem_of_getElem? (l := gT_10) (i := 21) rfl)))))))))))
theorem m_622 : Cond.code y_Model_mode prog_10_method_5_code 2 (some .boolean) ∈ gT := List.mem_append_right _ (List.mem_append_right _ (List.mem_append_right _ (List.mem_append_right _ (List.mem_append_right _ (List.mem_append_right _ (List.mem_append_right _ (List.mem_append_right _ (List.mem_append_right _ (List.mem_append_right _ (List.mem_append_left _ (List.mem_of_getElem? (l := gT_10) (i := 22) rfl)))))))))))
theorem m_623 : Cond.methodLink "DecimalDeskLaw" 48 y_Model_type ∈ gT := List.mem_append_right _ (List.mem_append_right _ (List.mem_append_right _ (List.mem_append_right _ (List.mem_append_right _ (List.mem_append_right _ (List.mem_append_right _ (List.mem_append_right _ (List.mem_append_right _ (List.mem_append_right _ (List.mem_append_left _ (List.mem_of_getElem? (l := gT_10) (i := 23) rfl)))))))))))
theorem m_624 : Cond.instanceMethod y_Model_type ∈ gT := List.mem_append_right _ (List.mem_append_right _ (List.mem_append_right _ (List.mem_append_right _ (List.mem_append_right _ (List.mem_append_right _ (List.mem_append_right _ (List.mem_append_right _ (List.mem_append_right _ (List.mem_append_right _ (List.mem_append_left _ (List.mem_of_getElem? (l := gT_10) (i := 24) rfl)))))))))))
theorem m_625 : Cond.selects "DecimalDeskModel" y_Model_type y_Model_type ∈ gT := List.mem_append_right _ (List.mem_append_right _ (List.mem_append_right _ (List.mem_append_right _ (List.mem_append_right _ (List.mem_append_right _ (List.mem_append_right _ (List.mem_append_right _ (List.mem_append_right _ (List.mem_append_right _ (List.mem_append_left _ (List.mem_of_getElem? (l := gT_10) (i := 25) rfl)))))))))))
theorem m_626 : Cond.code y_Model_type prog_10_method_6_code 6 (some .boolean) ∈ gT := List.mem_append_right _ (List.mem_append_right _ (List.mem_append_right _ (List.mem_append_right _ (List.mem_append_right _ (List.mem_append_right _ (List.mem_append_right _ (List.mem_append_right _ (List.mem_append_right _ (List.mem_append_right _ (List.mem_append_left _ (List.mem_of_getElem? (l := gT_10) (i := 26) rfl)))))))))))
theorem m_627 : Cond.constantLong "DecimalDeskModel" 50 255 ∈ gT := List.mem_append_right _ (List.mem_append_right _ (List.mem_append_right _ (List.mem_append_right _ (List.mem_append_right _ (List.mem_append_right _ (List.mem_append_right _ (List.mem_append_right _ (List.mem_append_right _ (List.mem_append_right _ (List.mem_append_left _ (List.mem_of_getElem? (l := gT_10) (i := 27) rfl)))))))))))
theorem m_628 : Cond.methodLink "DecimalDeskLaw" 59 y_Model_flags ∈ gT := List.mem_append_right _ (List.mem_append_right _ (List.mem_append_right _ (List.mem_append_right _ (List.mem_append_right _ (List.mem_append_right _ (List.mem_append_right _ (List.mem_append_right _ (List.mem_append_right _ (List.mem_append_right _ (List.mem_append_left _ (List.mem_of_getElem? (l := gT_10) (i := 28) rfl)))))))))))
theorem m_629 : Cond.instanceMethod y_Model_flags ∈ gT := List.mem_append_right _ (List.mem_append_right _ (List.mem_append_right _ (List.mem_append_right _ (List.mem_append_right _ (List.mem_append_right _ (List.mem_append_right _ (List.mem_append_right _ (List.mem_append_right _ (List.mem_append_right _ (List.mem_append_left _ (List.mem_of_getElem? (l := gT_10) (i := 29) rfl)))))))))))
theorem m_630 : Cond.selects "DecimalDeskModel" y_Model_flags y_Model_flags ∈ gT := List.mem_append_right _ (List.mem_append_right _ (List.mem_append_right _ (List.mem_append_right _ (List.mem_append_right _ (List.mem_append_right _ (List.mem_append_right _ (List.mem_append_right _ (List.mem_append_right _ (List.mem_append_right _ (List.mem_append_left _ (List.mem_of_getElem? (l := gT_10) (i := 30) rfl)))))))))))
theorem m_631 : Cond.code y_Model_flags prog_10_method_7_code 1 (some .int) ∈ gT := List.mem_append_right _ (List.mem_append_right _ (List.mem_append_right _ (List.mem_append_right _ (List.mem_append_right _ (List.mem_append_right _ (List.mem_append_right _ (List.mem_append_right _ (List.mem_append_right _ (List.mem_append_right _ (List.mem_append_left _ (List.mem_of_getElem? (l := gT_10) (i := 31) rfl)))))))))))
theorem m_632 : Cond.methodLink "DecimalDeskLaw" 63 y_Model_clear ∈ gT := List.mem_append_right _ (List.mem_append_right _ (List.mem_append_right _ (List.mem_append_right _ (List.mem_append_right _ (List.mem_append_right _ (List.mem_append_right _ (List.mem_append_right _ (List.mem_append_right _ (List.mem_append_right _ (List.mem_append_left _ (List.mem_of_getElem? (l := gT_10) (i := 32) rfl)))))))))))
theorem m_633 : Cond.instanceMethod y_Model_clear ∈ gT := List.mem_append_right _ (List.mem_append_right _ (List.mem_append_right _ (List.mem_append_right _ (List.mem_append_right _ (List.mem_append_right _ (List.mem_append_right _ (List.mem_append_right _ (List.mem_append_right _ (List.mem_append_right _ (List.mem_append_left _ (List.mem_of_getElem? (l := gT_10) (i := 33) rfl)))))))))))
theorem m_634 : Cond.selects "DecimalDeskModel" y_Model_clear y_Model_clear ∈ gT := List.mem_append_right _ (List.mem_append_right _ (List.mem_append_right _ (List.mem_append_right _ (List.mem_append_right _ (List.mem_append_right _ (List.mem_append_right _ (List.mem_append_right _ (List.mem_append_right _ (List.mem_append_right _ (List.mem_append_left _ (List.mem_of_getElem? (l := gT_10) (i := 34) rfl)))))))))))
theorem m_635 : Cond.code y_Model_clear prog_10_method_8_code 3 (some .int) ∈ gT := List.mem_append_right _ (List.mem_append_right _ (List.mem_append_right _ (List.mem_append_right _ (List.mem_append_right _ (List.mem_append_right _ (List.mem_append_right _ (List.mem_append_right _ (List.mem_append_right _ (List.mem_append_right _ (List.mem_append_left _ (List.mem_of_getElem? (l := gT_10) (i := 35) rfl)))))))))))
theorem m_636 : Cond.methodLink "DecimalDeskLaw" 54 y_Model_read ∈ gT := List.mem_append_right _ (List.mem_append_right _ (List.mem_append_right _ (List.mem_append_right _ (List.mem_append_right _ (List.mem_append_right _ (List.mem_append_right _ (List.mem_append_right _ (List.mem_append_right _ (List.mem_append_right _ (List.mem_append_left _ (List.mem_of_getElem? (l := gT_10) (i := 36) rfl)))))))))))
theorem m_637 : Cond.instanceMethod y_Model_read ∈ gT := List.mem_append_right _ (List.mem_append_right _ (List.mem_append_right _ (List.mem_append_right _ (List.mem_append_right _ (List.mem_append_right _ (List.mem_append_right _ (List.mem_append_right _ (List.mem_append_right _ (List.mem_append_right _ (List.mem_append_left _ (List.mem_of_getElem? (l := gT_10) (i := 37) rfl)))))))))))
theorem m_638 : Cond.selects "DecimalDeskModel" y_Model_read y_Model_read ∈ gT := List.mem_append_right _ (List.mem_append_right _ (List.mem_append_right _ (List.mem_append_right _ (List.mem_append_right _ (List.mem_append_right _ (List.mem_append_right _ (List.mem_append_right _ (List.mem_append_right _ (List.mem_append_right _ (List.mem_append_left _ (List.mem_of_getElem? (l := gT_10) (i := 38) rfl)))))))))))
theorem m_639 : Cond.code y_Model_read prog_10_method_25_code 4 (some .long) ∈ gT := List.mem_append_right _ (List.mem_append_right _ (List.mem_append_right _ (List.mem_append_right _ (List.mem_append_right _ (List.mem_append_right _ (List.mem_append_right _ (List.mem_append_right _ (List.mem_append_right _ (List.mem_append_right _ (List.mem_append_left _ (List.mem_of_getElem? (l := gT_10) (i := 39) rfl)))))))))))
theorem m_640 : Cond.methodLink "DecimalDeskModel" 132 y_Model_isDecimal ∈ gT := List.mem_append_right _ (List.mem_append_right _ (List.mem_append_right _ (List.mem_append_right _ (List.mem_append_right _ (List.mem_append_right _ (List.mem_append_right _ (List.mem_append_right _ (List.mem_append_right _ (List.mem_append_right _ (List.mem_append_left _ (List.mem_of_getElem? (l := gT_10) (i := 40) rfl)))))))))))
theorem m_641 : Cond.instanceMethod y_Model_isDecimal ∈ gT := List.mem_append_right _ (List.mem_append_right _ (List.mem_append_right _ (List.mem_append_right _ (List.mem_append_right _ (List.mem_append_right _ (List.mem_append_right _ (List.mem_append_right _ (List.mem_append_right _ (List.mem_append_right _ (List.mem_append_left _ (List.mem_of_getElem? (l := gT_10) (i := 41) rfl)))))))))))
theorem m_642 : Cond.code y_Model_isDecimal prog_10_method_23_code 3 (some .boolean) ∈ gT := List.mem_append_right _ (List.mem_append_right _ (List.mem_append_right _ (List.mem_append_right _ (List.mem_append_right _ (List.mem_append_right _ (List.mem_append_right _ (List.mem_append_right _ (List.mem_append_right _ (List.mem_append_right _ (List.mem_append_left _ (List.mem_of_getElem? (l := gT_10) (i := 42) rfl)))))))))))
theorem m_643 : Cond.methodLink "DecimalDeskModel" 98 y_Model_see ∈ gT := List.mem_append_right _ (List.mem_append_right _ (List.mem_append_right _ (List.mem_append_right _ (List.mem_append_right _ (List.mem_append_right _ (List.mem_append_right _ (List.mem_append_right _ (List.mem_append_right _ (List.mem_append_right _ (List.mem_append_left _ (List.mem_of_getElem? (l := gT_10) (i := 43) rfl)))))))))))
theorem m_644 : Cond.instanceMethod y_Model_see ∈ gT := List.mem_append_right _ (List.mem_append_right _ (List.mem_append_right _ (List.mem_append_right _ (List.mem_append_right _ (List.mem_append_right _ (List.mem_append_right _ (List.mem_append_right _ (List.mem_append_right _ (List.mem_append_right _ (List.mem_append_left _ (List.mem_of_getElem? (l := gT_10) (i := 44) rfl)))))))))))
theorem m_645 : Cond.code y_Model_see prog_10_method_20_code 2 (some .int) ∈ gT := List.mem_append_right _ (List.mem_append_right _ (List.mem_append_right _ (List.mem_append_right _ (List.mem_append_right _ (List.mem_append_right _ (List.mem_append_right _ (List.mem_append_right _ (List.mem_append_right _ (List.mem_append_right _ (List.mem_append_left _ (List.mem_of_getElem? (l := gT_10) (i := 45) rfl)))))))))))
theorem m_646 : Cond.methodLink "DecimalDeskModel" 115 y_Model_run ∈ gT := List.mem_append_right _ (List.mem_append_right _ (List.mem_append_right _ (List.mem_append_right _ (List.mem_append_right _ (List.mem_append_right _ (List.mem_append_right _ (List.mem_append_right _ (List.mem_append_right _ (List.mem_append_right _ (List.mem_append_left _ (List.mem_of_getElem? (l := gT_10) (i := 46) rfl)))))))))))
theorem m_647 : Cond.instanceMethod y_Model_run ∈ gT := List.mem_append_right _ (List.mem_append_right _ (List.mem_append_right _ (List.mem_append_right _ (List.mem_append_right _ (List.mem_append_right _ (List.mem_append_right _ (List.mem_append_right _ (List.mem_append_right _ (List.mem_append_right _ (List.mem_append_left _ (List.mem_of_getElem? (l := gT_10) (i := 47) rfl)))))))))))
theorem m_648 : Cond.code y_Model_run prog_10_method_22_code 2 (some .int) ∈ gT := List.mem_append_right _ (List.mem_append_right _ (List.mem_append_right _ (List.mem_append_right _ (List.mem_append_right _ (List.mem_append_right _ (List.mem_append_right _ (List.mem_append_right _ (List.mem_append_right _ (List.mem_append_right _ (List.mem_append_left _ (List.mem_of_getElem? (l := gT_10) (i := 48) rfl)))))))))))
theorem m_649 : Cond.methodLink "DecimalDeskModel" 102 y_Model_isDigit ∈ gT := List.mem_append_right _ (List.mem_append_right _ (List.mem_append_right _ (List.mem_append_right _ (List.mem_append_right _ (List.mem_append_right _ (List.mem_append_right _ (List.mem_append_right _ (List.mem_append_right _ (List.mem_append_right _ (List.mem_append_left _ (List.mem_of_getElem? (l := gT_10) (i := 49) rfl)))))))))))
theorem m_650 : Cond.static y_Model_isDigit ∈ gT := List.mem_append_right _ (List.mem_append_right _ (List.mem_append_right _ (List.mem_append_right _ (List.mem_append_right _ (List.mem_append_right _ (List.mem_append_right _ (List.mem_append_right _ (List.mem_append_right _ (List.mem_append_right _ (List.mem_append_left _ (List.mem_of_getElem? (l := gT_10) (i := 50) rfl)))))))))))
theorem m_651 : Cond.code y_Model_isDigit prog_10_method_21_code 1 (some .boolean) ∈ gT := List.mem_append_right _ (List.mem_append_right _ (List.mem_append_right _ (List.mem_append_right _ (List.mem_append_right _ (List.mem_append_right _ (List.mem_append_right _ (List.mem_append_right _ (List.mem_append_right _ (List.mem_append_right _ (List.mem_append_left _ (List.mem_of_getElem? (l := gT_10) (i := 51) rfl)))))))))))
theorem m_652 : Cond.methodLink "DecimalDeskModel" 136 y_Model_raise ∈ gT := List.mem_append_right _ (List.mem_append_right _ (List.mem_append_right _ (List.mem_append_right _ (List.mem_append_right _ (List.mem_append_right _ (List.mem_append_right _ (List.mem_append_right _ (List.mem_append_right _ (List.mem_append_right _ (List.mem_append_left _ (List.mem_of_getElem? (l := gT_10) (i := 52) rfl)))))))))))
theorem m_653 : Cond.instanceMethod y_Model_raise ∈ gT := List.mem_append_right _ (List.mem_append_right _ (List.mem_append_right _ (List.mem_append_right _ (List.mem_append_right _ (List.mem_append_right _ (List.mem_append_right _ (List.mem_append_right _ (List.mem_append_right _ (List.mem_append_right _ (List.mem_append_left _ (List.mem_of_getElem? (l := gT_10) (i := 53) rfl)))))))))))
theorem m_654 : Cond.code y_Model_raise prog_10_method_3_code 2 (some .int) ∈ gT := List.mem_append_right _ (List.mem_append_right _ (List.mem_append_right _ (List.mem_append_right _ (List.mem_append_right _ (List.mem_append_right _ (List.mem_append_right _ (List.mem_append_right _ (List.mem_append_right _ (List.mem_append_right _ (List.mem_append_left _ (List.mem_of_getElem? (l := gT_10) (i := 54) rfl)))))))))))
theorem m_655 : Cond.methodLink "DecimalDeskModel" 139 y_Model_valued ∈ gT := List.mem_append_right _ (List.mem_append_right _ (List.mem_append_right _ (List.mem_append_right _ (List.mem_append_right _ (List.mem_append_right _ (List.mem_append_right _ (List.mem_append_right _ (List.mem_append_right _ (List.mem_append_right _ (List.mem_append_left _ (List.mem_of_getElem? (l := gT_10) (i := 55) rfl)))))))))))
theorem m_656 : Cond.instanceMethod y_Model_valued ∈ gT := List.mem_append_right _ (List.mem_append_right _ (List.mem_append_right _ (List.mem_append_right _ (List.mem_append_right _ (List.mem_append_right _ (List.mem_append_right _ (List.mem_append_right _ (List.mem_append_right _ (List.mem_append_right _ (List.mem_append_left _ (List.mem_of_getElem? (l := gT_10) (i := 56) rfl)))))))))))
theorem m_657 : Cond.code y_Model_valued prog_10_method_24_code 5 (some .long) ∈ gT := List.mem_append_right _ (List.mem_append_right _ (List.mem_append_right _ (List.mem_append_right _ (List.mem_append_right _ (List.mem_append_right _ (List.mem_append_right _ (List.mem_append_right _ (List.mem_append_right _ (List.mem_append_right _ (List.mem_append_left _ (List.mem_of_getElem? (l := gT_10) (i := 57) rfl)))))))))))
theorem m_658 : Cond.methodLink "DecimalDeskModel" 77 y_Model_packed ∈ gT := List.mem_append_right _ (List.mem_append_right _ (List.mem_append_right _ (List.mem_append_right _ (List.mem_append_right _ (List.mem_append_right _ (List.mem_append_right _ (List.mem_append_right _ (List.mem_append_right _ (List.mem_append_right _ (List.mem_append_left _ (List.mem_of_getElem? (l := gT_10) (i := 58) rfl)))))))))))
theorem m_659 : Cond.instanceMethod y_Model_packed ∈ gT := List.mem_append_right _ (List.mem_append_right _ (List.mem_append_right _ (List.mem_append_right _ (List.mem_append_right _ (List.mem_append_right _ (List.mem_append_right _ (List.mem_append_right _ (List.mem_append_right _ (List.mem_append_right _ (List.mem_append_left _ (List.mem_of_getElem? (l := gT_10) (i := 59) rfl)))))))))))
theorem m_660 : Cond.code y_Model_packed prog_10_method_19_code 14 (some .long) ∈ gT := List.mem_append_right _ (List.mem_append_right _ (List.mem_append_right _ (List.mem_append_right _ (List.mem_append_right _ (List.mem_append_right _ (List.mem_append_right _ (List.mem_append_right _ (List.mem_append_right _ (List.mem_append_right _ (List.mem_append_right _ (List.mem_append_left _ (List.mem_of_getElem? (l := gT_11) (i := 0) rfl))))))))))))
theorem m_661 : Cond.methodLink "DecimalDeskModel" 84 y_Model_goesUp ∈ gT := List.mem_append_right _ (List.mem_append_right _ (List.mem_append_right _ (List.mem_append_right _ (List.mem_append_right _ (List.mem_append_right _ (List.mem_append_right _ (List.mem_append_right _ (List.mem_append_right _ (List.mem_append_right _ (List.mem_append_right _ (List.mem_append_left _ (List.mem_of_getElem? (l := gT_11) (i := 1) rfl))))))))))))
theorem m_662 : Cond.instanceMethod y_Model_goesUp ∈ gT := List.mem_append_right _ (List.mem_append_right _ (List.mem_append_right _ (List.mem_append_right _ (List.mem_append_right _ (List.mem_append_right _ (List.mem_append_right _ (List.mem_append_right _ (List.mem_append_right _ (List.mem_append_right _ (List.mem_append_right _ (List.mem_append_left _ (List.mem_of_getElem? (l := gT_11) (i := 2) rfl))))))))))))
theorem m_663 : Cond.code y_Model_goesUp prog_10_method_17_code 6 (some .boolean) ∈ gT := List.mem_append_right _ (List.mem_append_right _ (List.mem_append_right _ (List.mem_append_right _ (List.mem_append_right _ (List.mem_append_right _ (List.mem_append_right _ (List.mem_append_right _ (List.mem_append_right _ (List.mem_append_right _ (List.mem_append_right _ (List.mem_append_left _ (List.mem_of_getElem? (l := gT_11) (i := 3) rfl))))))))))))
theorem m_664 : Cond.constantLong "DecimalDeskModel" 72 2 ∈ gT := List.mem_append_right _ (List.mem_append_right _ (List.mem_append_right _ (List.mem_append_right _ (List.mem_append_right _ (List.mem_append_right _ (List.mem_append_right _ (List.mem_append_right _ (List.mem_append_right _ (List.mem_append_right _ (List.mem_append_right _ (List.mem_append_left _ (List.mem_of_getElem? (l := gT_11) (i := 4) rfl))))))))))))
theorem m_665 : Cond.methodLink "DecimalDeskModel" 55 y_Model_bias ∈ gT := List.mem_append_right _ (List.mem_append_right _ (List.mem_append_right _ (List.mem_append_right _ (List.mem_append_right _ (List.mem_append_right _ (List.mem_append_right _ (List.mem_append_right _ (List.mem_append_right _ (List.mem_append_right _ (List.mem_append_right _ (List.mem_append_left _ (List.mem_of_getElem? (l := gT_11) (i := 5) rfl))))))))))))
theorem m_666 : Cond.instanceMethod y_Model_bias ∈ gT := List.mem_append_right _ (List.mem_append_right _ (List.mem_append_right _ (List.mem_append_right _ (List.mem_append_right _ (List.mem_append_right _ (List.mem_append_right _ (List.mem_append_right _ (List.mem_append_right _ (List.mem_append_right _ (List.mem_append_right _ (List.mem_append_left _ (List.mem_of_getElem? (l := gT_11) (i := 6) rfl))))))))))))
theorem m_667 : Cond.code y_Model_bias prog_10_method_15_code 1 (some .int) ∈ gT := List.mem_append_right _ (List.mem_append_right _ (List.mem_append_right _ (List.mem_append_right _ (List.mem_append_right _ (List.mem_append_right _ (List.mem_append_right _ (List.mem_append_right _ (List.mem_append_right _ (List.mem_append_right _ (List.mem_append_right _ (List.mem_append_left _ (List.mem_of_getElem? (l := gT_11) (i := 7) rfl))))))))))))
theorem m_668 : Cond.methodLink "DecimalDeskModel" 91 y_Model_beyond ∈ gT := List.mem_append_right _ (List.mem_append_right _ (List.mem_append_right _ (List.mem_append_right _ (List.mem_append_right _ (List.mem_append_right _ (List.mem_append_right _ (List.mem_append_right _ (List.mem_append_right _ (List.mem_append_right _ (List.mem_append_right _ (List.mem_append_left _ (List.mem_of_getElem? (l := gT_11) (i := 8) rfl))))))))))))
theorem m_669 : Cond.instanceMethod y_Model_beyond ∈ gT := List.mem_append_right _ (List.mem_append_right _ (List.mem_append_right _ (List.mem_append_right _ (List.mem_append_right _ (List.mem_append_right _ (List.mem_append_right _ (List.mem_append_right _ (List.mem_append_right _ (List.mem_append_right _ (List.mem_append_right _ (List.mem_append_left _ (List.mem_of_getElem? (l := gT_11) (i := 9) rfl))))))))))))
theorem m_670 : Cond.code y_Model_beyond prog_10_method_16_code 1 (some .long) ∈ gT := List.mem_append_right _ (List.mem_append_right _ (List.mem_append_right _ (List.mem_append_right _ (List.mem_append_right _ (List.mem_append_right _ (List.mem_append_right _ (List.mem_append_right _ (List.mem_append_right _ (List.mem_append_right _ (List.mem_append_right _ (List.mem_append_left _ (List.mem_of_getElem? (l := gT_11) (i := 10) rfl))))))))))))
theorem m_671 : Cond.methodLink "DecimalDeskModel" 121 y_Model_wipe ∈ gT := List.mem_append_right _ (List.mem_append_right _ (List.mem_append_right _ (List.mem_append_right _ (List.mem_append_right _ (List.mem_append_right _ (List.mem_append_right _ (List.mem_append_right _ (List.mem_append_right _ (List.mem_append_right _ (List.mem_append_right _ (List.mem_append_left _ (List.mem_of_getElem? (l := gT_11) (i := 11) rfl))))))))))))
theorem m_672 : Cond.instanceMethod y_Model_wipe ∈ gT := List.mem_append_right _ (List.mem_append_right _ (List.mem_append_right _ (List.mem_append_right _ (List.mem_append_right _ (List.mem_append_right _ (List.mem_append_right _ (List.mem_append_right _ (List.mem_append_right _ (List.mem_append_right _ (List.mem_append_right _ (List.mem_append_left _ (List.mem_of_getElem? (l := gT_11) (i := 12) rfl))))))))))))
theorem m_673 : Cond.code y_Model_wipe prog_10_method_9_code 2 none ∈ gT := List.mem_append_right _ (List.mem_append_right _ (List.mem_append_right _ (List.mem_append_right _ (List.mem_append_right _ (List.mem_append_right _ (List.mem_append_right _ (List.mem_append_right _ (List.mem_append_right _ (List.mem_append_right _ (List.mem_append_right _ (List.mem_append_left _ (List.mem_of_getElem? (l := gT_11) (i := 13) rfl))))))))))))
theorem m_674 : Cond.methodLink "DecimalDeskModel" 124 y_Model_dig ∈ gT := List.mem_append_right _ (List.mem_append_right _ (List.mem_append_right _ (List.mem_append_right _ (List.mem_append_right _ (List.mem_append_right _ (List.mem_append_right _ (List.mem_append_right _ (List.mem_append_right _ (List.mem_append_right _ (List.mem_append_right _ (List.mem_append_left _ (List.mem_of_getElem? (l := gT_11) (i := 14) rfl))))))))))))
theorem m_675 : Cond.instanceMethod y_Model_dig ∈ gT := List.mem_append_right _ (List.mem_append_right _ (List.mem_append_right _ (List.mem_append_right _ (List.mem_append_right _ (List.mem_append_right _ (List.mem_append_right _ (List.mem_append_right _ (List.mem_append_right _ (List.mem_append_right _ (List.mem_append_right _ (List.mem_append_left _ (List.mem_of_getElem? (l := gT_11) (i := 15) rfl))))))))))))
theorem m_676 : Cond.code y_Model_dig prog_10_method_10_code 3 none ∈ gT := List.mem_append_right _ (List.mem_append_right _ (List.mem_append_right _ (List.mem_append_right _ (List.mem_append_right _ (List.mem_append_right _ (List.mem_append_right _ (List.mem_append_right _ (List.mem_append_right _ (List.mem_append_right _ (List.mem_append_right _ (List.mem_append_left _ (List.mem_of_getElem? (l := gT_11) (i := 16) rfl))))))))))))
theorem m_677 : Cond.methodLink "DecimalDeskModel" 128 y_Model_rounded ∈ gT := List.mem_append_right _ (List.mem_append_right _ (List.mem_append_right _ (List.mem_append_right _ (List.mem_append_right _ (List.mem_append_right _ (List.mem_append_right _ (List.mem_append_right _ (List.mem_append_right _ (List.mem_append_right _ (List.mem_append_right _ (List.mem_append_left _ (List.mem_of_getElem? (l := gT_11) (i := 17) rfl))))))))))))
theorem m_678 : Cond.instanceMethod y_Model_rounded ∈ gT := List.mem_append_right _ (List.mem_append_right _ (List.mem_append_right _ (List.mem_append_right _ (List.mem_append_right _ (List.mem_append_right _ (List.mem_append_right _ (List.mem_append_right _ (List.mem_append_right _ (List.mem_append_right _ (List.mem_append_right _ (List.mem_append_left _ (List.mem_of_getElem? (l := gT_11) (i := 18) rfl))))))))))))
theorem m_679 : Cond.code y_Model_rounded prog_10_method_18_code 8 (some .long) ∈ gT := List.mem_append_right _ (List.mem_append_right _ (List.mem_append_right _ (List.mem_append_right _ (List.mem_append_right _ (List.mem_append_right _ (List.mem_append_right _ (List.mem_append_right _ (List.mem_append_right _ (List.mem_append_right _ (List.mem_append_right _ (List.mem_append_left _ (List.mem_of_getElem? (l := gT_11) (i := 19) rfl))))))))))))
theorem m_680 : Cond.methodLink "DecimalDeskModel" 59 y_Model_ahead ∈ gT := List.mem_append_right _ (List.mem_append_right _ (List.mem_append_right _ (List.mem_append_right _ (List.mem_append_right _ (List.mem_append_right _ (List.mem_append_right _ (List.mem_append_right _ (List.mem_append_right _ (List.mem_append_right _ (List.mem_append_right _ (List.mem_append_left _ (List.mem_of_getElem? (l := gT_11) (i := 20) rfl))))))))))))
theorem m_681 : Cond.instanceMethod y_Model_ahead ∈ gT := List.mem_append_right _ (List.mem_append_right _ (List.mem_append_right _ (List.mem_append_right _ (List.mem_append_right _ (List.mem_append_right _ (List.mem_append_right _ (List.mem_append_right _ (List.mem_append_right _ (List.mem_append_right _ (List.mem_append_right _ (List.mem_append_left _ (List.mem_of_getElem? (l := gT_11) (i := 21) rfl))))))))))))
theorem m_682 : Cond.code y_Model_ahead prog_10_method_13_code 1 (some .int) ∈ gT := List.mem_append_right _ (List.mem_append_right _ (List.mem_append_right _ (List.mem_append_right _ (List.mem_append_right _ (List.mem_append_right _ (List.mem_append_right _ (List.mem_append_right _ (List.mem_append_right _ (List.mem_append_right _ (List.mem_append_right _ (List.mem_append_left _ (List.mem_of_getElem? (l := gT_11) (i := 22) rfl))))))))))))
theorem m_683 : Cond.methodLink "DecimalDeskModel" 62 y_Model_half ∈ gT := List.mem_append_right _ (List.mem_append_right _ (List.mem_append_right _ (List.mem_append_right _ (List.mem_append_right _ (List.mem_append_right _ (List.mem_append_right _ (List.mem_append_right _ (List.mem_append_right _ (List.mem_append_right _ (List.mem_append_right _ (List.mem_append_left _ (List.mem_of_getElem? (l := gT_11) (i := 23) rfl))))))))))))
theorem m_684 : Cond.instanceMethod y_Model_half ∈ gT := List.mem_append_right _ (List.mem_append_right _ (List.mem_append_right _ (List.mem_append_right _ (List.mem_append_right _ (List.mem_append_right _ (List.mem_append_right _ (List.mem_append_right _ (List.mem_append_right _ (List.mem_append_right _ (List.mem_append_right _ (List.mem_append_left _ (List.mem_of_getElem? (l := gT_11) (i := 24) rfl))))))))))))
theorem m_685 : Cond.code y_Model_half prog_10_method_12_code 4 none ∈ gT := List.mem_append_right _ (List.mem_append_right _ (List.mem_append_right _ (List.mem_append_right _ (List.mem_append_right _ (List.mem_append_right _ (List.mem_append_right _ (List.mem_append_right _ (List.mem_append_right _ (List.mem_append_right _ (List.mem_append_right _ (List.mem_append_left _ (List.mem_of_getElem? (l := gT_11) (i := 25) rfl))))))))))))
theorem m_686 : Cond.methodLink "DecimalDeskModel" 65 y_Model_twice ∈ gT := List.mem_append_right _ (List.mem_append_right _ (List.mem_append_right _ (List.mem_append_right _ (List.mem_append_right _ (List.mem_append_right _ (List.mem_append_right _ (List.mem_append_right _ (List.mem_append_right _ (List.mem_append_right _ (List.mem_append_right _ (List.mem_append_left _ (List.mem_of_getElem? (l := gT_11) (i := 26) rfl))))))))))))
theorem m_687 : Cond.instanceMethod y_Model_twice ∈ gT := List.mem_append_right _ (List.mem_append_right _ (List.mem_append_right _ (List.mem_append_right _ (List.mem_append_right _ (List.mem_append_right _ (List.mem_append_right _ (List.mem_append_right _ (List.mem_append_right _ (List.mem_append_right _ (List.mem_append_right _ (List.mem_append_left _ (List.mem_of_getElem? (l := gT_11) (i := 27) rfl))))))))))))
theorem m_688 : Cond.code y_Model_twice prog_10_method_11_code 4 none ∈ gT := List.mem_append_right _ (List.mem_append_right _ (List.mem_append_right _ (List.mem_append_right _ (List.mem_append_right _ (List.mem_append_right _ (List.mem_append_right _ (List.mem_append_right _ (List.mem_append_right _ (List.mem_append_right _ (List.mem_append_right _ (List.mem_append_left _ (List.mem_of_getElem? (l := gT_11) (i := 28) rfl))))))))))))
theorem m_689 : Cond.methodLink "DecimalDeskModel" 74 y_Model_behind ∈ gT := List.mem_append_right _ (List.mem_append_right _ (List.mem_append_right _ (List.mem_append_right _ (List.mem_append_right _ (List.mem_append_right _ (List.mem_append_right _ (List.mem_append_right _ (List.mem_append_right _ (List.mem_append_right _ (List.mem_append_right _ (List.mem_append_left _ (List.mem_of_getElem? (l := gT_11) (i := 29) rfl))))))))))))
theorem m_690 : Cond.instanceMethod y_Model_behind ∈ gT := List.mem_append_right _ (List.mem_append_right _ (List.mem_append_right _ (List.mem_append_right _ (List.mem_append_right _ (List.mem_append_right _ (List.mem_append_right _ (List.mem_append_right _ (List.mem_append_right _ (List.mem_append_right _ (List.mem_append_right _ (List.mem_append_left _ (List.mem_of_getElem? (l := gT_11) (i := 30) rfl))))))))))))
theorem m_691 : Cond.code y_Model_behind prog_10_method_14_code 3 (some .int) ∈ gT := List.mem_append_right _ (List.mem_append_right _ (List.mem_append_right _ (List.mem_append_right _ (List.mem_append_right _ (List.mem_append_right _ (List.mem_append_right _ (List.mem_append_right _ (List.mem_append_right _ (List.mem_append_right _ (List.mem_append_right _ (List.mem_append_left _ (List.mem_of_getElem? (l := gT_11) (i := 31) rfl))))))))))))
theorem m_692 : Cond.methodLink "DecimalDeskLaw" 70 y_Model_exact ∈ gT := List.mem_append_right _ (List.mem_append_right _ (List.mem_append_right _ (List.mem_append_right _ (List.mem_append_right _ (List.mem_append_right _ (List.mem_append_right _ (List.mem_append_right _ (List.mem_append_right _ (List.mem_append_right _ (List.mem_append_right _ (List.mem_append_left _ (List.mem_of_getElem? (l := gT_11) (i := 32) rfl))))))))))))
theorem m_693 : Cond.instanceMethod y_Model_exact ∈ gT := List.mem_append_right _ (List.mem_append_right _ (List.mem_append_right _ (List.mem_append_right _ (List.mem_append_right _ (List.mem_append_right _ (List.mem_append_right _ (List.mem_append_right _ (List.mem_append_right _ (List.mem_append_right _ (List.mem_append_right _ (List.mem_append_left _ (List.mem_of_getElem? (l := gT_11) (i := 33) rfl))))))))))))
theorem m_694 : Cond.selects "DecimalDeskModel" y_Model_exact y_Model_exact ∈ gT := List.mem_append_right _ (List.mem_append_right _ (List.mem_append_right _ (List.mem_append_right _ (List.mem_append_right _ (List.mem_append_right _ (List.mem_append_right _ (List.mem_append_right _ (List.mem_append_right _ (List.mem_append_right _ (List.mem_append_right _ (List.mem_append_left _ (List.mem_of_getElem? (l := gT_11) (i := 34) rfl))))))))))))
theorem m_695 : Cond.code y_Model_exact prog_10_method_32_code 4 (some .int) ∈ gT := List.mem_append_right _ (List.mem_append_right _ (List.mem_append_right _ (List.mem_append_right _ (List.mem_append_right _ (List.mem_append_right _ (List.mem_append_right _ (List.mem_append_right _ (List.mem_append_right _ (List.mem_append_right _ (List.mem_append_right _ (List.mem_append_left _ (List.mem_of_getElem? (l := gT_11) (i := 35) rfl))))))))))))
theorem m_696 : Cond.methodLink "DecimalDeskModel" 160 y_Model_isPattern ∈ gT := List.mem_append_right _ (List.mem_append_right _ (List.mem_append_right _ (List.mem_append_right _ (List.mem_append_right _ (List.mem_append_right _ (List.mem_append_right _ (List.mem_append_right _ (List.mem_append_right _ (List.mem_append_right _ (List.mem_append_right _ (List.mem_append_left _ (List.mem_of_getElem? (l := gT_11) (i := 36) rfl))))))))))))
theorem m_697 : Cond.instanceMethod y_Model_isPattern ∈ gT := List.mem_append_right _ (List.mem_append_right _ (List.mem_append_right _ (List.mem_append_right _ (List.mem_append_right _ (List.mem_append_right _ (List.mem_append_right _ (List.mem_append_right _ (List.mem_append_right _ (List.mem_append_right _ (List.mem_append_right _ (List.mem_append_left _ (List.mem_of_getElem? (l := gT_11) (i := 37) rfl))))))))))))
theorem m_698 : Cond.code y_Model_isPattern prog_10_method_26_code 3 (some .boolean) ∈ gT := List.mem_append_right _ (List.mem_append_right _ (List.mem_append_right _ (List.mem_append_right _ (List.mem_append_right _ (List.mem_append_right _ (List.mem_append_right _ (List.mem_append_right _ (List.mem_append_right _ (List.mem_append_right _ (List.mem_append_right _ (List.mem_append_left _ (List.mem_of_getElem? (l := gT_11) (i := 38) rfl))))))))))))
theorem m_699 : Cond.methodLink "DecimalDeskModel" 163 y_Model_isStrange ∈ gT := List.mem_append_right _ (List.mem_append_right _ (List.mem_append_right _ (List.mem_append_right _ (List.mem_append_right _ (List.mem_append_right _ (List.mem_append_right _ (List.mem_append_right _ (List.mem_append_right _ (List.mem_append_right _ (List.mem_append_right _ (List.mem_append_left _ (List.mem_of_getElem? (l := gT_11) (i := 39) rfl))))))))))))
theorem m_700 : Cond.instanceMethod y_Model_isStrange ∈ gT := List.mem_append_right _ (List.mem_append_right _ (List.mem_append_right _ (List.mem_append_right _ (List.mem_append_right _ (List.mem_append_right _ (List.mem_append_right _ (List.mem_append_right _ (List.mem_append_right _ (List.mem_append_right _ (List.mem_append_right _ (List.mem_append_left _ (List.mem_of_getElem? (l := gT_11) (i := 40) rfl))))))))))))
theorem m_701 : Cond.code y_Model_isStrange prog_10_method_31_code 5 (some .boolean) ∈ gT := List.mem_append_right _ (List.mem_append_right _ (List.mem_append_right _ (List.mem_append_right _ (List.mem_append_right _ (List.mem_append_right _ (List.mem_append_right _ (List.mem_append_right _ (List.mem_append_right _ (List.mem_append_right _ (List.mem_append_right _ (List.mem_append_left _ (List.mem_of_getElem? (l := gT_11) (i := 41) rfl))))))))))))
theorem m_702 : Cond.methodLink "DecimalDeskModel" 143 y_Model_sizeOf ∈ gT := List.mem_append_right _ (List.mem_append_right _ (List.mem_append_right _ (List.mem_append_right _ (List.mem_append_right _ (List.mem_append_right _ (List.mem_append_right _ (List.mem_append_right _ (List.mem_append_right _ (List.mem_append_right _ (List.mem_append_right _ (List.mem_append_left _ (List.mem_of_getElem? (l := gT_11) (i := 42) rfl))))))))))))
theorem m_703 : Cond.instanceMethod y_Model_sizeOf ∈ gT := List.mem_append_right _ (List.mem_append_right _ (List.mem_append_right _ (List.mem_append_right _ (List.mem_append_right _ (List.mem_append_right _ (List.mem_append_right _ (List.mem_append_right _ (List.mem_append_right _ (List.mem_append_right _ (List.mem_append_right _ (List.mem_append_left _ (List.mem_of_getElem? (l := gT_11) (i := 43) rfl))))))))))))
theorem m_704 : Cond.code y_Model_sizeOf prog_10_method_27_code 3 (some .long) ∈ gT := List.mem_append_right _ (List.mem_append_right _ (List.mem_append_right _ (List.mem_append_right _ (List.mem_append_right _ (List.mem_append_right _ (List.mem_append_right _ (List.mem_append_right _ (List.mem_append_right _ (List.mem_append_right _ (List.mem_append_right _ (List.mem_append_left _ (List.mem_of_getElem? (l := gT_11) (i := 44) rfl))))))))))))
theorem m_705 : Cond.methodLink "DecimalDeskModel" 152 y_Model_isBelow ∈ gT := List.mem_append_right _ (List.mem_append_right _ (List.mem_append_right _ (List.mem_append_right _ (List.mem_append_right _ (List.mem_append_right _ (List.mem_append_right _ (List.mem_append_right _ (List.mem_append_right _ (List.mem_append_right _ (List.mem_append_right _ (List.mem_append_left _ (List.mem_of_getElem? (l := gT_11) (i := 45) rfl))))))))))))
theorem m_706 : Cond.instanceMethod y_Model_isBelow ∈ gT := List.mem_append_right _ (List.mem_append_right _ (List.mem_append_right _ (List.mem_append_right _ (List.mem_append_right _ (List.mem_append_right _ (List.mem_append_right _ (List.mem_append_right _ (List.mem_append_right _ (List.mem_append_right _ (List.mem_append_right _ (List.mem_append_left _ (List.mem_of_getElem? (l := gT_11) (i := 46) rfl))))))))))))
theorem m_707 : Cond.code y_Model_isBelow prog_10_method_28_code 3 (some .boolean) ∈ gT := List.mem_append_right _ (List.mem_append_right _ (List.mem_append_right _ (List.mem_append_right _ (List.mem_append_right _ (List.mem_append_right _ (List.mem_append_right _ (List.mem_append_right _ (List.mem_append_right _ (List.mem_append_right _ (List.mem_append_right _ (List.mem_append_left _ (List.mem_of_getElem? (l := gT_11) (i := 47) rfl))))))))))))
theorem m_708 : Cond.methodLink "DecimalDeskModel" 156 y_Model_say ∈ gT := List.mem_append_right _ (List.mem_append_right _ (List.mem_append_right _ (List.mem_append_right _ (List.mem_append_right _ (List.mem_append_right _ (List.mem_append_right _ (List.mem_append_right _ (List.mem_append_right _ (List.mem_append_right _ (List.mem_append_right _ (List.mem_append_left _ (List.mem_of_getElem? (l := gT_11) (i := 48) rfl))))))))))))
theorem m_709 : Cond.instanceMethod y_Model_say ∈ gT := List.mem_append_right _ (List.mem_append_right _ (List.mem_append_right _ (List.mem_append_right _ (List.mem_append_right _ (List.mem_append_right _ (List.mem_append_right _ (List.mem_append_right _ (List.mem_append_right _ (List.mem_append_right _ (List.mem_append_right _ (List.mem_append_left _ (List.mem_of_getElem? (l := gT_11) (i := 49) rfl))))))))))))
theorem m_710 : Cond.code y_Model_say prog_10_method_30_code 2 none ∈ gT := List.mem_append_right _ (List.mem_append_right _ (List.mem_append_right _ (List.mem_append_right _ (List.mem_append_right _ (List.mem_append_right _ (List.mem_append_right _ (List.mem_append_right _ (List.mem_append_right _ (List.mem_append_right _ (List.mem_append_right _ (List.mem_append_left _ (List.mem_of_getElem? (l := gT_11) (i := 50) rfl))))))))))))
theorem m_711 : Cond.methodLink "DecimalDeskModel" 166 y_Model_spread ∈ gT := List.mem_append_right _ (List.mem_append_right _ (List.mem_append_right _ (List.mem_append_right _ (List.mem_append_right _ (List.mem_append_right _ (List.mem_append_right _ (List.mem_append_right _ (List.mem_append_right _ (List.mem_append_right _ (List.mem_append_right _ (List.mem_append_left _ (List.mem_of_getElem? (l := gT_11) (i := 51) rfl))))))))))))
theorem m_712 : Cond.instanceMethod y_Model_spread ∈ gT := List.mem_append_right _ (List.mem_append_right _ (List.mem_append_right _ (List.mem_append_right _ (List.mem_append_right _ (List.mem_append_right _ (List.mem_append_right _ (List.mem_append_right _ (List.mem_append_right _ (List.mem_append_right _ (List.mem_append_right _ (List.mem_append_left _ (List.mem_of_getElem? (l := gT_11) (i := 52) rfl))))))))))))
theorem m_713 : Cond.code y_Model_spread prog_10_method_29_code 10 none ∈ gT := List.mem_append_right _ (List.mem_append_right _ (List.mem_append_right _ (List.mem_append_right _ (List.mem_append_right _ (List.mem_append_right _ (List.mem_append_right _ (List.mem_append_right _ (List.mem_append_right _ (List.mem_append_right _ (List.mem_append_right _ (List.mem_append_left _ (List.mem_of_getElem? (l := gT_11) (i := 53) rfl))))))))))))
theorem m_714 : Cond.constantLong "DecimalDeskModel" 147 10 ∈ gT := List.mem_append_right _ (List.mem_append_right _ (List.mem_append_right _ (List.mem_append_right _ (List.mem_append_right _ (List.mem_append_right _ (List.mem_append_right _ (List.mem_append_right _ (List.mem_append_right _ (List.mem_append_right _ (List.mem_append_right _ (List.mem_append_left _ (List.mem_of_getElem? (l := gT_11) (i := 54) rfl))))))))))))
theorem m_715 : Cond.methodLink "DecimalDeskLaw" 67 y_Model_shortest ∈ gT := List.mem_append_right _ (List.mem_append_right _ (List.mem_append_right _ (List.mem_append_right _ (List.mem_append_right _ (List.mem_append_right _ (List.mem_append_right _ (List.mem_append_right _ (List.mem_append_right _ (List.mem_append_right _ (List.mem_append_right _ (List.mem_append_left _ (List.mem_of_getElem? (l := gT_11) (i := 55) rfl))))))))))))
theorem m_716 : Cond.instanceMethod y_Model_shortest ∈ gT := List.mem_append_right _ (List.mem_append_right _ (List.mem_append_right _ (List.mem_append_right _ (List.mem_append_right _ (List.mem_append_right _ (List.mem_append_right _ (List.mem_append_right _ (List.mem_append_right _ (List.mem_append_right _ (List.mem_append_right _ (List.mem_append_left _ (List.mem_of_getElem? (l := gT_11) (i := 56) rfl))))))))))))
theorem m_717 : Cond.selects "DecimalDeskModel" y_Model_shortest y_Model_shortest ∈ gT := List.mem_append_right _ (List.mem_append_right _ (List.mem_append_right _ (List.mem_append_right _ (List.mem_append_right _ (List.mem_append_right _ (List.mem_append_right _ (List.mem_append_right _ (List.mem_append_right _ (List.mem_append_right _ (List.mem_append_right _ (List.mem_append_left _ (List.mem_of_getElem? (l := gT_11) (i := 57) rfl))))))))))))
theorem m_718 : Cond.code y_Model_shortest prog_10_method_38_code 8 (some .int) ∈ gT := List.mem_append_right _ (List.mem_append_right _ (List.mem_append_right _ (List.mem_append_right _ (List.mem_append_right _ (List.mem_append_right _ (List.mem_append_right _ (List.mem_append_right _ (List.mem_append_right _ (List.mem_append_right _ (List.mem_append_right _ (List.mem_append_left _ (List.mem_of_getElem? (l := gT_11) (i := 58) rfl))))))))))))
theorem m_719 : Cond.methodLink "DecimalDeskModel" 179 y_Model_keepWhole ∈ gT := List.mem_append_right _ (List.mem_append_right _ (List.mem_append_right _ (List.mem_append_right _ (List.mem_append_right _ (List.mem_append_right _ (List.mem_append_right _ (List.mem_append_right _ (List.mem_append_right _ (List.mem_append_right _ (List.mem_append_right _ (List.mem_append_left _ (List.mem_of_getElem? (l := gT_11) (i := 59) rfl))))))))))))
theorem m_720 : Cond.instanceMethod y_Model_keepWhole ∈ gT := List.mem_append_right _ (List.mem_append_right _ (List.mem_append_right _ (List.mem_append_right _ (List.mem_append_right _ (List.mem_append_right _ (List.mem_append_right _ (List.mem_append_right _ (List.mem_append_right _ (List.mem_append_right _ (List.mem_append_right _ (List.mem_append_right _ (List.mem_of_getElem? (l := gT_12) (i := 0) rfl))))))))))))
theorem m_721 : Cond.code y_Model_keepWhole prog_10_method_33_code 2 none ∈ gT := List.mem_append_right _ (List.mem_append_right _ (List.mem_append_right _ (List.mem_append_right _ (List.mem_append_right _ (List.mem_append_right _ (List.mem_append_right _ (List.mem_append_right _ (List.mem_append_right _ (List.mem_append_right _ (List.mem_append_right _ (List.mem_append_right _ (List.mem_of_getElem? (l := gT_12) (i := 1) rfl))))))))))))
theorem m_722 : Cond.methodLink "DecimalDeskModel" 182 y_Model_cut ∈ gT := List.mem_append_right _ (List.mem_append_right _ (List.mem_append_right _ (List.mem_append_right _ (List.mem_append_right _ (List.mem_append_right _ (List.mem_append_right _ (List.mem_append_right _ (List.mem_append_right _ (List.mem_append_right _ (List.mem_append_right _ (List.mem_append_right _ (List.mem_of_getElem? (l := gT_12) (i := 2) rfl))))))))))))
theorem m_723 : Cond.instanceMethod y_Model_cut ∈ gT := List.mem_append_right _ (List.mem_append_right _ (List.mem_append_right _ (List.mem_append_right _ (List.mem_append_right _ (List.mem_append_right _ (List.mem_append_right _ (List.mem_append_right _ (List.mem_append_right _ (List.mem_append_right _ (List.mem_append_right _ (List.mem_append_right _ (List.mem_of_getElem? (l := gT_12) (i := 3) rfl))))))))))))
theorem m_724 : Cond.code y_Model_cut prog_10_method_34_code 4 none ∈ gT := List.mem_append_right _ (List.mem_append_right _ (List.mem_append_right _ (List.mem_append_right _ (List.mem_append_right _ (List.mem_append_right _ (List.mem_append_right _ (List.mem_append_right _ (List.mem_append_right _ (List.mem_append_right _ (List.mem_append_right _ (List.mem_append_right _ (List.mem_of_getElem? (l := gT_12) (i := 4) rfl))))))))))))
theorem m_725 : Cond.methodLink "DecimalDeskModel" 186 y_Model_comesBack ∈ gT := List.mem_append_right _ (List.mem_append_right _ (List.mem_append_right _ (List.mem_append_right _ (List.mem_append_right _ (List.mem_append_right _ (List.mem_append_right _ (List.mem_append_right _ (List.mem_append_right _ (List.mem_append_right _ (List.mem_append_right _ (List.mem_append_right _ (List.mem_of_getElem? (l := gT_12) (i := 5) rfl))))))))))))
theorem m_726 : Cond.instanceMethod y_Model_comesBack ∈ gT := List.mem_append_right _ (List.mem_append_right _ (List.mem_append_right _ (List.mem_append_right _ (List.mem_append_right _ (List.mem_append_right _ (List.mem_append_right _ (List.mem_append_right _ (List.mem_append_right _ (List.mem_append_right _ (List.mem_append_right _ (List.mem_append_right _ (List.mem_of_getElem? (l := gT_12) (i := 6) rfl))))))))))))
theorem m_727 : Cond.code y_Model_comesBack prog_10_method_35_code 5 (some .boolean) ∈ gT := List.mem_append_right _ (List.mem_append_right _ (List.mem_append_right _ (List.mem_append_right _ (List.mem_append_right _ (List.mem_append_right _ (List.mem_append_right _ (List.mem_append_right _ (List.mem_append_right _ (List.mem_append_right _ (List.mem_append_right _ (List.mem_append_right _ (List.mem_of_getElem? (l := gT_12) (i := 7) rfl))))))))))))
theorem m_728 : Cond.methodLink "DecimalDeskModel" 190 y_Model_beside ∈ gT := List.mem_append_right _ (List.mem_append_right _ (List.mem_append_right _ (List.mem_append_right _ (List.mem_append_right _ (List.mem_append_right _ (List.mem_append_right _ (List.mem_append_right _ (List.mem_append_right _ (List.mem_append_right _ (List.mem_append_right _ (List.mem_append_right _ (List.mem_of_getElem? (l := gT_12) (i := 8) rfl))))))))))))
theorem m_729 : Cond.instanceMethod y_Model_beside ∈ gT := List.mem_append_right _ (List.mem_append_right _ (List.mem_append_right _ (List.mem_append_right _ (List.mem_append_right _ (List.mem_append_right _ (List.mem_append_right _ (List.mem_append_right _ (List.mem_append_right _ (List.mem_append_right _ (List.mem_append_right _ (List.mem_append_right _ (List.mem_of_getElem? (l := gT_12) (i := 9) rfl))))))))))))
theorem m_730 : Cond.code y_Model_beside prog_10_method_36_code 4 (some .int) ∈ gT := List.mem_append_right _ (List.mem_append_right _ (List.mem_append_right _ (List.mem_append_right _ (List.mem_append_right _ (List.mem_append_right _ (List.mem_append_right _ (List.mem_append_right _ (List.mem_append_right _ (List.mem_append_right _ (List.mem_append_right _ (List.mem_append_right _ (List.mem_of_getElem? (l := gT_12) (i := 10) rfl))))))))))))
theorem m_731 : Cond.methodLink "DecimalDeskModel" 193 y_Model_sayTried ∈ gT := List.mem_append_right _ (List.mem_append_right _ (List.mem_append_right _ (List.mem_append_right _ (List.mem_append_right _ (List.mem_append_right _ (List.mem_append_right _ (List.mem_append_right _ (List.mem_append_right _ (List.mem_append_right _ (List.mem_append_right _ (List.mem_append_right _ (List.mem_of_getElem? (l := gT_12) (i := 11) rfl))))))))))))
theorem m_732 : Cond.instanceMethod y_Model_sayTried ∈ gT := List.mem_append_right _ (List.mem_append_right _ (List.mem_append_right _ (List.mem_append_right _ (List.mem_append_right _ (List.mem_append_right _ (List.mem_append_right _ (List.mem_append_right _ (List.mem_append_right _ (List.mem_append_right _ (List.mem_append_right _ (List.mem_append_right _ (List.mem_of_getElem? (l := gT_12) (i := 12) rfl))))))))))))
theorem m_733 : Cond.code y_Model_sayTried prog_10_method_37_code 4 none ∈ gT := List.mem_append_right _ (List.mem_append_right _ (List.mem_append_right _ (List.mem_append_right _ (List.mem_append_right _ (List.mem_append_right _ (List.mem_append_right _ (List.mem_append_right _ (List.mem_append_right _ (List.mem_append_right _ (List.mem_append_right _ (List.mem_append_right _ (List.mem_of_getElem? (l := gT_12) (i := 13) rfl))))))))))))
theorem m_734 : Cond.methodLink "DecimalDeskLaw" 74 y_Model_letter ∈ gT := List.mem_append_right _ (List.mem_append_right _ (List.mem_append_right _ (List.mem_append_right _ (List.mem_append_right _ (List.mem_append_right _ (List.mem_append_right _ (List.mem_append_right _ (List.mem_append_right _ (List.mem_append_right _ (List.mem_append_right _ (List.mem_append_right _ (List.mem_of_getElem? (l := gT_12) (i := 14) rfl))))))))))))
theorem m_735 : Cond.instanceMethod y_Model_letter ∈ gT := List.mem_append_right _ (List.mem_append_right _ (List.mem_append_right _ (List.mem_append_right _ (List.mem_append_right _ (List.mem_append_right _ (List.mem_append_right _ (List.mem_append_right _ (List.mem_append_right _ (List.mem_append_right _ (List.mem_append_right _ (List.mem_append_right _ (List.mem_of_getElem? (l := gT_12) (i := 15) rfl))))))))))))
theorem m_736 : Cond.selects "DecimalDeskModel" y_Model_letter y_Model_letter ∈ gT := List.mem_append_right _ (List.mem_append_right _ (List.mem_append_right _ (List.mem_append_right _ (List.mem_append_right _ (List.mem_append_right _ (List.mem_append_right _ (List.mem_append_right _ (List.mem_append_right _ (List.mem_append_right _ (List.mem_append_right _ (List.mem_append_right _ (List.mem_of_getElem? (l := gT_12) (i := 16) rfl))))))))))))
theorem m_737 : Cond.code y_Model_letter prog_10_method_39_code 2 (some .int) ∈ gT := List.mem_append_right _ (List.mem_append_right _ (List.mem_append_right _ (List.mem_append_right _ (List.mem_append_right _ (List.mem_append_right _ (List.mem_append_right _ (List.mem_append_right _ (List.mem_append_right _ (List.mem_append_right _ (List.mem_append_right _ (List.mem_append_right _ (List.mem_of_getElem? (l := gT_12) (i := 17) rfl))))))))))))
theorem m_738 : Cond.methodLink "DecimalDeskLaw" 79 y_Model_next ∈ gT := List.mem_append_right _ (List.mem_append_right _ (List.mem_append_right _ (List.mem_append_right _ (List.mem_append_right _ (List.mem_append_right _ (List.mem_append_right _ (List.mem_append_right _ (List.mem_append_right _ (List.mem_append_right _ (List.mem_append_right _ (List.mem_append_right _ (List.mem_of_getElem? (l := gT_12) (i := 18) rfl))))))))))))
theorem m_739 : Cond.instanceMethod y_Model_next ∈ gT := List.mem_append_right _ (List.mem_append_right _ (List.mem_append_right _ (List.mem_append_right _ (List.mem_append_right _ (List.mem_append_right _ (List.mem_append_right _ (List.mem_append_right _ (List.mem_append_right _ (List.mem_append_right _ (List.mem_append_right _ (List.mem_append_right _ (List.mem_of_getElem? (l := gT_12) (i := 19) rfl))))))))))))
theorem m_740 : Cond.selects "DecimalDeskModel" y_Model_next y_Model_next ∈ gT := List.mem_append_right _ (List.mem_append_right _ (List.mem_append_right _ (List.mem_append_right _ (List.mem_append_right _ (List.mem_append_right _ (List.mem_append_right _ (List.mem_append_right _ (List.mem_append_right _ (List.mem_append_right _ (List.mem_append_right _ (List.mem_append_right _ (List.mem_of_getElem? (l := gT_12) (i := 20) rfl))))))))))))
theorem m_741 : Cond.code y_Model_next prog_10_method_40_code 10 (some .long) ∈ gT := List.mem_append_right _ (List.mem_append_right _ (List.mem_append_right _ (List.mem_append_right _ (List.mem_append_right _ (List.mem_append_right _ (List.mem_append_right _ (List.mem_append_right _ (List.mem_append_right _ (List.mem_append_right _ (List.mem_append_right _ (List.mem_append_right _ (List.mem_of_getElem? (l := gT_12) (i := 21) rfl))))))))))))
theorem m_742 : Cond.constantLong "DecimalDeskModel" 196 (-1) ∈ gT := List.mem_append_right _ (List.mem_append_right _ (List.mem_append_right _ (List.mem_append_right _ (List.mem_append_right _ (List.mem_append_right _ (List.mem_append_right _ (List.mem_append_right _ (List.mem_append_right _ (List.mem_append_right _ (List.mem_append_right _ (List.mem_append_right _ (List.mem_of_getElem? (l := gT_12) (i := 22) rfl))))))))))))
theorem m_743 : Cond.constantLong "DecimalDeskLaw" 42 4294967295 ∈ gT := List.mem_append_right _ (List.mem_append_right _ (List.mem_append_right _ (List.mem_append_right _ (List.mem_append_right _ (List.mem_append_right _ (List.mem_append_right _ (List.mem_append_right _ (List.mem_append_right _ (List.mem_append_right _ (List.mem_append_right _ (List.mem_append_right _ (List.mem_of_getElem? (l := gT_12) (i := 23) rfl))))))))))))
theorem m_744 : Cond.arrayClass .long ∈ gT := List.mem_append_right _ (List.mem_append_right _ (List.mem_append_right _ (List.mem_append_right _ (List.mem_append_right _ (List.mem_append_right _ (List.mem_append_right _ (List.mem_append_right _ (List.mem_append_right _ (List.mem_append_right _ (List.mem_append_right _ (List.mem_append_right _ (List.mem_of_getElem? (l := gT_12) (i := 24) rfl))))))))))))
abbrev w_Desk_init : List Cond := .code y_Desk_init prog_1_method_1_code 1 none :: gT
abbrev w_Desk_format : List Cond := .code y_Desk_format prog_1_method_2_code 3 (some .boolean) :: gT
abbrev w_Desk_mode : List Cond := .code y_Desk_mode prog_1_method_3_code 2 (some .boolean) :: gT
abbrev w_Desk_type : List Cond := .code y_Desk_type prog_1_method_4_code 4 (some .boolean) :: gT
abbrev w_Desk_read : List Cond := .code y_Desk_read prog_1_method_5_code 5 (some .long) :: gT
abbrev w_Desk_flags : List Cond := .code y_Desk_flags prog_1_method_6_code 1 (some .int) :: gT
abbrev w_Desk_clear : List Cond := .code y_Desk_clear prog_1_method_7_code 3 (some .int) :: gT
abbrev w_Desk_shortest : List Cond := .code y_Desk_shortest prog_1_method_8_code 3 (some .int) :: gT
abbrev w_Desk_exact : List Cond := .code y_Desk_exact prog_1_method_9_code 3 (some .int) :: gT
abbrev w_Desk_letter : List Cond := .code y_Desk_letter prog_1_method_10_code 2 (some .int) :: gT
abbrev w_Desk_next : List Cond := .code y_Desk_next prog_1_method_11_code 5 (some .long) :: gT
abbrev w_Desk_sizeByOverflow : List Cond := .code y_Desk_sizeByOverflow prog_1_method_12_code 3 (some .long) :: gT
abbrev w_Desk_raiseFlags : List Cond := .code y_Desk_raiseFlags prog_1_method_13_code 2 none :: gT
abbrev w_Desk_tellNotFinite : List Cond := .code y_Desk_tellNotFinite prog_1_method_14_code 5 (some .boolean) :: gT
abbrev w_Desk_tellShortest : List Cond := .code y_Desk_tellShortest prog_1_method_15_code 5 none :: gT
abbrev w_Desk_tellAllDigits : List Cond := .code y_Desk_tellAllDigits prog_1_method_16_code 8 none :: gT
abbrev w_Model_init : List Cond := .code y_Model_init prog_10_method_1_code 1 none :: gT
abbrev w_Model_raise : List Cond := .code y_Model_raise prog_10_method_3_code 2 (some .int) :: gT
abbrev w_Model_format : List Cond := .code y_Model_format prog_10_method_4_code 3 (some .boolean) :: gT
abbrev w_Model_mode : List Cond := .code y_Model_mode prog_10_method_5_code 2 (some .boolean) :: gT
abbrev w_Model_type : List Cond := .code y_Model_type prog_10_method_6_code 6 (some .boolean) :: gT
abbrev w_Model_flags : List Cond := .code y_Model_flags prog_10_method_7_code 1 (some .int) :: gT
abbrev w_Model_clear : List Cond := .code y_Model_clear prog_10_method_8_code 3 (some .int) :: gT
abbrev w_Model_wipe : List Cond := .code y_Model_wipe prog_10_method_9_code 2 none :: gT
abbrev w_Model_dig : List Cond := .code y_Model_dig prog_10_method_10_code 3 none :: gT
abbrev w_Model_twice : List Cond := .code y_Model_twice prog_10_method_11_code 4 none :: gT
abbrev w_Model_half : List Cond := .code y_Model_half prog_10_method_12_code 4 none :: gT
abbrev w_Model_ahead : List Cond := .code y_Model_ahead prog_10_method_13_code 1 (some .int) :: gT
abbrev w_Model_behind : List Cond := .code y_Model_behind prog_10_method_14_code 3 (some .int) :: gT
abbrev w_Model_bias : List Cond := .code y_Model_bias prog_10_method_15_code 1 (some .int) :: gT
abbrev w_Model_beyond : List Cond := .code y_Model_beyond prog_10_method_16_code 1 (some .long) :: gT
abbrev w_Model_goesUp : List Cond := .code y_Model_goesUp prog_10_method_17_code 6 (some .boolean) :: gT
abbrev w_Model_rounded : List Cond := .code y_Model_rounded prog_10_method_18_code 8 (some .long) :: gT
abbrev w_Model_packed : List Cond := .code y_Model_packed prog_10_method_19_code 14 (some .long) :: gT
abbrev w_Model_see : List Cond := .code y_Model_see prog_10_method_20_code 2 (some .int) :: gT
abbrev w_Model_isDigit : List Cond := .code y_Model_isDigit prog_10_method_21_code 1 (some .boolean) :: gT
abbrev w_Model_run : List Cond := .code y_Model_run prog_10_method_22_code 2 (some .int) :: gT
abbrev w_Model_isDecimal : List Cond := .code y_Model_isDecimal prog_10_method_23_code 3 (some .boolean) :: gT
abbrev w_Model_valued : List Cond := .code y_Model_valued prog_10_method_24_code 5 (some .long) :: gT
abbrev w_Model_read : List Cond := .code y_Model_read prog_10_method_25_code 4 (some .long) :: gT
abbrev w_Model_isPattern : List Cond := .code y_Model_isPattern prog_10_method_26_code 3 (some .boolean) :: gT
abbrev w_Model_sizeOf : List Cond := .code y_Model_sizeOf prog_10_method_27_code 3 (some .long) :: gT
abbrev w_Model_isBelow : List Cond := .code y_Model_isBelow prog_10_method_28_code 3 (some .boolean) :: gT
abbrev w_Model_spread : List Cond := .code y_Model_spread prog_10_method_29_code 10 none :: gT
abbrev w_Model_say : List Cond := .code y_Model_say prog_10_method_30_code 2 none :: gT
abbrev w_Model_isStrange : List Cond := .code y_Model_isStrange prog_10_method_31_code 5 (some .boolean) :: gT
abbrev w_Model_exact : List Cond := .code y_Model_exact prog_10_method_32_code 4 (some .int) :: gT
abbrev w_Model_keepWhole : List Cond := .code y_Model_keepWhole prog_10_method_33_code 2 none :: gT
abbrev w_Model_cut : List Cond := .code y_Model_cut prog_10_method_34_code 4 none :: gT
abbrev w_Model_comesBack : List Cond := .code y_Model_comesBack prog_10_method_35_code 5 (some .boolean) :: gT
abbrev w_Model_beside : List Cond := .code y_Model_beside prog_10_method_36_code 4 (some .int) :: gT
abbrev w_Model_sayTried : List Cond := .code y_Model_sayTried prog_10_method_37_code 4 none :: gT
abbrev w_Model_shortest : List Cond := .code y_Model_shortest prog_10_method_38_code 8 (some .int) :: gT
abbrev w_Model_letter : List Cond := .code y_Model_letter prog_10_method_39_code 2 (some .int) :: gT
abbrev w_Model_next : List Cond := .code y_Model_next prog_10_method_40_code 10 (some .long) :: gT
abbrev w_Decimal_init : List Cond := .code y_Decimal_init prog_2_method_1_code 1 none :: gT
abbrev w_Decimal_parse : List Cond := .code y_Decimal_parse prog_2_method_2_code 3 (some .boolean) :: gT
abbrev w_Decimal_takeDigits : List Cond := .code y_Decimal_takeDigits prog_2_method_3_code 7 (some .int) :: gT
abbrev w_Decimal_takePower : List Cond := .code y_Decimal_takePower prog_2_method_4_code 7 (some .boolean) :: gT
abbrev w_Decimal_isDigit : List Cond := .code y_Decimal_isDigit prog_2_method_5_code 1 (some .boolean) :: gT
abbrev w_Layout_init : List Cond := .code y_Layout_init prog_3_method_1_code 1 none :: gT
abbrev w_Layout_bias : List Cond := .code y_Layout_bias prog_3_method_2_code 1 (some .int) :: gT
abbrev w_Layout_lowestPower : List Cond := .code y_Layout_lowestPower prog_3_method_3_code 1 (some .int) :: gT
abbrev w_Layout_signBit : List Cond := .code y_Layout_signBit prog_3_method_4_code 1 (some .long) :: gT
abbrev w_Layout_infinity : List Cond := .code y_Layout_infinity prog_3_method_5_code 1 (some .long) :: gT
abbrev w_Layout_holds : List Cond := .code y_Layout_holds prog_3_method_6_code 3 (some .boolean) :: gT
abbrev w_Layout_isNegative : List Cond := .code y_Layout_isNegative prog_3_method_7_code 3 (some .boolean) :: gT
abbrev w_Layout_sizeOf : List Cond := .code y_Layout_sizeOf prog_3_method_8_code 3 (some .long) :: gT
abbrev w_Layout_fractionOf : List Cond := .code y_Layout_fractionOf prog_3_method_9_code 3 (some .long) :: gT
abbrev w_Layout_exponentOf : List Cond := .code y_Layout_exponentOf prog_3_method_10_code 3 (some .int) :: gT
abbrev w_Layout_significandOf : List Cond := .code y_Layout_significandOf prog_3_method_11_code 3 (some .long) :: gT
abbrev w_Layout_powerOf : List Cond := .code y_Layout_powerOf prog_3_method_12_code 3 (some .int) :: gT
abbrev w_Natural_init : List Cond := .code y_Natural_init prog_4_method_1_code 1 none :: gT
abbrev w_Natural_set : List Cond := .code y_Natural_set prog_4_method_2_code 4 none :: gT
abbrev w_Natural_copy : List Cond := .code y_Natural_copy prog_4_method_3_code 3 none :: gT
abbrev w_Natural_isZero : List Cond := .code y_Natural_isZero prog_4_method_4_code 2 (some .boolean) :: gT
abbrev w_Natural_against : List Cond := .code y_Natural_against prog_4_method_5_code 3 (some .int) :: gT
abbrev w_Natural_bitLength : List Cond := .code y_Natural_bitLength prog_4_method_6_code 2 (some .int) :: gT
abbrev w_Natural_add : List Cond := .code y_Natural_add prog_4_method_7_code 5 none :: gT
abbrev w_Natural_subtract : List Cond := .code y_Natural_subtract prog_4_method_8_code 5 none :: gT
abbrev w_Natural_timesPlus : List Cond := .code y_Natural_timesPlus prog_4_method_9_code 6 none :: gT
abbrev w_Natural_timesPowerOfTen : List Cond := .code y_Natural_timesPowerOfTen prog_4_method_10_code 2 none :: gT
abbrev w_Natural_timesPowerOfFive : List Cond := .code y_Natural_timesPowerOfFive prog_4_method_11_code 4 none :: gT
abbrev w_Natural_shiftLeft : List Cond := .code y_Natural_shiftLeft prog_4_method_12_code 9 none :: gT
abbrev w_Natural_divide : List Cond := .code y_Natural_divide prog_4_method_13_code 5 (some .int) :: gT
abbrev w_Natural_limbAt : List Cond := .code y_Natural_limbAt prog_4_method_14_code 2 (some .long) :: gT
abbrev w_Rounder_init : List Cond := .code y_Rounder_init prog_5_method_1_code 1 none :: gT
abbrev w_Rounder_round : List Cond := .code y_Rounder_round prog_5_method_2_code 12 none :: gT
abbrev w_Rounder_setFraction : List Cond := .code y_Rounder_setFraction prog_5_method_3_code 3 none :: gT
abbrev w_Rounder_normalise : List Cond := .code y_Rounder_normalise prog_5_method_4_code 2 (some .int) :: gT
abbrev w_Rounder_takeBits : List Cond := .code y_Rounder_takeBits prog_5_method_5_code 5 (some .long) :: gT
abbrev w_Rounder_goesFarther : List Cond := .code y_Rounder_goesFarther prog_5_method_6_code 4 (some .boolean) :: gT
abbrev w_Finder_init : List Cond := .code y_Finder_init prog_6_method_1_code 1 none :: gT
abbrev w_Finder_find : List Cond := .code y_Finder_find prog_6_method_2_code 7 none :: gT
abbrev w_Finder_setRange : List Cond := .code y_Finder_setRange prog_6_method_3_code 6 none :: gT
abbrev w_Finder_setPower : List Cond := .code y_Finder_setPower prog_6_method_4_code 5 none :: gT
abbrev w_Finder_timesTen : List Cond := .code y_Finder_timesTen prog_6_method_5_code 1 none :: gT
abbrev w_Finder_takeDigit : List Cond := .code y_Finder_takeDigit prog_6_method_6_code 2 (some .int) :: gT
abbrev w_Finder_choose : List Cond := .code y_Finder_choose prog_6_method_7_code 4 (some .boolean) :: gT
abbrev w_Finder_isWithin : List Cond := .code y_Finder_isWithin prog_6_method_8_code 2 (some .boolean) :: gT
abbrev w_Tape_init : List Cond := .code y_Tape_init prog_7_method_1_code 1 none :: gT
abbrev w_Tape_put : List Cond := .code y_Tape_put prog_7_method_2_code 6 (some .boolean) :: gT
abbrev w_Tape_wipe : List Cond := .code y_Tape_wipe prog_7_method_3_code 1 none :: gT
abbrev w_Tape_at : List Cond := .code y_Tape_at prog_7_method_4_code 2 (some .int) :: gT
abbrev w_Tape_byteOf : List Cond := .code y_Tape_byteOf prog_7_method_5_code 3 (some .int) :: gT
abbrev w_Told_init : List Cond := .code y_Told_init prog_8_method_1_code 1 none :: gT
abbrev w_Told_at : List Cond := .code y_Told_at prog_8_method_2_code 2 (some .int) :: gT
abbrev w_Told_start : List Cond := .code y_Told_start prog_8_method_3_code 2 none :: gT
abbrev w_Told_add : List Cond := .code y_Told_add prog_8_method_4_code 2 none :: gT
abbrev w_Told_addPower : List Cond := .code y_Told_addPower prog_8_method_5_code 4 none :: gT
abbrev w_Told_addDigits : List Cond := .code y_Told_addDigits prog_8_method_6_code 8 none :: gT
abbrev w_Told_addNatural : List Cond := .code y_Told_addNatural prog_8_method_7_code 6 none :: gT
abbrev w_Told_addReversed : List Cond := .code y_Told_addReversed prog_8_method_8_code 4 none :: gT
abbrev w_Exception_init : List Cond := .code y_Exception_init prog_11_method_2_code 2 none :: gT
abbrev w_IllegalArg_init : List Cond := .code y_IllegalArg_init prog_12_method_2_code 2 none :: gT
abbrev w_Integer_numberOfLeadingZeros : List Cond := .code y_Integer_numberOfLeadingZeros prog_13_method_47_code 2 (some .int) :: gT
abbrev w_Long_numberOfLeadingZeros : List Cond := .code y_Long_numberOfLeadingZeros prog_14_method_48_code 3 (some .int) :: gT
abbrev w_Math_abs : List Cond := .code y_Math_abs prog_15_method_59_code 1 (some .int) :: gT
abbrev w_Math_floorDiv : List Cond := .code y_Math_floorDiv prog_15_method_47_code 3 (some .int) :: gT
abbrev w_Math_max : List Cond := .code y_Math_max prog_15_method_65_code 2 (some .int) :: gT
abbrev w_Math_min : List Cond := .code y_Math_min prog_15_method_69_code 2 (some .int) :: gT
abbrev w_RuntimeEx_init : List Cond := .code y_RuntimeEx_init prog_16_method_2_code 2 none :: gT
abbrev w_Throwable_init : List Cond := .code y_Throwable_init prog_18_method_2_code 2 none :: gT
abbrev w_NoSuchEl_init : List Cond := .code y_NoSuchEl_init prog_19_method_4_code 2 none :: gT
theorem u_Layout : ∀ w ∈ u_ws R_Layout F_Layout 2, w ∈ gT := (List.forall_mem_cons.mpr ⟨(m_80 : Cond.lays "DecimalDesk$Layout" "DecimalDesk$Layout" "expBits" "I" ∈ gT), List.forall_mem_cons.mpr ⟨(m_81 : Cond.lays "DecimalDesk$Layout" "DecimalDesk$Layout" "fracBits" "I" ∈ gT), fun _ h => absurd h List.not_mem_nil⟩⟩ : ∀ w ∈ ([.lays "DecimalDesk$Layout" "DecimalDesk$Layout" "expBits" "I", .lays "DecimalDesk$Layout" "DecimalDesk$Layout" "fracBits" "I"] : List Cond), w ∈ gT)
theorem u_Natural : ∀ w ∈ u_ws R_Natural F_Natural 1, w ∈ gT := (List.forall_mem_cons.mpr ⟨(m_106 : Cond.laysFinal "DecimalDesk$Natural" "DecimalDesk$Natural" "limbs" "[I" ∈ gT), fun _ h => absurd h List.not_mem_nil⟩ : ∀ w ∈ ([.laysFinal "DecimalDesk$Natural" "DecimalDesk$Natural" "limbs" "[I"] : List Cond), w ∈ gT)
theorem u_Tape : ∀ w ∈ u_ws R_Tape F_Tape 2, w ∈ gT := (List.forall_mem_cons.mpr ⟨(m_90 : Cond.laysFinal "DecimalDesk$Tape" "DecimalDesk$Tape" "bytes" "[B" ∈ gT), List.forall_mem_cons.mpr ⟨(m_91 : Cond.lays "DecimalDesk$Tape" "DecimalDesk$Tape" "length" "I" ∈ gT), fun _ h => absurd h List.not_mem_nil⟩⟩ : ∀ w ∈ ([.laysFinal "DecimalDesk$Tape" "DecimalDesk$Tape" "bytes" "[B", .lays "DecimalDesk$Tape" "DecimalDesk$Tape" "length" "I"] : List Cond), w ∈ gT)
theorem u_Decimal : ∀ w ∈ u_ws R_Decimal F_Decimal 3, w ∈ gT := (List.forall_mem_cons.mpr ⟨(m_111 : Cond.laysFinal "DecimalDesk$Decimal" "DecimalDesk$Decimal" "digits" "LDecimalDesk$Natural;" ∈ gT), List.forall_mem_cons.mpr ⟨(m_112 : Cond.lays "DecimalDesk$Decimal" "DecimalDesk$Decimal" "negative" "Z" ∈ gT), List.forall_mem_cons.mpr ⟨(m_113 : Cond.lays "DecimalDesk$Decimal" "DecimalDesk$Decimal" "exponent" "I" ∈ gT), fun _ h => absurd h List.not_mem_nil⟩⟩⟩ : ∀ w ∈ ([.laysFinal "DecimalDesk$Decimal" "DecimalDesk$Decimal" "digits" "LDecimalDesk$Natural;", .lays "DecimalDesk$Decimal" "DecimalDesk$Decimal" "negative" "Z", .lays "DecimalDesk$Decimal" "DecimalDesk$Decimal" "exponent" "I"] : List Cond), w ∈ gT)
theorem u_Rounder : ∀ w ∈ u_ws R_Rounder F_Rounder 5, w ∈ gT := (List.forall_mem_cons.mpr ⟨(m_127 : Cond.laysFinal "DecimalDesk$Rounder" "DecimalDesk$Rounder" "top" "LDecimalDesk$Natural;" ∈ gT), List.forall_mem_cons.mpr ⟨(m_128 : Cond.laysFinal "DecimalDesk$Rounder" "DecimalDesk$Rounder" "bottom" "LDecimalDesk$Natural;" ∈ gT), List.forall_mem_cons.mpr ⟨(m_129 : Cond.lays "DecimalDesk$Rounder" "DecimalDesk$Rounder" "size" "J" ∈ gT), List.forall_mem_cons.mpr ⟨(m_130 : Cond.lays "DecimalDesk$Rounder" "DecimalDesk$Rounder" "inexact" "Z" ∈ gT), List.forall_mem_cons.mpr ⟨(m_131 : Cond.lays "DecimalDesk$Rounder" "DecimalDesk$Rounder" "tiny" "Z" ∈ gT), fun _ h => absurd h List.not_mem_nil⟩⟩⟩⟩⟩ : ∀ w ∈ ([.laysFinal "DecimalDesk$Rounder" "DecimalDesk$Rounder" "top" "LDecimalDesk$Natural;", .laysFinal "DecimalDesk$Rounder" "DecimalDesk$Rounder" "bottom" "LDecimalDesk$Natural;", .lays "DecimalDesk$Rounder" "DecimalDesk$Rounder" "size" "J", .lays "DecimalDesk$Rounder" "DecimalDesk$Rounder" "inexact" "Z", .lays "DecimalDesk$Rounder" "DecimalDesk$Rounder" "tiny" "Z"] : List Cond), w ∈ gT)
theorem u_Finder : ∀ w ∈ u_ws R_Finder F_Finder 9, w ∈ gT := (List.forall_mem_cons.mpr ⟨(m_149 : Cond.laysFinal "DecimalDesk$ShortestFinder" "DecimalDesk$ShortestFinder" "rest" "LDecimalDesk$Natural;" ∈ gT), List.forall_mem_cons.mpr ⟨(m_150 : Cond.laysFinal "DecimalDesk$ShortestFinder" "DecimalDesk$ShortestFinder" "unit" "LDecimalDesk$Natural;" ∈ gT), List.forall_mem_cons.mpr ⟨(m_151 : Cond.laysFinal "DecimalDesk$ShortestFinder" "DecimalDesk$ShortestFinder" "reachBelow" "LDecimalDesk$Natural;" ∈ gT), List.forall_mem_cons.mpr ⟨(m_152 : Cond.laysFinal "DecimalDesk$ShortestFinder" "DecimalDesk$ShortestFinder" "reachAbove" "LDecimalDesk$Natural;" ∈ gT), List.forall_mem_cons.mpr ⟨(m_153 : Cond.laysFinal "DecimalDesk$ShortestFinder" "DecimalDesk$ShortestFinder" "sum" "LDecimalDesk$Natural;" ∈ gT), List.forall_mem_cons.mpr ⟨(m_154 : Cond.lays "DecimalDesk$ShortestFinder" "DecimalDesk$ShortestFinder" "endsBelong" "Z" ∈ gT), List.forall_mem_cons.mpr ⟨(m_155 : Cond.lays "DecimalDesk$ShortestFinder" "DecimalDesk$ShortestFinder" "digits" "J" ∈ gT), List.forall_mem_cons.mpr ⟨(m_156 : Cond.lays "DecimalDesk$ShortestFinder" "DecimalDesk$ShortestFinder" "count" "I" ∈ gT), List.forall_mem_cons.mpr ⟨(m_157 : Cond.lays "DecimalDesk$ShortestFinder" "DecimalDesk$ShortestFinder" "power" "I" ∈ gT), fun _ h => absurd h List.not_mem_nil⟩⟩⟩⟩⟩⟩⟩⟩⟩ : ∀ w ∈ ([.laysFinal "DecimalDesk$ShortestFinder" "DecimalDesk$ShortestFinder" "rest" "LDecimalDesk$Natural;", .laysFinal "DecimalDesk$ShortestFinder" "DecimalDesk$ShortestFinder" "unit" "LDecimalDesk$Natural;", .laysFinal "DecimalDesk$ShortestFinder" "DecimalDesk$ShortestFinder" "reachBelow" "LDecimalDesk$Natural;", .laysFinal "DecimalDesk$ShortestFinder" "DecimalDesk$ShortestFinder" "reachAbove" "LDecimalDesk$Natural;", .laysFinal "DecimalDesk$ShortestFinder" "DecimalDesk$ShortestFinder" "sum" "LDecimalDesk$Natural;", .lays "DecimalDesk$ShortestFinder" "DecimalDesk$ShortestFinder" "endsBelong" "Z", .lays "DecimalDesk$ShortestFinder" "DecimalDesk$ShortestFinder" "digits" "J", .lays "DecimalDesk$ShortestFinder" "DecimalDesk$ShortestFinder" "count" "I", .lays "DecimalDesk$ShortestFinder" "DecimalDesk$ShortestFinder" "power" "I"] : List Cond), w ∈ gT)
theorem u_Told : ∀ w ∈ u_ws R_Told F_Told 3, w ∈ gT := (List.forall_mem_cons.mpr ⟨(m_169 : Cond.laysFinal "DecimalDesk$Told" "DecimalDesk$Told" "letters" "[B" ∈ gT), List.forall_mem_cons.mpr ⟨(m_170 : Cond.laysFinal "DecimalDesk$Told" "DecimalDesk$Told" "reversed" "[B" ∈ gT), List.forall_mem_cons.mpr ⟨(m_171 : Cond.lays "DecimalDesk$Told" "DecimalDesk$Told" "length" "I" ∈ gT), fun _ h => absurd h List.not_mem_nil⟩⟩⟩ : ∀ w ∈ ([.laysFinal "DecimalDesk$Told" "DecimalDesk$Told" "letters" "[B", .laysFinal "DecimalDesk$Told" "DecimalDesk$Told" "reversed" "[B", .lays "DecimalDesk$Told" "DecimalDesk$Told" "length" "I"] : List Cond), w ∈ gT)
theorem u_Desk : ∀ w ∈ u_ws R_Desk F_Desk 9, w ∈ gT := (List.forall_mem_cons.mpr ⟨(m_181 : Cond.laysFinal "DecimalDesk" "DecimalDesk" "layout" "LDecimalDesk$Layout;" ∈ gT), List.forall_mem_cons.mpr ⟨(m_182 : Cond.laysFinal "DecimalDesk" "DecimalDesk" "tape" "LDecimalDesk$Tape;" ∈ gT), List.forall_mem_cons.mpr ⟨(m_183 : Cond.laysFinal "DecimalDesk" "DecimalDesk" "decimal" "LDecimalDesk$Decimal;" ∈ gT), List.forall_mem_cons.mpr ⟨(m_184 : Cond.laysFinal "DecimalDesk" "DecimalDesk" "rounder" "LDecimalDesk$Rounder;" ∈ gT), List.forall_mem_cons.mpr ⟨(m_185 : Cond.laysFinal "DecimalDesk" "DecimalDesk" "finder" "LDecimalDesk$ShortestFinder;" ∈ gT), List.forall_mem_cons.mpr ⟨(m_186 : Cond.laysFinal "DecimalDesk" "DecimalDesk" "digits" "LDecimalDesk$Natural;" ∈ gT), List.forall_mem_cons.mpr ⟨(m_187 : Cond.laysFinal "DecimalDesk" "DecimalDesk" "told" "LDecimalDesk$Told;" ∈ gT), List.forall_mem_cons.mpr ⟨(m_188 : Cond.lays "DecimalDesk" "DecimalDesk" "mode" "I" ∈ gT), List.forall_mem_cons.mpr ⟨(m_189 : Cond.lays "DecimalDesk" "DecimalDesk" "flags" "I" ∈ gT), fun _ h => absurd h List.not_mem_nil⟩⟩⟩⟩⟩⟩⟩⟩⟩ : ∀ w ∈ ([.laysFinal "DecimalDesk" "DecimalDesk" "layout" "LDecimalDesk$Layout;", .laysFinal "DecimalDesk" "DecimalDesk" "tape" "LDecimalDesk$Tape;", .laysFinal "DecimalDesk" "DecimalDesk" "decimal" "LDecimalDesk$Decimal;", .laysFinal "DecimalDesk" "DecimalDesk" "rounder" "LDecimalDesk$Rounder;", .laysFinal "DecimalDesk" "DecimalDesk" "finder" "LDecimalDesk$ShortestFinder;", .laysFinal "DecimalDesk" "DecimalDesk" "digits" "LDecimalDesk$Natural;", .laysFinal "DecimalDesk" "DecimalDesk" "told" "LDecimalDesk$Told;", .lays "DecimalDesk" "DecimalDesk" "mode" "I", .lays "DecimalDesk" "DecimalDesk" "flags" "I"] : List Cond), w ∈ gT)
theorem u_Model : ∀ w ∈ u_ws R_Model F_Model 26, w ∈ gT := (List.forall_mem_cons.mpr ⟨(m_589 : Cond.lays "DecimalDeskModel" "DecimalDeskModel" "thrown" "I" ∈ gT), List.forall_mem_cons.mpr ⟨(m_590 : Cond.lays "DecimalDeskModel" "DecimalDeskModel" "widthE" "I" ∈ gT), List.forall_mem_cons.mpr ⟨(m_591 : Cond.lays "DecimalDeskModel" "DecimalDeskModel" "widthM" "I" ∈ gT), List.forall_mem_cons.mpr ⟨(m_592 : Cond.lays "DecimalDeskModel" "DecimalDeskModel" "way" "I" ∈ gT), List.forall_mem_cons.mpr ⟨(m_593 : Cond.lays "DecimalDeskModel" "DecimalDeskModel" "raised" "I" ∈ gT), List.forall_mem_cons.mpr ⟨(m_594 : Cond.laysFinal "DecimalDeskModel" "DecimalDeskModel" "tape" "[I" ∈ gT), List.forall_mem_cons.mpr ⟨(m_595 : Cond.lays "DecimalDeskModel" "DecimalDeskModel" "taped" "I" ∈ gT), List.forall_mem_cons.mpr ⟨(m_596 : Cond.laysFinal "DecimalDeskModel" "DecimalDeskModel" "told" "[I" ∈ gT), List.forall_mem_cons.mpr ⟨(m_597 : Cond.lays "DecimalDeskModel" "DecimalDeskModel" "toldLong" "I" ∈ gT), List.forall_mem_cons.mpr ⟨(m_598 : Cond.laysFinal "DecimalDeskModel" "DecimalDeskModel" "row" "[I" ∈ gT), List.forall_mem_cons.mpr ⟨(m_599 : Cond.lays "DecimalDeskModel" "DecimalDeskModel" "first" "I" ∈ gT), List.forall_mem_cons.mpr ⟨(m_600 : Cond.lays "DecimalDeskModel" "DecimalDeskModel" "last" "I" ∈ gT), List.forall_mem_cons.mpr ⟨(m_601 : Cond.laysFinal "DecimalDeskModel" "DecimalDeskModel" "whole" "[I" ∈ gT), List.forall_mem_cons.mpr ⟨(m_602 : Cond.lays "DecimalDeskModel" "DecimalDeskModel" "wholeFirst" "I" ∈ gT), List.forall_mem_cons.mpr ⟨(m_603 : Cond.lays "DecimalDeskModel" "DecimalDeskModel" "wholeLast" "I" ∈ gT), List.forall_mem_cons.mpr ⟨(m_604 : Cond.lays "DecimalDeskModel" "DecimalDeskModel" "lost" "Z" ∈ gT), List.forall_mem_cons.mpr ⟨(m_605 : Cond.lays "DecimalDeskModel" "DecimalDeskModel" "over" "Z" ∈ gT), List.forall_mem_cons.mpr ⟨(m_606 : Cond.lays "DecimalDeskModel" "DecimalDeskModel" "under" "Z" ∈ gT), List.forall_mem_cons.mpr ⟨(m_607 : Cond.lays "DecimalDeskModel" "DecimalDeskModel" "at" "I" ∈ gT), List.forall_mem_cons.mpr ⟨(m_608 : Cond.lays "DecimalDeskModel" "DecimalDeskModel" "minus" "Z" ∈ gT), List.forall_mem_cons.mpr ⟨(m_609 : Cond.lays "DecimalDeskModel" "DecimalDeskModel" "digits" "I" ∈ gT), List.forall_mem_cons.mpr ⟨(m_610 : Cond.laysFinal "DecimalDeskModel" "DecimalDeskModel" "digit" "[I" ∈ gT), List.forall_mem_cons.mpr ⟨(m_611 : Cond.lays "DecimalDeskModel" "DecimalDeskModel" "ahead0" "I" ∈ gT), List.forall_mem_cons.mpr ⟨(m_612 : Cond.lays "DecimalDeskModel" "DecimalDeskModel" "exponent" "I" ∈ gT), List.forall_mem_cons.mpr ⟨(m_613 : Cond.laysFinal "DecimalDeskModel" "DecimalDeskModel" "tried" "[I" ∈ gT), List.forall_mem_cons.mpr ⟨(m_614 : Cond.lays "DecimalDeskModel" "DecimalDeskModel" "ten" "I" ∈ gT), fun _ h => absurd h List.not_mem_nil⟩⟩⟩⟩⟩⟩⟩⟩⟩⟩⟩⟩⟩⟩⟩⟩⟩⟩⟩⟩⟩⟩⟩⟩⟩⟩ : ∀ w ∈ ([.lays "DecimalDeskModel" "DecimalDeskModel" "thrown" "I", .lays "DecimalDeskModel" "DecimalDeskModel" "widthE" "I", .lays "DecimalDeskModel" "DecimalDeskModel" "widthM" "I", .lays "DecimalDeskModel" "DecimalDeskModel" "way" "I", .lays "DecimalDeskModel" "DecimalDeskModel" "raised" "I", .laysFinal "DecimalDeskModel" "DecimalDeskModel" "tape" "[I", .lays "DecimalDeskModel" "DecimalDeskModel" "taped" "I", .laysFinal "DecimalDeskModel" "DecimalDeskModel" "told" "[I", .lays "DecimalDeskModel" "DecimalDeskModel" "toldLong" "I", .laysFinal "DecimalDeskModel" "DecimalDeskModel" "row" "[I", .lays "DecimalDeskModel" "DecimalDeskModel" "first" "I", .lays "DecimalDeskModel" "DecimalDeskModel" "last" "I", .laysFinal "DecimalDeskModel" "DecimalDeskModel" "whole" "[I", .lays "DecimalDeskModel" "DecimalDeskModel" "wholeFirst" "I", .lays "DecimalDeskModel" "DecimalDeskModel" "wholeLast" "I", .lays "DecimalDeskModel" "DecimalDeskModel" "lost" "Z", .lays "DecimalDeskModel" "DecimalDeskModel" "over" "Z", .lays "DecimalDeskModel" "DecimalDeskModel" "under" "Z", .lays "DecimalDeskModel" "DecimalDeskModel" "at" "I", .lays "DecimalDeskModel" "DecimalDeskModel" "minus" "Z", .lays "DecimalDeskModel" "DecimalDeskModel" "digits" "I", .laysFinal "DecimalDeskModel" "DecimalDeskModel" "digit" "[I", .lays "DecimalDeskModel" "DecimalDeskModel" "ahead0" "I", .lays "DecimalDeskModel" "DecimalDeskModel" "exponent" "I", .laysFinal "DecimalDeskModel" "DecimalDeskModel" "tried" "[I", .lays "DecimalDeskModel" "DecimalDeskModel" "ten" "I"] : List Cond), w ∈ gT)
abbrev vwCl : List vw_C := [(R_Layout, F_Layout, 2), (R_Natural, F_Natural, 1), (R_Tape, F_Tape, 2), (R_Decimal, F_Decimal, 3), (R_Rounder, F_Rounder, 5), (R_Finder, F_Finder, 9), (R_Told, F_Told, 3), (R_Desk, F_Desk, 9), (R_Model, F_Model, 26)]
def isNest : Cond → Bool
  | .fieldLinkNest _ _ _ _ _ _ => true
  | .methodLinkNest _ _ _ _ => true
  | _ => false
def nestG : List Cond := [.fieldLinkNest "DecimalDesk" 65 "DecimalDesk$Layout" "expBits" "I" "DecimalDesk", .fieldLinkNest "DecimalDesk" 68 "DecimalDesk$Layout" "fracBits" "I" "DecimalDesk", .fieldLinkNest "DecimalDesk$Rounder" 54 "DecimalDesk$Layout" "fracBits" "I" "DecimalDesk", .fieldLinkNest "DecimalDesk$Rounder" 32 "DecimalDesk$Decimal" "digits" "LDecimalDesk$Natural;" "DecimalDesk", .fieldLinkNest "DecimalDesk$Rounder" 75 "DecimalDesk$Decimal" "negative" "Z" "DecimalDesk", .fieldLinkNest "DecimalDesk" 101 "DecimalDesk$Decimal" "negative" "Z" "DecimalDesk", .fieldLinkNest "DecimalDesk$Rounder" 82 "DecimalDesk$Decimal" "exponent" "I" "DecimalDesk", .fieldLinkNest "DecimalDesk" 93 "DecimalDesk$Rounder" "size" "J" "DecimalDesk", .fieldLinkNest "DecimalDesk" 153 "DecimalDesk$Rounder" "inexact" "Z" "DecimalDesk", .fieldLinkNest "DecimalDesk" 156 "DecimalDesk$Rounder" "tiny" "Z" "DecimalDesk", .fieldLinkNest "DecimalDesk" 173 "DecimalDesk$ShortestFinder" "digits" "J" "DecimalDesk", .fieldLinkNest "DecimalDesk" 175 "DecimalDesk$ShortestFinder" "count" "I" "DecimalDesk", .fieldLinkNest "DecimalDesk" 182 "DecimalDesk$ShortestFinder" "power" "I" "DecimalDesk", .fieldLinkNest "DecimalDesk" 129 "DecimalDesk$Told" "length" "I" "DecimalDesk"]
theorem nestG_ok : ∀ w ∈ nestG, isNest w = true := fun w h => List.all_eq_true.mp (show nestG.all isNest = true by decide +kernel) w h
theorem nest_0 : Cond.fieldLinkNest "DecimalDesk" 65 "DecimalDesk$Layout" "expBits" "I" "DecimalDesk" ∈ nestG := List.mem_of_getElem? (i := 0) rfl
theorem nest_1 : Cond.fieldLinkNest "DecimalDesk" 68 "DecimalDesk$Layout" "fracBits" "I" "DecimalDesk" ∈ nestG := List.mem_of_getElem? (i := 1) rfl
theorem nest_2 : Cond.fieldLinkNest "DecimalDesk$Rounder" 54 "DecimalDesk$Layout" "fracBits" "I" "DecimalDesk" ∈ nestG := List.mem_of_getElem? (i := 2) rfl
theorem nest_3 : Cond.fieldLinkNest "DecimalDesk$Rounder" 32 "DecimalDesk$Decimal" "digits" "LDecimalDesk$Natural;" "DecimalDesk" ∈ nestG := List.mem_of_getElem? (i := 3) rfl
theorem nest_4 : Cond.fieldLinkNest "DecimalDesk$Rounder" 75 "DecimalDesk$Decimal" "negative" "Z" "DecimalDesk" ∈ nestG := List.mem_of_getElem? (i := 4) rfl
theorem nest_5 : Cond.fieldLinkNest "DecimalDesk" 101 "DecimalDesk$Decimal" "negative" "Z" "DecimalDesk" ∈ nestG := List.mem_of_getElem? (i := 5) rfl
theorem nest_6 : Cond.fieldLinkNest "DecimalDesk$Rounder" 82 "DecimalDesk$Decimal" "exponent" "I" "DecimalDesk" ∈ nestG := List.mem_of_getElem? (i := 6) rfl
theorem nest_7 : Cond.fieldLinkNest "DecimalDesk" 93 "DecimalDesk$Rounder" "size" "J" "DecimalDesk" ∈ nestG := List.mem_of_getElem? (i := 7) rfl
theorem nest_8 : Cond.fieldLinkNest "DecimalDesk" 153 "DecimalDesk$Rounder" "inexact" "Z" "DecimalDesk" ∈ nestG := List.mem_of_getElem? (i := 8) rfl
theorem nest_9 : Cond.fieldLinkNest "DecimalDesk" 156 "DecimalDesk$Rounder" "tiny" "Z" "DecimalDesk" ∈ nestG := List.mem_of_getElem? (i := 9) rfl
theorem nest_10 : Cond.fieldLinkNest "DecimalDesk" 173 "DecimalDesk$ShortestFinder" "digits" "J" "DecimalDesk" ∈ nestG := List.mem_of_getElem? (i := 10) rfl
theorem nest_11 : Cond.fieldLinkNest "DecimalDesk" 175 "DecimalDesk$ShortestFinder" "count" "I" "DecimalDesk" ∈ nestG := List.mem_of_getElem? (i := 11) rfl
theorem nest_12 : Cond.fieldLinkNest "DecimalDesk" 182 "DecimalDesk$ShortestFinder" "power" "I" "DecimalDesk" ∈ nestG := List.mem_of_getElem? (i := 12) rfl
theorem nest_13 : Cond.fieldLinkNest "DecimalDesk" 129 "DecimalDesk$Told" "length" "I" "DecimalDesk" ∈ nestG := List.mem_of_getElem? (i := 13) rfl
theorem gMem {w : Cond} (h : w ∈ gT) : w ∈ gT ∧ ((w.onTables && w.keeps) = true ∨ ∃ ty, w = .arrayClass ty) := ⟨h, good_of_word (gT_good w h)⟩
theorem gI {y : MethodName} {b : ByteArray} {n : Nat} {r : Option FieldType} (h : Cond.code y b n r ∈ gT) : GoodIn gT (Cond.code y b n r :: gT) := fun w hw => (List.mem_cons.mp hw).elim (fun e => by rw [e]; exact gMem h) gMem
theorem gV {own C : String} {idx : Nat} {y : MethodName} {b : ByteArray} {n : Nat} {r : Option FieldType} (h1 : Cond.methodLink own idx y ∈ gT) (h2 : Cond.instanceMethod y ∈ gT) (h3 : Cond.selects C y y ∈ gT) (h4 : Cond.initialized C ∈ gT) (h : Cond.code y b n r ∈ gT) : GoodIn gT (wsV own idx C y (Cond.code y b n r :: gT)) := by
  intro w hw
  rcases List.mem_append.mp hw with hw | hw
  · rcases List.mem_cons.mp hw with e | hw
    · rw [e]; exact gMem h1
    rcases List.mem_cons.mp hw with e | hw
    · rw [e]; exact gMem h2
    rcases List.mem_cons.mp hw with e | hw
    · rw [e]; exact gMem h3
    rcases List.mem_cons.mp hw with e | hw
    · rw [e]; exact gMem h4
    exact absurd hw List.not_mem_nil
  · exact gI h w hw
theorem gS {own : String} {idx : Nat} {y : MethodName} {b : ByteArray} {n : Nat} {r : Option FieldType} (h1 : Cond.methodLink own idx y ∈ gT) (h2 : Cond.static y ∈ gT) (h3 : Cond.initialized own ∈ gT) (h : Cond.code y b n r ∈ gT) : GoodIn gT (wsS own idx y (Cond.code y b n r :: gT)) := by
  intro w hw
  rcases List.mem_append.mp hw with hw | hw
  · rcases List.mem_cons.mp hw with e | hw
    · rw [e]; exact gMem h1
    rcases List.mem_cons.mp hw with e | hw
    · rw [e]; exact gMem h2
    rcases List.mem_cons.mp hw with e | hw
    · rw [e]; exact gMem h3
    exact absurd hw List.not_mem_nil
  · exact gI h w hw
/-- a static method of another class -/
theorem cwSx {R : Room} {s : State} {args : Array Value} {own : String} {index : Nat} {y : MethodName} {bytes : ByteArray} {maxL : Nat} {ret : Option FieldType} {rm : Room} (n : Nat) (ht : ∀ w ∈ gT, w.before args s = true) (h1 : Cond.methodLink own index y ∈ gT) (h2 : Cond.static y ∈ gT) (h3 : Cond.initialized y.cls ∈ gT) (h : Cond.code y bytes maxL ret ∈ gT)
    (hd : y.cls ≠ "java/lang/invoke/MethodHandle" ∧ y.cls ≠ "java/lang/invoke/VarHandle" ∧ (parseMethodDescriptor y.desc).map (fun d => d.parameters.length) = some n) (hR : rm.frames + 1 ≤ R.frames ∧ 8 + (maxL + 11) + rm.locals ≤ R.locals) :
    CallB R s args own index y bytes maxL ret (Cond.code y bytes maxL ret :: gT) rm rm.cells rm.slots n ∧ (Cond.static y).before args s = true :=
  ⟨callB_of n ht (gI h) rfl rfl rfl (ht _ h3) (ht _ h1) hd hR, ht _ h2⟩
end
section
theorem d_Natural_init_0 : decode b_Natural_init 0 = .ok (.aload_n 0, 1) := by decide +kernel
theorem d_Natural_init_1 : decode b_Natural_init 1 = .ok (.invokespecial 1, 3) := by decide +kernel
theorem d_Natural_init_4 : decode b_Natural_init 4 = .ok (.aload_n 0, 1) := by decide +kernel
theorem d_Natural_init_5 : decode b_Natural_init 5 = .ok (.bipush 12, 2) := by decide +kernel
theorem d_Natural_init_7 : decode b_Natural_init 7 = .ok (.newarray .int, 2) := by decide +kernel
theorem d_Natural_init_9 : decode b_Natural_init 9 = .ok (.putfield 9, 3) := by decide +kernel
theorem d_Natural_init_12 : decode b_Natural_init 12 = .ok (.return_, 1) := by decide +kernel
theorem d_Natural_set_0 : decode b_Natural_set 0 = .ok (.iconst 2, 1) := by decide +kernel
theorem d_Natural_set_1 : decode b_Natural_set 1 = .ok (.istore_n 3, 1) := by decide +kernel
theorem d_Natural_set_2 : decode b_Natural_set 2 = .ok (.iload_n 3, 1) := by decide +kernel
theorem d_Natural_set_3 : decode b_Natural_set 3 = .ok (.bipush 12, 2) := by decide +kernel
theorem d_Natural_set_5 : decode b_Natural_set 5 = .ok (.if_icmp .ge 16, 3) := by decide +kernel
theorem d_Natural_set_8 : decode b_Natural_set 8 = .ok (.aload_n 0, 1) := by decide +kernel
theorem d_Natural_set_9 : decode b_Natural_set 9 = .ok (.getfield 9, 3) := by decide +kernel
theorem d_Natural_set_12 : decode b_Natural_set 12 = .ok (.iload_n 3, 1) := by decide +kernel
theorem d_Natural_set_13 : decode b_Natural_set 13 = .ok (.iconst 0, 1) := by decide +kernel
theorem d_Natural_set_14 : decode b_Natural_set 14 = .ok (.iastore, 1) := by decide +kernel
theorem d_Natural_set_15 : decode b_Natural_set 15 = .ok (.iinc 3 1, 3) := by decide +kernel
theorem d_Natural_set_18 : decode b_Natural_set 18 = .ok (.goto (-16), 3) := by decide +kernel
theorem d_Natural_set_21 : decode b_Natural_set 21 = .ok (.aload_n 0, 1) := by decide +kernel
theorem d_Natural_set_22 : decode b_Natural_set 22 = .ok (.getfield 9, 3) := by decide +kernel
theorem d_Natural_set_25 : decode b_Natural_set 25 = .ok (.iconst 0, 1) := by decide +kernel
theorem d_Natural_set_26 : decode b_Natural_set 26 = .ok (.lload_n 1, 1) := by decide +kernel
theorem d_Natural_set_27 : decode b_Natural_set 27 = .ok (.l2i, 1) := by decide +kernel
theorem d_Natural_set_28 : decode b_Natural_set 28 = .ok (.iastore, 1) := by decide +kernel
theorem d_Natural_set_29 : decode b_Natural_set 29 = .ok (.aload_n 0, 1) := by decide +kernel
theorem d_Natural_set_30 : decode b_Natural_set 30 = .ok (.getfield 9, 3) := by decide +kernel
theorem d_Natural_set_33 : decode b_Natural_set 33 = .ok (.iconst 1, 1) := by decide +kernel
theorem d_Natural_set_34 : decode b_Natural_set 34 = .ok (.lload_n 1, 1) := by decide +kernel
theorem d_Natural_set_35 : decode b_Natural_set 35 = .ok (.bipush 32, 2) := by decide +kernel
theorem d_Natural_set_37 : decode b_Natural_set 37 = .ok (.lushr, 1) := by decide +kernel
theorem d_Natural_set_38 : decode b_Natural_set 38 = .ok (.l2i, 1) := by decide +kernel
theorem d_Natural_set_39 : decode b_Natural_set 39 = .ok (.iastore, 1) := by decide +kernel
theorem d_Natural_set_40 : decode b_Natural_set 40 = .ok (.return_, 1) := by decide +kernel
theorem d_Natural_copy_0 : decode b_Natural_copy 0 = .ok (.iconst 0, 1) := by decide +kernel
theorem d_Natural_copy_1 : decode b_Natural_copy 1 = .ok (.istore_n 2, 1) := by decide +kernel
theorem d_Natural_copy_2 : decode b_Natural_copy 2 = .ok (.iload_n 2, 1) := by decide +kernel
theorem d_Natural_copy_3 : decode b_Natural_copy 3 = .ok (.bipush 12, 2) := by decide +kernel
theorem d_Natural_copy_5 : decode b_Natural_copy 5 = .ok (.if_icmp .ge 21, 3) := by decide +kernel
theorem d_Natural_copy_8 : decode b_Natural_copy 8 = .ok (.aload_n 0, 1) := by decide +kernel
theorem d_Natural_copy_9 : decode b_Natural_copy 9 = .ok (.getfield 9, 3) := by decide +kernel
theorem d_Natural_copy_12 : decode b_Natural_copy 12 = .ok (.iload_n 2, 1) := by decide +kernel
theorem d_Natural_copy_13 : decode b_Natural_copy 13 = .ok (.aload_n 1, 1) := by decide +kernel
theorem d_Natural_copy_14 : decode b_Natural_copy 14 = .ok (.getfield 9, 3) := by decide +kernel
theorem d_Natural_copy_17 : decode b_Natural_copy 17 = .ok (.iload_n 2, 1) := by decide +kernel
theorem d_Natural_copy_18 : decode b_Natural_copy 18 = .ok (.iaload, 1) := by decide +kernel
theorem d_Natural_copy_19 : decode b_Natural_copy 19 = .ok (.iastore, 1) := by decide +kernel
theorem d_Natural_copy_20 : decode b_Natural_copy 20 = .ok (.iinc 2 1, 3) := by decide +kernel
theorem d_Natural_copy_23 : decode b_Natural_copy 23 = .ok (.goto (-21), 3) := by decide +kernel
theorem d_Natural_copy_26 : decode b_Natural_copy 26 = .ok (.return_, 1) := by decide +kernel
theorem d_Natural_isZero_0 : decode b_Natural_isZero 0 = .ok (.iconst 0, 1) := by decide +kernel
theorem d_Natural_isZero_1 : decode b_Natural_isZero 1 = .ok (.istore_n 1, 1) := by decide +kernel
theorem d_Natural_isZero_2 : decode b_Natural_isZero 2 = .ok (.iload_n 1, 1) := by decide +kernel
theorem d_Natural_isZero_3 : decode b_Natural_isZero 3 = .ok (.bipush 12, 2) := by decide +kernel
theorem d_Natural_isZero_5 : decode b_Natural_isZero 5 = .ok (.if_icmp .ge 20, 3) := by decide +kernel
theorem d_Natural_isZero_8 : decode b_Natural_isZero 8 = .ok (.aload_n 0, 1) := by decide +kernel
theorem d_Natural_isZero_9 : decode b_Natural_isZero 9 = .ok (.getfield 9, 3) := by decide +kernel
theorem d_Natural_isZero_12 : decode b_Natural_isZero 12 = .ok (.iload_n 1, 1) := by decide +kernel
theorem d_Natural_isZero_13 : decode b_Natural_isZero 13 = .ok (.iaload, 1) := by decide +kernel
theorem d_Natural_isZero_14 : decode b_Natural_isZero 14 = .ok (.ifCond .eq 5, 3) := by decide +kernel
theorem d_Natural_isZero_17 : decode b_Natural_isZero 17 = .ok (.iconst 0, 1) := by decide +kernel
theorem d_Natural_isZero_18 : decode b_Natural_isZero 18 = .ok (.ireturn, 1) := by decide +kernel
theorem d_Natural_isZero_19 : decode b_Natural_isZero 19 = .ok (.iinc 1 1, 3) := by decide +kernel
theorem d_Natural_isZero_22 : decode b_Natural_isZero 22 = .ok (.goto (-20), 3) := by decide +kernel
theorem d_Natural_isZero_25 : decode b_Natural_isZero 25 = .ok (.iconst 1, 1) := by decide +kernel
theorem d_Natural_isZero_26 : decode b_Natural_isZero 26 = .ok (.ireturn, 1) := by decide +kernel
theorem d_Natural_against_0 : decode b_Natural_against 0 = .ok (.bipush 11, 2) := by decide +kernel
theorem d_Natural_against_2 : decode b_Natural_against 2 = .ok (.istore_n 2, 1) := by decide +kernel
theorem d_Natural_against_3 : decode b_Natural_against 3 = .ok (.iload_n 2, 1) := by decide +kernel
theorem d_Natural_against_4 : decode b_Natural_against 4 = .ok (.ifCond .lt 56, 3) := by decide +kernel
theorem d_Natural_against_7 : decode b_Natural_against 7 = .ok (.aload_n 0, 1) := by decide +kernel
theorem d_Natural_against_8 : decode b_Natural_against 8 = .ok (.getfield 9, 3) := by decide +kernel
theorem d_Natural_against_11 : decode b_Natural_against 11 = .ok (.iload_n 2, 1) := by decide +kernel
theorem d_Natural_against_12 : decode b_Natural_against 12 = .ok (.iaload, 1) := by decide +kernel
theorem d_Natural_against_13 : decode b_Natural_against 13 = .ok (.aload_n 1, 1) := by decide +kernel
theorem d_Natural_against_14 : decode b_Natural_against 14 = .ok (.getfield 9, 3) := by decide +kernel
theorem d_Natural_against_17 : decode b_Natural_against 17 = .ok (.iload_n 2, 1) := by decide +kernel
theorem d_Natural_against_18 : decode b_Natural_against 18 = .ok (.iaload, 1) := by decide +kernel
theorem d_Natural_against_19 : decode b_Natural_against 19 = .ok (.if_icmp .eq 35, 3) := by decide +kernel
theorem d_Natural_against_22 : decode b_Natural_against 22 = .ok (.aload_n 0, 1) := by decide +kernel
theorem d_Natural_against_23 : decode b_Natural_against 23 = .ok (.getfield 9, 3) := by decide +kernel
theorem d_Natural_against_26 : decode b_Natural_against 26 = .ok (.iload_n 2, 1) := by decide +kernel
theorem d_Natural_against_27 : decode b_Natural_against 27 = .ok (.iaload, 1) := by decide +kernel
theorem d_Natural_against_28 : decode b_Natural_against 28 = .ok (.i2l, 1) := by decide +kernel
theorem d_Natural_against_29 : decode b_Natural_against 29 = .ok (.ldc2_w 13, 3) := by decide +kernel
theorem d_Natural_against_32 : decode b_Natural_against 32 = .ok (.land, 1) := by decide +kernel
theorem d_Natural_against_33 : decode b_Natural_against 33 = .ok (.aload_n 1, 1) := by decide +kernel
theorem d_Natural_against_34 : decode b_Natural_against 34 = .ok (.getfield 9, 3) := by decide +kernel
theorem d_Natural_against_37 : decode b_Natural_against 37 = .ok (.iload_n 2, 1) := by decide +kernel
theorem d_Natural_against_38 : decode b_Natural_against 38 = .ok (.iaload, 1) := by decide +kernel
theorem d_Natural_against_39 : decode b_Natural_against 39 = .ok (.i2l, 1) := by decide +kernel
theorem d_Natural_against_40 : decode b_Natural_against 40 = .ok (.ldc2_w 13, 3) := by decide +kernel
theorem d_Natural_against_43 : decode b_Natural_against 43 = .ok (.land, 1) := by decide +kernel
theorem d_Natural_against_44 : decode b_Natural_against 44 = .ok (.lcmp, 1) := by decide +kernel
theorem d_Natural_against_45 : decode b_Natural_against 45 = .ok (.ifCond .ge 7, 3) := by decide +kernel
theorem d_Natural_against_48 : decode b_Natural_against 48 = .ok (.iconst (-1), 1) := by decide +kernel
theorem d_Natural_against_49 : decode b_Natural_against 49 = .ok (.goto 4, 3) := by decide +kernel
theorem d_Natural_against_52 : decode b_Natural_against 52 = .ok (.iconst 1, 1) := by decide +kernel
theorem d_Natural_against_53 : decode b_Natural_against 53 = .ok (.ireturn, 1) := by decide +kernel
theorem d_Natural_against_54 : decode b_Natural_against 54 = .ok (.iinc 2 (-1), 3) := by decide +kernel
theorem d_Natural_against_57 : decode b_Natural_against 57 = .ok (.goto (-54), 3) := by decide +kernel
theorem d_Natural_against_60 : decode b_Natural_against 60 = .ok (.iconst 0, 1) := by decide +kernel
theorem d_Natural_against_61 : decode b_Natural_against 61 = .ok (.ireturn, 1) := by decide +kernel
theorem d_Natural_bitLength_0 : decode b_Natural_bitLength 0 = .ok (.bipush 11, 2) := by decide +kernel
theorem d_Natural_bitLength_2 : decode b_Natural_bitLength 2 = .ok (.istore_n 1, 1) := by decide +kernel
theorem d_Natural_bitLength_3 : decode b_Natural_bitLength 3 = .ok (.iload_n 1, 1) := by decide +kernel
theorem d_Natural_bitLength_4 : decode b_Natural_bitLength 4 = .ok (.ifCond .lt 36, 3) := by decide +kernel
theorem d_Natural_bitLength_7 : decode b_Natural_bitLength 7 = .ok (.aload_n 0, 1) := by decide +kernel
theorem d_Natural_bitLength_8 : decode b_Natural_bitLength 8 = .ok (.getfield 9, 3) := by decide +kernel
theorem d_Natural_bitLength_11 : decode b_Natural_bitLength 11 = .ok (.iload_n 1, 1) := by decide +kernel
theorem d_Natural_bitLength_12 : decode b_Natural_bitLength 12 = .ok (.iaload, 1) := by decide +kernel
theorem d_Natural_bitLength_13 : decode b_Natural_bitLength 13 = .ok (.ifCond .eq 21, 3) := by decide +kernel
theorem d_Natural_bitLength_16 : decode b_Natural_bitLength 16 = .ok (.bipush 32, 2) := by decide +kernel
theorem d_Natural_bitLength_18 : decode b_Natural_bitLength 18 = .ok (.iload_n 1, 1) := by decide +kernel
theorem d_Natural_bitLength_19 : decode b_Natural_bitLength 19 = .ok (.imul, 1) := by decide +kernel
theorem d_Natural_bitLength_20 : decode b_Natural_bitLength 20 = .ok (.bipush 32, 2) := by decide +kernel
theorem d_Natural_bitLength_22 : decode b_Natural_bitLength 22 = .ok (.iadd, 1) := by decide +kernel
theorem d_Natural_bitLength_23 : decode b_Natural_bitLength 23 = .ok (.aload_n 0, 1) := by decide +kernel
theorem d_Natural_bitLength_24 : decode b_Natural_bitLength 24 = .ok (.getfield 9, 3) := by decide +kernel
theorem d_Natural_bitLength_27 : decode b_Natural_bitLength 27 = .ok (.iload_n 1, 1) := by decide +kernel
theorem d_Natural_bitLength_28 : decode b_Natural_bitLength 28 = .ok (.iaload, 1) := by decide +kernel
theorem d_Natural_bitLength_29 : decode b_Natural_bitLength 29 = .ok (.invokestatic 15, 3) := by decide +kernel
theorem d_Natural_bitLength_32 : decode b_Natural_bitLength 32 = .ok (.isub, 1) := by decide +kernel
theorem d_Natural_bitLength_33 : decode b_Natural_bitLength 33 = .ok (.ireturn, 1) := by decide +kernel
theorem d_Natural_bitLength_34 : decode b_Natural_bitLength 34 = .ok (.iinc 1 (-1), 3) := by decide +kernel
theorem d_Natural_bitLength_37 : decode b_Natural_bitLength 37 = .ok (.goto (-34), 3) := by decide +kernel
theorem d_Natural_bitLength_40 : decode b_Natural_bitLength 40 = .ok (.iconst 0, 1) := by decide +kernel
theorem d_Natural_bitLength_41 : decode b_Natural_bitLength 41 = .ok (.ireturn, 1) := by decide +kernel
theorem d_Natural_add_0 : decode b_Natural_add 0 = .ok (.lconst 0, 1) := by decide +kernel
theorem d_Natural_add_1 : decode b_Natural_add 1 = .ok (.lstore_n 2, 1) := by decide +kernel
theorem d_Natural_add_2 : decode b_Natural_add 2 = .ok (.iconst 0, 1) := by decide +kernel
theorem d_Natural_add_3 : decode b_Natural_add 3 = .ok (.istore 4, 2) := by decide +kernel
theorem d_Natural_add_5 : decode b_Natural_add 5 = .ok (.iload 4, 2) := by decide +kernel
theorem d_Natural_add_7 : decode b_Natural_add 7 = .ok (.bipush 12, 2) := by decide +kernel
theorem d_Natural_add_9 : decode b_Natural_add 9 = .ok (.if_icmp .ge 51, 3) := by decide +kernel
theorem d_Natural_add_12 : decode b_Natural_add 12 = .ok (.lload_n 2, 1) := by decide +kernel
theorem d_Natural_add_13 : decode b_Natural_add 13 = .ok (.aload_n 0, 1) := by decide +kernel
theorem d_Natural_add_14 : decode b_Natural_add 14 = .ok (.getfield 9, 3) := by decide +kernel
theorem d_Natural_add_17 : decode b_Natural_add 17 = .ok (.iload 4, 2) := by decide +kernel
theorem d_Natural_add_19 : decode b_Natural_add 19 = .ok (.iaload, 1) := by decide +kernel
theorem d_Natural_add_20 : decode b_Natural_add 20 = .ok (.i2l, 1) := by decide +kernel
theorem d_Natural_add_21 : decode b_Natural_add 21 = .ok (.ldc2_w 13, 3) := by decide +kernel
theorem d_Natural_add_24 : decode b_Natural_add 24 = .ok (.land, 1) := by decide +kernel
theorem d_Natural_add_25 : decode b_Natural_add 25 = .ok (.ladd, 1) := by decide +kernel
theorem d_Natural_add_26 : decode b_Natural_add 26 = .ok (.aload_n 1, 1) := by decide +kernel
theorem d_Natural_add_27 : decode b_Natural_add 27 = .ok (.getfield 9, 3) := by decide +kernel
theorem d_Natural_add_30 : decode b_Natural_add 30 = .ok (.iload 4, 2) := by decide +kernel
theorem d_Natural_add_32 : decode b_Natural_add 32 = .ok (.iaload, 1) := by decide +kernel
theorem d_Natural_add_33 : decode b_Natural_add 33 = .ok (.i2l, 1) := by decide +kernel
theorem d_Natural_add_34 : decode b_Natural_add 34 = .ok (.ldc2_w 13, 3) := by decide +kernel
theorem d_Natural_add_37 : decode b_Natural_add 37 = .ok (.land, 1) := by decide +kernel
theorem d_Natural_add_38 : decode b_Natural_add 38 = .ok (.ladd, 1) := by decide +kernel
theorem d_Natural_add_39 : decode b_Natural_add 39 = .ok (.lstore_n 2, 1) := by decide +kernel
theorem d_Natural_add_40 : decode b_Natural_add 40 = .ok (.aload_n 0, 1) := by decide +kernel
theorem d_Natural_add_41 : decode b_Natural_add 41 = .ok (.getfield 9, 3) := by decide +kernel
theorem d_Natural_add_44 : decode b_Natural_add 44 = .ok (.iload 4, 2) := by decide +kernel
theorem d_Natural_add_46 : decode b_Natural_add 46 = .ok (.lload_n 2, 1) := by decide +kernel
theorem d_Natural_add_47 : decode b_Natural_add 47 = .ok (.l2i, 1) := by decide +kernel
theorem d_Natural_add_48 : decode b_Natural_add 48 = .ok (.iastore, 1) := by decide +kernel
theorem d_Natural_add_49 : decode b_Natural_add 49 = .ok (.lload_n 2, 1) := by decide +kernel
theorem d_Natural_add_50 : decode b_Natural_add 50 = .ok (.bipush 32, 2) := by decide +kernel
theorem d_Natural_add_52 : decode b_Natural_add 52 = .ok (.lushr, 1) := by decide +kernel
theorem d_Natural_add_53 : decode b_Natural_add 53 = .ok (.lstore_n 2, 1) := by decide +kernel
theorem d_Natural_add_54 : decode b_Natural_add 54 = .ok (.iinc 4 1, 3) := by decide +kernel
theorem d_Natural_add_57 : decode b_Natural_add 57 = .ok (.goto (-52), 3) := by decide +kernel
theorem d_Natural_add_60 : decode b_Natural_add 60 = .ok (.return_, 1) := by decide +kernel
theorem d_Natural_subtract_0 : decode b_Natural_subtract 0 = .ok (.lconst 0, 1) := by decide +kernel
theorem d_Natural_subtract_1 : decode b_Natural_subtract 1 = .ok (.lstore_n 2, 1) := by decide +kernel
theorem d_Natural_subtract_2 : decode b_Natural_subtract 2 = .ok (.iconst 0, 1) := by decide +kernel
theorem d_Natural_subtract_3 : decode b_Natural_subtract 3 = .ok (.istore 4, 2) := by decide +kernel
theorem d_Natural_subtract_5 : decode b_Natural_subtract 5 = .ok (.iload 4, 2) := by decide +kernel
theorem d_Natural_subtract_7 : decode b_Natural_subtract 7 = .ok (.bipush 12, 2) := by decide +kernel
theorem d_Natural_subtract_9 : decode b_Natural_subtract 9 = .ok (.if_icmp .ge 51, 3) := by decide +kernel
theorem d_Natural_subtract_12 : decode b_Natural_subtract 12 = .ok (.lload_n 2, 1) := by decide +kernel
theorem d_Natural_subtract_13 : decode b_Natural_subtract 13 = .ok (.aload_n 0, 1) := by decide +kernel
theorem d_Natural_subtract_14 : decode b_Natural_subtract 14 = .ok (.getfield 9, 3) := by decide +kernel
theorem d_Natural_subtract_17 : decode b_Natural_subtract 17 = .ok (.iload 4, 2) := by decide +kernel
theorem d_Natural_subtract_19 : decode b_Natural_subtract 19 = .ok (.iaload, 1) := by decide +kernel
theorem d_Natural_subtract_20 : decode b_Natural_subtract 20 = .ok (.i2l, 1) := by decide +kernel
theorem d_Natural_subtract_21 : decode b_Natural_subtract 21 = .ok (.ldc2_w 13, 3) := by decide +kernel
theorem d_Natural_subtract_24 : decode b_Natural_subtract 24 = .ok (.land, 1) := by decide +kernel
theorem d_Natural_subtract_25 : decode b_Natural_subtract 25 = .ok (.ladd, 1) := by decide +kernel
theorem d_Natural_subtract_26 : decode b_Natural_subtract 26 = .ok (.aload_n 1, 1) := by decide +kernel
theorem d_Natural_subtract_27 : decode b_Natural_subtract 27 = .ok (.getfield 9, 3) := by decide +kernel
theorem d_Natural_subtract_30 : decode b_Natural_subtract 30 = .ok (.iload 4, 2) := by decide +kernel
theorem d_Natural_subtract_32 : decode b_Natural_subtract 32 = .ok (.iaload, 1) := by decide +kernel
theorem d_Natural_subtract_33 : decode b_Natural_subtract 33 = .ok (.i2l, 1) := by decide +kernel
theorem d_Natural_subtract_34 : decode b_Natural_subtract 34 = .ok (.ldc2_w 13, 3) := by decide +kernel
theorem d_Natural_subtract_37 : decode b_Natural_subtract 37 = .ok (.land, 1) := by decide +kernel
theorem d_Natural_subtract_38 : decode b_Natural_subtract 38 = .ok (.lsub, 1) := by decide +kernel
theorem d_Natural_subtract_39 : decode b_Natural_subtract 39 = .ok (.lstore_n 2, 1) := by decide +kernel
theorem d_Natural_subtract_40 : decode b_Natural_subtract 40 = .ok (.aload_n 0, 1) := by decide +kernel
theorem d_Natural_subtract_41 : decode b_Natural_subtract 41 = .ok (.getfield 9, 3) := by decide +kernel
theorem d_Natural_subtract_44 : decode b_Natural_subtract 44 = .ok (.iload 4, 2) := by decide +kernel
theorem d_Natural_subtract_46 : decode b_Natural_subtract 46 = .ok (.lload_n 2, 1) := by decide +kernel
theorem d_Natural_subtract_47 : decode b_Natural_subtract 47 = .ok (.l2i, 1) := by decide +kernel
theorem d_Natural_subtract_48 : decode b_Natural_subtract 48 = .ok (.iastore, 1) := by decide +kernel
theorem d_Natural_subtract_49 : decode b_Natural_subtract 49 = .ok (.lload_n 2, 1) := by decide +kernel
theorem d_Natural_subtract_50 : decode b_Natural_subtract 50 = .ok (.bipush 32, 2) := by decide +kernel
theorem d_Natural_subtract_52 : decode b_Natural_subtract 52 = .ok (.lshr, 1) := by decide +kernel
theorem d_Natural_subtract_53 : decode b_Natural_subtract 53 = .ok (.lstore_n 2, 1) := by decide +kernel
theorem d_Natural_subtract_54 : decode b_Natural_subtract 54 = .ok (.iinc 4 1, 3) := by decide +kernel
theorem d_Natural_subtract_57 : decode b_Natural_subtract 57 = .ok (.goto (-52), 3) := by decide +kernel
theorem d_Natural_subtract_60 : decode b_Natural_subtract 60 = .ok (.return_, 1) := by decide +kernel
theorem d_Natural_timesPlus_0 : decode b_Natural_timesPlus 0 = .ok (.iload_n 2, 1) := by decide +kernel
theorem d_Natural_timesPlus_1 : decode b_Natural_timesPlus 1 = .ok (.i2l, 1) := by decide +kernel
theorem d_Natural_timesPlus_2 : decode b_Natural_timesPlus 2 = .ok (.lstore_n 3, 1) := by decide +kernel
theorem d_Natural_timesPlus_3 : decode b_Natural_timesPlus 3 = .ok (.iconst 0, 1) := by decide +kernel
theorem d_Natural_timesPlus_4 : decode b_Natural_timesPlus 4 = .ok (.istore 5, 2) := by decide +kernel
theorem d_Natural_timesPlus_6 : decode b_Natural_timesPlus 6 = .ok (.iload 5, 2) := by decide +kernel
theorem d_Natural_timesPlus_8 : decode b_Natural_timesPlus 8 = .ok (.bipush 12, 2) := by decide +kernel
theorem d_Natural_timesPlus_10 : decode b_Natural_timesPlus 10 = .ok (.if_icmp .ge 41, 3) := by decide +kernel
theorem d_Natural_timesPlus_13 : decode b_Natural_timesPlus 13 = .ok (.lload_n 3, 1) := by decide +kernel
theorem d_Natural_timesPlus_14 : decode b_Natural_timesPlus 14 = .ok (.aload_n 0, 1) := by decide +kernel
theorem d_Natural_timesPlus_15 : decode b_Natural_timesPlus 15 = .ok (.getfield 9, 3) := by decide +kernel
theorem d_Natural_timesPlus_18 : decode b_Natural_timesPlus 18 = .ok (.iload 5, 2) := by decide +kernel
theorem d_Natural_timesPlus_20 : decode b_Natural_timesPlus 20 = .ok (.iaload, 1) := by decide +kernel
theorem d_Natural_timesPlus_21 : decode b_Natural_timesPlus 21 = .ok (.i2l, 1) := by decide +kernel
theorem d_Natural_timesPlus_22 : decode b_Natural_timesPlus 22 = .ok (.ldc2_w 13, 3) := by decide +kernel
theorem d_Natural_timesPlus_25 : decode b_Natural_timesPlus 25 = .ok (.land, 1) := by decide +kernel
theorem d_Natural_timesPlus_26 : decode b_Natural_timesPlus 26 = .ok (.iload_n 1, 1) := by decide +kernel
theorem d_Natural_timesPlus_27 : decode b_Natural_timesPlus 27 = .ok (.i2l, 1) := by decide +kernel
theorem d_Natural_timesPlus_28 : decode b_Natural_timesPlus 28 = .ok (.lmul, 1) := by decide +kernel
theorem d_Natural_timesPlus_29 : decode b_Natural_timesPlus 29 = .ok (.ladd, 1) := by decide +kernel
theorem d_Natural_timesPlus_30 : decode b_Natural_timesPlus 30 = .ok (.lstore_n 3, 1) := by decide +kernel
theorem d_Natural_timesPlus_31 : decode b_Natural_timesPlus 31 = .ok (.aload_n 0, 1) := by decide +kernel
theorem d_Natural_timesPlus_32 : decode b_Natural_timesPlus 32 = .ok (.getfield 9, 3) := by decide +kernel
theorem d_Natural_timesPlus_35 : decode b_Natural_timesPlus 35 = .ok (.iload 5, 2) := by decide +kernel
theorem d_Natural_timesPlus_37 : decode b_Natural_timesPlus 37 = .ok (.lload_n 3, 1) := by decide +kernel
theorem d_Natural_timesPlus_38 : decode b_Natural_timesPlus 38 = .ok (.l2i, 1) := by decide +kernel
theorem d_Natural_timesPlus_39 : decode b_Natural_timesPlus 39 = .ok (.iastore, 1) := by decide +kernel
theorem d_Natural_timesPlus_40 : decode b_Natural_timesPlus 40 = .ok (.lload_n 3, 1) := by decide +kernel
theorem d_Natural_timesPlus_41 : decode b_Natural_timesPlus 41 = .ok (.bipush 32, 2) := by decide +kernel
theorem d_Natural_timesPlus_43 : decode b_Natural_timesPlus 43 = .ok (.lushr, 1) := by decide +kernel
theorem d_Natural_timesPlus_44 : decode b_Natural_timesPlus 44 = .ok (.lstore_n 3, 1) := by decide +kernel
theorem d_Natural_timesPlus_45 : decode b_Natural_timesPlus 45 = .ok (.iinc 5 1, 3) := by decide +kernel
theorem d_Natural_timesPlus_48 : decode b_Natural_timesPlus 48 = .ok (.goto (-42), 3) := by decide +kernel
theorem d_Natural_timesPlus_51 : decode b_Natural_timesPlus 51 = .ok (.return_, 1) := by decide +kernel
theorem d_Natural_timesPowerOfTen_0 : decode b_Natural_timesPowerOfTen 0 = .ok (.aload_n 0, 1) := by decide +kernel
theorem d_Natural_timesPowerOfTen_1 : decode b_Natural_timesPowerOfTen 1 = .ok (.iload_n 1, 1) := by decide +kernel
theorem d_Natural_timesPowerOfTen_2 : decode b_Natural_timesPowerOfTen 2 = .ok (.invokevirtual 21, 3) := by decide +kernel
theorem d_Natural_timesPowerOfTen_5 : decode b_Natural_timesPowerOfTen 5 = .ok (.aload_n 0, 1) := by decide +kernel
theorem d_Natural_timesPowerOfTen_6 : decode b_Natural_timesPowerOfTen 6 = .ok (.iload_n 1, 1) := by decide +kernel
theorem d_Natural_timesPowerOfTen_7 : decode b_Natural_timesPowerOfTen 7 = .ok (.invokevirtual 25, 3) := by decide +kernel
theorem d_Natural_timesPowerOfTen_10 : decode b_Natural_timesPowerOfTen 10 = .ok (.return_, 1) := by decide +kernel
theorem d_Natural_timesPowerOfFive_0 : decode b_Natural_timesPowerOfFive 0 = .ok (.iload_n 1, 1) := by decide +kernel
theorem d_Natural_timesPowerOfFive_1 : decode b_Natural_timesPowerOfFive 1 = .ok (.istore_n 2, 1) := by decide +kernel
theorem d_Natural_timesPowerOfFive_2 : decode b_Natural_timesPowerOfFive 2 = .ok (.iload_n 2, 1) := by decide +kernel
theorem d_Natural_timesPowerOfFive_3 : decode b_Natural_timesPowerOfFive 3 = .ok (.bipush 13, 2) := by decide +kernel
theorem d_Natural_timesPowerOfFive_5 : decode b_Natural_timesPowerOfFive 5 = .ok (.if_icmp .lt 18, 3) := by decide +kernel
theorem d_Natural_timesPowerOfFive_8 : decode b_Natural_timesPowerOfFive 8 = .ok (.aload_n 0, 1) := by decide +kernel
theorem d_Natural_timesPowerOfFive_9 : decode b_Natural_timesPowerOfFive 9 = .ok (.ldc 28, 2) := by decide +kernel
theorem d_Natural_timesPowerOfFive_11 : decode b_Natural_timesPowerOfFive 11 = .ok (.iconst 0, 1) := by decide +kernel
theorem d_Natural_timesPowerOfFive_12 : decode b_Natural_timesPowerOfFive 12 = .ok (.invokevirtual 29, 3) := by decide +kernel
theorem d_Natural_timesPowerOfFive_15 : decode b_Natural_timesPowerOfFive 15 = .ok (.iload_n 2, 1) := by decide +kernel
theorem d_Natural_timesPowerOfFive_16 : decode b_Natural_timesPowerOfFive 16 = .ok (.bipush 13, 2) := by decide +kernel
theorem d_Natural_timesPowerOfFive_18 : decode b_Natural_timesPowerOfFive 18 = .ok (.isub, 1) := by decide +kernel
theorem d_Natural_timesPowerOfFive_19 : decode b_Natural_timesPowerOfFive 19 = .ok (.istore_n 2, 1) := by decide +kernel
theorem d_Natural_timesPowerOfFive_20 : decode b_Natural_timesPowerOfFive 20 = .ok (.goto (-18), 3) := by decide +kernel
theorem d_Natural_timesPowerOfFive_23 : decode b_Natural_timesPowerOfFive 23 = .ok (.iconst 1, 1) := by decide +kernel
theorem d_Natural_timesPowerOfFive_24 : decode b_Natural_timesPowerOfFive 24 = .ok (.istore_n 3, 1) := by decide +kernel
theorem d_Natural_timesPowerOfFive_25 : decode b_Natural_timesPowerOfFive 25 = .ok (.iload_n 2, 1) := by decide +kernel
theorem d_Natural_timesPowerOfFive_26 : decode b_Natural_timesPowerOfFive 26 = .ok (.ifCond .le 13, 3) := by decide +kernel
theorem d_Natural_timesPowerOfFive_29 : decode b_Natural_timesPowerOfFive 29 = .ok (.iload_n 3, 1) := by decide +kernel
theorem d_Natural_timesPowerOfFive_30 : decode b_Natural_timesPowerOfFive 30 = .ok (.iconst 5, 1) := by decide +kernel
theorem d_Natural_timesPowerOfFive_31 : decode b_Natural_timesPowerOfFive 31 = .ok (.imul, 1) := by decide +kernel
theorem d_Natural_timesPowerOfFive_32 : decode b_Natural_timesPowerOfFive 32 = .ok (.istore_n 3, 1) := by decide +kernel
theorem d_Natural_timesPowerOfFive_33 : decode b_Natural_timesPowerOfFive 33 = .ok (.iinc 2 (-1), 3) := by decide +kernel
theorem d_Natural_timesPowerOfFive_36 : decode b_Natural_timesPowerOfFive 36 = .ok (.goto (-11), 3) := by decide +kernel
theorem d_Natural_timesPowerOfFive_39 : decode b_Natural_timesPowerOfFive 39 = .ok (.aload_n 0, 1) := by decide +kernel
theorem d_Natural_timesPowerOfFive_40 : decode b_Natural_timesPowerOfFive 40 = .ok (.iload_n 3, 1) := by decide +kernel
theorem d_Natural_timesPowerOfFive_41 : decode b_Natural_timesPowerOfFive 41 = .ok (.iconst 0, 1) := by decide +kernel
theorem d_Natural_timesPowerOfFive_42 : decode b_Natural_timesPowerOfFive 42 = .ok (.invokevirtual 29, 3) := by decide +kernel
theorem d_Natural_timesPowerOfFive_45 : decode b_Natural_timesPowerOfFive 45 = .ok (.return_, 1) := by decide +kernel
theorem d_Natural_shiftLeft_0 : decode b_Natural_shiftLeft 0 = .ok (.iload_n 1, 1) := by decide +kernel
theorem d_Natural_shiftLeft_1 : decode b_Natural_shiftLeft 1 = .ok (.ifCond .gt 4, 3) := by decide +kernel
theorem d_Natural_shiftLeft_4 : decode b_Natural_shiftLeft 4 = .ok (.return_, 1) := by decide +kernel
theorem d_Natural_shiftLeft_5 : decode b_Natural_shiftLeft 5 = .ok (.iload_n 1, 1) := by decide +kernel
theorem d_Natural_shiftLeft_6 : decode b_Natural_shiftLeft 6 = .ok (.iconst 5, 1) := by decide +kernel
theorem d_Natural_shiftLeft_7 : decode b_Natural_shiftLeft 7 = .ok (.ishr, 1) := by decide +kernel
theorem d_Natural_shiftLeft_8 : decode b_Natural_shiftLeft 8 = .ok (.istore_n 2, 1) := by decide +kernel
theorem d_Natural_shiftLeft_9 : decode b_Natural_shiftLeft 9 = .ok (.iload_n 1, 1) := by decide +kernel
theorem d_Natural_shiftLeft_10 : decode b_Natural_shiftLeft 10 = .ok (.bipush 31, 2) := by decide +kernel
theorem d_Natural_shiftLeft_12 : decode b_Natural_shiftLeft 12 = .ok (.iand, 1) := by decide +kernel
theorem d_Natural_shiftLeft_13 : decode b_Natural_shiftLeft 13 = .ok (.istore_n 3, 1) := by decide +kernel
theorem d_Natural_shiftLeft_14 : decode b_Natural_shiftLeft 14 = .ok (.bipush 11, 2) := by decide +kernel
theorem d_Natural_shiftLeft_16 : decode b_Natural_shiftLeft 16 = .ok (.istore 4, 2) := by decide +kernel
theorem d_Natural_shiftLeft_18 : decode b_Natural_shiftLeft 18 = .ok (.iload 4, 2) := by decide +kernel
theorem d_Natural_shiftLeft_20 : decode b_Natural_shiftLeft 20 = .ok (.ifCond .lt 51, 3) := by decide +kernel
theorem d_Natural_shiftLeft_23 : decode b_Natural_shiftLeft 23 = .ok (.aload_n 0, 1) := by decide +kernel
theorem d_Natural_shiftLeft_24 : decode b_Natural_shiftLeft 24 = .ok (.iload 4, 2) := by decide +kernel
theorem d_Natural_shiftLeft_26 : decode b_Natural_shiftLeft 26 = .ok (.iload_n 2, 1) := by decide +kernel
theorem d_Natural_shiftLeft_27 : decode b_Natural_shiftLeft 27 = .ok (.isub, 1) := by decide +kernel
theorem d_Natural_shiftLeft_28 : decode b_Natural_shiftLeft 28 = .ok (.invokevirtual 33, 3) := by decide +kernel
theorem d_Natural_shiftLeft_31 : decode b_Natural_shiftLeft 31 = .ok (.iload_n 3, 1) := by decide +kernel
theorem d_Natural_shiftLeft_32 : decode b_Natural_shiftLeft 32 = .ok (.lshl, 1) := by decide +kernel
theorem d_Natural_shiftLeft_33 : decode b_Natural_shiftLeft 33 = .ok (.lstore 5, 2) := by decide +kernel
theorem d_Natural_shiftLeft_35 : decode b_Natural_shiftLeft 35 = .ok (.aload_n 0, 1) := by decide +kernel
theorem d_Natural_shiftLeft_36 : decode b_Natural_shiftLeft 36 = .ok (.iload 4, 2) := by decide +kernel
theorem d_Natural_shiftLeft_38 : decode b_Natural_shiftLeft 38 = .ok (.iload_n 2, 1) := by decide +kernel
theorem d_Natural_shiftLeft_39 : decode b_Natural_shiftLeft 39 = .ok (.isub, 1) := by decide +kernel
theorem d_Natural_shiftLeft_40 : decode b_Natural_shiftLeft 40 = .ok (.iconst 1, 1) := by decide +kernel
theorem d_Natural_shiftLeft_41 : decode b_Natural_shiftLeft 41 = .ok (.isub, 1) := by decide +kernel
theorem d_Natural_shiftLeft_42 : decode b_Natural_shiftLeft 42 = .ok (.invokevirtual 33, 3) := by decide +kernel
theorem d_Natural_shiftLeft_45 : decode b_Natural_shiftLeft 45 = .ok (.bipush 32, 2) := by decide +kernel
theorem d_Natural_shiftLeft_47 : decode b_Natural_shiftLeft 47 = .ok (.iload_n 3, 1) := by decide +kernel
theorem d_Natural_shiftLeft_48 : decode b_Natural_shiftLeft 48 = .ok (.isub, 1) := by decide +kernel
theorem d_Natural_shiftLeft_49 : decode b_Natural_shiftLeft 49 = .ok (.lushr, 1) := by decide +kernel
theorem d_Natural_shiftLeft_50 : decode b_Natural_shiftLeft 50 = .ok (.lstore 7, 2) := by decide +kernel
theorem d_Natural_shiftLeft_52 : decode b_Natural_shiftLeft 52 = .ok (.aload_n 0, 1) := by decide +kernel
theorem d_Natural_shiftLeft_53 : decode b_Natural_shiftLeft 53 = .ok (.getfield 9, 3) := by decide +kernel
theorem d_Natural_shiftLeft_56 : decode b_Natural_shiftLeft 56 = .ok (.iload 4, 2) := by decide +kernel
theorem d_Natural_shiftLeft_58 : decode b_Natural_shiftLeft 58 = .ok (.lload 5, 2) := by decide +kernel
theorem d_Natural_shiftLeft_60 : decode b_Natural_shiftLeft 60 = .ok (.lload 7, 2) := by decide +kernel
theorem d_Natural_shiftLeft_62 : decode b_Natural_shiftLeft 62 = .ok (.lor, 1) := by decide +kernel
theorem d_Natural_shiftLeft_63 : decode b_Natural_shiftLeft 63 = .ok (.l2i, 1) := by decide +kernel
theorem d_Natural_shiftLeft_64 : decode b_Natural_shiftLeft 64 = .ok (.iastore, 1) := by decide +kernel
theorem d_Natural_shiftLeft_65 : decode b_Natural_shiftLeft 65 = .ok (.iinc 4 (-1), 3) := by decide +kernel
theorem d_Natural_shiftLeft_68 : decode b_Natural_shiftLeft 68 = .ok (.goto (-50), 3) := by decide +kernel
theorem d_Natural_shiftLeft_71 : decode b_Natural_shiftLeft 71 = .ok (.return_, 1) := by decide +kernel
theorem d_Natural_divide_0 : decode b_Natural_divide 0 = .ok (.iload_n 1, 1) := by decide +kernel
theorem d_Natural_divide_1 : decode b_Natural_divide 1 = .ok (.ifCond .gt 5, 3) := by decide +kernel
theorem d_Natural_divide_4 : decode b_Natural_divide 4 = .ok (.iconst 0, 1) := by decide +kernel
theorem d_Natural_divide_5 : decode b_Natural_divide 5 = .ok (.ireturn, 1) := by decide +kernel
theorem d_Natural_divide_6 : decode b_Natural_divide 6 = .ok (.lconst 0, 1) := by decide +kernel
theorem d_Natural_divide_7 : decode b_Natural_divide 7 = .ok (.lstore_n 2, 1) := by decide +kernel
theorem d_Natural_divide_8 : decode b_Natural_divide 8 = .ok (.bipush 11, 2) := by decide +kernel
theorem d_Natural_divide_10 : decode b_Natural_divide 10 = .ok (.istore 4, 2) := by decide +kernel
theorem d_Natural_divide_12 : decode b_Natural_divide 12 = .ok (.iload 4, 2) := by decide +kernel
theorem d_Natural_divide_14 : decode b_Natural_divide 14 = .ok (.ifCond .lt 44, 3) := by decide +kernel
theorem d_Natural_divide_17 : decode b_Natural_divide 17 = .ok (.lload_n 2, 1) := by decide +kernel
theorem d_Natural_divide_18 : decode b_Natural_divide 18 = .ok (.bipush 32, 2) := by decide +kernel
theorem d_Natural_divide_20 : decode b_Natural_divide 20 = .ok (.lshl, 1) := by decide +kernel
theorem d_Natural_divide_21 : decode b_Natural_divide 21 = .ok (.aload_n 0, 1) := by decide +kernel
theorem d_Natural_divide_22 : decode b_Natural_divide 22 = .ok (.getfield 9, 3) := by decide +kernel
theorem d_Natural_divide_25 : decode b_Natural_divide 25 = .ok (.iload 4, 2) := by decide +kernel
theorem d_Natural_divide_27 : decode b_Natural_divide 27 = .ok (.iaload, 1) := by decide +kernel
theorem d_Natural_divide_28 : decode b_Natural_divide 28 = .ok (.i2l, 1) := by decide +kernel
theorem d_Natural_divide_29 : decode b_Natural_divide 29 = .ok (.ldc2_w 13, 3) := by decide +kernel
theorem d_Natural_divide_32 : decode b_Natural_divide 32 = .ok (.land, 1) := by decide +kernel
theorem d_Natural_divide_33 : decode b_Natural_divide 33 = .ok (.ladd, 1) := by decide +kernel
theorem d_Natural_divide_34 : decode b_Natural_divide 34 = .ok (.lstore_n 2, 1) := by decide +kernel
theorem d_Natural_divide_35 : decode b_Natural_divide 35 = .ok (.aload_n 0, 1) := by decide +kernel
theorem d_Natural_divide_36 : decode b_Natural_divide 36 = .ok (.getfield 9, 3) := by decide +kernel
theorem d_Natural_divide_39 : decode b_Natural_divide 39 = .ok (.iload 4, 2) := by decide +kernel
theorem d_Natural_divide_41 : decode b_Natural_divide 41 = .ok (.lload_n 2, 1) := by decide +kernel
theorem d_Natural_divide_42 : decode b_Natural_divide 42 = .ok (.iload_n 1, 1) := by decide +kernel
theorem d_Natural_divide_43 : decode b_Natural_divide 43 = .ok (.i2l, 1) := by decide +kernel
theorem d_Natural_divide_44 : decode b_Natural_divide 44 = .ok (.ldiv, 1) := by decide +kernel
theorem d_Natural_divide_45 : decode b_Natural_divide 45 = .ok (.l2i, 1) := by decide +kernel
theorem d_Natural_divide_46 : decode b_Natural_divide 46 = .ok (.iastore, 1) := by decide +kernel
theorem d_Natural_divide_47 : decode b_Natural_divide 47 = .ok (.lload_n 2, 1) := by decide +kernel
theorem d_Natural_divide_48 : decode b_Natural_divide 48 = .ok (.iload_n 1, 1) := by decide +kernel
theorem d_Natural_divide_49 : decode b_Natural_divide 49 = .ok (.i2l, 1) := by decide +kernel
theorem d_Natural_divide_50 : decode b_Natural_divide 50 = .ok (.lrem, 1) := by decide +kernel
theorem d_Natural_divide_51 : decode b_Natural_divide 51 = .ok (.lstore_n 2, 1) := by decide +kernel
theorem d_Natural_divide_52 : decode b_Natural_divide 52 = .ok (.iinc 4 (-1), 3) := by decide +kernel
theorem d_Natural_divide_55 : decode b_Natural_divide 55 = .ok (.goto (-43), 3) := by decide +kernel
theorem d_Natural_divide_58 : decode b_Natural_divide 58 = .ok (.lload_n 2, 1) := by decide +kernel
theorem d_Natural_divide_59 : decode b_Natural_divide 59 = .ok (.l2i, 1) := by decide +kernel
theorem d_Natural_divide_60 : decode b_Natural_divide 60 = .ok (.ireturn, 1) := by decide +kernel
theorem d_Natural_limbAt_0 : decode b_Natural_limbAt 0 = .ok (.iload_n 1, 1) := by decide +kernel
theorem d_Natural_limbAt_1 : decode b_Natural_limbAt 1 = .ok (.ifCond .lt 23, 3) := by decide +kernel
theorem d_Natural_limbAt_4 : decode b_Natural_limbAt 4 = .ok (.iload_n 1, 1) := by decide +kernel
theorem d_Natural_limbAt_5 : decode b_Natural_limbAt 5 = .ok (.bipush 12, 2) := by decide +kernel
theorem d_Natural_limbAt_7 : decode b_Natural_limbAt 7 = .ok (.if_icmp .ge 17, 3) := by decide +kernel
theorem d_Natural_limbAt_10 : decode b_Natural_limbAt 10 = .ok (.aload_n 0, 1) := by decide +kernel
theorem d_Natural_limbAt_11 : decode b_Natural_limbAt 11 = .ok (.getfield 9, 3) := by decide +kernel
theorem d_Natural_limbAt_14 : decode b_Natural_limbAt 14 = .ok (.iload_n 1, 1) := by decide +kernel
theorem d_Natural_limbAt_15 : decode b_Natural_limbAt 15 = .ok (.iaload, 1) := by decide +kernel
theorem d_Natural_limbAt_16 : decode b_Natural_limbAt 16 = .ok (.i2l, 1) := by decide +kernel
theorem d_Natural_limbAt_17 : decode b_Natural_limbAt 17 = .ok (.ldc2_w 13, 3) := by decide +kernel
theorem d_Natural_limbAt_20 : decode b_Natural_limbAt 20 = .ok (.land, 1) := by decide +kernel
theorem d_Natural_limbAt_21 : decode b_Natural_limbAt 21 = .ok (.goto 4, 3) := by decide +kernel
theorem d_Natural_limbAt_24 : decode b_Natural_limbAt 24 = .ok (.lconst 0, 1) := by decide +kernel
theorem d_Natural_limbAt_25 : decode b_Natural_limbAt 25 = .ok (.lreturn, 1) := by decide +kernel
theorem d_Layout_init_0 : decode b_Layout_init 0 = .ok (.aload_n 0, 1) := by decide +kernel
theorem d_Layout_init_1 : decode b_Layout_init 1 = .ok (.invokespecial 1, 3) := by decide +kernel
theorem d_Layout_init_4 : decode b_Layout_init 4 = .ok (.aload_n 0, 1) := by decide +kernel
theorem d_Layout_init_5 : decode b_Layout_init 5 = .ok (.bipush 8, 2) := by decide +kernel
theorem d_Layout_init_7 : decode b_Layout_init 7 = .ok (.putfield 7, 3) := by decide +kernel
theorem d_Layout_init_10 : decode b_Layout_init 10 = .ok (.aload_n 0, 1) := by decide +kernel
theorem d_Layout_init_11 : decode b_Layout_init 11 = .ok (.bipush 23, 2) := by decide +kernel
theorem d_Layout_init_13 : decode b_Layout_init 13 = .ok (.putfield 13, 3) := by decide +kernel
theorem d_Layout_init_16 : decode b_Layout_init 16 = .ok (.return_, 1) := by decide +kernel
theorem d_Layout_bias_0 : decode b_Layout_bias 0 = .ok (.iconst 1, 1) := by decide +kernel
theorem d_Layout_bias_1 : decode b_Layout_bias 1 = .ok (.aload_n 0, 1) := by decide +kernel
theorem d_Layout_bias_2 : decode b_Layout_bias 2 = .ok (.getfield 7, 3) := by decide +kernel
theorem d_Layout_bias_5 : decode b_Layout_bias 5 = .ok (.iconst 1, 1) := by decide +kernel
theorem d_Layout_bias_6 : decode b_Layout_bias 6 = .ok (.isub, 1) := by decide +kernel
theorem d_Layout_bias_7 : decode b_Layout_bias 7 = .ok (.ishl, 1) := by decide +kernel
theorem d_Layout_bias_8 : decode b_Layout_bias 8 = .ok (.iconst 1, 1) := by decide +kernel
theorem d_Layout_bias_9 : decode b_Layout_bias 9 = .ok (.isub, 1) := by decide +kernel
theorem d_Layout_bias_10 : decode b_Layout_bias 10 = .ok (.ireturn, 1) := by decide +kernel
theorem d_Layout_lowestPower_0 : decode b_Layout_lowestPower 0 = .ok (.iconst 1, 1) := by decide +kernel
theorem d_Layout_lowestPower_1 : decode b_Layout_lowestPower 1 = .ok (.aload_n 0, 1) := by decide +kernel
theorem d_Layout_lowestPower_2 : decode b_Layout_lowestPower 2 = .ok (.invokevirtual 16, 3) := by decide +kernel
theorem d_Layout_lowestPower_5 : decode b_Layout_lowestPower 5 = .ok (.isub, 1) := by decide +kernel
theorem d_Layout_lowestPower_6 : decode b_Layout_lowestPower 6 = .ok (.aload_n 0, 1) := by decide +kernel
theorem d_Layout_lowestPower_7 : decode b_Layout_lowestPower 7 = .ok (.getfield 13, 3) := by decide +kernel
theorem d_Layout_lowestPower_10 : decode b_Layout_lowestPower 10 = .ok (.isub, 1) := by decide +kernel
theorem d_Layout_lowestPower_11 : decode b_Layout_lowestPower 11 = .ok (.ireturn, 1) := by decide +kernel
theorem d_Layout_signBit_0 : decode b_Layout_signBit 0 = .ok (.lconst 1, 1) := by decide +kernel
theorem d_Layout_signBit_1 : decode b_Layout_signBit 1 = .ok (.aload_n 0, 1) := by decide +kernel
theorem d_Layout_signBit_2 : decode b_Layout_signBit 2 = .ok (.getfield 7, 3) := by decide +kernel
theorem d_Layout_signBit_5 : decode b_Layout_signBit 5 = .ok (.aload_n 0, 1) := by decide +kernel
theorem d_Layout_signBit_6 : decode b_Layout_signBit 6 = .ok (.getfield 13, 3) := by decide +kernel
theorem d_Layout_signBit_9 : decode b_Layout_signBit 9 = .ok (.iadd, 1) := by decide +kernel
theorem d_Layout_signBit_10 : decode b_Layout_signBit 10 = .ok (.lshl, 1) := by decide +kernel
theorem d_Layout_signBit_11 : decode b_Layout_signBit 11 = .ok (.lreturn, 1) := by decide +kernel
theorem d_Layout_infinity_0 : decode b_Layout_infinity 0 = .ok (.lconst 1, 1) := by decide +kernel
theorem d_Layout_infinity_1 : decode b_Layout_infinity 1 = .ok (.aload_n 0, 1) := by decide +kernel
theorem d_Layout_infinity_2 : decode b_Layout_infinity 2 = .ok (.getfield 7, 3) := by decide +kernel
theorem d_Layout_infinity_5 : decode b_Layout_infinity 5 = .ok (.lshl, 1) := by decide +kernel
theorem d_Layout_infinity_6 : decode b_Layout_infinity 6 = .ok (.lconst 1, 1) := by decide +kernel
theorem d_Layout_infinity_7 : decode b_Layout_infinity 7 = .ok (.lsub, 1) := by decide +kernel
theorem d_Layout_infinity_8 : decode b_Layout_infinity 8 = .ok (.aload_n 0, 1) := by decide +kernel
theorem d_Layout_infinity_9 : decode b_Layout_infinity 9 = .ok (.getfield 13, 3) := by decide +kernel
theorem d_Layout_infinity_12 : decode b_Layout_infinity 12 = .ok (.lshl, 1) := by decide +kernel
theorem d_Layout_infinity_13 : decode b_Layout_infinity 13 = .ok (.lreturn, 1) := by decide +kernel
theorem d_Layout_holds_0 : decode b_Layout_holds 0 = .ok (.lload_n 1, 1) := by decide +kernel
theorem d_Layout_holds_1 : decode b_Layout_holds 1 = .ok (.lconst 0, 1) := by decide +kernel
theorem d_Layout_holds_2 : decode b_Layout_holds 2 = .ok (.lcmp, 1) := by decide +kernel
theorem d_Layout_holds_3 : decode b_Layout_holds 3 = .ok (.ifCond .lt 20, 3) := by decide +kernel
theorem d_Layout_holds_6 : decode b_Layout_holds 6 = .ok (.lload_n 1, 1) := by decide +kernel
theorem d_Layout_holds_7 : decode b_Layout_holds 7 = .ok (.ldc2_w 20, 3) := by decide +kernel
theorem d_Layout_holds_10 : decode b_Layout_holds 10 = .ok (.aload_n 0, 1) := by decide +kernel
theorem d_Layout_holds_11 : decode b_Layout_holds 11 = .ok (.invokevirtual 22, 3) := by decide +kernel
theorem d_Layout_holds_14 : decode b_Layout_holds 14 = .ok (.lmul, 1) := by decide +kernel
theorem d_Layout_holds_15 : decode b_Layout_holds 15 = .ok (.lcmp, 1) := by decide +kernel
theorem d_Layout_holds_16 : decode b_Layout_holds 16 = .ok (.ifCond .ge 7, 3) := by decide +kernel
theorem d_Layout_holds_19 : decode b_Layout_holds 19 = .ok (.iconst 1, 1) := by decide +kernel
theorem d_Layout_holds_20 : decode b_Layout_holds 20 = .ok (.goto 4, 3) := by decide +kernel
theorem d_Layout_holds_23 : decode b_Layout_holds 23 = .ok (.iconst 0, 1) := by decide +kernel
theorem d_Layout_holds_24 : decode b_Layout_holds 24 = .ok (.ireturn, 1) := by decide +kernel
theorem d_Layout_isNegative_0 : decode b_Layout_isNegative 0 = .ok (.lload_n 1, 1) := by decide +kernel
theorem d_Layout_isNegative_1 : decode b_Layout_isNegative 1 = .ok (.aload_n 0, 1) := by decide +kernel
theorem d_Layout_isNegative_2 : decode b_Layout_isNegative 2 = .ok (.invokevirtual 22, 3) := by decide +kernel
theorem d_Layout_isNegative_5 : decode b_Layout_isNegative 5 = .ok (.lcmp, 1) := by decide +kernel
theorem d_Layout_isNegative_6 : decode b_Layout_isNegative 6 = .ok (.ifCond .lt 7, 3) := by decide +kernel
theorem d_Layout_isNegative_9 : decode b_Layout_isNegative 9 = .ok (.iconst 1, 1) := by decide +kernel
theorem d_Layout_isNegative_10 : decode b_Layout_isNegative 10 = .ok (.goto 4, 3) := by decide +kernel
theorem d_Layout_isNegative_13 : decode b_Layout_isNegative 13 = .ok (.iconst 0, 1) := by decide +kernel
theorem d_Layout_isNegative_14 : decode b_Layout_isNegative 14 = .ok (.ireturn, 1) := by decide +kernel
theorem d_Layout_sizeOf_0 : decode b_Layout_sizeOf 0 = .ok (.lload_n 1, 1) := by decide +kernel
theorem d_Layout_sizeOf_1 : decode b_Layout_sizeOf 1 = .ok (.aload_n 0, 1) := by decide +kernel
theorem d_Layout_sizeOf_2 : decode b_Layout_sizeOf 2 = .ok (.invokevirtual 22, 3) := by decide +kernel
theorem d_Layout_sizeOf_5 : decode b_Layout_sizeOf 5 = .ok (.lconst 1, 1) := by decide +kernel
theorem d_Layout_sizeOf_6 : decode b_Layout_sizeOf 6 = .ok (.lsub, 1) := by decide +kernel
theorem d_Layout_sizeOf_7 : decode b_Layout_sizeOf 7 = .ok (.land, 1) := by decide +kernel
theorem d_Layout_sizeOf_8 : decode b_Layout_sizeOf 8 = .ok (.lreturn, 1) := by decide +kernel
theorem d_Layout_fractionOf_0 : decode b_Layout_fractionOf 0 = .ok (.lload_n 1, 1) := by decide +kernel
theorem d_Layout_fractionOf_1 : decode b_Layout_fractionOf 1 = .ok (.lconst 1, 1) := by decide +kernel
theorem d_Layout_fractionOf_2 : decode b_Layout_fractionOf 2 = .ok (.aload_n 0, 1) := by decide +kernel
theorem d_Layout_fractionOf_3 : decode b_Layout_fractionOf 3 = .ok (.getfield 13, 3) := by decide +kernel
theorem d_Layout_fractionOf_6 : decode b_Layout_fractionOf 6 = .ok (.lshl, 1) := by decide +kernel
theorem d_Layout_fractionOf_7 : decode b_Layout_fractionOf 7 = .ok (.lconst 1, 1) := by decide +kernel
theorem d_Layout_fractionOf_8 : decode b_Layout_fractionOf 8 = .ok (.lsub, 1) := by decide +kernel
theorem d_Layout_fractionOf_9 : decode b_Layout_fractionOf 9 = .ok (.land, 1) := by decide +kernel
theorem d_Layout_fractionOf_10 : decode b_Layout_fractionOf 10 = .ok (.lreturn, 1) := by decide +kernel
theorem d_Layout_exponentOf_0 : decode b_Layout_exponentOf 0 = .ok (.lload_n 1, 1) := by decide +kernel
theorem d_Layout_exponentOf_1 : decode b_Layout_exponentOf 1 = .ok (.aload_n 0, 1) := by decide +kernel
theorem d_Layout_exponentOf_2 : decode b_Layout_exponentOf 2 = .ok (.getfield 13, 3) := by decide +kernel
theorem d_Layout_exponentOf_5 : decode b_Layout_exponentOf 5 = .ok (.lshr, 1) := by decide +kernel
theorem d_Layout_exponentOf_6 : decode b_Layout_exponentOf 6 = .ok (.l2i, 1) := by decide +kernel
theorem d_Layout_exponentOf_7 : decode b_Layout_exponentOf 7 = .ok (.ireturn, 1) := by decide +kernel
theorem d_Layout_significandOf_0 : decode b_Layout_significandOf 0 = .ok (.aload_n 0, 1) := by decide +kernel
theorem d_Layout_significandOf_1 : decode b_Layout_significandOf 1 = .ok (.lload_n 1, 1) := by decide +kernel
theorem d_Layout_significandOf_2 : decode b_Layout_significandOf 2 = .ok (.invokevirtual 26, 3) := by decide +kernel
theorem d_Layout_significandOf_5 : decode b_Layout_significandOf 5 = .ok (.ifCond .ne 7, 3) := by decide +kernel
theorem d_Layout_significandOf_8 : decode b_Layout_significandOf 8 = .ok (.lload_n 1, 1) := by decide +kernel
theorem d_Layout_significandOf_9 : decode b_Layout_significandOf 9 = .ok (.goto 15, 3) := by decide +kernel
theorem d_Layout_significandOf_12 : decode b_Layout_significandOf 12 = .ok (.lconst 1, 1) := by decide +kernel
theorem d_Layout_significandOf_13 : decode b_Layout_significandOf 13 = .ok (.aload_n 0, 1) := by decide +kernel
theorem d_Layout_significandOf_14 : decode b_Layout_significandOf 14 = .ok (.getfield 13, 3) := by decide +kernel
theorem d_Layout_significandOf_17 : decode b_Layout_significandOf 17 = .ok (.lshl, 1) := by decide +kernel
theorem d_Layout_significandOf_18 : decode b_Layout_significandOf 18 = .ok (.aload_n 0, 1) := by decide +kernel
theorem d_Layout_significandOf_19 : decode b_Layout_significandOf 19 = .ok (.lload_n 1, 1) := by decide +kernel
theorem d_Layout_significandOf_20 : decode b_Layout_significandOf 20 = .ok (.invokevirtual 30, 3) := by decide +kernel
theorem d_Layout_significandOf_23 : decode b_Layout_significandOf 23 = .ok (.ladd, 1) := by decide +kernel
theorem d_Layout_significandOf_24 : decode b_Layout_significandOf 24 = .ok (.lreturn, 1) := by decide +kernel
theorem d_Layout_powerOf_0 : decode b_Layout_powerOf 0 = .ok (.aload_n 0, 1) := by decide +kernel
theorem d_Layout_powerOf_1 : decode b_Layout_powerOf 1 = .ok (.invokevirtual 34, 3) := by decide +kernel
theorem d_Layout_powerOf_4 : decode b_Layout_powerOf 4 = .ok (.aload_n 0, 1) := by decide +kernel
theorem d_Layout_powerOf_5 : decode b_Layout_powerOf 5 = .ok (.lload_n 1, 1) := by decide +kernel
theorem d_Layout_powerOf_6 : decode b_Layout_powerOf 6 = .ok (.invokevirtual 26, 3) := by decide +kernel
theorem d_Layout_powerOf_9 : decode b_Layout_powerOf 9 = .ok (.iconst 1, 1) := by decide +kernel
theorem d_Layout_powerOf_10 : decode b_Layout_powerOf 10 = .ok (.isub, 1) := by decide +kernel
theorem d_Layout_powerOf_11 : decode b_Layout_powerOf 11 = .ok (.iconst 0, 1) := by decide +kernel
theorem d_Layout_powerOf_12 : decode b_Layout_powerOf 12 = .ok (.invokestatic 37, 3) := by decide +kernel
theorem d_Layout_powerOf_15 : decode b_Layout_powerOf 15 = .ok (.iadd, 1) := by decide +kernel
theorem d_Layout_powerOf_16 : decode b_Layout_powerOf 16 = .ok (.ireturn, 1) := by decide +kernel
theorem d_Tape_init_0 : decode b_Tape_init 0 = .ok (.aload_n 0, 1) := by decide +kernel
theorem d_Tape_init_1 : decode b_Tape_init 1 = .ok (.invokespecial 1, 3) := by decide +kernel
theorem d_Tape_init_4 : decode b_Tape_init 4 = .ok (.aload_n 0, 1) := by decide +kernel
theorem d_Tape_init_5 : decode b_Tape_init 5 = .ok (.bipush 60, 2) := by decide +kernel
theorem d_Tape_init_7 : decode b_Tape_init 7 = .ok (.newarray .byte, 2) := by decide +kernel
theorem d_Tape_init_9 : decode b_Tape_init 9 = .ok (.putfield 9, 3) := by decide +kernel
theorem d_Tape_init_12 : decode b_Tape_init 12 = .ok (.aload_n 0, 1) := by decide +kernel
theorem d_Tape_init_13 : decode b_Tape_init 13 = .ok (.iconst 0, 1) := by decide +kernel
theorem d_Tape_init_14 : decode b_Tape_init 14 = .ok (.putfield 13, 3) := by decide +kernel
theorem d_Tape_init_17 : decode b_Tape_init 17 = .ok (.return_, 1) := by decide +kernel
theorem d_Tape_put_0 : decode b_Tape_put 0 = .ok (.iload_n 3, 1) := by decide +kernel
theorem d_Tape_put_1 : decode b_Tape_put 1 = .ok (.iconst 1, 1) := by decide +kernel
theorem d_Tape_put_2 : decode b_Tape_put 2 = .ok (.if_icmp .lt 20, 3) := by decide +kernel
theorem d_Tape_put_5 : decode b_Tape_put 5 = .ok (.iload_n 3, 1) := by decide +kernel
theorem d_Tape_put_6 : decode b_Tape_put 6 = .ok (.bipush 8, 2) := by decide +kernel
theorem d_Tape_put_8 : decode b_Tape_put 8 = .ok (.if_icmp .gt 14, 3) := by decide +kernel
theorem d_Tape_put_11 : decode b_Tape_put 11 = .ok (.aload_n 0, 1) := by decide +kernel
theorem d_Tape_put_12 : decode b_Tape_put 12 = .ok (.getfield 13, 3) := by decide +kernel
theorem d_Tape_put_15 : decode b_Tape_put 15 = .ok (.iload_n 3, 1) := by decide +kernel
theorem d_Tape_put_16 : decode b_Tape_put 16 = .ok (.iadd, 1) := by decide +kernel
theorem d_Tape_put_17 : decode b_Tape_put 17 = .ok (.bipush 60, 2) := by decide +kernel
theorem d_Tape_put_19 : decode b_Tape_put 19 = .ok (.if_icmp .le 5, 3) := by decide +kernel
theorem d_Tape_put_22 : decode b_Tape_put 22 = .ok (.iconst 0, 1) := by decide +kernel
theorem d_Tape_put_23 : decode b_Tape_put 23 = .ok (.ireturn, 1) := by decide +kernel
theorem d_Tape_put_24 : decode b_Tape_put 24 = .ok (.iconst 0, 1) := by decide +kernel
theorem d_Tape_put_25 : decode b_Tape_put 25 = .ok (.istore 4, 2) := by decide +kernel
theorem d_Tape_put_27 : decode b_Tape_put 27 = .ok (.iload 4, 2) := by decide +kernel
theorem d_Tape_put_29 : decode b_Tape_put 29 = .ok (.iload_n 3, 1) := by decide +kernel
theorem d_Tape_put_30 : decode b_Tape_put 30 = .ok (.if_icmp .ge 33, 3) := by decide +kernel
theorem d_Tape_put_33 : decode b_Tape_put 33 = .ok (.lload_n 1, 1) := by decide +kernel
theorem d_Tape_put_34 : decode b_Tape_put 34 = .ok (.iload 4, 2) := by decide +kernel
theorem d_Tape_put_36 : decode b_Tape_put 36 = .ok (.invokestatic 17, 3) := by decide +kernel
theorem d_Tape_put_39 : decode b_Tape_put 39 = .ok (.istore 5, 2) := by decide +kernel
theorem d_Tape_put_41 : decode b_Tape_put 41 = .ok (.iload 5, 2) := by decide +kernel
theorem d_Tape_put_43 : decode b_Tape_put 43 = .ok (.bipush 33, 2) := by decide +kernel
theorem d_Tape_put_45 : decode b_Tape_put 45 = .ok (.if_icmp .lt 10, 3) := by decide +kernel
theorem d_Tape_put_48 : decode b_Tape_put 48 = .ok (.iload 5, 2) := by decide +kernel
theorem d_Tape_put_50 : decode b_Tape_put 50 = .ok (.bipush 126, 2) := by decide +kernel
theorem d_Tape_put_52 : decode b_Tape_put 52 = .ok (.if_icmp .le 5, 3) := by decide +kernel
theorem d_Tape_put_55 : decode b_Tape_put 55 = .ok (.iconst 0, 1) := by decide +kernel
theorem d_Tape_put_56 : decode b_Tape_put 56 = .ok (.ireturn, 1) := by decide +kernel
theorem d_Tape_put_57 : decode b_Tape_put 57 = .ok (.iinc 4 1, 3) := by decide +kernel
theorem d_Tape_put_60 : decode b_Tape_put 60 = .ok (.goto (-33), 3) := by decide +kernel
theorem d_Tape_put_63 : decode b_Tape_put 63 = .ok (.iload_n 3, 1) := by decide +kernel
theorem d_Tape_put_64 : decode b_Tape_put 64 = .ok (.iconst 1, 1) := by decide +kernel
theorem d_Tape_put_65 : decode b_Tape_put 65 = .ok (.isub, 1) := by decide +kernel
theorem d_Tape_put_66 : decode b_Tape_put 66 = .ok (.istore 4, 2) := by decide +kernel
theorem d_Tape_put_68 : decode b_Tape_put 68 = .ok (.iload 4, 2) := by decide +kernel
theorem d_Tape_put_70 : decode b_Tape_put 70 = .ok (.ifCond .lt 51, 3) := by decide +kernel
theorem d_Tape_put_73 : decode b_Tape_put 73 = .ok (.aload_n 0, 1) := by decide +kernel
theorem d_Tape_put_74 : decode b_Tape_put 74 = .ok (.getfield 13, 3) := by decide +kernel
theorem d_Tape_put_77 : decode b_Tape_put 77 = .ok (.ifCond .lt 38, 3) := by decide +kernel
theorem d_Tape_put_80 : decode b_Tape_put 80 = .ok (.aload_n 0, 1) := by decide +kernel
theorem d_Tape_put_81 : decode b_Tape_put 81 = .ok (.getfield 13, 3) := by decide +kernel
theorem d_Tape_put_84 : decode b_Tape_put 84 = .ok (.bipush 60, 2) := by decide +kernel
theorem d_Tape_put_86 : decode b_Tape_put 86 = .ok (.if_icmp .ge 29, 3) := by decide +kernel
theorem d_Tape_put_89 : decode b_Tape_put 89 = .ok (.aload_n 0, 1) := by decide +kernel
theorem d_Tape_put_90 : decode b_Tape_put 90 = .ok (.getfield 9, 3) := by decide +kernel
theorem d_Tape_put_93 : decode b_Tape_put 93 = .ok (.aload_n 0, 1) := by decide +kernel
theorem d_Tape_put_94 : decode b_Tape_put 94 = .ok (.getfield 13, 3) := by decide +kernel
theorem d_Tape_put_97 : decode b_Tape_put 97 = .ok (.lload_n 1, 1) := by decide +kernel
theorem d_Tape_put_98 : decode b_Tape_put 98 = .ok (.iload 4, 2) := by decide +kernel
theorem d_Tape_put_100 : decode b_Tape_put 100 = .ok (.invokestatic 17, 3) := by decide +kernel
theorem d_Tape_put_103 : decode b_Tape_put 103 = .ok (.i2b, 1) := by decide +kernel
theorem d_Tape_put_104 : decode b_Tape_put 104 = .ok (.bastore, 1) := by decide +kernel
theorem d_Tape_put_105 : decode b_Tape_put 105 = .ok (.aload_n 0, 1) := by decide +kernel
theorem d_Tape_put_106 : decode b_Tape_put 106 = .ok (.dup, 1) := by decide +kernel
theorem d_Tape_put_107 : decode b_Tape_put 107 = .ok (.getfield 13, 3) := by decide +kernel
theorem d_Tape_put_110 : decode b_Tape_put 110 = .ok (.iconst 1, 1) := by decide +kernel
theorem d_Tape_put_111 : decode b_Tape_put 111 = .ok (.iadd, 1) := by decide +kernel
theorem d_Tape_put_112 : decode b_Tape_put 112 = .ok (.putfield 13, 3) := by decide +kernel
theorem d_Tape_put_115 : decode b_Tape_put 115 = .ok (.iinc 4 (-1), 3) := by decide +kernel
theorem d_Tape_put_118 : decode b_Tape_put 118 = .ok (.goto (-50), 3) := by decide +kernel
theorem d_Tape_put_121 : decode b_Tape_put 121 = .ok (.iconst 1, 1) := by decide +kernel
theorem d_Tape_put_122 : decode b_Tape_put 122 = .ok (.ireturn, 1) := by decide +kernel
theorem d_Tape_wipe_0 : decode b_Tape_wipe 0 = .ok (.aload_n 0, 1) := by decide +kernel
theorem d_Tape_wipe_1 : decode b_Tape_wipe 1 = .ok (.iconst 0, 1) := by decide +kernel
theorem d_Tape_wipe_2 : decode b_Tape_wipe 2 = .ok (.putfield 13, 3) := by decide +kernel
theorem d_Tape_wipe_5 : decode b_Tape_wipe 5 = .ok (.return_, 1) := by decide +kernel
theorem d_Tape_at_0 : decode b_Tape_at 0 = .ok (.iload_n 1, 1) := by decide +kernel
theorem d_Tape_at_1 : decode b_Tape_at 1 = .ok (.ifCond .lt 26, 3) := by decide +kernel
theorem d_Tape_at_4 : decode b_Tape_at 4 = .ok (.iload_n 1, 1) := by decide +kernel
theorem d_Tape_at_5 : decode b_Tape_at 5 = .ok (.aload_n 0, 1) := by decide +kernel
theorem d_Tape_at_6 : decode b_Tape_at 6 = .ok (.getfield 13, 3) := by decide +kernel
theorem d_Tape_at_9 : decode b_Tape_at 9 = .ok (.if_icmp .ge 18, 3) := by decide +kernel
theorem d_Tape_at_12 : decode b_Tape_at 12 = .ok (.iload_n 1, 1) := by decide +kernel
theorem d_Tape_at_13 : decode b_Tape_at 13 = .ok (.bipush 60, 2) := by decide +kernel
theorem d_Tape_at_15 : decode b_Tape_at 15 = .ok (.if_icmp .ge 12, 3) := by decide +kernel
theorem d_Tape_at_18 : decode b_Tape_at 18 = .ok (.aload_n 0, 1) := by decide +kernel
theorem d_Tape_at_19 : decode b_Tape_at 19 = .ok (.getfield 9, 3) := by decide +kernel
theorem d_Tape_at_22 : decode b_Tape_at 22 = .ok (.iload_n 1, 1) := by decide +kernel
theorem d_Tape_at_23 : decode b_Tape_at 23 = .ok (.baload, 1) := by decide +kernel
theorem d_Tape_at_24 : decode b_Tape_at 24 = .ok (.goto 4, 3) := by decide +kernel
theorem d_Tape_at_27 : decode b_Tape_at 27 = .ok (.iconst (-1), 1) := by decide +kernel
theorem d_Tape_at_28 : decode b_Tape_at 28 = .ok (.ireturn, 1) := by decide +kernel
theorem d_Tape_byteOf_0 : decode b_Tape_byteOf 0 = .ok (.lload_n 0, 1) := by decide +kernel
theorem d_Tape_byteOf_1 : decode b_Tape_byteOf 1 = .ok (.bipush 8, 2) := by decide +kernel
theorem d_Tape_byteOf_3 : decode b_Tape_byteOf 3 = .ok (.iload_n 2, 1) := by decide +kernel
theorem d_Tape_byteOf_4 : decode b_Tape_byteOf 4 = .ok (.imul, 1) := by decide +kernel
theorem d_Tape_byteOf_5 : decode b_Tape_byteOf 5 = .ok (.lushr, 1) := by decide +kernel
theorem d_Tape_byteOf_6 : decode b_Tape_byteOf 6 = .ok (.l2i, 1) := by decide +kernel
theorem d_Tape_byteOf_7 : decode b_Tape_byteOf 7 = .ok (.sipush 255, 3) := by decide +kernel
theorem d_Tape_byteOf_10 : decode b_Tape_byteOf 10 = .ok (.iand, 1) := by decide +kernel
theorem d_Tape_byteOf_11 : decode b_Tape_byteOf 11 = .ok (.ireturn, 1) := by decide +kernel
theorem d_Decimal_init_0 : decode b_Decimal_init 0 = .ok (.aload_n 0, 1) := by decide +kernel
theorem d_Decimal_init_1 : decode b_Decimal_init 1 = .ok (.invokespecial 1, 3) := by decide +kernel
theorem d_Decimal_init_4 : decode b_Decimal_init 4 = .ok (.aload_n 0, 1) := by decide +kernel
theorem d_Decimal_init_5 : decode b_Decimal_init 5 = .ok (.new 7, 3) := by decide +kernel
theorem d_Decimal_init_8 : decode b_Decimal_init 8 = .ok (.dup, 1) := by decide +kernel
theorem d_Decimal_init_9 : decode b_Decimal_init 9 = .ok (.invokespecial 9, 3) := by decide +kernel
theorem d_Decimal_init_12 : decode b_Decimal_init 12 = .ok (.putfield 10, 3) := by decide +kernel
theorem d_Decimal_init_15 : decode b_Decimal_init 15 = .ok (.aload_n 0, 1) := by decide +kernel
theorem d_Decimal_init_16 : decode b_Decimal_init 16 = .ok (.iconst 0, 1) := by decide +kernel
theorem d_Decimal_init_17 : decode b_Decimal_init 17 = .ok (.putfield 16, 3) := by decide +kernel
theorem d_Decimal_init_20 : decode b_Decimal_init 20 = .ok (.aload_n 0, 1) := by decide +kernel
theorem d_Decimal_init_21 : decode b_Decimal_init 21 = .ok (.iconst 0, 1) := by decide +kernel
theorem d_Decimal_init_22 : decode b_Decimal_init 22 = .ok (.putfield 20, 3) := by decide +kernel
theorem d_Decimal_init_25 : decode b_Decimal_init 25 = .ok (.return_, 1) := by decide +kernel
theorem d_Decimal_parse_0 : decode b_Decimal_parse 0 = .ok (.aload_n 0, 1) := by decide +kernel
theorem d_Decimal_parse_1 : decode b_Decimal_parse 1 = .ok (.getfield 10, 3) := by decide +kernel
theorem d_Decimal_parse_4 : decode b_Decimal_parse 4 = .ok (.lconst 0, 1) := by decide +kernel
theorem d_Decimal_parse_5 : decode b_Decimal_parse 5 = .ok (.invokevirtual 24, 3) := by decide +kernel
theorem d_Decimal_parse_8 : decode b_Decimal_parse 8 = .ok (.aload_n 0, 1) := by decide +kernel
theorem d_Decimal_parse_9 : decode b_Decimal_parse 9 = .ok (.iconst 0, 1) := by decide +kernel
theorem d_Decimal_parse_10 : decode b_Decimal_parse 10 = .ok (.putfield 20, 3) := by decide +kernel
theorem d_Decimal_parse_13 : decode b_Decimal_parse 13 = .ok (.aload_n 0, 1) := by decide +kernel
theorem d_Decimal_parse_14 : decode b_Decimal_parse 14 = .ok (.aload_n 1, 1) := by decide +kernel
theorem d_Decimal_parse_15 : decode b_Decimal_parse 15 = .ok (.iconst 0, 1) := by decide +kernel
theorem d_Decimal_parse_16 : decode b_Decimal_parse 16 = .ok (.invokevirtual 28, 3) := by decide +kernel
theorem d_Decimal_parse_19 : decode b_Decimal_parse 19 = .ok (.bipush 45, 2) := by decide +kernel
theorem d_Decimal_parse_21 : decode b_Decimal_parse 21 = .ok (.if_icmp .ne 7, 3) := by decide +kernel
theorem d_Decimal_parse_24 : decode b_Decimal_parse 24 = .ok (.iconst 1, 1) := by decide +kernel
theorem d_Decimal_parse_25 : decode b_Decimal_parse 25 = .ok (.goto 4, 3) := by decide +kernel
theorem d_Decimal_parse_28 : decode b_Decimal_parse 28 = .ok (.iconst 0, 1) := by decide +kernel
theorem d_Decimal_parse_29 : decode b_Decimal_parse 29 = .ok (.putfield 16, 3) := by decide +kernel
theorem d_Decimal_parse_32 : decode b_Decimal_parse 32 = .ok (.aload_n 0, 1) := by decide +kernel
theorem d_Decimal_parse_33 : decode b_Decimal_parse 33 = .ok (.aload_n 1, 1) := by decide +kernel
theorem d_Decimal_parse_34 : decode b_Decimal_parse 34 = .ok (.aload_n 0, 1) := by decide +kernel
theorem d_Decimal_parse_35 : decode b_Decimal_parse 35 = .ok (.getfield 16, 3) := by decide +kernel
theorem d_Decimal_parse_38 : decode b_Decimal_parse 38 = .ok (.ifCond .eq 7, 3) := by decide +kernel
theorem d_Decimal_parse_41 : decode b_Decimal_parse 41 = .ok (.iconst 1, 1) := by decide +kernel
theorem d_Decimal_parse_42 : decode b_Decimal_parse 42 = .ok (.goto 4, 3) := by decide +kernel
theorem d_Decimal_parse_45 : decode b_Decimal_parse 45 = .ok (.iconst 0, 1) := by decide +kernel
theorem d_Decimal_parse_46 : decode b_Decimal_parse 46 = .ok (.invokevirtual 34, 3) := by decide +kernel
theorem d_Decimal_parse_49 : decode b_Decimal_parse 49 = .ok (.istore_n 2, 1) := by decide +kernel
theorem d_Decimal_parse_50 : decode b_Decimal_parse 50 = .ok (.iload_n 2, 1) := by decide +kernel
theorem d_Decimal_parse_51 : decode b_Decimal_parse 51 = .ok (.iconst (-1), 1) := by decide +kernel
theorem d_Decimal_parse_52 : decode b_Decimal_parse 52 = .ok (.if_icmp .eq 16, 3) := by decide +kernel
theorem d_Decimal_parse_55 : decode b_Decimal_parse 55 = .ok (.aload_n 0, 1) := by decide +kernel
theorem d_Decimal_parse_56 : decode b_Decimal_parse 56 = .ok (.aload_n 1, 1) := by decide +kernel
theorem d_Decimal_parse_57 : decode b_Decimal_parse 57 = .ok (.iload_n 2, 1) := by decide +kernel
theorem d_Decimal_parse_58 : decode b_Decimal_parse 58 = .ok (.invokevirtual 38, 3) := by decide +kernel
theorem d_Decimal_parse_61 : decode b_Decimal_parse 61 = .ok (.ifCond .eq 7, 3) := by decide +kernel
theorem d_Decimal_parse_64 : decode b_Decimal_parse 64 = .ok (.iconst 1, 1) := by decide +kernel
theorem d_Decimal_parse_65 : decode b_Decimal_parse 65 = .ok (.goto 4, 3) := by decide +kernel
theorem d_Decimal_parse_68 : decode b_Decimal_parse 68 = .ok (.iconst 0, 1) := by decide +kernel
theorem d_Decimal_parse_69 : decode b_Decimal_parse 69 = .ok (.ireturn, 1) := by decide +kernel
theorem d_Decimal_takeDigits_0 : decode b_Decimal_takeDigits 0 = .ok (.iconst 0, 1) := by decide +kernel
theorem d_Decimal_takeDigits_1 : decode b_Decimal_takeDigits 1 = .ok (.istore_n 3, 1) := by decide +kernel
theorem d_Decimal_takeDigits_2 : decode b_Decimal_takeDigits 2 = .ok (.iconst (-1), 1) := by decide +kernel
theorem d_Decimal_takeDigits_3 : decode b_Decimal_takeDigits 3 = .ok (.istore 4, 2) := by decide +kernel
theorem d_Decimal_takeDigits_5 : decode b_Decimal_takeDigits 5 = .ok (.iload_n 2, 1) := by decide +kernel
theorem d_Decimal_takeDigits_6 : decode b_Decimal_takeDigits 6 = .ok (.istore 5, 2) := by decide +kernel
theorem d_Decimal_takeDigits_8 : decode b_Decimal_takeDigits 8 = .ok (.iload 5, 2) := by decide +kernel
theorem d_Decimal_takeDigits_10 : decode b_Decimal_takeDigits 10 = .ok (.bipush 60, 2) := by decide +kernel
theorem d_Decimal_takeDigits_12 : decode b_Decimal_takeDigits 12 = .ok (.if_icmp .ge 65, 3) := by decide +kernel
theorem d_Decimal_takeDigits_15 : decode b_Decimal_takeDigits 15 = .ok (.aload_n 1, 1) := by decide +kernel
theorem d_Decimal_takeDigits_16 : decode b_Decimal_takeDigits 16 = .ok (.iload 5, 2) := by decide +kernel
theorem d_Decimal_takeDigits_18 : decode b_Decimal_takeDigits 18 = .ok (.invokevirtual 28, 3) := by decide +kernel
theorem d_Decimal_takeDigits_21 : decode b_Decimal_takeDigits 21 = .ok (.istore 6, 2) := by decide +kernel
theorem d_Decimal_takeDigits_23 : decode b_Decimal_takeDigits 23 = .ok (.iload 6, 2) := by decide +kernel
theorem d_Decimal_takeDigits_25 : decode b_Decimal_takeDigits 25 = .ok (.invokestatic 42, 3) := by decide +kernel
theorem d_Decimal_takeDigits_28 : decode b_Decimal_takeDigits 28 = .ok (.ifCond .eq 23, 3) := by decide +kernel
theorem d_Decimal_takeDigits_31 : decode b_Decimal_takeDigits 31 = .ok (.aload_n 0, 1) := by decide +kernel
theorem d_Decimal_takeDigits_32 : decode b_Decimal_takeDigits 32 = .ok (.getfield 10, 3) := by decide +kernel
theorem d_Decimal_takeDigits_35 : decode b_Decimal_takeDigits 35 = .ok (.bipush 10, 2) := by decide +kernel
theorem d_Decimal_takeDigits_37 : decode b_Decimal_takeDigits 37 = .ok (.iload 6, 2) := by decide +kernel
theorem d_Decimal_takeDigits_39 : decode b_Decimal_takeDigits 39 = .ok (.bipush 48, 2) := by decide +kernel
theorem d_Decimal_takeDigits_41 : decode b_Decimal_takeDigits 41 = .ok (.isub, 1) := by decide +kernel
theorem d_Decimal_takeDigits_42 : decode b_Decimal_takeDigits 42 = .ok (.invokevirtual 46, 3) := by decide +kernel
theorem d_Decimal_takeDigits_45 : decode b_Decimal_takeDigits 45 = .ok (.iinc 3 1, 3) := by decide +kernel
theorem d_Decimal_takeDigits_48 : decode b_Decimal_takeDigits 48 = .ok (.goto 23, 3) := by decide +kernel
theorem d_Decimal_takeDigits_51 : decode b_Decimal_takeDigits 51 = .ok (.iload 6, 2) := by decide +kernel
theorem d_Decimal_takeDigits_53 : decode b_Decimal_takeDigits 53 = .ok (.bipush 46, 2) := by decide +kernel
theorem d_Decimal_takeDigits_55 : decode b_Decimal_takeDigits 55 = .ok (.if_icmp .ne 22, 3) := by decide +kernel
theorem d_Decimal_takeDigits_58 : decode b_Decimal_takeDigits 58 = .ok (.iload 4, 2) := by decide +kernel
theorem d_Decimal_takeDigits_60 : decode b_Decimal_takeDigits 60 = .ok (.iconst (-1), 1) := by decide +kernel
theorem d_Decimal_takeDigits_61 : decode b_Decimal_takeDigits 61 = .ok (.if_icmp .ne 16, 3) := by decide +kernel
theorem d_Decimal_takeDigits_64 : decode b_Decimal_takeDigits 64 = .ok (.iload_n 3, 1) := by decide +kernel
theorem d_Decimal_takeDigits_65 : decode b_Decimal_takeDigits 65 = .ok (.ifCond .le 12, 3) := by decide +kernel
theorem d_Decimal_takeDigits_68 : decode b_Decimal_takeDigits 68 = .ok (.iload_n 3, 1) := by decide +kernel
theorem d_Decimal_takeDigits_69 : decode b_Decimal_takeDigits 69 = .ok (.istore 4, 2) := by decide +kernel
theorem d_Decimal_takeDigits_71 : decode b_Decimal_takeDigits 71 = .ok (.iinc 5 1, 3) := by decide +kernel
theorem d_Decimal_takeDigits_74 : decode b_Decimal_takeDigits 74 = .ok (.goto (-66), 3) := by decide +kernel
theorem d_Decimal_takeDigits_77 : decode b_Decimal_takeDigits 77 = .ok (.iload_n 3, 1) := by decide +kernel
theorem d_Decimal_takeDigits_78 : decode b_Decimal_takeDigits 78 = .ok (.ifCond .eq 15, 3) := by decide +kernel
theorem d_Decimal_takeDigits_81 : decode b_Decimal_takeDigits 81 = .ok (.iload_n 3, 1) := by decide +kernel
theorem d_Decimal_takeDigits_82 : decode b_Decimal_takeDigits 82 = .ok (.bipush 40, 2) := by decide +kernel
theorem d_Decimal_takeDigits_84 : decode b_Decimal_takeDigits 84 = .ok (.if_icmp .gt 9, 3) := by decide +kernel
theorem d_Decimal_takeDigits_87 : decode b_Decimal_takeDigits 87 = .ok (.iload 4, 2) := by decide +kernel
theorem d_Decimal_takeDigits_89 : decode b_Decimal_takeDigits 89 = .ok (.iload_n 3, 1) := by decide +kernel
theorem d_Decimal_takeDigits_90 : decode b_Decimal_takeDigits 90 = .ok (.if_icmp .ne 5, 3) := by decide +kernel
theorem d_Decimal_takeDigits_93 : decode b_Decimal_takeDigits 93 = .ok (.iconst (-1), 1) := by decide +kernel
theorem d_Decimal_takeDigits_94 : decode b_Decimal_takeDigits 94 = .ok (.ireturn, 1) := by decide +kernel
theorem d_Decimal_takeDigits_95 : decode b_Decimal_takeDigits 95 = .ok (.aload_n 0, 1) := by decide +kernel
theorem d_Decimal_takeDigits_96 : decode b_Decimal_takeDigits 96 = .ok (.iload 4, 2) := by decide +kernel
theorem d_Decimal_takeDigits_98 : decode b_Decimal_takeDigits 98 = .ok (.iconst (-1), 1) := by decide +kernel
theorem d_Decimal_takeDigits_99 : decode b_Decimal_takeDigits 99 = .ok (.if_icmp .ne 7, 3) := by decide +kernel
end
section
/-! NUMBERS: a machine number by its value (toInt), a word by its unsigned value (uw, ul) -/
theorem q_b32 {a : Int} (h : -2147483648 ≤ a ∧ a < 2147483648) : a.bmod (2 ^ 32) = a := Int.bmod_eq_of_le (by omega) (by omega)
theorem q_b64 {a : Int} (h : -9223372036854775808 ≤ a ∧ a < 9223372036854775808) : a.bmod (2 ^ 64) = a := Int.bmod_eq_of_le (by omega) (by omega)
theorem q_r32 (x : Int32) : -2147483648 ≤ x.toInt ∧ x.toInt < 2147483648 := ⟨by have := x.le_toInt; omega, by have := x.toInt_lt; omega⟩
theorem q_r64 (x : Int64) : -9223372036854775808 ≤ x.toInt ∧ x.toInt < 9223372036854775808 := ⟨by have := x.le_toInt; omega, by have := x.toInt_lt; omega⟩
theorem q_iadd {x y : Int32} {a b : Int} (hx : x.toInt = a) (hy : y.toInt = b) (h : -2147483648 ≤ a + b ∧ a + b < 2147483648) : (x + y).toInt = a + b := by rw [Int32.toInt_add, hx, hy]; exact q_b32 h
theorem q_isub {x y : Int32} {a b : Int} (hx : x.toInt = a) (hy : y.toInt = b) (h : -2147483648 ≤ a - b ∧ a - b < 2147483648) : (x - y).toInt = a - b := by rw [Int32.toInt_sub, hx, hy]; exact q_b32 h
theorem q_imul {x y : Int32} {a b : Int} (hx : x.toInt = a) (hy : y.toInt = b) (h : -2147483648 ≤ a * b ∧ a * b < 2147483648) : (x * y).toInt = a * b := by rw [Int32.toInt_mul, hx, hy]; exact q_b32 h
theorem q_ineg {x : Int32} {a : Int} (hx : x.toInt = a) (h : -2147483648 ≤ -a ∧ -a < 2147483648) : (-x).toInt = -a := by rw [Int32.toInt_neg, hx]; exact q_b32 h
theorem q_ladd {x y : Int64} {a b : Int} (hx : x.toInt = a) (hy : y.toInt = b) (h : -9223372036854775808 ≤ a + b ∧ a + b < 9223372036854775808) : (x + y).toInt = a + b := by rw [Int64.toInt_add, hx, hy]; exact q_b64 h
theorem q_lsub {x y : Int64} {a b : Int} (hx : x.toInt = a) (hy : y.toInt = b) (h : -9223372036854775808 ≤ a - b ∧ a - b < 9223372036854775808) : (x - y).toInt = a - b := by rw [Int64.toInt_sub, hx, hy]; exact q_b64 h
theorem q_lmul {x y : Int64} {a b : Int} (hx : x.toInt = a) (hy : y.toInt = b) (h : -9223372036854775808 ≤ a * b ∧ a * b < 9223372036854775808) : (x * y).toInt = a * b := by rw [Int64.toInt_mul, hx, hy]; exact q_b64 h
theorem q_lneg {x : Int64} {a : Int} (hx : x.toInt = a) (h : -9223372036854775808 ≤ -a ∧ -a < 9223372036854775808) : (-x).toInt = -a := by rw [Int64.toInt_neg, hx]; exact q_b64 h
theorem q_i2l {x : Int32} {a : Int} (hx : x.toInt = a) : x.toInt64.toInt = a := by rw [Int32.toInt_toInt64, hx]
theorem q_l2i {x : Int64} {a : Int} (hx : x.toInt = a) (h : -2147483648 ≤ a ∧ a < 2147483648) : x.toInt32.toInt = a := by rw [Int64.toInt_toInt32, hx]; exact q_b32 h
theorem q_idiv {x y : Int32} {a b : Int} (hx : x.toInt = a) (hy : y.toInt = b) (h : 0 ≤ a ∧ 0 < b) : (x / y).toInt = a / b := by
  have hr := q_r32 x
  have h1 : 0 ≤ a / b := Int.ediv_nonneg h.1 (by omega)
  have h2 : a / b ≤ a := Int.ediv_le_self _ h.1
  rw [Int32.toInt_div, hx, hy, Int.tdiv_eq_ediv_of_nonneg h.1]
  exact q_b32 ⟨by omega, by omega⟩
theorem q_ldiv {x y : Int64} {a b : Int} (hx : x.toInt = a) (hy : y.toInt = b) (h : 0 ≤ a ∧ 0 < b) : (x / y).toInt = a / b := by
  have hr := q_r64 x
  have h1 : 0 ≤ a / b := Int.ediv_nonneg h.1 (by omega)
  have h2 : a / b ≤ a := Int.ediv_le_self _ h.1
  rw [Int64.toInt_div, hx, hy, Int.tdiv_eq_ediv_of_nonneg h.1]
  exact q_b64 ⟨by omega, by omega⟩
theorem q_irem {x y : Int32} {a b : Int} (hx : x.toInt = a) (hy : y.toInt = b) (h : 0 ≤ a ∧ 0 < b) : (x - x / y * y).toInt = a % b := by
  have hr := q_r32 x
  have hd := q_idiv hx hy h
  have h0 := Int.emod_nonneg a (show b ≠ 0 by omega)
  have h1 := Int.emod_lt_of_pos a h.2
  have h2 : a / b * b + a % b = a := Int.ediv_mul_add_emod a b
  have h3 : 0 ≤ a / b * b := Int.mul_nonneg (Int.ediv_nonneg h.1 (by omega)) (by omega)
  have hm := q_imul hd hy ⟨by omega, by omega⟩
  rw [q_isub hx hm ⟨by omega, by omega⟩]
  omega
theorem q_lrem {x y : Int64} {a b : Int} (hx : x.toInt = a) (hy : y.toInt = b) (h : 0 ≤ a ∧ 0 < b) : (x - x / y * y).toInt = a % b := by
  have hr := q_r64 x
  have hd := q_ldiv hx hy h
  have h0 := Int.emod_nonneg a (show b ≠ 0 by omega)
  have h1 := Int.emod_lt_of_pos a h.2
  have h2 : a / b * b + a % b = a := Int.ediv_mul_add_emod a b
  have h3 : 0 ≤ a / b * b := Int.mul_nonneg (Int.ediv_nonneg h.1 (by omega)) (by omega)
  have hm := q_lmul hd hy ⟨by omega, by omega⟩
  rw [q_lsub hx hm ⟨by omega, by omega⟩]
  omega
theorem q_ilt {x y : Int32} {a b : Int} (hx : x.toInt = a) (hy : y.toInt = b) : x < y ↔ a < b := by rw [Int32.lt_iff_toInt_lt, hx, hy]
theorem q_ile {x y : Int32} {a b : Int} (hx : x.toInt = a) (hy : y.toInt = b) : x ≤ y ↔ a ≤ b := by rw [Int32.le_iff_toInt_le, hx, hy]
theorem q_ieq {x y : Int32} {a b : Int} (hx : x.toInt = a) (hy : y.toInt = b) : x = y ↔ a = b := by rw [← Int32.toInt_inj, hx, hy]
theorem q_llt {x y : Int64} {a b : Int} (hx : x.toInt = a) (hy : y.toInt = b) : x < y ↔ a < b := by rw [Int64.lt_iff_toInt_lt, hx, hy]
theorem q_lle {x y : Int64} {a b : Int} (hx : x.toInt = a) (hy : y.toInt = b) : x ≤ y ↔ a ≤ b := by rw [Int64.le_iff_toInt_le, hx, hy]
theorem q_leq {x y : Int64} {a b : Int} (hx : x.toInt = a) (hy : y.toInt = b) : x = y ↔ a = b := by rw [← Int64.toInt_inj, hx, hy]
theorem q_in {x : Int32} {n : Nat} {a : Int} (hx : x.toInt = a) (h : 0 ≤ a ∧ a < n) : vp_in x n := vp_in_iff.mpr (by rw [hx]; exact h)
theorem q_cl {x : Int32} {k : Nat} (hx : x.toInt = (k : Int)) : x.toNatClampNeg = k := by show x.toInt.toNat = k; rw [hx]; rfl
theorem q_nI {x : Int32} {k : Nat} (hx : x.toInt = (k : Int)) : x = nI k := by
  have := q_r32 x
  exact Int32.toInt_inj.mp (by rw [hx, nI_toInt (by omega)])
theorem q_lN {x : Int64} {k : Nat} (hx : x.toInt = (k : Int)) : x = lN k := by
  have := q_r64 x
  exact Int64.toInt_inj.mp (by rw [hx, pk_lT (by omega)])
/-- what lcmp leaves, against 0 -/
theorem q_cmp_lt {x y : Int64} {a b : Int} (hx : x.toInt = a) (hy : y.toInt = b) : lg_cmp x y < 0 ↔ a < b := by
  subst hx; subst hy
  unfold lg_cmp
  simp only [Int64.lt_iff_toInt_lt, ← Int64.toInt_inj]
  split
  · constructor
    · intro h; exact absurd h (by decide)
    · intro h; omega
  · split
    · constructor
      · intro h; exact absurd h (by decide)
      · intro h; omega
    · constructor
      · intro _; omega
      · intro _; decide
theorem q_cmp_eq {x y : Int64} {a b : Int} (hx : x.toInt = a) (hy : y.toInt = b) : lg_cmp x y = 0 ↔ a = b := by
  subst hx; subst hy
  unfold lg_cmp
  simp only [Int64.lt_iff_toInt_lt, ← Int64.toInt_inj]
  split
  · constructor
    · intro h; exact absurd h (by decide)
    · intro h; omega
  · split
    · constructor
      · intro _; assumption
      · intro _; rfl
    · constructor
      · intro h; exact absurd h (by decide)
      · intro h; omega
theorem q_cmp_gt {x y : Int64} {a b : Int} (hx : x.toInt = a) (hy : y.toInt = b) : 0 < lg_cmp x y ↔ b < a := by
  subst hx; subst hy
  unfold lg_cmp
  simp only [Int64.lt_iff_toInt_lt, ← Int64.toInt_inj]
  split
  · constructor
    · intro _; assumption
    · intro _; decide
  · split
    · constructor
      · intro h; exact absurd h (by decide)
      · intro h; omega
    · constructor
      · intro h; exact absurd h (by decide)
      · intro h; omega
theorem q_cmp_le {x y : Int64} {a b : Int} (hx : x.toInt = a) (hy : y.toInt = b) : lg_cmp x y ≤ 0 ↔ a ≤ b := by
  have h := q_cmp_gt hx hy
  constructor
  · intro h1
    refine Int.not_lt.mp fun h2 => ?_
    have h3 := h.mpr h2
    rw [Int32.lt_iff_toInt_lt] at h3
    rw [Int32.le_iff_toInt_le] at h1
    omega
  · intro h1
    rw [Int32.le_iff_toInt_le]
    refine Int.not_lt.mp fun h2 => ?_
    have h3 := h.mp (Int32.lt_iff_toInt_lt.mpr h2)
    omega
theorem q_cmp_ge {x y : Int64} {a b : Int} (hx : x.toInt = a) (hy : y.toInt = b) : 0 ≤ lg_cmp x y ↔ b ≤ a := by
  have h := q_cmp_lt hx hy
  constructor
  · intro h1
    refine Int.not_lt.mp fun h2 => ?_
    have h3 := h.mpr h2
    rw [Int32.lt_iff_toInt_lt] at h3
    rw [Int32.le_iff_toInt_le] at h1
    omega
  · intro h1
    rw [Int32.le_iff_toInt_le]
    refine Int.not_lt.mp fun h2 => ?_
    have h3 := h.mp (Int32.lt_iff_toInt_lt.mpr h2)
    omega
/-! words -/
def uw (x : Int32) : Nat := x.toBitVec.toNat
def ul (x : Int64) : Nat := x.toBitVec.toNat
theorem uw_lt (x : Int32) : uw x < 4294967296 := x.toBitVec.isLt
theorem ul_lt (x : Int64) : ul x < 18446744073709551616 := x.toBitVec.isLt
theorem uw_inj {x y : Int32} (h : uw x = uw y) : x = y := Int32.toBitVec_inj.mp (BitVec.eq_of_toNat_eq h)
theorem ul_inj {x y : Int64} (h : ul x = ul y) : x = y := Int64.toBitVec_inj.mp (BitVec.eq_of_toNat_eq h)
theorem uw_int (x : Int32) : x.toInt = if uw x < 2147483648 then (uw x : Int) else (uw x : Int) - 4294967296 := by
  rw [← Int32.toInt_toBitVec, BitVec.toInt_eq_toNat_cond]
  have := uw_lt x
  unfold uw at *
  split <;> split <;> omega
theorem ul_int (x : Int64) : x.toInt = if ul x < 9223372036854775808 then (ul x : Int) else (ul x : Int) - 18446744073709551616 := by
  rw [← Int64.toInt_toBitVec, BitVec.toInt_eq_toNat_cond]
  have := ul_lt x
  unfold ul at *
  split <;> split <;> omega
theorem uw_of {x : Int32} {k : Nat} (h : x.toInt = (k : Int)) : uw x = k := by
  have h1 := uw_int x
  have := uw_lt x
  split at h1 <;> omega
theorem ul_of {x : Int64} {k : Nat} (h : x.toInt = (k : Int)) : ul x = k := by
  have h1 := ul_int x
  have := ul_lt x
  split at h1 <;> omega
theorem ul_to {x : Int64} (h : ul x < 9223372036854775808) : x.toInt = (ul x : Int) := by rw [ul_int, if_pos h]
theorem uw_to {x : Int32} (h : uw x < 2147483648) : x.toInt = (uw x : Int) := by rw [uw_int, if_pos h]
theorem ul_add (x y : Int64) : ul (x + y) = (ul x + ul y) % 18446744073709551616 := by
  show (x + y).toBitVec.toNat = _
  rw [Int64.toBitVec_add, BitVec.toNat_add]; rfl
theorem ul_mul (x y : Int64) : ul (x * y) = (ul x * ul y) % 18446744073709551616 := by
  show (x * y).toBitVec.toNat = _
  rw [Int64.toBitVec_mul, BitVec.toNat_mul]; rfl
/-- (int) x -/
theorem uw_l2i (x : Int64) : uw x.toInt32 = ul x % 4294967296 := by
  show x.toInt32.toBitVec.toNat = _
  rw [Int64.toBitVec_toInt32, BitVec.signExtend_eq_setWidth_of_le _ (by decide), BitVec.toNat_setWidth]; rfl
/-- x & 0xFFFFFFFFL -/
theorem ul_lo (x : Int64) : ul (x &&& 4294967295) = ul x % 4294967296 := by
  show (x &&& 4294967295).toBitVec.toNat = _
  rw [Int64.toBitVec_and, BitVec.toNat_and]
  exact Nat.and_two_pow_sub_one_eq_mod _ 32
theorem ul_i2l_lo (x : Int32) : ul (x.toInt64 &&& 4294967295) = uw x := by
  rw [ul_lo]
  have h1 := ul_int x.toInt64
  rw [Int32.toInt_toInt64, uw_int] at h1
  have := ul_lt x.toInt64
  have := uw_lt x
  split at h1 <;> split at h1 <;> omega
/-- x >>> 32 -/
theorem ul_s32 (x : Int64) : ul (x.toUInt64 >>> ((32 : Int32).toInt64.toUInt64 &&& Int64.toUInt64 63)).toInt64 = ul x / 4294967296 := by
  show ((x.toUInt64 >>> ((32 : Int32).toInt64.toUInt64 &&& Int64.toUInt64 63)).toInt64).toBitVec.toNat = _
  have e : ((32 : Int32).toInt64.toUInt64 &&& Int64.toUInt64 63) = 32 := by decide
  rw [e]
  show (x.toUInt64 >>> 32).toBitVec.toNat = _
  rw [UInt64.toBitVec_shiftRight, BitVec.ushiftRight_eq', BitVec.toNat_ushiftRight, Nat.shiftRight_eq_div_pow]
  rfl
/-- x >> 32 -/
theorem q_sar32 {x : Int64} {a : Int} (hx : x.toInt = a) : (x >>> ((32 : Int32).toInt64 &&& 63)).toInt = a / 4294967296 := by
  subst hx
  have e : ((32 : Int32).toInt64 &&& 63) = 32 := by decide
  rw [e, ← Int64.toInt_toBitVec, Int64.toBitVec_shiftRight, BitVec.toInt_sshiftRight', Int.shiftRight_eq_div_pow]
  rfl
end
section
/-! LIMBS: the value of a row of words, the lowest first -/
def nv (f : Nat → Int32) : Nat → Nat
  | 0 => 0
  | n + 1 => nv f n + uw (f n) * 2 ^ (32 * n)
theorem pw_s (n : Nat) : 2 ^ (32 * (n + 1)) = 4294967296 * 2 ^ (32 * n) := by
  rw [Nat.mul_succ, Nat.pow_add, Nat.mul_comm]
theorem pw_p (n : Nat) : 0 < 2 ^ n := Nat.pow_pos (by decide)
theorem nv_lt (f : Nat → Int32) : ∀ n, nv f n < 2 ^ (32 * n)
  | 0 => by simp [nv]
  | n + 1 => by
    have h1 := nv_lt f n
    have h2 := Nat.mul_le_mul_right (2 ^ (32 * n)) (Nat.le_of_lt_succ (uw_lt (f n)))
    rw [pw_s]
    show nv f n + uw (f n) * 2 ^ (32 * n) < _
    omega
theorem nv_congr {f g : Nat → Int32} : ∀ {n : Nat}, (∀ i, i < n → f i = g i) → nv f n = nv g n
  | 0, _ => rfl
  | n + 1, h => by
    show nv f n + uw (f n) * 2 ^ (32 * n) = nv g n + uw (g n) * 2 ^ (32 * n)
    rw [nv_congr (fun i hi => h i (by omega)), h n (by omega)]
theorem nv_upd {f : Nat → Int32} {k n : Nat} {x : Int32} (h : n ≤ k) : nv (upd f k x) n = nv f n := nv_congr (fun i hi => pk_un (by omega))
theorem nv_upd_s {f : Nat → Int32} {n : Nat} {x : Int32} : nv (upd f n x) (n + 1) = nv f n + uw x * 2 ^ (32 * n) := by
  show nv (upd f n x) n + uw (upd f n x n) * 2 ^ (32 * n) = _
  rw [nv_upd (Nat.le_refl n), pk_us]
theorem nv_zero {f : Nat → Int32} : ∀ {n : Nat}, (∀ i, i < n → f i = 0) → nv f n = 0
  | 0, _ => rfl
  | n + 1, h => by
    show nv f n + uw (f n) * 2 ^ (32 * n) = 0
    rw [nv_zero (fun i hi => h i (by omega)), h n (by omega)]
    simp [uw]
theorem nv_ge {f : Nat → Int32} : ∀ {n i : Nat}, i < n → uw (f i) * 2 ^ (32 * i) ≤ nv f n
  | 0, i, h => by omega
  | n + 1, i, h => by
    show _ ≤ nv f n + uw (f n) * 2 ^ (32 * n)
    rcases Nat.lt_or_ge i n with h1 | h1
    · exact Nat.le_trans (nv_ge h1) (Nat.le_add_right _ _)
    · have : i = n := by omega
      subst this
      exact Nat.le_add_left _ _
theorem uw_pos {x : Int32} (h : x ≠ 0) : 0 < uw x := by
  refine Nat.pos_of_ne_zero fun h0 => h (uw_inj (h0.trans ?_))
  rfl
theorem nv_pos {f : Nat → Int32} {n i : Nat} (hi : i < n) (h : f i ≠ 0) : 0 < nv f n :=
  Nat.lt_of_lt_of_le (Nat.mul_pos (uw_pos h) (pw_p _)) (nv_ge hi)
/-- from place i up all the same: the lower part decides -/
theorem nv_split {f h : Nat → Int32} : ∀ {n i : Nat}, i ≤ n → (∀ j, i ≤ j → j < n → f j = h j) → nv f n + nv h i = nv h n + nv f i
  | 0, i, hi, _ => by
    have : i = 0 := by omega
    subst this; rfl
  | n + 1, i, hi, hs => by
    rcases Nat.lt_or_ge i (n + 1) with h1 | h1
    · have ih := nv_split (f := f) (h := h) (n := n) (i := i) (by omega) (fun j a b => hs j a (by omega))
      have e := hs n (by omega) (by omega)
      show nv f n + uw (f n) * 2 ^ (32 * n) + nv h i = nv h n + uw (h n) * 2 ^ (32 * n) + nv f i
      rw [e]
      omega
    · have : i = n + 1 := by omega
      subst this
      omega
theorem nv_less {f h : Nat → Int32} {n i : Nat} (hi : i < n) (hs : ∀ j, i < j → j < n → f j = h j) (hl : uw (f i) < uw (h i)) : nv f n < nv h n := by
  have h1 := nv_split (f := f) (h := h) (n := n) (i := i + 1) (by omega) (fun j a b => hs j (by omega) b)
  have h2 : nv f (i + 1) < nv h (i + 1) := by
    show nv f i + uw (f i) * 2 ^ (32 * i) < nv h i + uw (h i) * 2 ^ (32 * i)
    have h3 := nv_lt f i
    have h4 := Nat.mul_le_mul_right (2 ^ (32 * i)) (show uw (f i) + 1 ≤ uw (h i) from hl)
    rw [Nat.add_mul, Nat.one_mul] at h4
    omega
  omega
/-- one step of times-and-plus -/
theorem nv_mul_step {f g : Nat → Int32} {i F A c : Nat} {x : Int32} (h : nv g i + c * 2 ^ (32 * i) = nv f i * F + A) (hx : uw x = (c + uw (f i) * F) % 4294967296) :
    nv (upd g i x) (i + 1) + (c + uw (f i) * F) / 4294967296 * 2 ^ (32 * (i + 1)) = nv f (i + 1) * F + A := by
  rw [nv_upd_s, hx, pw_s]
  show _ = (nv f i + uw (f i) * 2 ^ (32 * i)) * F + A
  generalize 2 ^ (32 * i) = P at *
  generalize hd : c + uw (f i) * F = d at *
  have e1 : d % 4294967296 * P + d / 4294967296 * (4294967296 * P) = d * P := by
    rw [← Nat.mul_assoc, ← Nat.add_mul, Nat.mod_add_div']
  have e2 : d * P = c * P + uw (f i) * P * F := by rw [← hd, Nat.add_mul, Nat.mul_right_comm]
  rw [Nat.add_mul]
  omega
/-- one step of a sum -/
theorem nv_add_step {f h g : Nat → Int32} {i c : Nat} {x : Int32} (e : nv g i + c * 2 ^ (32 * i) = nv f i + nv h i) (hx : uw x = (c + uw (f i) + uw (h i)) % 4294967296) :
    nv (upd g i x) (i + 1) + (c + uw (f i) + uw (h i)) / 4294967296 * 2 ^ (32 * (i + 1)) = nv f (i + 1) + nv h (i + 1) := by
  rw [nv_upd_s, hx, pw_s]
  show _ = (nv f i + uw (f i) * 2 ^ (32 * i)) + (nv h i + uw (h i) * 2 ^ (32 * i))
  generalize 2 ^ (32 * i) = P at *
  generalize hd : c + uw (f i) + uw (h i) = d at *
  have e1 : d % 4294967296 * P + d / 4294967296 * (4294967296 * P) = d * P := by
    rw [← Nat.mul_assoc, ← Nat.add_mul, Nat.mod_add_div']
  have e2 : d * P = c * P + uw (f i) * P + uw (h i) * P := by rw [← hd, Nat.add_mul, Nat.add_mul]
  omega
/-- one step of a difference: b is the borrow, 0 or -1 -/
theorem nv_sub_step {f h g : Nat → Int32} {i : Nat} {b : Int} {x : Int32} (e : (nv g i : Int) + b * (2 ^ (32 * i) : Nat) = (nv f i : Int) - nv h i) (hx : (uw x : Int) = (b + uw (f i) - uw (h i)) % 4294967296) :
    (nv (upd g i x) (i + 1) : Int) + (b + uw (f i) - uw (h i)) / 4294967296 * (2 ^ (32 * (i + 1)) : Nat) = (nv f (i + 1) : Int) - nv h (i + 1) := by
  rw [nv_upd_s, pw_s]
  show _ = ((nv f i + uw (f i) * 2 ^ (32 * i) : Nat) : Int) - (nv h i + uw (h i) * 2 ^ (32 * i) : Nat)
  generalize 2 ^ (32 * i) = P at *
  rw [Int.natCast_add, Int.natCast_mul, Int.natCast_mul, Int.natCast_add, Int.natCast_mul, Int.natCast_add, Int.natCast_mul]
  rw [show ((4294967296 : Nat) : Int) = 4294967296 from rfl]
  rw [hx]
  generalize hd : b + (uw (f i) : Int) - (uw (h i) : Int) = d at *
  have e1 : d % 4294967296 * (P : Int) + d / 4294967296 * (4294967296 * (P : Int)) = d * P := by
    rw [← Int.mul_assoc, ← Int.add_mul, Int.emod_add_ediv_mul]
  have e2 : d * (P : Int) = b * P + uw (f i) * P - uw (h i) * P := by rw [← hd, Int.sub_mul, Int.add_mul]
  omega
/-- the words from place i on -/
def hv (f : Nat → Int32) (i : Nat) : Nat → Nat
  | 0 => 0
  | n + 1 => uw (f i) + 4294967296 * hv f (i + 1) n
theorem hv_congr {f g : Nat → Int32} : ∀ {n i : Nat}, (∀ j, i ≤ j → j < i + n → f j = g j) → hv f i n = hv g i n
  | 0, _, _ => rfl
  | n + 1, i, h => by
    show uw (f i) + 4294967296 * hv f (i + 1) n = uw (g i) + 4294967296 * hv g (i + 1) n
    rw [h i (by omega) (by omega), hv_congr (fun j a b => h j (by omega) (by omega))]
theorem hv_snoc (f : Nat → Int32) : ∀ (n i : Nat), hv f i (n + 1) = hv f i n + uw (f (i + n)) * 2 ^ (32 * n)
  | 0, i => by simp [hv]
  | n + 1, i => by
    show uw (f i) + 4294967296 * hv f (i + 1) (n + 1) = uw (f i) + 4294967296 * hv f (i + 1) n + _
    rw [hv_snoc f n (i + 1), pw_s, show i + 1 + n = i + (n + 1) by omega, Nat.mul_add, Nat.mul_left_comm]
    omega
theorem hv_nv (f : Nat → Int32) : ∀ n, hv f 0 n = nv f n
  | 0 => rfl
  | n + 1 => by
    rw [hv_snoc, hv_nv f n, Nat.zero_add]
    rfl
/-- one step of a division, from above -/
theorem hv_div_step {f g : Nat → Int32} {i n d r : Nat} {x : Int32} (hd : 0 < d) (h : hv f (i + 1) n = hv g (i + 1) n * d + r) (hg : ∀ j, i < j → j < i + 1 + n → g j = upd g i x j)
    (hx : uw x = (r * 4294967296 + uw (f i)) / d) : hv f i (n + 1) = hv (upd g i x) i (n + 1) * d + (r * 4294967296 + uw (f i)) % d := by
  show uw (f i) + 4294967296 * hv f (i + 1) n = (uw (upd g i x i) + 4294967296 * hv (upd g i x) (i + 1) n) * d + _
  rw [pk_us, ← hv_congr (f := g) (g := upd g i x) (fun j a b => hg j (by omega) (by omega)), hx, h]
  have e := Nat.div_add_mod (r * 4294967296 + uw (f i)) d
  generalize (r * 4294967296 + uw (f i)) / d = a at *
  generalize (r * 4294967296 + uw (f i)) % d = b at *
  rw [Nat.mul_comm] at e
  rw [Nat.add_mul, Nat.mul_assoc, Nat.mul_add]
  omega
/-- the whole quotient -/
theorem hv_div_end {f g : Nat → Int32} {n d r : Nat} (hr : r < d) (h : hv f 0 n = hv g 0 n * d + r) : nv g n = nv f n / d ∧ r = nv f n % d := by
  rw [hv_nv, hv_nv] at h
  rw [h, Nat.mul_comm]
  refine ⟨?_, ?_⟩
  · rw [Nat.mul_add_div (by omega), Nat.div_eq_of_lt hr, Nat.add_zero]
  · rw [Nat.mul_add_mod, Nat.mod_eq_of_lt hr]
theorem nv_mod_end {g : Nat → Int32} {n c X : Nat} (h : nv g n + c * 2 ^ (32 * n) = X) : nv g n = X % 2 ^ (32 * n) := by
  rw [← h, Nat.add_mul_mod_self_right, Nat.mod_eq_of_lt (nv_lt g n)]
/-- a limb by a place that may lie outside -/
def lz (f : Nat → Int32) (i : Int) : Nat := if 0 ≤ i ∧ i < 12 then uw (f i.toNat) else 0
theorem ul_0 : ul 0 = 0 := rfl
theorem q_lo (x : Int32) : (x.toInt64 &&& 4294967295).toInt = (uw x : Int) := by
  have h := ul_i2l_lo x
  have := uw_lt x
  rw [ul_to (by omega), h]
theorem nv_top0 {f : Nat → Int32} : ∀ {n i : Nat}, i ≤ n → (∀ j, i ≤ j → j < n → f j = 0) → nv f n = nv f i
  | 0, i, hi, _ => by rw [show i = 0 by omega]
  | n + 1, i, hi, hs => by
    rcases Nat.lt_or_ge i (n + 1) with h1 | h1
    · show nv f n + uw (f n) * 2 ^ (32 * n) = nv f i
      rw [hs n (by omega) (by omega), nv_top0 (by omega) (fun j a b => hs j a (by omega))]
      simp [uw]
    · rw [show i = n + 1 by omega]
theorem ul_i2l {x : Int32} (h : 0 ≤ x.toInt) : ul x.toInt64 = uw x := by
  have h1 := uw_int x
  have h2 := uw_lt x
  have h3 : x.toInt = (uw x : Int) := by split at h1 <;> omega
  exact ul_of (by rw [Int32.toInt_toInt64, h3])
theorem uw_half {x : Int32} (h : 0 ≤ x.toInt) : uw x < 2147483648 := by
  have h1 := uw_int x
  have h2 := uw_lt x
  split at h1 <;> omega
end
section
/-! RULES: contracts with a world before and a world behind; the walk's ends and calls -/
section RU
variable {dC : Nat → ClassId} {dI : Nat → Nat → Nat} {cI cB cJ : ClassId}
abbrev tyG (cI cB cJ : ClassId) : List (ClassId × FieldType) := [(cI, .int), (cB, .byte), (cJ, .long)]
/-- the tables: the classes, the array classes, the nest mates' links -/
def kG (dC : Nat → ClassId) (dI : Nat → Nat → Nat) (cI cB cJ : ClassId) (U : State) : Prop := va_K (dC, dI) vwCl (tyG cI cB cJ) U ∧ ∀ w ∈ nestG, va_Nw w U
theorem nest_warm {w : Cond} (hw : isNest w = true) {s U : State} (hW : s.WarmedH U.vm) (h : va_Nw w s) : va_Nw w U := by
  cases w <;> first | exact va_Nw.warmF hW h | exact va_Nw.warmM hW h | exact absurd hw (by decide) | (simp [isNest] at hw)
theorem kG.warm {s U : State} (hW : s.WarmedH U.vm) (h : kG dC dI cI cB cJ s) : kG dC dI cI cB cJ U :=
  ⟨va_K.moved hW.alike h.1, fun w hw => nest_warm (nestG_ok w hw) hW (h.2 w hw)⟩
theorem nest_same {w : Cond} (hw : isNest w = true) {u U : State} (e : u.vm = U.vm) (h : va_Nw w u) : va_Nw w U := by
  refine va_Nw.same ?_ e h
  cases w <;> first | rfl | exact absurd hw (by decide) | (simp [isNest] at hw)
theorem kG.calling {U : State} {g : JFrame} {mk : MethodId} {a : Array Value} (h : kG dC dI cI cB cJ U) : kG dC dI cI cB cJ (U.calling g mk a) :=
  ⟨va_K.moved (u := U) (U := U.calling g mk a) (Vm.Alike.refl U.vm) h.1, fun w hw => nest_same (u := U) (U := U.calling g mk a) (nestG_ok w hw) rfl (h.2 w hw)⟩
/-- what stays true through a walk -/
def cx (dC : Nat → ClassId) (dI : Nat → Nat → Nat) (cI cB cJ : ClassId) (own : String) (cc : ByteArray) (nL : Nat) (ret : Option FieldType) (p : Program) (s : State) (m : MethodId) (args : Array Value) (meth : Method) (c : Code) : Prop :=
  p.tables.exec = Jvm.exec ∧ c.code = cc ∧ c.maxLocals = nL ∧ s.vm.findClass own = some m.cls ∧ (∀ w ∈ gT, w.before args s = true) ∧ meth.sig.returnType = ret ∧ meth.locks = false ∧ kG dC dI cI cB cJ s
abbrev prG (dC : Nat → ClassId) (dI : Nat → Nat → Nat) (cI cB cJ : ClassId) (av : List Value) (win : va_W) (sz : Nat) : Array Value → State → Prop :=
  va_Pc av (fun U => U.heap.size = sz ∧ va_P (dC, dI) vwCl win U.heap ∧ kG dC dI cI cB cJ U ∧ va_D (fun _ => True) win)
abbrev poG {S : Type} (dC : Nat → ClassId) (dI : Nat → Nat → Nat) (A : Nat → Prop) (wout : S → va_W) : S → State → Prop := fun u t => va_P (dC, dI) vwCl (wout u) t.heap ∧ va_D A (wout u)
def Cv (l : Launch) (dC : Nat → ClassId) (dI : Nat → Nat → Nat) (cI cB cJ : ClassId) (y : MethodName) (ws : List Cond) (rm : Room) (av : List Value) (win : va_W) {S : Type} (post : S → Prop) (wout : S → va_W) : Prop :=
  ∀ sz, Met l y ws rm (prG dC dI cI cB cJ av win sz) (va_Qv post (poG dC dI (va_A win sz) wout) (va_A win sz)) rm.cells rm.slots (va_A win sz)
def Ci (l : Launch) (dC : Nat → ClassId) (dI : Nat → Nat → Nat) (cI cB cJ : ClassId) (y : MethodName) (ws : List Cond) (rm : Room) (av : List Value) (win : va_W) {S : Type} (post : Int32 → S → Prop) (wout : S → va_W) : Prop :=
  ∀ sz, Met l y ws rm (prG dC dI cI cB cJ av win sz) (va_Qi post (poG dC dI (va_A win sz) wout) (va_A win sz)) rm.cells rm.slots (va_A win sz)
def Cl (l : Launch) (dC : Nat → ClassId) (dI : Nat → Nat → Nat) (cI cB cJ : ClassId) (y : MethodName) (ws : List Cond) (rm : Room) (av : List Value) (win : va_W) {S : Type} (post : Int64 → S → Prop) (wout : S → va_W) : Prop :=
  ∀ sz, Met l y ws rm (prG dC dI cI cB cJ av win sz) (va_Ql post (poG dC dI (va_A win sz) wout) (va_A win sz)) rm.cells rm.slots (va_A win sz)
theorem va_Psub {D : va_G} {cl : List vw_C} {ws ws' : va_W} {H : Heap} (h : va_P D cl ws H) (is : List Nat) (hs : is.map (fun i => ws[i]?) = ws'.map some) : va_P D cl ws' H := by
  intro k q hk
  have h1 : (is.map (fun i => ws[i]?))[k]? = some (some q) := by rw [hs, List.getElem?_map, hk]; rfl
  rw [List.getElem?_map] at h1
  cases hi : is[k]? with
  | none => rw [hi] at h1; cases h1
  | some i => rw [hi] at h1; exact h i q (Option.some.inj h1)
section IN
variable {l : Launch} {y : MethodName} {ws : List Cond} {rm : Room} {av : List Value} {win : va_W} {S : Type} {wout : S → va_W} {cc : ByteArray} {maxL : Nat}
/-- the start of a walk: what holds at the entry -/
theorem Cv.intro {post : S → Prop} (hy : plainName y.cls = true) (hw : ws = Cond.code y cc maxL none :: gT) (hlen : (lg_sl av).length ≤ maxL)
    (body : ∀ (p : Program) (e : Env) (s : State) (m : MethodId) (below : List Frame) (meth : Method) (c : Code) (A : Nat → Prop) (ls : Array Slot), cx dC dI cI cB cJ y.cls cc maxL none p s m av.toArray meth c → meth.name = y.name → (∀ q : Nat, s.heap.size ≤ q → A q) →
      va_P (dC, dI) vwCl win s.heap → va_D A win → va_S A s.heap s.heap [] → lv_has ls maxL (lv_args 0 av) → W p l e rm s m av.toArray below meth c s.heap [] 0 0 (MQ below (va_Qv post (poG dC dI A wout) A) av.toArray s rm.cells rm.slots A) (F0 m 0 ls [])) : Cv l dC dI cI cB cJ y ws rm av win post wout := by
  intro sz
  refine Met.ofW (cc := cc) (maxL := maxL) (ret := none) hy hw ?_
  intro p e s m args below meth c s₁ B hml hv
  obtain ⟨rfl, hsz, hP, hK, hD0⟩ := hv
  subst hsz
  have hl := lv_entry av (n := maxL) hlen
  rw [lg_entry_eq]
  exact body p e s m below meth c (va_A win s.heap.size) _ ⟨B.exec, B.bytes, hml, findClass_of_methodNamed B.named, fun w h => atoms_spec (ws := ws) B.pre w (by rw [hw]; exact List.mem_cons_of_mem _ h), B.returns, B.notSynchronized, hK⟩ (name_of_methodNamed B.named B.method).1 (fun q h => Or.inr h) hP hD0.self va_S.rf hl
theorem Ci.intro {post : Int32 → S → Prop} {ret : Option FieldType} (hy : plainName y.cls = true) (hw : ws = Cond.code y cc maxL ret :: gT) (hlen : (lg_sl av).length ≤ maxL)
    (body : ∀ (p : Program) (e : Env) (s : State) (m : MethodId) (below : List Frame) (meth : Method) (c : Code) (A : Nat → Prop) (ls : Array Slot), cx dC dI cI cB cJ y.cls cc maxL ret p s m av.toArray meth c → meth.name = y.name → (∀ q : Nat, s.heap.size ≤ q → A q) →
      va_P (dC, dI) vwCl win s.heap → va_D A win → va_S A s.heap s.heap [] → lv_has ls maxL (lv_args 0 av) → W p l e rm s m av.toArray below meth c s.heap [] 0 0 (MQ below (va_Qi post (poG dC dI A wout) A) av.toArray s rm.cells rm.slots A) (F0 m 0 ls [])) : Ci l dC dI cI cB cJ y ws rm av win post wout := by
  intro sz
  refine Met.ofW (cc := cc) (maxL := maxL) (ret := ret) hy hw ?_
  intro p e s m args below meth c s₁ B hml hv
  obtain ⟨rfl, hsz, hP, hK, hD0⟩ := hv
  subst hsz
  have hl := lv_entry av (n := maxL) hlen
  rw [lg_entry_eq]
  exact body p e s m below meth c (va_A win s.heap.size) _ ⟨B.exec, B.bytes, hml, findClass_of_methodNamed B.named, fun w h => atoms_spec (ws := ws) B.pre w (by rw [hw]; exact List.mem_cons_of_mem _ h), B.returns, B.notSynchronized, hK⟩ (name_of_methodNamed B.named B.method).1 (fun q h => Or.inr h) hP hD0.self va_S.rf hl
theorem Cl.intro {post : Int64 → S → Prop} {ret : Option FieldType} (hy : plainName y.cls = true) (hw : ws = Cond.code y cc maxL ret :: gT) (hlen : (lg_sl av).length ≤ maxL)
    (body : ∀ (p : Program) (e : Env) (s : State) (m : MethodId) (below : List Frame) (meth : Method) (c : Code) (A : Nat → Prop) (ls : Array Slot), cx dC dI cI cB cJ y.cls cc maxL ret p s m av.toArray meth c → meth.name = y.name → (∀ q : Nat, s.heap.size ≤ q → A q) →
      va_P (dC, dI) vwCl win s.heap → va_D A win → va_S A s.heap s.heap [] → lv_has ls maxL (lv_args 0 av) → W p l e rm s m av.toArray below meth c s.heap [] 0 0 (MQ below (va_Ql post (poG dC dI A wout) A) av.toArray s rm.cells rm.slots A) (F0 m 0 ls [])) : Cl l dC dI cI cB cJ y ws rm av win post wout := by
  intro sz
  refine Met.ofW (cc := cc) (maxL := maxL) (ret := ret) hy hw ?_
  intro p e s m args below meth c s₁ B hml hv
  obtain ⟨rfl, hsz, hP, hK, hD0⟩ := hv
  subst hsz
  have hl := lv_entry av (n := maxL) hlen
  rw [lg_entry_eq]
  exact body p e s m below meth c (va_A win s.heap.size) _ ⟨B.exec, B.bytes, hml, findClass_of_methodNamed B.named, fun w h => atoms_spec (ws := ws) B.pre w (by rw [hw]; exact List.mem_cons_of_mem _ h), B.returns, B.notSynchronized, hK⟩ (name_of_methodNamed B.named B.method).1 (fun q h => Or.inr h) hP hD0.self va_S.rf hl
end IN
section EN
variable {p : Program} {l : Launch} {e : Env} {R : Room} {s : State} {m : MethodId} {args : Array Value} {below : List Frame} {meth : Method} {c : Code} {H : Heap} {locs : List Loc} {cells slots mc ms : Nat} {A : Nat → Prop}
variable {own : String} {cc : ByteArray} {nL pc : Nat} {ls : Array Slot} {S : Type} {wout : S → va_W} {w0 : va_W}
/-- the ends -/
theorem Cv.ret {post : S → Prop} (C0 : cx dC dI cI cB cJ own cc nL none p s m args meth c) {u : S} (h1 : cells ≤ mc) (h2 : slots ≤ ms) (hq : post u) (hP : va_P (dC, dI) vwCl w0 H) (hD : va_D A w0) (hS : va_S A s.heap H locs) (is : List Nat) (hn : va_nd is = true) (hs : is.map (fun i => w0[i]?) = (wout u).map some)
    (hdg : decode cc pc = .ok (.return_, 1)) : W p l e R s m args below meth c H locs cells slots (MQ below (va_Qv post (poG dC dI A wout) A) args s mc ms A) (F0 m pc ls []) := by
  obtain ⟨hx, hb, -, -, -, hr, hlocks, -⟩ := C0
  refine W.widen (k := mc) (n := ms) h1 h2 ?_
  exact W.vret hx hb hr (fun t ht hW => ⟨⟨u, rfl, hq, by rw [ht]; exact va_Psub hP is hs, hD.sub is hn hs⟩, hS.F ht⟩) hS.2.2 hdg
theorem Ci.ret {post : Int32 → S → Prop} (C0 : cx dC dI cI cB cJ own cc nL (some .int) p s m args meth c) {v : Int32} {u : S} (h1 : cells ≤ mc) (h2 : slots ≤ ms) (hq : post v u) (hP : va_P (dC, dI) vwCl w0 H) (hD : va_D A w0) (hS : va_S A s.heap H locs) (is : List Nat) (hn : va_nd is = true) (hs : is.map (fun i => w0[i]?) = (wout u).map some)
    (hdg : decode cc pc = .ok (.ireturn, 1)) : W p l e R s m args below meth c H locs cells slots (MQ below (va_Qi post (poG dC dI A wout) A) args s mc ms A) (F0 m pc ls [.int v]) := by
  obtain ⟨hx, hb, -, -, -, hr, hlocks, -⟩ := C0
  refine W.widen (k := mc) (n := ms) h1 h2 ?_
  exact W.iret (v := v) hx hb hr (fun t ht hW => ⟨⟨v, u, rfl, hq, by rw [ht]; exact va_Psub hP is hs, hD.sub is hn hs⟩, hS.F ht⟩) hS.2.2 hdg
theorem Cz.ret {post : Int32 → S → Prop} {ty : FieldType} (C0 : cx dC dI cI cB cJ own cc nL (some ty) p s m args meth c) {v : Int32} {u : S} (hna : narrow ty (.int v) = .int v) (h1 : cells ≤ mc) (h2 : slots ≤ ms) (hq : post v u) (hP : va_P (dC, dI) vwCl w0 H) (hD : va_D A w0) (hS : va_S A s.heap H locs) (is : List Nat) (hn : va_nd is = true) (hs : is.map (fun i => w0[i]?) = (wout u).map some)
    (hdg : decode cc pc = .ok (.ireturn, 1)) : W p l e R s m args below meth c H locs cells slots (MQ below (va_Qi post (poG dC dI A wout) A) args s mc ms A) (F0 m pc ls [.int v]) := by
  obtain ⟨hx, hb, -, -, -, hr, hlocks, -⟩ := C0
  refine W.widen (k := mc) (n := ms) h1 h2 ?_
  exact W.zret (v := v) hx hb hr hna (fun t ht hW => ⟨⟨v, u, rfl, hq, by rw [ht]; exact va_Psub hP is hs, hD.sub is hn hs⟩, hS.F ht⟩) hS.2.2 hdg
theorem Cl.ret {post : Int64 → S → Prop} (C0 : cx dC dI cI cB cJ own cc nL (some .long) p s m args meth c) {v : Int64} {u : S} (h1 : cells ≤ mc) (h2 : slots ≤ ms) (hq : post v u) (hP : va_P (dC, dI) vwCl w0 H) (hD : va_D A w0) (hS : va_S A s.heap H locs) (is : List Nat) (hn : va_nd is = true) (hs : is.map (fun i => w0[i]?) = (wout u).map some)
    (hdg : decode cc pc = .ok (.lreturn, 1)) : W p l e R s m args below meth c H locs cells slots (MQ below (va_Ql post (poG dC dI A wout) A) args s mc ms A) (F0 m pc ls [.long v]) := by
  obtain ⟨hx, hb, -, -, -, hr, hlocks, -⟩ := C0
  refine W.widen (k := mc) (n := ms) h1 h2 ?_
  exact W.lret (v := v) hx hb hr (fun t ht hW => ⟨⟨v, u, rfl, hq, by rw [ht]; exact va_Psub hP is hs, hD.sub is hn hs⟩, hS.F ht⟩) hS.2.2 hdg
end EN
section CA
variable {p : Program} {l : Launch} {e : Env} {R : Room} {s : State} {m : MethodId} {args : Array Value} {below : List Frame} {meth : Method} {c : Code} {H : Heap} {locs : List Loc} {cells slots : Nat} {A : Nat → Prop} {Q : State → Prop}
variable {own C host : String} {cc bytes : ByteArray} {nL pc n index maxL : Nat} {ls : Array Slot} {S : Type} {wout : S → va_W} {w0 win wr : va_W} {ret ret1 : Option FieldType} {y : MethodName} {ws : List Cond} {rm : Room} {b : Addr} {As rest st0 : List Value}
theorem callV_v {post : S → Prop} (C0 : cx dC dI cI cB cJ own cc nL ret p s m args meth c) (hM : Cv l dC dI cI cB cJ y ws rm (.ref b :: As) win post wout) (cw : CallW R s args own C index y bytes maxL ret1 ws rm rm.cells rm.slots n) (ci : Nat) {qc : vw_C} {fs : List Value} (hcl : vwCl[ci]? = some qc) (hqc : qc.1 = C) (q0 : Nat) (he : win[q0]? = some (b, .inr (ci, fs))) (hP : va_P (dC, dI) vwCl w0 H) (hD : va_D A w0) (hS : va_S A s.heap H locs) (hA : ∀ q : Nat, s.heap.size ≤ q → A q) (isC isR : List Nat) (hC : isC.map (fun i => w0[i]?) = win.map some) (hR : isR.map (fun i => w0[i]?) = wr.map some) (hnC : va_nd isC = true) (hnR : va_nd isR = true) (hdis : ∀ i ∈ isR, i ∉ isC)
    (hn : As.length = n) (hsize : ls.size = nL) (hst : st0 = As.reverse ++ .ref b :: rest) (hW : (rest.map fun v => v.category).sum ≤ 8) (hdg : decode cc pc = .ok (.invokevirtual index, 3)) (hf : cells + rm.cells ≤ R.cells ∧ slots + rm.slots ≤ R.slots)
    (kk : ∀ (u : S) (H1 : Heap) (locs1 : List Loc), post u → va_P (dC, dI) vwCl (wr ++ wout u) H1 → va_D A (wr ++ wout u) → va_S A s.heap H1 locs1 → W p l e R s m args below meth c H1 locs1 (cells + rm.cells) (slots + rm.slots) Q (F0 m (pc + 3) ls (rest))) : W p l e R s m args below meth c H locs cells slots Q (F0 m pc ls st0) := by
  obtain ⟨hx, hb, hml, hown, hts, -, -, hK⟩ := C0
  subst hst
  subst hqc
  have hPc := va_Psub hP isC hC
  have hDc := hD.sub isC hnC hC
  have hFc := va_free (wc := win) hD hS hA isC hC
  refine va_callv (va_runV (As := As) (rest := rest) ⟨hx, hb, hml, hown, hts⟩ (hM H.size) cw ⟨fun a U g mk q => by obtain ⟨q0, q1, qP, qK, qD⟩ := q; exact ⟨q0, q1, qP, qK.calling, qD⟩, va_recv hK.1 hPc hcl he, fun U hU hW => ⟨rfl, by rw [hU], by rw [hU]; exact hPc, hK.warm hW, hDc.weaken (fun _ _ _ _ => trivial)⟩⟩ rfl hn hsize rfl (lv_room hW) hdg hf) hS (fun q _ h => hFc q h) hFc (fun u t H1 locs1 ht hvm hw hB hz1 hk1 hS1 => ?_)
  obtain ⟨hP1, hD1⟩ := hB
  rw [ht] at hP1
  obtain ⟨hP2, hD2⟩ := va_join (wr := wr) (w1 := wout u) hP hD isC isR hC hR hnR hdis hk1 hFc hP1 hD1
  exact kk u H1 locs1 hw hP2 hD2 hS1
theorem callV_i {post : Int32 → S → Prop} (C0 : cx dC dI cI cB cJ own cc nL ret p s m args meth c) (hM : Ci l dC dI cI cB cJ y ws rm (.ref b :: As) win post wout) (cw : CallW R s args own C index y bytes maxL ret1 ws rm rm.cells rm.slots n) (ci : Nat) {qc : vw_C} {fs : List Value} (hcl : vwCl[ci]? = some qc) (hqc : qc.1 = C) (q0 : Nat) (he : win[q0]? = some (b, .inr (ci, fs))) (hP : va_P (dC, dI) vwCl w0 H) (hD : va_D A w0) (hS : va_S A s.heap H locs) (hA : ∀ q : Nat, s.heap.size ≤ q → A q) (isC isR : List Nat) (hC : isC.map (fun i => w0[i]?) = win.map some) (hR : isR.map (fun i => w0[i]?) = wr.map some) (hnC : va_nd isC = true) (hnR : va_nd isR = true) (hdis : ∀ i ∈ isR, i ∉ isC)
    (hn : As.length = n) (hsize : ls.size = nL) (hst : st0 = As.reverse ++ .ref b :: rest) (hW : (rest.map fun v => v.category).sum ≤ 8) (hdg : decode cc pc = .ok (.invokevirtual index, 3)) (hf : cells + rm.cells ≤ R.cells ∧ slots + rm.slots ≤ R.slots)
    (kk : ∀ (r : Int32) (u : S) (H1 : Heap) (locs1 : List Loc), post r u → va_P (dC, dI) vwCl (wr ++ wout u) H1 → va_D A (wr ++ wout u) → va_S A s.heap H1 locs1 → W p l e R s m args below meth c H1 locs1 (cells + rm.cells) (slots + rm.slots) Q (F0 m (pc + 3) ls (.int r :: rest))) : W p l e R s m args below meth c H locs cells slots Q (F0 m pc ls st0) := by
  obtain ⟨hx, hb, hml, hown, hts, -, -, hK⟩ := C0
  subst hst
  subst hqc
  have hPc := va_Psub hP isC hC
  have hDc := hD.sub isC hnC hC
  have hFc := va_free (wc := win) hD hS hA isC hC
  refine va_calli (va_runV (As := As) (rest := rest) ⟨hx, hb, hml, hown, hts⟩ (hM H.size) cw ⟨fun a U g mk q => by obtain ⟨q0, q1, qP, qK, qD⟩ := q; exact ⟨q0, q1, qP, qK.calling, qD⟩, va_recv hK.1 hPc hcl he, fun U hU hW => ⟨rfl, by rw [hU], by rw [hU]; exact hPc, hK.warm hW, hDc.weaken (fun _ _ _ _ => trivial)⟩⟩ rfl hn hsize rfl (lv_room hW) hdg hf) hS (fun q _ h => hFc q h) hFc (fun r u t H1 locs1 ht hvm hw hB hz1 hk1 hS1 => ?_)
  obtain ⟨hP1, hD1⟩ := hB
  rw [ht] at hP1
  obtain ⟨hP2, hD2⟩ := va_join (wr := wr) (w1 := wout u) hP hD isC isR hC hR hnR hdis hk1 hFc hP1 hD1
  exact kk r u H1 locs1 hw hP2 hD2 hS1
theorem callV_l {post : Int64 → S → Prop} (C0 : cx dC dI cI cB cJ own cc nL ret p s m args meth c) (hM : Cl l dC dI cI cB cJ y ws rm (.ref b :: As) win post wout) (cw : CallW R s args own C index y bytes maxL ret1 ws rm rm.cells rm.slots n) (ci : Nat) {qc : vw_C} {fs : List Value} (hcl : vwCl[ci]? = some qc) (hqc : qc.1 = C) (q0 : Nat) (he : win[q0]? = some (b, .inr (ci, fs))) (hP : va_P (dC, dI) vwCl w0 H) (hD : va_D A w0) (hS : va_S A s.heap H locs) (hA : ∀ q : Nat, s.heap.size ≤ q → A q) (isC isR : List Nat) (hC : isC.map (fun i => w0[i]?) = win.map some) (hR : isR.map (fun i => w0[i]?) = wr.map some) (hnC : va_nd isC = true) (hnR : va_nd isR = true) (hdis : ∀ i ∈ isR, i ∉ isC)
    (hn : As.length = n) (hsize : ls.size = nL) (hst : st0 = As.reverse ++ .ref b :: rest) (hW : (rest.map fun v => v.category).sum ≤ 8) (hdg : decode cc pc = .ok (.invokevirtual index, 3)) (hf : cells + rm.cells ≤ R.cells ∧ slots + rm.slots ≤ R.slots)
    (kk : ∀ (r : Int64) (u : S) (H1 : Heap) (locs1 : List Loc), post r u → va_P (dC, dI) vwCl (wr ++ wout u) H1 → va_D A (wr ++ wout u) → va_S A s.heap H1 locs1 → W p l e R s m args below meth c H1 locs1 (cells + rm.cells) (slots + rm.slots) Q (F0 m (pc + 3) ls (.long r :: rest))) : W p l e R s m args below meth c H locs cells slots Q (F0 m pc ls st0) := by
  obtain ⟨hx, hb, hml, hown, hts, -, -, hK⟩ := C0
  subst hst
  subst hqc
  have hPc := va_Psub hP isC hC
  have hDc := hD.sub isC hnC hC
  have hFc := va_free (wc := win) hD hS hA isC hC
  refine va_calll (va_runV (As := As) (rest := rest) ⟨hx, hb, hml, hown, hts⟩ (hM H.size) cw ⟨fun a U g mk q => by obtain ⟨q0, q1, qP, qK, qD⟩ := q; exact ⟨q0, q1, qP, qK.calling, qD⟩, va_recv hK.1 hPc hcl he, fun U hU hW => ⟨rfl, by rw [hU], by rw [hU]; exact hPc, hK.warm hW, hDc.weaken (fun _ _ _ _ => trivial)⟩⟩ rfl hn hsize rfl (lv_room hW) hdg hf) hS (fun q _ h => hFc q h) hFc (fun r u t H1 locs1 ht hvm hw hB hz1 hk1 hS1 => ?_)
  obtain ⟨hP1, hD1⟩ := hB
  rw [ht] at hP1
  obtain ⟨hP2, hD2⟩ := va_join (wr := wr) (w1 := wout u) hP hD isC isR hC hR hnR hdis hk1 hFc hP1 hD1
  exact kk r u H1 locs1 hw hP2 hD2 hS1
theorem callN_v {post : S → Prop} (C0 : cx dC dI cI cB cJ own cc nL ret p s m args meth c) (hM : Cv l dC dI cI cB cJ y ws rm (.ref b :: As) win post wout) (cw : va_CN R s args own index y host bytes maxL ret1 ws rm rm.cells rm.slots n ∧ (Cond.instanceMethod y).before args s = true ∧ (Cond.selects C y y).before args s = true) (ci : Nat) {qc : vw_C} {fs : List Value} (hcl : vwCl[ci]? = some qc) (hqc : qc.1 = C) (q0 : Nat) (he : win[q0]? = some (b, .inr (ci, fs))) (hP : va_P (dC, dI) vwCl w0 H) (hD : va_D A w0) (hS : va_S A s.heap H locs) (hA : ∀ q : Nat, s.heap.size ≤ q → A q) (isC isR : List Nat) (hC : isC.map (fun i => w0[i]?) = win.map some) (hR : isR.map (fun i => w0[i]?) = wr.map some) (hnC : va_nd isC = true) (hnR : va_nd isR = true) (hdis : ∀ i ∈ isR, i ∉ isC)
    (hn : As.length = n) (hsize : ls.size = nL) (hst : st0 = As.reverse ++ .ref b :: rest) (hW : (rest.map fun v => v.category).sum ≤ 8) (hdg : decode cc pc = .ok (.invokevirtual index, 3)) (hf : cells + rm.cells ≤ R.cells ∧ slots + rm.slots ≤ R.slots)
    (kk : ∀ (u : S) (H1 : Heap) (locs1 : List Loc), post u → va_P (dC, dI) vwCl (wr ++ wout u) H1 → va_D A (wr ++ wout u) → va_S A s.heap H1 locs1 → W p l e R s m args below meth c H1 locs1 (cells + rm.cells) (slots + rm.slots) Q (F0 m (pc + 3) ls (rest))) : W p l e R s m args below meth c H locs cells slots Q (F0 m pc ls st0) := by
  obtain ⟨hx, hb, hml, hown, hts, -, -, hK⟩ := C0
  subst hst
  subst hqc
  have hPc := va_Psub hP isC hC
  have hDc := hD.sub isC hnC hC
  have hFc := va_free (wc := win) hD hS hA isC hC
  refine va_callv (va_runVN (As := As) (rest := rest) ⟨hx, hb, hml, hown, hts⟩ (hM H.size) cw ⟨fun a U g mk q => by obtain ⟨q0, q1, qP, qK, qD⟩ := q; exact ⟨q0, q1, qP, qK.calling, qD⟩, va_recv hK.1 hPc hcl he, fun U hU hW => ⟨rfl, by rw [hU], by rw [hU]; exact hPc, hK.warm hW, hDc.weaken (fun _ _ _ _ => trivial)⟩⟩ rfl hn hsize rfl (lv_room hW) hdg hf) hS (fun q _ h => hFc q h) hFc (fun u t H1 locs1 ht hvm hw hB hz1 hk1 hS1 => ?_)
  obtain ⟨hP1, hD1⟩ := hB
  rw [ht] at hP1
  obtain ⟨hP2, hD2⟩ := va_join (wr := wr) (w1 := wout u) hP hD isC isR hC hR hnR hdis hk1 hFc hP1 hD1
  exact kk u H1 locs1 hw hP2 hD2 hS1
theorem callN_i {post : Int32 → S → Prop} (C0 : cx dC dI cI cB cJ own cc nL ret p s m args meth c) (hM : Ci l dC dI cI cB cJ y ws rm (.ref b :: As) win post wout) (cw : va_CN R s args own index y host bytes maxL ret1 ws rm rm.cells rm.slots n ∧ (Cond.instanceMethod y).before args s = true ∧ (Cond.selects C y y).before args s = true) (ci : Nat) {qc : vw_C} {fs : List Value} (hcl : vwCl[ci]? = some qc) (hqc : qc.1 = C) (q0 : Nat) (he : win[q0]? = some (b, .inr (ci, fs))) (hP : va_P (dC, dI) vwCl w0 H) (hD : va_D A w0) (hS : va_S A s.heap H locs) (hA : ∀ q : Nat, s.heap.size ≤ q → A q) (isC isR : List Nat) (hC : isC.map (fun i => w0[i]?) = win.map some) (hR : isR.map (fun i => w0[i]?) = wr.map some) (hnC : va_nd isC = true) (hnR : va_nd isR = true) (hdis : ∀ i ∈ isR, i ∉ isC)
    (hn : As.length = n) (hsize : ls.size = nL) (hst : st0 = As.reverse ++ .ref b :: rest) (hW : (rest.map fun v => v.category).sum ≤ 8) (hdg : decode cc pc = .ok (.invokevirtual index, 3)) (hf : cells + rm.cells ≤ R.cells ∧ slots + rm.slots ≤ R.slots)
    (kk : ∀ (r : Int32) (u : S) (H1 : Heap) (locs1 : List Loc), post r u → va_P (dC, dI) vwCl (wr ++ wout u) H1 → va_D A (wr ++ wout u) → va_S A s.heap H1 locs1 → W p l e R s m args below meth c H1 locs1 (cells + rm.cells) (slots + rm.slots) Q (F0 m (pc + 3) ls (.int r :: rest))) : W p l e R s m args below meth c H locs cells slots Q (F0 m pc ls st0) := by
  obtain ⟨hx, hb, hml, hown, hts, -, -, hK⟩ := C0
  subst hst
  subst hqc
  have hPc := va_Psub hP isC hC
  have hDc := hD.sub isC hnC hC
  have hFc := va_free (wc := win) hD hS hA isC hC
  refine va_calli (va_runVN (As := As) (rest := rest) ⟨hx, hb, hml, hown, hts⟩ (hM H.size) cw ⟨fun a U g mk q => by obtain ⟨q0, q1, qP, qK, qD⟩ := q; exact ⟨q0, q1, qP, qK.calling, qD⟩, va_recv hK.1 hPc hcl he, fun U hU hW => ⟨rfl, by rw [hU], by rw [hU]; exact hPc, hK.warm hW, hDc.weaken (fun _ _ _ _ => trivial)⟩⟩ rfl hn hsize rfl (lv_room hW) hdg hf) hS (fun q _ h => hFc q h) hFc (fun r u t H1 locs1 ht hvm hw hB hz1 hk1 hS1 => ?_)
  obtain ⟨hP1, hD1⟩ := hB
  rw [ht] at hP1
  obtain ⟨hP2, hD2⟩ := va_join (wr := wr) (w1 := wout u) hP hD isC isR hC hR hnR hdis hk1 hFc hP1 hD1
  exact kk r u H1 locs1 hw hP2 hD2 hS1
theorem callN_l {post : Int64 → S → Prop} (C0 : cx dC dI cI cB cJ own cc nL ret p s m args meth c) (hM : Cl l dC dI cI cB cJ y ws rm (.ref b :: As) win post wout) (cw : va_CN R s args own index y host bytes maxL ret1 ws rm rm.cells rm.slots n ∧ (Cond.instanceMethod y).before args s = true ∧ (Cond.selects C y y).before args s = true) (ci : Nat) {qc : vw_C} {fs : List Value} (hcl : vwCl[ci]? = some qc) (hqc : qc.1 = C) (q0 : Nat) (he : win[q0]? = some (b, .inr (ci, fs))) (hP : va_P (dC, dI) vwCl w0 H) (hD : va_D A w0) (hS : va_S A s.heap H locs) (hA : ∀ q : Nat, s.heap.size ≤ q → A q) (isC isR : List Nat) (hC : isC.map (fun i => w0[i]?) = win.map some) (hR : isR.map (fun i => w0[i]?) = wr.map some) (hnC : va_nd isC = true) (hnR : va_nd isR = true) (hdis : ∀ i ∈ isR, i ∉ isC)
    (hn : As.length = n) (hsize : ls.size = nL) (hst : st0 = As.reverse ++ .ref b :: rest) (hW : (rest.map fun v => v.category).sum ≤ 8) (hdg : decode cc pc = .ok (.invokevirtual index, 3)) (hf : cells + rm.cells ≤ R.cells ∧ slots + rm.slots ≤ R.slots)
    (kk : ∀ (r : Int64) (u : S) (H1 : Heap) (locs1 : List Loc), post r u → va_P (dC, dI) vwCl (wr ++ wout u) H1 → va_D A (wr ++ wout u) → va_S A s.heap H1 locs1 → W p l e R s m args below meth c H1 locs1 (cells + rm.cells) (slots + rm.slots) Q (F0 m (pc + 3) ls (.long r :: rest))) : W p l e R s m args below meth c H locs cells slots Q (F0 m pc ls st0) := by
  obtain ⟨hx, hb, hml, hown, hts, -, -, hK⟩ := C0
  subst hst
  subst hqc
  have hPc := va_Psub hP isC hC
  have hDc := hD.sub isC hnC hC
  have hFc := va_free (wc := win) hD hS hA isC hC
  refine va_calll (va_runVN (As := As) (rest := rest) ⟨hx, hb, hml, hown, hts⟩ (hM H.size) cw ⟨fun a U g mk q => by obtain ⟨q0, q1, qP, qK, qD⟩ := q; exact ⟨q0, q1, qP, qK.calling, qD⟩, va_recv hK.1 hPc hcl he, fun U hU hW => ⟨rfl, by rw [hU], by rw [hU]; exact hPc, hK.warm hW, hDc.weaken (fun _ _ _ _ => trivial)⟩⟩ rfl hn hsize rfl (lv_room hW) hdg hf) hS (fun q _ h => hFc q h) hFc (fun r u t H1 locs1 ht hvm hw hB hz1 hk1 hS1 => ?_)
  obtain ⟨hP1, hD1⟩ := hB
  rw [ht] at hP1
  obtain ⟨hP2, hD2⟩ := va_join (wr := wr) (w1 := wout u) hP hD isC isR hC hR hnR hdis hk1 hFc hP1 hD1
  exact kk r u H1 locs1 hw hP2 hD2 hS1
theorem callS_v {post : S → Prop} (C0 : cx dC dI cI cB cJ own cc nL ret p s m args meth c) (hM : Cv l dC dI cI cB cJ y ws rm As win post wout) (cw : CallB R s args own index y bytes maxL ret1 ws rm rm.cells rm.slots n ∧ (Cond.static y).before args s = true) (hP : va_P (dC, dI) vwCl w0 H) (hD : va_D A w0) (hS : va_S A s.heap H locs) (hA : ∀ q : Nat, s.heap.size ≤ q → A q) (isC isR : List Nat) (hC : isC.map (fun i => w0[i]?) = win.map some) (hR : isR.map (fun i => w0[i]?) = wr.map some) (hnC : va_nd isC = true) (hnR : va_nd isR = true) (hdis : ∀ i ∈ isR, i ∉ isC)
    (hn : As.length = n) (hsize : ls.size = nL) (hst : st0 = As.reverse ++ rest) (hW : (rest.map fun v => v.category).sum ≤ 8) (hdg : decode cc pc = .ok (.invokestatic index, 3)) (hf : cells + rm.cells ≤ R.cells ∧ slots + rm.slots ≤ R.slots)
    (kk : ∀ (u : S) (H1 : Heap) (locs1 : List Loc), post u → va_P (dC, dI) vwCl (wr ++ wout u) H1 → va_D A (wr ++ wout u) → va_S A s.heap H1 locs1 → W p l e R s m args below meth c H1 locs1 (cells + rm.cells) (slots + rm.slots) Q (F0 m (pc + 3) ls (rest))) : W p l e R s m args below meth c H locs cells slots Q (F0 m pc ls st0) := by
  obtain ⟨hx, hb, hml, hown, hts, -, -, hK⟩ := C0
  subst hst
  have hPc := va_Psub hP isC hC
  have hDc := hD.sub isC hnC hC
  have hFc := va_free (wc := win) hD hS hA isC hC
  refine va_callv (va_runS (As := As) (rest := rest) ⟨hx, hb, hml, hown, hts⟩ (hM H.size) cw ⟨fun a U g mk q => by obtain ⟨q0, q1, qP, qK, qD⟩ := q; exact ⟨q0, q1, qP, qK.calling, qD⟩, fun U hU hW => ⟨rfl, by rw [hU], by rw [hU]; exact hPc, hK.warm hW, hDc.weaken (fun _ _ _ _ => trivial)⟩⟩ rfl hn hsize rfl (lv_room hW) hdg hf) hS (fun q _ h => hFc q h) hFc (fun u t H1 locs1 ht hvm hw hB hz1 hk1 hS1 => ?_)
  obtain ⟨hP1, hD1⟩ := hB
  rw [ht] at hP1
  obtain ⟨hP2, hD2⟩ := va_join (wr := wr) (w1 := wout u) hP hD isC isR hC hR hnR hdis hk1 hFc hP1 hD1
  exact kk u H1 locs1 hw hP2 hD2 hS1
theorem callS_i {post : Int32 → S → Prop} (C0 : cx dC dI cI cB cJ own cc nL ret p s m args meth c) (hM : Ci l dC dI cI cB cJ y ws rm As win post wout) (cw : CallB R s args own index y bytes maxL ret1 ws rm rm.cells rm.slots n ∧ (Cond.static y).before args s = true) (hP : va_P (dC, dI) vwCl w0 H) (hD : va_D A w0) (hS : va_S A s.heap H locs) (hA : ∀ q : Nat, s.heap.size ≤ q → A q) (isC isR : List Nat) (hC : isC.map (fun i => w0[i]?) = win.map some) (hR : isR.map (fun i => w0[i]?) = wr.map some) (hnC : va_nd isC = true) (hnR : va_nd isR = true) (hdis : ∀ i ∈ isR, i ∉ isC)
    (hn : As.length = n) (hsize : ls.size = nL) (hst : st0 = As.reverse ++ rest) (hW : (rest.map fun v => v.category).sum ≤ 8) (hdg : decode cc pc = .ok (.invokestatic index, 3)) (hf : cells + rm.cells ≤ R.cells ∧ slots + rm.slots ≤ R.slots)
    (kk : ∀ (r : Int32) (u : S) (H1 : Heap) (locs1 : List Loc), post r u → va_P (dC, dI) vwCl (wr ++ wout u) H1 → va_D A (wr ++ wout u) → va_S A s.heap H1 locs1 → W p l e R s m args below meth c H1 locs1 (cells + rm.cells) (slots + rm.slots) Q (F0 m (pc + 3) ls (.int r :: rest))) : W p l e R s m args below meth c H locs cells slots Q (F0 m pc ls st0) := by
  obtain ⟨hx, hb, hml, hown, hts, -, -, hK⟩ := C0
  subst hst
  have hPc := va_Psub hP isC hC
  have hDc := hD.sub isC hnC hC
  have hFc := va_free (wc := win) hD hS hA isC hC
  refine va_calli (va_runS (As := As) (rest := rest) ⟨hx, hb, hml, hown, hts⟩ (hM H.size) cw ⟨fun a U g mk q => by obtain ⟨q0, q1, qP, qK, qD⟩ := q; exact ⟨q0, q1, qP, qK.calling, qD⟩, fun U hU hW => ⟨rfl, by rw [hU], by rw [hU]; exact hPc, hK.warm hW, hDc.weaken (fun _ _ _ _ => trivial)⟩⟩ rfl hn hsize rfl (lv_room hW) hdg hf) hS (fun q _ h => hFc q h) hFc (fun r u t H1 locs1 ht hvm hw hB hz1 hk1 hS1 => ?_)
  obtain ⟨hP1, hD1⟩ := hB
  rw [ht] at hP1
  obtain ⟨hP2, hD2⟩ := va_join (wr := wr) (w1 := wout u) hP hD isC isR hC hR hnR hdis hk1 hFc hP1 hD1
  exact kk r u H1 locs1 hw hP2 hD2 hS1
theorem callS_l {post : Int64 → S → Prop} (C0 : cx dC dI cI cB cJ own cc nL ret p s m args meth c) (hM : Cl l dC dI cI cB cJ y ws rm As win post wout) (cw : CallB R s args own index y bytes maxL ret1 ws rm rm.cells rm.slots n ∧ (Cond.static y).before args s = true) (hP : va_P (dC, dI) vwCl w0 H) (hD : va_D A w0) (hS : va_S A s.heap H locs) (hA : ∀ q : Nat, s.heap.size ≤ q → A q) (isC isR : List Nat) (hC : isC.map (fun i => w0[i]?) = win.map some) (hR : isR.map (fun i => w0[i]?) = wr.map some) (hnC : va_nd isC = true) (hnR : va_nd isR = true) (hdis : ∀ i ∈ isR, i ∉ isC)
    (hn : As.length = n) (hsize : ls.size = nL) (hst : st0 = As.reverse ++ rest) (hW : (rest.map fun v => v.category).sum ≤ 8) (hdg : decode cc pc = .ok (.invokestatic index, 3)) (hf : cells + rm.cells ≤ R.cells ∧ slots + rm.slots ≤ R.slots)
    (kk : ∀ (r : Int64) (u : S) (H1 : Heap) (locs1 : List Loc), post r u → va_P (dC, dI) vwCl (wr ++ wout u) H1 → va_D A (wr ++ wout u) → va_S A s.heap H1 locs1 → W p l e R s m args below meth c H1 locs1 (cells + rm.cells) (slots + rm.slots) Q (F0 m (pc + 3) ls (.long r :: rest))) : W p l e R s m args below meth c H locs cells slots Q (F0 m pc ls st0) := by
  obtain ⟨hx, hb, hml, hown, hts, -, -, hK⟩ := C0
  subst hst
  have hPc := va_Psub hP isC hC
  have hDc := hD.sub isC hnC hC
  have hFc := va_free (wc := win) hD hS hA isC hC
  refine va_calll (va_runS (As := As) (rest := rest) ⟨hx, hb, hml, hown, hts⟩ (hM H.size) cw ⟨fun a U g mk q => by obtain ⟨q0, q1, qP, qK, qD⟩ := q; exact ⟨q0, q1, qP, qK.calling, qD⟩, fun U hU hW => ⟨rfl, by rw [hU], by rw [hU]; exact hPc, hK.warm hW, hDc.weaken (fun _ _ _ _ => trivial)⟩⟩ rfl hn hsize rfl (lv_room hW) hdg hf) hS (fun q _ h => hFc q h) hFc (fun r u t H1 locs1 ht hvm hw hB hz1 hk1 hS1 => ?_)
  obtain ⟨hP1, hD1⟩ := hB
  rw [ht] at hP1
  obtain ⟨hP2, hD2⟩ := va_join (wr := wr) (w1 := wout u) hP hD isC isR hC hR hnR hdis hk1 hFc hP1 hD1
  exact kk r u H1 locs1 hw hP2 hD2 hS1
theorem callI_v {post : S → Prop} (C0 : cx dC dI cI cB cJ own cc nL ret p s m args meth c) (hM : Cv l dC dI cI cB cJ y ws rm (.ref b :: As) win post wout) (cw : CallB R s args own index y bytes maxL none ws rm rm.cells rm.slots n ∧ y.name = "<init>" ∧ (Cond.instanceMethod y).before args s = true) (hP : va_P (dC, dI) vwCl w0 H) (hD : va_D A w0) (hS : va_S A s.heap H locs) (hA : ∀ q : Nat, s.heap.size ≤ q → A q) (isC isR : List Nat) (hC : isC.map (fun i => w0[i]?) = win.map some) (hR : isR.map (fun i => w0[i]?) = wr.map some) (hnC : va_nd isC = true) (hnR : va_nd isR = true) (hdis : ∀ i ∈ isR, i ∉ isC)
    (hn : As.length = n) (hsize : ls.size = nL) (hst : st0 = As.reverse ++ .ref b :: rest) (hW : (rest.map fun v => v.category).sum ≤ 8) (hdg : decode cc pc = .ok (.invokespecial index, 3)) (hf : cells + rm.cells ≤ R.cells ∧ slots + rm.slots ≤ R.slots)
    (kk : ∀ (u : S) (H1 : Heap) (locs1 : List Loc), post u → va_P (dC, dI) vwCl (wr ++ wout u) H1 → va_D A (wr ++ wout u) → va_S A s.heap H1 locs1 → W p l e R s m args below meth c H1 locs1 (cells + rm.cells) (slots + rm.slots) Q (F0 m (pc + 3) ls (rest))) : W p l e R s m args below meth c H locs cells slots Q (F0 m pc ls st0) := by
  obtain ⟨hx, hb, hml, hown, hts, -, -, hK⟩ := C0
  subst hst
  have hPc := va_Psub hP isC hC
  have hDc := hD.sub isC hnC hC
  have hFc := va_free (wc := win) hD hS hA isC hC
  refine va_callv (va_runI (As := As) (rest := rest) ⟨hx, hb, hml, hown, hts⟩ (hM H.size) cw ⟨fun a U g mk q => by obtain ⟨q0, q1, qP, qK, qD⟩ := q; exact ⟨q0, q1, qP, qK.calling, qD⟩, fun U hU hW => ⟨rfl, by rw [hU], by rw [hU]; exact hPc, hK.warm hW, hDc.weaken (fun _ _ _ _ => trivial)⟩⟩ rfl hn hsize rfl (lv_room hW) hdg hf) hS (fun q _ h => hFc q h) hFc (fun u t H1 locs1 ht hvm hw hB hz1 hk1 hS1 => ?_)
  obtain ⟨hP1, hD1⟩ := hB
  rw [ht] at hP1
  obtain ⟨hP2, hD2⟩ := va_join (wr := wr) (w1 := wout u) hP hD isC isR hC hR hnR hdis hk1 hFc hP1 hD1
  exact kk u H1 locs1 hw hP2 hD2 hS1
end CA
end RU
end
section
set_option maxHeartbeats 4000000 in
set_option maxRecDepth 100000 in
theorem c_Natural_limbAt (l : Launch) (dC : Nat → ClassId) (dI : Nat → Nat → Nat) (cI cB cJ : ClassId) (h0 : Nat) (a0 : Nat) (f : Nat → Int32) (x : Int32)  : Cl l dC dI cI cB cJ y_Natural_limbAt w_Natural_limbAt ({ frames := 0, cells := 0, slots := 0, locals := 0 } : Room) [.ref h0, .int x] [(h0, .inr (1, [.ref a0])), (a0, .inl (cI, 12, .inl f))] (fun (r : Int64) (u : Unit) => ul r = lz f x.toInt) (fun u : Unit => [(h0, .inr (1, [.ref a0])), (a0, .inl (cI, 12, .inl f))]) := by
  refine Cl.intro (cc := b_Natural_limbAt) (maxL := 2) (by decide) rfl (Nat.le_of_ble_eq_true rfl) ?_
  intro p e s m below meth c A ls C0 hin hA hP hD hS hl
  obtain ⟨hx, hb, hml, hown, hts, hr, hlocks, hK, hN⟩ := id C0
  obtain ⟨H, hH⟩ : ∃ H, H = s.heap := ⟨_, rfl⟩
  have hP : va_P (dC, dI) vwCl [(h0, .inr (1, [.ref a0])), (a0, .inl (cI, 12, .inl f))] s.heap := hP
  have hl : lv_has ls 2 [(0, .ref h0), (1, .int x)] := hl
  suffices h : ∀ (H : Heap) (locs : List Loc), va_P (dC, dI) vwCl [(h0, .inr (1, [.ref a0])), (a0, .inl (cI, 12, .inl f))] H → va_D A [(h0, .inr (1, [.ref a0])), (a0, .inl (cI, 12, .inl f))] → va_S A s.heap H locs → W p l e ({ frames := 0, cells := 0, slots := 0, locals := 0 } : Room) s m ([.ref h0, .int x] : List Value).toArray below meth c H locs 0 0 (MQ below (va_Ql (fun (r : Int64) (u : Unit) => ul r = lz f x.toInt) (poG dC dI A (fun u : Unit => [(h0, .inr (1, [.ref a0])), (a0, .inl (cI, 12, .inl f))])) A) ([.ref h0, .int x] : List Value).toArray s 0 0 A) (F0 m 0 ls []) from h _ _ hP hD hS
  clear hP hD hS hH H
  intro H locs hP hD hS
  refine lv_iload_n hx hb d_Natural_limbAt_0 rfl (lv_at hl 1 rfl) ?_
  refine lv_if_lt (tgt := 24) hx hb d_Natural_limbAt_1 (by decide) (fun b1 => ?_) (fun b1 => ?_)
  · skip
    rw [q_ilt (rfl : x.toInt = x.toInt) (show (0 : Int32).toInt = 0 by decide)] at b1
    refine lv_lconst (v := 0) hx hb d_Natural_limbAt_24 (by decide) ?_
    exact Cl.ret C0 (v := 0) (u := ()) (Nat.le_of_ble_eq_true rfl) (Nat.le_of_ble_eq_true rfl) (by show ul 0 = lz f x.toInt; rw [lz, if_neg (by omega)]; rfl) hP hD hS [0, 1] (by decide) rfl d_Natural_limbAt_25
  · skip
    rw [q_ilt (rfl : x.toInt = x.toInt) (show (0 : Int32).toInt = 0 by decide)] at b1
    refine lv_iload_n hx hb d_Natural_limbAt_4 rfl (lv_at hl 1 rfl) ?_
    refine lv_bipush (v := 12) hx hb d_Natural_limbAt_5 (by decide) ?_
    refine lv_icmp_ge (tgt := 24) hx hb d_Natural_limbAt_7 (by decide) (fun b7 => ?_) (fun b7 => ?_)
    · skip
      rw [q_ile (show (12 : Int32).toInt = 12 by decide) (rfl : x.toInt = x.toInt)] at b7
      refine lv_lconst (v := 0) hx hb d_Natural_limbAt_24 (by decide) ?_
      exact Cl.ret C0 (v := 0) (u := ()) (Nat.le_of_ble_eq_true rfl) (Nat.le_of_ble_eq_true rfl) (by show ul 0 = lz f x.toInt; rw [lz, if_neg (by omega)]; rfl) hP hD hS [0, 1] (by decide) rfl d_Natural_limbAt_25
    · skip
      rw [q_ile (show (12 : Int32).toInt = 12 by decide) (rfl : x.toInt = x.toInt)] at b7
      refine lv_aload_n hx hb d_Natural_limbAt_10 rfl (lv_at hl 0 rfl) ?_
      refine va_get (D := (dC, dI)) (ci := 1) (v := .ref a0) (C := R_Natural) (T := F_Natural) (N := 1) hx hb hts u_Natural hown hK hP 0 rfl rfl 0 (by decide) (hts _ m_105) (fun _ h9 => h9) rfl d_Natural_limbAt_11 ?_
      refine lv_iload_n hx hb d_Natural_limbAt_14 rfl (lv_at hl 1 rfl) ?_
      refine va_iald hx hb hK hP 1 0 rfl rfl (q_in (rfl : x.toInt = x.toInt) (by omega)) d_Natural_limbAt_15 ?_
      refine lv_topi (fun v15 e15 => ?_)
      rw [q_cl (k := x.toInt.toNat) ((Int.toNat_of_nonneg (by omega)).symm)] at e15
      refine lv_i2l hx hb d_Natural_limbAt_16 rfl ?_
      refine lv_topl (fun v16 e16 => ?_)
      refine lv_ldc2 (v := 4294967295) hx hb hown (hts _ m_273) d_Natural_limbAt_17 ?_
      refine lv_land hx hb d_Natural_limbAt_20 ?_
      refine lv_topl (fun v20 e20 => ?_)
      refine lv_goto (tgt := 25) hx hb d_Natural_limbAt_21 (by decide) ?_
      exact Cl.ret C0 (v := v20) (u := ()) (Nat.le_of_ble_eq_true rfl) (Nat.le_of_ble_eq_true rfl) (by show ul v20 = lz f x.toInt; rw [lz, if_pos (by omega), e20, e16, ul_i2l_lo, e15]) hP hD hS [0, 1] (by decide) rfl d_Natural_limbAt_25
set_option maxHeartbeats 4000000 in
set_option maxRecDepth 100000 in
theorem L_Natural_isZero_2 {p : Program} {l : Launch} {e : Env} {s : State} {m : MethodId} {below : List Frame} {meth : Method} {c : Code} {dC : Nat → ClassId} {dI : Nat → Nat → Nat} {cI cB cJ : ClassId} {A : Nat → Prop} (h0 : Nat) (a0 : Nat) (f : Nat → Int32) (C0 : cx dC dI cI cB cJ R_Natural b_Natural_isZero 2 (some .boolean) p s m ([.ref h0] : List Value).toArray meth c) (hA : ∀ q : Nat, s.heap.size ≤ q → A q)  : ∀ n : Nat, (∀ (x1 : Int32) (i : Nat) (H : Heap) (locs : List Loc) (ls : Array Slot), 12 - i < n → x1.toInt = (i : Int) → (i ≤ 12) → (∀ j, j < i → f j = 0) → va_P (dC, dI) vwCl [(h0, .inr (1, [.ref a0])), (a0, .inl (cI, 12, .inl f))] H → va_D A [(h0, .inr (1, [.ref a0])), (a0, .inl (cI, 12, .inl f))] → va_S A s.heap H locs → lv_has ls 2 [(1, .int x1), (0, .ref h0)] → W p l e ({ frames := 0, cells := 0, slots := 0, locals := 0 } : Room) s m ([.ref h0] : List Value).toArray below meth c H locs 0 0 (MQ below (va_Qi (fun (r : Int32) (u : Unit) => r = if nv f 12 = 0 then 1 else 0) (poG dC dI A (fun u : Unit => [(h0, .inr (1, [.ref a0])), (a0, .inl (cI, 12, .inl f))])) A) ([.ref h0] : List Value).toArray s 0 0 A) (F0 m 2 ls [])) := by
  obtain ⟨hx, hb, hml, hown, hts, hr, hlocks, hK, hN⟩ := id C0
  intro n
  induction n with
  | zero => exact fun _ _ _ _ _ h0 _ _ _ _ _ _ _ => absurd h0 (Nat.not_lt_zero _)
  | succ n ih =>
    intro x1 i H locs ls hn t_x1 hi hz hP hD hS hl
    refine lv_iload_n hx hb d_Natural_isZero_2 rfl (lv_at hl 0 rfl) ?_
    refine lv_bipush (v := 12) hx hb d_Natural_isZero_3 (by decide) ?_
    refine lv_icmp_ge (tgt := 25) hx hb d_Natural_isZero_5 (by decide) (fun b5 => ?_) (fun b5 => ?_)
    · skip
      rw [q_ile (show (12 : Int32).toInt = 12 by decide) t_x1] at b5
      refine lv_iconst (v := 1) hx hb d_Natural_isZero_25 (by decide) ?_
      exact Cz.ret C0 (v := 1) (u := ()) (by rfl) (Nat.le_of_ble_eq_true rfl) (Nat.le_of_ble_eq_true rfl) (by show (1 : Int32) = if nv f 12 = 0 then 1 else 0; rw [if_pos (nv_zero (fun j hj => hz j (by omega)))]) hP hD hS [0, 1] (by decide) rfl d_Natural_isZero_26
    · skip
      rw [q_ile (show (12 : Int32).toInt = 12 by decide) t_x1] at b5
      refine lv_aload_n hx hb d_Natural_isZero_8 rfl (lv_at hl 1 rfl) ?_
      refine va_get (D := (dC, dI)) (ci := 1) (v := .ref a0) (C := R_Natural) (T := F_Natural) (N := 1) hx hb hts u_Natural hown hK hP 0 rfl rfl 0 (by decide) (hts _ m_105) (fun _ h9 => h9) rfl d_Natural_isZero_9 ?_
      refine lv_iload_n hx hb d_Natural_isZero_12 rfl (lv_at hl 0 rfl) ?_
      refine va_iald hx hb hK hP 1 0 rfl rfl (q_in t_x1 (by omega)) d_Natural_isZero_13 ?_
      refine lv_topi (fun v13 e13 => ?_)
      rw [q_cl (k := i) (t_x1)] at e13
      refine lv_if_eq (tgt := 19) hx hb d_Natural_isZero_14 (by decide) (fun b14 => ?_) (fun b14 => ?_)
      · skip
        obtain ⟨v19, e19⟩ : ∃ y : Int32, y = x1 + 1 := ⟨_, rfl⟩
        have t19 : v19.toInt = (i : Int) + 1 := by rw [e19]; exact q_iadd t_x1 (show (1 : Int32).toInt = 1 by decide) (by omega)
        refine lv_iinc (v := v19) (lv' := [(1, .int v19), (0, .ref h0)]) hx hb d_Natural_isZero_19 hl (k := 0) rfl (by rw [e19]; rfl) (by decide) rfl (fun ls hl => ?_)
        refine lv_goto (tgt := 2) hx hb d_Natural_isZero_22 (by decide) ?_
        exact ih (v19) (i + 1) H locs ls (by omega) ((t19).trans (by omega)) (by omega) (by intro j hj; rcases Nat.lt_or_ge j i with h | h; exact hz j h; rw [show j = i by omega, ← e13]; exact b14) (va_Psub hP [0, 1] rfl) (hD.sub [0, 1] (by decide) rfl) hS (lv_sub hl [0, 1] rfl)
      · skip
        refine lv_iconst (v := 0) hx hb d_Natural_isZero_17 (by decide) ?_
        exact Cz.ret C0 (v := 0) (u := ()) (by rfl) (Nat.le_of_ble_eq_true rfl) (Nat.le_of_ble_eq_true rfl) (by show (0 : Int32) = if nv f 12 = 0 then 1 else 0; rw [if_neg (Nat.ne_of_gt (nv_pos (i := i) (by omega) (by rw [← e13]; exact b14)))]) hP hD hS [0, 1] (by decide) rfl d_Natural_isZero_18
set_option maxHeartbeats 4000000 in
set_option maxRecDepth 100000 in
theorem c_Natural_isZero (l : Launch) (dC : Nat → ClassId) (dI : Nat → Nat → Nat) (cI cB cJ : ClassId) (h0 : Nat) (a0 : Nat) (f : Nat → Int32)  : Ci l dC dI cI cB cJ y_Natural_isZero w_Natural_isZero ({ frames := 0, cells := 0, slots := 0, locals := 0 } : Room) [.ref h0] [(h0, .inr (1, [.ref a0])), (a0, .inl (cI, 12, .inl f))] (fun (r : Int32) (u : Unit) => r = if nv f 12 = 0 then 1 else 0) (fun u : Unit => [(h0, .inr (1, [.ref a0])), (a0, .inl (cI, 12, .inl f))]) := by
  refine Ci.intro (cc := b_Natural_isZero) (maxL := 2) (by decide) rfl (Nat.le_of_ble_eq_true rfl) ?_
  intro p e s m below meth c A ls C0 hin hA hP hD hS hl
  obtain ⟨hx, hb, hml, hown, hts, hr, hlocks, hK, hN⟩ := id C0
  obtain ⟨H, hH⟩ : ∃ H, H = s.heap := ⟨_, rfl⟩
  have hP : va_P (dC, dI) vwCl [(h0, .inr (1, [.ref a0])), (a0, .inl (cI, 12, .inl f))] s.heap := hP
  have hl : lv_has ls 2 [(0, .ref h0)] := hl
  suffices h : ∀ (H : Heap) (locs : List Loc), va_P (dC, dI) vwCl [(h0, .inr (1, [.ref a0])), (a0, .inl (cI, 12, .inl f))] H → va_D A [(h0, .inr (1, [.ref a0])), (a0, .inl (cI, 12, .inl f))] → va_S A s.heap H locs → W p l e ({ frames := 0, cells := 0, slots := 0, locals := 0 } : Room) s m ([.ref h0] : List Value).toArray below meth c H locs 0 0 (MQ below (va_Qi (fun (r : Int32) (u : Unit) => r = if nv f 12 = 0 then 1 else 0) (poG dC dI A (fun u : Unit => [(h0, .inr (1, [.ref a0])), (a0, .inl (cI, 12, .inl f))])) A) ([.ref h0] : List Value).toArray s 0 0 A) (F0 m 0 ls []) from h _ _ hP hD hS
  clear hP hD hS hH H
  intro H locs hP hD hS
  refine lv_iconst (v := 0) hx hb d_Natural_isZero_0 (by decide) ?_
  refine lv_istore_n (lv' := [(1, .int 0), (0, .ref h0)]) hx hb d_Natural_isZero_1 rfl hl (by decide) rfl (fun ls hl => ?_)
  exact L_Natural_isZero_2 (h0) (a0) (f) C0 hA  _ (0) (0) H locs ls (Nat.lt_succ_self _) (((show (0 : Int32).toInt = 0 by decide)).trans (by omega)) (by omega) (by intro j hj; omega) (va_Psub hP [0, 1] rfl) (hD.sub [0, 1] (by decide) rfl) hS (lv_sub hl [0, 1] rfl)
set_option maxHeartbeats 4000000 in
set_option maxRecDepth 100000 in
theorem L_Natural_against_3 {p : Program} {l : Launch} {e : Env} {s : State} {m : MethodId} {below : List Frame} {meth : Method} {c : Code} {dC : Nat → ClassId} {dI : Nat → Nat → Nat} {cI cB cJ : ClassId} {A : Nat → Prop} (h0 : Nat) (a0 : Nat) (f : Nat → Int32) (h1 : Nat) (a1 : Nat) (g : Nat → Int32) (C0 : cx dC dI cI cB cJ R_Natural b_Natural_against 3 (some .int) p s m ([.ref h0, .ref h1] : List Value).toArray meth c) (hA : ∀ q : Nat, s.heap.size ≤ q → A q)  : ∀ n : Nat, (∀ (x2 : Int32) (i : Nat) (H : Heap) (locs : List Loc) (ls : Array Slot), i < n → x2.toInt = (i : Int) - 1 → (i ≤ 12) → (∀ j, i ≤ j → j < 12 → f j = g j) → va_P (dC, dI) vwCl [(h0, .inr (1, [.ref a0])), (a0, .inl (cI, 12, .inl f)), (h1, .inr (1, [.ref a1])), (a1, .inl (cI, 12, .inl g))] H → va_D A [(h0, .inr (1, [.ref a0])), (a0, .inl (cI, 12, .inl f)), (h1, .inr (1, [.ref a1])), (a1, .inl (cI, 12, .inl g))] → va_S A s.heap H locs → lv_has ls 3 [(2, .int x2), (1, .ref h1), (0, .ref h0)] → W p l e ({ frames := 0, cells := 0, slots := 0, locals := 0 } : Room) s m ([.ref h0, .ref h1] : List Value).toArray below meth c H locs 0 0 (MQ below (va_Qi (fun (r : Int32) (u : Unit) => (nv f 12 < nv g 12 ∧ r = -1) ∨ (nv f 12 = nv g 12 ∧ r = 0) ∨ (nv g 12 < nv f 12 ∧ r = 1)) (poG dC dI A (fun u : Unit => [(h0, .inr (1, [.ref a0])), (a0, .inl (cI, 12, .inl f)), (h1, .inr (1, [.ref a1])), (a1, .inl (cI, 12, .inl g))])) A) ([.ref h0, .ref h1] : List Value).toArray s 0 0 A) (F0 m 3 ls [])) := by
  obtain ⟨hx, hb, hml, hown, hts, hr, hlocks, hK, hN⟩ := id C0
  intro n
  induction n with
  | zero => exact fun _ _ _ _ _ h0 _ _ _ _ _ _ _ => absurd h0 (Nat.not_lt_zero _)
  | succ n ih =>
    intro x2 i H locs ls hn t_x2 hi hs hP hD hS hl
    refine lv_iload_n hx hb d_Natural_against_3 rfl (lv_at hl 0 rfl) ?_
    refine lv_if_lt (tgt := 60) hx hb d_Natural_against_4 (by decide) (fun b4 => ?_) (fun b4 => ?_)
    · skip
      rw [q_ilt t_x2 (show (0 : Int32).toInt = 0 by decide)] at b4
      refine lv_iconst (v := 0) hx hb d_Natural_against_60 (by decide) ?_
      exact Ci.ret C0 (v := 0) (u := ()) (Nat.le_of_ble_eq_true rfl) (Nat.le_of_ble_eq_true rfl) (by exact Or.inr (Or.inl ⟨nv_congr (fun j hj => hs j (by omega) hj), rfl⟩)) hP hD hS [0, 1, 2, 3] (by decide) rfl d_Natural_against_61
    · skip
      rw [q_ilt t_x2 (show (0 : Int32).toInt = 0 by decide)] at b4
      refine lv_aload_n hx hb d_Natural_against_7 rfl (lv_at hl 2 rfl) ?_
      refine va_get (D := (dC, dI)) (ci := 1) (v := .ref a0) (C := R_Natural) (T := F_Natural) (N := 1) hx hb hts u_Natural hown hK hP 0 rfl rfl 0 (by decide) (hts _ m_105) (fun _ h9 => h9) rfl d_Natural_against_8 ?_
      refine lv_iload_n hx hb d_Natural_against_11 rfl (lv_at hl 0 rfl) ?_
      refine va_iald hx hb hK hP 1 0 rfl rfl (q_in t_x2 (by omega)) d_Natural_against_12 ?_
      refine lv_topi (fun v12 e12 => ?_)
      rw [q_cl (k := i - 1) (t_x2.trans (by omega))] at e12
      refine lv_aload_n hx hb d_Natural_against_13 rfl (lv_at hl 1 rfl) ?_
      refine va_get (D := (dC, dI)) (ci := 1) (v := .ref a1) (C := R_Natural) (T := F_Natural) (N := 1) hx hb hts u_Natural hown hK hP 2 rfl rfl 0 (by decide) (hts _ m_105) (fun _ h9 => h9) rfl d_Natural_against_14 ?_
      refine lv_iload_n hx hb d_Natural_against_17 rfl (lv_at hl 0 rfl) ?_
      refine va_iald hx hb hK hP 3 0 rfl rfl (q_in t_x2 (by omega)) d_Natural_against_18 ?_
      refine lv_topi (fun v18 e18 => ?_)
      rw [q_cl (k := i - 1) (t_x2.trans (by omega))] at e18
      refine lv_icmp_eq (tgt := 54) hx hb d_Natural_against_19 (by decide) (fun b19 => ?_) (fun b19 => ?_)
      · skip
        obtain ⟨v54, e54⟩ : ∃ y : Int32, y = x2 + (-1) := ⟨_, rfl⟩
        have t54 : v54.toInt = (i : Int) - 1 + (-1) := by rw [e54]; exact q_iadd t_x2 (show ((-1) : Int32).toInt = (-1) by decide) (by omega)
        refine lv_iinc (v := v54) (lv' := [(2, .int v54), (1, .ref h1), (0, .ref h0)]) hx hb d_Natural_against_54 hl (k := 0) rfl (by rw [e54]; rfl) (by decide) rfl (fun ls hl => ?_)
        refine lv_goto (tgt := 3) hx hb d_Natural_against_57 (by decide) ?_
        exact ih (v54) (i - 1) H locs ls (by omega) ((t54).trans (by omega)) (by omega) (by intro j h1 h2; rcases Nat.lt_or_ge j i with h | h; rw [show j = i - 1 by omega, ← e12, ← e18]; exact b19; exact hs j h h2) (va_Psub hP [0, 1, 2, 3] rfl) (hD.sub [0, 1, 2, 3] (by decide) rfl) hS (lv_sub hl [0, 1, 2] rfl)
      · skip
        refine lv_aload_n hx hb d_Natural_against_22 rfl (lv_at hl 2 rfl) ?_
        refine va_get (D := (dC, dI)) (ci := 1) (v := .ref a0) (C := R_Natural) (T := F_Natural) (N := 1) hx hb hts u_Natural hown hK hP 0 rfl rfl 0 (by decide) (hts _ m_105) (fun _ h9 => h9) rfl d_Natural_against_23 ?_
        refine lv_iload_n hx hb d_Natural_against_26 rfl (lv_at hl 0 rfl) ?_
        refine va_iald hx hb hK hP 1 0 rfl rfl (q_in t_x2 (by omega)) d_Natural_against_27 ?_
        refine lv_topi (fun v27 e27 => ?_)
        rw [q_cl (k := i - 1) (t_x2.trans (by omega))] at e27
        refine lv_i2l hx hb d_Natural_against_28 rfl ?_
        refine lv_topl (fun v28 e28 => ?_)
        refine lv_ldc2 (v := 4294967295) hx hb hown (hts _ m_273) d_Natural_against_29 ?_
        refine lv_land hx hb d_Natural_against_32 ?_
        refine lv_topl (fun v32 e32 => ?_)
        have t32 : v32.toInt = (uw v27 : Int) := by rw [e32, e28]; exact q_lo v27
        refine lv_aload_n hx hb d_Natural_against_33 rfl (lv_at hl 1 rfl) ?_
        refine va_get (D := (dC, dI)) (ci := 1) (v := .ref a1) (C := R_Natural) (T := F_Natural) (N := 1) hx hb hts u_Natural hown hK hP 2 rfl rfl 0 (by decide) (hts _ m_105) (fun _ h9 => h9) rfl d_Natural_against_34 ?_
        refine lv_iload_n hx hb d_Natural_against_37 rfl (lv_at hl 0 rfl) ?_
        refine va_iald hx hb hK hP 3 0 rfl rfl (q_in t_x2 (by omega)) d_Natural_against_38 ?_
        refine lv_topi (fun v38 e38 => ?_)
        rw [q_cl (k := i - 1) (t_x2.trans (by omega))] at e38
        refine lv_i2l hx hb d_Natural_against_39 rfl ?_
        refine lv_topl (fun v39 e39 => ?_)
        refine lv_ldc2 (v := 4294967295) hx hb hown (hts _ m_273) d_Natural_against_40 ?_
        refine lv_land hx hb d_Natural_against_43 ?_
        refine lv_topl (fun v43 e43 => ?_)
        have t43 : v43.toInt = (uw v38 : Int) := by rw [e43, e39]; exact q_lo v38
        refine W.lcmp hx hb d_Natural_against_44 ?_
        refine lv_if_ge (tgt := 52) hx hb d_Natural_against_45 (by decide) (fun b45 => ?_) (fun b45 => ?_)
        · skip
          rw [q_cmp_ge t32 t43] at b45
          refine lv_iconst (v := 1) hx hb d_Natural_against_52 (by decide) ?_
          have hne : uw v27 ≠ uw v38 := fun h => b19 (by rw [e12, e18, ← e27, ← e38]; exact uw_inj h)
          have hlt := nv_less (f := g) (h := f) (n := 12) (i := i - 1) (by omega) (fun j h1 h2 => (hs j (by omega) h2).symm) (by rw [← e27, ← e38]; omega)
          exact Ci.ret C0 (v := 1) (u := ()) (Nat.le_of_ble_eq_true rfl) (Nat.le_of_ble_eq_true rfl) (by exact Or.inr (Or.inr ⟨hlt, rfl⟩)) hP hD hS [0, 1, 2, 3] (by decide) rfl d_Natural_against_53
        · skip
          rw [q_cmp_ge t32 t43] at b45
          refine lv_iconst (v := (-1)) hx hb d_Natural_against_48 (by decide) ?_
          refine lv_goto (tgt := 53) hx hb d_Natural_against_49 (by decide) ?_
          have hlt := nv_less (f := f) (h := g) (n := 12) (i := i - 1) (by omega) (fun j h1 h2 => hs j (by omega) h2) (by rw [← e27, ← e38]; omega)
          exact Ci.ret C0 (v := (-1)) (u := ()) (Nat.le_of_ble_eq_true rfl) (Nat.le_of_ble_eq_true rfl) (by exact Or.inl ⟨hlt, rfl⟩) hP hD hS [0, 1, 2, 3] (by decide) rfl d_Natural_against_53
set_option maxHeartbeats 4000000 in
set_option maxRecDepth 100000 in
theorem c_Natural_against (l : Launch) (dC : Nat → ClassId) (dI : Nat → Nat → Nat) (cI cB cJ : ClassId) (h0 : Nat) (a0 : Nat) (f : Nat → Int32) (h1 : Nat) (a1 : Nat) (g : Nat → Int32)  : Ci l dC dI cI cB cJ y_Natural_against w_Natural_against ({ frames := 0, cells := 0, slots := 0, locals := 0 } : Room) [.ref h0, .ref h1] [(h0, .inr (1, [.ref a0])), (a0, .inl (cI, 12, .inl f)), (h1, .inr (1, [.ref a1])), (a1, .inl (cI, 12, .inl g))] (fun (r : Int32) (u : Unit) => (nv f 12 < nv g 12 ∧ r = -1) ∨ (nv f 12 = nv g 12 ∧ r = 0) ∨ (nv g 12 < nv f 12 ∧ r = 1)) (fun u : Unit => [(h0, .inr (1, [.ref a0])), (a0, .inl (cI, 12, .inl f)), (h1, .inr (1, [.ref a1])), (a1, .inl (cI, 12, .inl g))]) := by
  refine Ci.intro (cc := b_Natural_against) (maxL := 3) (by decide) rfl (Nat.le_of_ble_eq_true rfl) ?_
  intro p e s m below meth c A ls C0 hin hA hP hD hS hl
  obtain ⟨hx, hb, hml, hown, hts, hr, hlocks, hK, hN⟩ := id C0
  obtain ⟨H, hH⟩ : ∃ H, H = s.heap := ⟨_, rfl⟩
  have hP : va_P (dC, dI) vwCl [(h0, .inr (1, [.ref a0])), (a0, .inl (cI, 12, .inl f)), (h1, .inr (1, [.ref a1])), (a1, .inl (cI, 12, .inl g))] s.heap := hP
  have hl : lv_has ls 3 [(0, .ref h0), (1, .ref h1)] := hl
  suffices h : ∀ (H : Heap) (locs : List Loc), va_P (dC, dI) vwCl [(h0, .inr (1, [.ref a0])), (a0, .inl (cI, 12, .inl f)), (h1, .inr (1, [.ref a1])), (a1, .inl (cI, 12, .inl g))] H → va_D A [(h0, .inr (1, [.ref a0])), (a0, .inl (cI, 12, .inl f)), (h1, .inr (1, [.ref a1])), (a1, .inl (cI, 12, .inl g))] → va_S A s.heap H locs → W p l e ({ frames := 0, cells := 0, slots := 0, locals := 0 } : Room) s m ([.ref h0, .ref h1] : List Value).toArray below meth c H locs 0 0 (MQ below (va_Qi (fun (r : Int32) (u : Unit) => (nv f 12 < nv g 12 ∧ r = -1) ∨ (nv f 12 = nv g 12 ∧ r = 0) ∨ (nv g 12 < nv f 12 ∧ r = 1)) (poG dC dI A (fun u : Unit => [(h0, .inr (1, [.ref a0])), (a0, .inl (cI, 12, .inl f)), (h1, .inr (1, [.ref a1])), (a1, .inl (cI, 12, .inl g))])) A) ([.ref h0, .ref h1] : List Value).toArray s 0 0 A) (F0 m 0 ls []) from h _ _ hP hD hS
  clear hP hD hS hH H
  intro H locs hP hD hS
  refine lv_bipush (v := 11) hx hb d_Natural_against_0 (by decide) ?_
  refine lv_istore_n (lv' := [(2, .int 11), (0, .ref h0), (1, .ref h1)]) hx hb d_Natural_against_2 rfl hl (by decide) rfl (fun ls hl => ?_)
  exact L_Natural_against_3 (h0) (a0) (f) (h1) (a1) (g) C0 hA  _ (11) (12) H locs ls (Nat.lt_succ_self _) (((show (11 : Int32).toInt = 11 by decide)).trans (by omega)) (by omega) (by intro j h1 h2; omega) (va_Psub hP [0, 1, 2, 3] rfl) (hD.sub [0, 1, 2, 3] (by decide) rfl) hS (lv_sub hl [0, 2, 1] rfl)
set_option maxHeartbeats 4000000 in
set_option maxRecDepth 100000 in
theorem L_Natural_copy_2 {p : Program} {l : Launch} {e : Env} {s : State} {m : MethodId} {below : List Frame} {meth : Method} {c : Code} {dC : Nat → ClassId} {dI : Nat → Nat → Nat} {cI cB cJ : ClassId} {A : Nat → Prop} (h0 : Nat) (a0 : Nat) (f : Nat → Int32) (h1 : Nat) (a1 : Nat) (g : Nat → Int32) (C0 : cx dC dI cI cB cJ R_Natural b_Natural_copy 3 none p s m ([.ref h0, .ref h1] : List Value).toArray meth c) (hA : ∀ q : Nat, s.heap.size ≤ q → A q)  : ∀ n : Nat, (∀ (x2 : Int32) (i : Nat) (k : Nat → Int32) (H : Heap) (locs : List Loc) (ls : Array Slot), 12 - i < n → x2.toInt = (i : Int) → (i ≤ 12) → (∀ j, j < i → k j = g j) → va_P (dC, dI) vwCl [(h0, .inr (1, [.ref a0])), (a0, .inl (cI, 12, .inl k)), (h1, .inr (1, [.ref a1])), (a1, .inl (cI, 12, .inl g))] H → va_D A [(h0, .inr (1, [.ref a0])), (a0, .inl (cI, 12, .inl k)), (h1, .inr (1, [.ref a1])), (a1, .inl (cI, 12, .inl g))] → va_S A s.heap H locs → lv_has ls 3 [(2, .int x2), (1, .ref h1), (0, .ref h0)] → W p l e ({ frames := 0, cells := 0, slots := 0, locals := 0 } : Room) s m ([.ref h0, .ref h1] : List Value).toArray below meth c H locs 0 0 (MQ below (va_Qv (fun (u : (Nat → Int32)) => nv u 12 = nv g 12) (poG dC dI A (fun u : (Nat → Int32) => [(h0, .inr (1, [.ref a0])), (a0, .inl (cI, 12, .inl u)), (h1, .inr (1, [.ref a1])), (a1, .inl (cI, 12, .inl g))])) A) ([.ref h0, .ref h1] : List Value).toArray s 0 0 A) (F0 m 2 ls [])) := by
  obtain ⟨hx, hb, hml, hown, hts, hr, hlocks, hK, hN⟩ := id C0
  intro n
  induction n with
  | zero => exact fun _ _ _ _ _ _ h0 _ _ _ _ _ _ _ => absurd h0 (Nat.not_lt_zero _)
  | succ n ih =>
    intro x2 i k H locs ls hn t_x2 hi hs hP hD hS hl
    refine lv_iload_n hx hb d_Natural_copy_2 rfl (lv_at hl 0 rfl) ?_
    refine lv_bipush (v := 12) hx hb d_Natural_copy_3 (by decide) ?_
    refine lv_icmp_ge (tgt := 26) hx hb d_Natural_copy_5 (by decide) (fun b5 => ?_) (fun b5 => ?_)
    · skip
      rw [q_ile (show (12 : Int32).toInt = 12 by decide) t_x2] at b5
      exact Cv.ret C0 (u := (k)) (Nat.le_of_ble_eq_true rfl) (Nat.le_of_ble_eq_true rfl) (by exact nv_congr (fun j hj => hs j (by omega))) hP hD hS [0, 1, 2, 3] (by decide) rfl d_Natural_copy_26
    · skip
      rw [q_ile (show (12 : Int32).toInt = 12 by decide) t_x2] at b5
      refine lv_aload_n hx hb d_Natural_copy_8 rfl (lv_at hl 2 rfl) ?_
      refine va_get (D := (dC, dI)) (ci := 1) (v := .ref a0) (C := R_Natural) (T := F_Natural) (N := 1) hx hb hts u_Natural hown hK hP 0 rfl rfl 0 (by decide) (hts _ m_105) (fun _ h9 => h9) rfl d_Natural_copy_9 ?_
      refine lv_iload_n hx hb d_Natural_copy_12 rfl (lv_at hl 0 rfl) ?_
      refine lv_aload_n hx hb d_Natural_copy_13 rfl (lv_at hl 1 rfl) ?_
      refine va_get (D := (dC, dI)) (ci := 1) (v := .ref a1) (C := R_Natural) (T := F_Natural) (N := 1) hx hb hts u_Natural hown hK hP 2 rfl rfl 0 (by decide) (hts _ m_105) (fun _ h9 => h9) rfl d_Natural_copy_14 ?_
      refine lv_iload_n hx hb d_Natural_copy_17 rfl (lv_at hl 0 rfl) ?_
      refine va_iald hx hb hK hP 3 0 rfl rfl (q_in t_x2 (by omega)) d_Natural_copy_18 ?_
      refine lv_topi (fun v18 e18 => ?_)
      rw [q_cl (k := i) (t_x2)] at e18
      refine va_iast hx hb hK hP hD hS 1 0 rfl rfl (q_in t_x2 (by omega)) d_Natural_copy_19 (fun H locs hP hD hS => ?_)
      rw [q_cl (k := i) (t_x2)] at hP hD
      have hP : va_P (dC, dI) vwCl [(h0, .inr (1, [.ref a0])), (a0, .inl (cI, 12, .inl (upd k i v18))), (h1, .inr (1, [.ref a1])), (a1, .inl (cI, 12, .inl g))] H := hP
      have hD : va_D A [(h0, .inr (1, [.ref a0])), (a0, .inl (cI, 12, .inl (upd k i v18))), (h1, .inr (1, [.ref a1])), (a1, .inl (cI, 12, .inl g))] := hD
      obtain ⟨v20, e20⟩ : ∃ y : Int32, y = x2 + 1 := ⟨_, rfl⟩
      have t20 : v20.toInt = (i : Int) + 1 := by rw [e20]; exact q_iadd t_x2 (show (1 : Int32).toInt = 1 by decide) (by omega)
      refine lv_iinc (v := v20) (lv' := [(2, .int v20), (1, .ref h1), (0, .ref h0)]) hx hb d_Natural_copy_20 hl (k := 0) rfl (by rw [e20]; rfl) (by decide) rfl (fun ls hl => ?_)
      refine lv_goto (tgt := 2) hx hb d_Natural_copy_23 (by decide) ?_
      exact ih (v20) (i + 1) (upd k i v18) H locs ls (by omega) ((t20).trans (by omega)) (by omega) (by intro j h; rcases Nat.lt_or_ge j i with h1 | h1; rw [pk_un (by omega)]; exact hs j h1; rw [show j = i by omega, pk_us, e18]) (va_Psub hP [0, 1, 2, 3] rfl) (hD.sub [0, 1, 2, 3] (by decide) rfl) hS (lv_sub hl [0, 1, 2] rfl)
set_option maxHeartbeats 4000000 in
set_option maxRecDepth 100000 in
theorem c_Natural_copy (l : Launch) (dC : Nat → ClassId) (dI : Nat → Nat → Nat) (cI cB cJ : ClassId) (h0 : Nat) (a0 : Nat) (f : Nat → Int32) (h1 : Nat) (a1 : Nat) (g : Nat → Int32)  : Cv l dC dI cI cB cJ y_Natural_copy w_Natural_copy ({ frames := 0, cells := 0, slots := 0, locals := 0 } : Room) [.ref h0, .ref h1] [(h0, .inr (1, [.ref a0])), (a0, .inl (cI, 12, .inl f)), (h1, .inr (1, [.ref a1])), (a1, .inl (cI, 12, .inl g))] (fun (u : (Nat → Int32)) => nv u 12 = nv g 12) (fun u : (Nat → Int32) => [(h0, .inr (1, [.ref a0])), (a0, .inl (cI, 12, .inl u)), (h1, .inr (1, [.ref a1])), (a1, .inl (cI, 12, .inl g))]) := by
  refine Cv.intro (cc := b_Natural_copy) (maxL := 3) (by decide) rfl (Nat.le_of_ble_eq_true rfl) ?_
  intro p e s m below meth c A ls C0 hin hA hP hD hS hl
  obtain ⟨hx, hb, hml, hown, hts, hr, hlocks, hK, hN⟩ := id C0
  obtain ⟨H, hH⟩ : ∃ H, H = s.heap := ⟨_, rfl⟩
  have hP : va_P (dC, dI) vwCl [(h0, .inr (1, [.ref a0])), (a0, .inl (cI, 12, .inl f)), (h1, .inr (1, [.ref a1])), (a1, .inl (cI, 12, .inl g))] s.heap := hP
  have hl : lv_has ls 3 [(0, .ref h0), (1, .ref h1)] := hl
  suffices h : ∀ (H : Heap) (locs : List Loc), va_P (dC, dI) vwCl [(h0, .inr (1, [.ref a0])), (a0, .inl (cI, 12, .inl f)), (h1, .inr (1, [.ref a1])), (a1, .inl (cI, 12, .inl g))] H → va_D A [(h0, .inr (1, [.ref a0])), (a0, .inl (cI, 12, .inl f)), (h1, .inr (1, [.ref a1])), (a1, .inl (cI, 12, .inl g))] → va_S A s.heap H locs → W p l e ({ frames := 0, cells := 0, slots := 0, locals := 0 } : Room) s m ([.ref h0, .ref h1] : List Value).toArray below meth c H locs 0 0 (MQ below (va_Qv (fun (u : (Nat → Int32)) => nv u 12 = nv g 12) (poG dC dI A (fun u : (Nat → Int32) => [(h0, .inr (1, [.ref a0])), (a0, .inl (cI, 12, .inl u)), (h1, .inr (1, [.ref a1])), (a1, .inl (cI, 12, .inl g))])) A) ([.ref h0, .ref h1] : List Value).toArray s 0 0 A) (F0 m 0 ls []) from h _ _ hP hD hS
  clear hP hD hS hH H
  intro H locs hP hD hS
  refine lv_iconst (v := 0) hx hb d_Natural_copy_0 (by decide) ?_
  refine lv_istore_n (lv' := [(2, .int 0), (0, .ref h0), (1, .ref h1)]) hx hb d_Natural_copy_1 rfl hl (by decide) rfl (fun ls hl => ?_)
  exact L_Natural_copy_2 (h0) (a0) (f) (h1) (a1) (g) C0 hA  _ (0) (0) (f) H locs ls (Nat.lt_succ_self _) (((show (0 : Int32).toInt = 0 by decide)).trans (by omega)) (by omega) (by intro j h; omega) (va_Psub hP [0, 1, 2, 3] rfl) (hD.sub [0, 1, 2, 3] (by decide) rfl) hS (lv_sub hl [0, 2, 1] rfl)
set_option maxHeartbeats 4000000 in
set_option maxRecDepth 100000 in
theorem L_Natural_set_2 {p : Program} {l : Launch} {e : Env} {s : State} {m : MethodId} {below : List Frame} {meth : Method} {c : Code} {dC : Nat → ClassId} {dI : Nat → Nat → Nat} {cI cB cJ : ClassId} {A : Nat → Prop} (h0 : Nat) (a0 : Nat) (f : Nat → Int32) (x : Int64) (C0 : cx dC dI cI cB cJ R_Natural b_Natural_set 4 none p s m ([.ref h0, .long x] : List Value).toArray meth c) (hA : ∀ q : Nat, s.heap.size ≤ q → A q)  : ∀ n : Nat, (∀ (x3 : Int32) (i : Nat) (k : Nat → Int32) (H : Heap) (locs : List Loc) (ls : Array Slot), 12 - i < n → x3.toInt = (i : Int) → (i ≤ 12) → (∀ j, 2 ≤ j → j < i → k j = 0) → va_P (dC, dI) vwCl [(h0, .inr (1, [.ref a0])), (a0, .inl (cI, 12, .inl k))] H → va_D A [(h0, .inr (1, [.ref a0])), (a0, .inl (cI, 12, .inl k))] → va_S A s.heap H locs → lv_has ls 4 [(3, .int x3), (1, .long x), (0, .ref h0)] → W p l e ({ frames := 0, cells := 0, slots := 0, locals := 0 } : Room) s m ([.ref h0, .long x] : List Value).toArray below meth c H locs 0 0 (MQ below (va_Qv (fun (u : (Nat → Int32)) => nv u 12 = ul x) (poG dC dI A (fun u : (Nat → Int32) => [(h0, .inr (1, [.ref a0])), (a0, .inl (cI, 12, .inl u))])) A) ([.ref h0, .long x] : List Value).toArray s 0 0 A) (F0 m 2 ls [])) := by
  obtain ⟨hx, hb, hml, hown, hts, hr, hlocks, hK, hN⟩ := id C0
  intro n
  induction n with
  | zero => exact fun _ _ _ _ _ _ h0 _ _ _ _ _ _ _ => absurd h0 (Nat.not_lt_zero _)
  | succ n ih =>
    intro x3 i k H locs ls hn t_x3 hi hs hP hD hS hl
    refine lv_iload_n hx hb d_Natural_set_2 rfl (lv_at hl 0 rfl) ?_
    refine lv_bipush (v := 12) hx hb d_Natural_set_3 (by decide) ?_
    refine lv_icmp_ge (tgt := 21) hx hb d_Natural_set_5 (by decide) (fun b5 => ?_) (fun b5 => ?_)
    · skip
      rw [q_ile (show (12 : Int32).toInt = 12 by decide) t_x3] at b5
      refine lv_aload_n hx hb d_Natural_set_21 rfl (lv_at hl 2 rfl) ?_
      refine va_get (D := (dC, dI)) (ci := 1) (v := .ref a0) (C := R_Natural) (T := F_Natural) (N := 1) hx hb hts u_Natural hown hK hP 0 rfl rfl 0 (by decide) (hts _ m_105) (fun _ h9 => h9) rfl d_Natural_set_22 ?_
      refine lv_iconst (v := 0) hx hb d_Natural_set_25 (by decide) ?_
      refine lv_lload_n hx hb d_Natural_set_26 rfl (lv_at hl 1 rfl) ?_
      refine lv_l2i hx hb d_Natural_set_27 rfl ?_
      refine lv_topi (fun v27 e27 => ?_)
      refine va_iast hx hb hK hP hD hS 1 0 rfl rfl (q_in (show (0 : Int32).toInt = 0 by decide) (by omega)) d_Natural_set_28 (fun H locs hP hD hS => ?_)
      rw [q_cl (k := 0) ((show (0 : Int32).toInt = 0 by decide))] at hP hD
      have hP : va_P (dC, dI) vwCl [(h0, .inr (1, [.ref a0])), (a0, .inl (cI, 12, .inl (upd k 0 v27)))] H := hP
      have hD : va_D A [(h0, .inr (1, [.ref a0])), (a0, .inl (cI, 12, .inl (upd k 0 v27)))] := hD
      refine lv_aload_n hx hb d_Natural_set_29 rfl (lv_at hl 2 rfl) ?_
      refine va_get (D := (dC, dI)) (ci := 1) (v := .ref a0) (C := R_Natural) (T := F_Natural) (N := 1) hx hb hts u_Natural hown hK hP 0 rfl rfl 0 (by decide) (hts _ m_105) (fun _ h9 => h9) rfl d_Natural_set_30 ?_
      refine lv_iconst (v := 1) hx hb d_Natural_set_33 (by decide) ?_
      refine lv_lload_n hx hb d_Natural_set_34 rfl (lv_at hl 1 rfl) ?_
      refine lv_bipush (v := 32) hx hb d_Natural_set_35 (by decide) ?_
      refine lv_lushr hx hb d_Natural_set_37 rfl ?_
      refine lv_topl (fun v37 e37 => ?_)
      refine lv_l2i hx hb d_Natural_set_38 rfl ?_
      refine lv_topi (fun v38 e38 => ?_)
      refine va_iast hx hb hK hP hD hS 1 0 rfl rfl (q_in (show (1 : Int32).toInt = 1 by decide) (by omega)) d_Natural_set_39 (fun H locs hP hD hS => ?_)
      rw [q_cl (k := 1) ((show (1 : Int32).toInt = 1 by decide))] at hP hD
      have hP : va_P (dC, dI) vwCl [(h0, .inr (1, [.ref a0])), (a0, .inl (cI, 12, .inl (upd (upd k 0 v27) 1 v38)))] H := hP
      have hD : va_D A [(h0, .inr (1, [.ref a0])), (a0, .inl (cI, 12, .inl (upd (upd k 0 v27) 1 v38)))] := hD
      have hz : ∀ j, 2 ≤ j → j < 12 → upd (upd k 0 v27) 1 v38 j = 0 := fun j h1 h2 => by rw [pk_un (by omega), pk_un (by omega)]; exact hs j h1 (by omega)
      have h1 := nv_split (f := upd (upd k 0 v27) 1 v38) (h := fun j => if j < 2 then upd (upd k 0 v27) 1 v38 j else 0) (n := 12) (i := 2) (by omega) (fun j h1 h2 => by rw [hz j h1 h2, if_neg (by omega)])
      have h2 := nv_top0 (f := fun j => if j < 2 then upd (upd k 0 v27) 1 v38 j else 0) (i := 2) (n := 12) (by omega) (fun j h1 h2 => by rw [if_neg (by omega)])
      have h3 : nv (upd (upd k 0 v27) 1 v38) 2 = ul x := by
        rw [nv_upd_s, show (1 : Nat) = 0 + 1 from rfl, nv_upd_s, e38, e27, e37, uw_l2i, uw_l2i, ul_s32]
        have := ul_lt x
        show 0 + ul x % 4294967296 * 1 + ul x / 4294967296 % 4294967296 * 4294967296 = ul x
        omega
      exact Cv.ret C0 (u := (upd (upd k 0 v27) 1 v38)) (Nat.le_of_ble_eq_true rfl) (Nat.le_of_ble_eq_true rfl) (by show nv (upd (upd k 0 v27) 1 v38) 12 = ul x; omega) hP hD hS [0, 1] (by decide) rfl d_Natural_set_40
    · skip
      rw [q_ile (show (12 : Int32).toInt = 12 by decide) t_x3] at b5
      refine lv_aload_n hx hb d_Natural_set_8 rfl (lv_at hl 2 rfl) ?_
      refine va_get (D := (dC, dI)) (ci := 1) (v := .ref a0) (C := R_Natural) (T := F_Natural) (N := 1) hx hb hts u_Natural hown hK hP 0 rfl rfl 0 (by decide) (hts _ m_105) (fun _ h9 => h9) rfl d_Natural_set_9 ?_
      refine lv_iload_n hx hb d_Natural_set_12 rfl (lv_at hl 0 rfl) ?_
      refine lv_iconst (v := 0) hx hb d_Natural_set_13 (by decide) ?_
      refine va_iast hx hb hK hP hD hS 1 0 rfl rfl (q_in t_x3 (by omega)) d_Natural_set_14 (fun H locs hP hD hS => ?_)
      rw [q_cl (k := i) (t_x3)] at hP hD
      have hP : va_P (dC, dI) vwCl [(h0, .inr (1, [.ref a0])), (a0, .inl (cI, 12, .inl (upd k i 0)))] H := hP
      have hD : va_D A [(h0, .inr (1, [.ref a0])), (a0, .inl (cI, 12, .inl (upd k i 0)))] := hD
      obtain ⟨v15, e15⟩ : ∃ y : Int32, y = x3 + 1 := ⟨_, rfl⟩
      have t15 : v15.toInt = (i : Int) + 1 := by rw [e15]; exact q_iadd t_x3 (show (1 : Int32).toInt = 1 by decide) (by omega)
      refine lv_iinc (v := v15) (lv' := [(3, .int v15), (1, .long x), (0, .ref h0)]) hx hb d_Natural_set_15 hl (k := 0) rfl (by rw [e15]; rfl) (by decide) rfl (fun ls hl => ?_)
      refine lv_goto (tgt := 2) hx hb d_Natural_set_18 (by decide) ?_
      exact ih (v15) (i + 1) (upd k i 0) H locs ls (by omega) ((t15).trans (by omega)) (by omega) (by intro j h0 h; rcases Nat.lt_or_ge j i with h1 | h1; rw [pk_un (by omega)]; exact hs j h0 h1; rw [show j = i by omega, pk_us]) (va_Psub hP [0, 1] rfl) (hD.sub [0, 1] (by decide) rfl) hS (lv_sub hl [0, 1, 2] rfl)
set_option maxHeartbeats 4000000 in
set_option maxRecDepth 100000 in
theorem c_Natural_set (l : Launch) (dC : Nat → ClassId) (dI : Nat → Nat → Nat) (cI cB cJ : ClassId) (h0 : Nat) (a0 : Nat) (f : Nat → Int32) (x : Int64)  : Cv l dC dI cI cB cJ y_Natural_set w_Natural_set ({ frames := 0, cells := 0, slots := 0, locals := 0 } : Room) [.ref h0, .long x] [(h0, .inr (1, [.ref a0])), (a0, .inl (cI, 12, .inl f))] (fun (u : (Nat → Int32)) => nv u 12 = ul x) (fun u : (Nat → Int32) => [(h0, .inr (1, [.ref a0])), (a0, .inl (cI, 12, .inl u))]) := by
  refine Cv.intro (cc := b_Natural_set) (maxL := 4) (by decide) rfl (Nat.le_of_ble_eq_true rfl) ?_
  intro p e s m below meth c A ls C0 hin hA hP hD hS hl
  obtain ⟨hx, hb, hml, hown, hts, hr, hlocks, hK, hN⟩ := id C0
  obtain ⟨H, hH⟩ : ∃ H, H = s.heap := ⟨_, rfl⟩
  have hP : va_P (dC, dI) vwCl [(h0, .inr (1, [.ref a0])), (a0, .inl (cI, 12, .inl f))] s.heap := hP
  have hl : lv_has ls 4 [(0, .ref h0), (1, .long x)] := hl
  suffices h : ∀ (H : Heap) (locs : List Loc), va_P (dC, dI) vwCl [(h0, .inr (1, [.ref a0])), (a0, .inl (cI, 12, .inl f))] H → va_D A [(h0, .inr (1, [.ref a0])), (a0, .inl (cI, 12, .inl f))] → va_S A s.heap H locs → W p l e ({ frames := 0, cells := 0, slots := 0, locals := 0 } : Room) s m ([.ref h0, .long x] : List Value).toArray below meth c H locs 0 0 (MQ below (va_Qv (fun (u : (Nat → Int32)) => nv u 12 = ul x) (poG dC dI A (fun u : (Nat → Int32) => [(h0, .inr (1, [.ref a0])), (a0, .inl (cI, 12, .inl u))])) A) ([.ref h0, .long x] : List Value).toArray s 0 0 A) (F0 m 0 ls []) from h _ _ hP hD hS
  clear hP hD hS hH H
  intro H locs hP hD hS
  refine lv_iconst (v := 2) hx hb d_Natural_set_0 (by decide) ?_
  refine lv_istore_n (lv' := [(3, .int 2), (0, .ref h0), (1, .long x)]) hx hb d_Natural_set_1 rfl hl (by decide) rfl (fun ls hl => ?_)
  exact L_Natural_set_2 (h0) (a0) (f) (x) C0 hA  _ (2) (2) (f) H locs ls (Nat.lt_succ_self _) (((show (2 : Int32).toInt = 2 by decide)).trans (by omega)) (by omega) (by intro j h h2; omega) (va_Psub hP [0, 1] rfl) (hD.sub [0, 1] (by decide) rfl) hS (lv_sub hl [0, 2, 1] rfl)
set_option maxHeartbeats 4000000 in
set_option maxRecDepth 100000 in
theorem L_Natural_timesPlus_6 {p : Program} {l : Launch} {e : Env} {s : State} {m : MethodId} {below : List Frame} {meth : Method} {c : Code} {dC : Nat → ClassId} {dI : Nat → Nat → Nat} {cI cB cJ : ClassId} {A : Nat → Prop} (h0 : Nat) (a0 : Nat) (f : Nat → Int32) (pf : Int32) (qa : Int32) (C0 : cx dC dI cI cB cJ R_Natural b_Natural_timesPlus 6 none p s m ([.ref h0, .int pf, .int qa] : List Value).toArray meth c) (hA : ∀ q : Nat, s.heap.size ≤ q → A q) (hp : 0 ≤ pf.toInt) (hq : 0 ≤ qa.toInt) : ∀ n : Nat, (∀ (x5 : Int32) (i : Nat) (c3 : Int64) (k : Nat → Int32) (H : Heap) (locs : List Loc) (ls : Array Slot), 12 - i < n → x5.toInt = (i : Int) → (i ≤ 12) → (∀ j, i ≤ j → k j = f j) → (nv k i + ul c3 * 2 ^ (32 * i) = nv f i * uw pf + uw qa) → (ul c3 < 4294967296) → va_P (dC, dI) vwCl [(h0, .inr (1, [.ref a0])), (a0, .inl (cI, 12, .inl k))] H → va_D A [(h0, .inr (1, [.ref a0])), (a0, .inl (cI, 12, .inl k))] → va_S A s.heap H locs → lv_has ls 6 [(5, .int x5), (3, .long c3), (2, .int qa), (1, .int pf), (0, .ref h0)] → W p l e ({ frames := 0, cells := 0, slots := 0, locals := 0 } : Room) s m ([.ref h0, .int pf, .int qa] : List Value).toArray below meth c H locs 0 0 (MQ below (va_Qv (fun (u : (Nat → Int32)) => nv u 12 = (nv f 12 * uw pf + uw qa) % 2 ^ (32 * 12)) (poG dC dI A (fun u : (Nat → Int32) => [(h0, .inr (1, [.ref a0])), (a0, .inl (cI, 12, .inl u))])) A) ([.ref h0, .int pf, .int qa] : List Value).toArray s 0 0 A) (F0 m 6 ls [])) := by
  obtain ⟨hx, hb, hml, hown, hts, hr, hlocks, hK, hN⟩ := id C0
  intro n
  induction n with
  | zero => exact fun _ _ _ _ _ _ _ h0 _ _ _ _ _ _ _ _ _ => absurd h0 (Nat.not_lt_zero _)
  | succ n ih =>
    intro x5 i c3 k H locs ls hn t_x5 hi hk hv hc hP hD hS hl
    refine lv_iload hx hb d_Natural_timesPlus_6 (lv_at hl 0 rfl) ?_
    refine lv_bipush (v := 12) hx hb d_Natural_timesPlus_8 (by decide) ?_
    refine lv_icmp_ge (tgt := 51) hx hb d_Natural_timesPlus_10 (by decide) (fun b10 => ?_) (fun b10 => ?_)
    · skip
      rw [q_ile (show (12 : Int32).toInt = 12 by decide) t_x5] at b10
      have hi2 : i = 12 := by omega
      subst hi2
      exact Cv.ret C0 (u := (k)) (Nat.le_of_ble_eq_true rfl) (Nat.le_of_ble_eq_true rfl) (by exact nv_mod_end hv) hP hD hS [0, 1] (by decide) rfl d_Natural_timesPlus_51
    · skip
      rw [q_ile (show (12 : Int32).toInt = 12 by decide) t_x5] at b10
      refine lv_lload_n hx hb d_Natural_timesPlus_13 rfl (lv_at hl 1 rfl) ?_
      refine lv_aload_n hx hb d_Natural_timesPlus_14 rfl (lv_at hl 4 rfl) ?_
      refine va_get (D := (dC, dI)) (ci := 1) (v := .ref a0) (C := R_Natural) (T := F_Natural) (N := 1) hx hb hts u_Natural hown hK hP 0 rfl rfl 0 (by decide) (hts _ m_105) (fun _ h9 => h9) rfl d_Natural_timesPlus_15 ?_
      refine lv_iload hx hb d_Natural_timesPlus_18 (lv_at hl 0 rfl) ?_
      refine va_iald hx hb hK hP 1 0 rfl rfl (q_in t_x5 (by omega)) d_Natural_timesPlus_20 ?_
      refine lv_topi (fun v20 e20 => ?_)
      rw [q_cl (k := i) (t_x5)] at e20
      refine lv_i2l hx hb d_Natural_timesPlus_21 rfl ?_
      refine lv_topl (fun v21 e21 => ?_)
      refine lv_ldc2 (v := 4294967295) hx hb hown (hts _ m_273) d_Natural_timesPlus_22 ?_
      refine lv_land hx hb d_Natural_timesPlus_25 ?_
      refine lv_topl (fun v25 e25 => ?_)
      refine lv_iload_n hx hb d_Natural_timesPlus_26 rfl (lv_at hl 3 rfl) ?_
      refine lv_i2l hx hb d_Natural_timesPlus_27 rfl ?_
      refine lv_topl (fun v27 e27 => ?_)
      refine lv_lmul hx hb d_Natural_timesPlus_28 ?_
      refine lv_topl (fun v28 e28 => ?_)
      refine lv_ladd hx hb d_Natural_timesPlus_29 ?_
      refine lv_topl (fun v29 e29 => ?_)
      refine lv_lstore_n (lv' := [(3, .long v29), (5, .int x5), (2, .int qa), (1, .int pf), (0, .ref h0)]) hx hb d_Natural_timesPlus_30 rfl hl (by decide) rfl (fun ls hl => ?_)
      refine lv_aload_n hx hb d_Natural_timesPlus_31 rfl (lv_at hl 4 rfl) ?_
      refine va_get (D := (dC, dI)) (ci := 1) (v := .ref a0) (C := R_Natural) (T := F_Natural) (N := 1) hx hb hts u_Natural hown hK hP 0 rfl rfl 0 (by decide) (hts _ m_105) (fun _ h9 => h9) rfl d_Natural_timesPlus_32 ?_
      refine lv_iload hx hb d_Natural_timesPlus_35 (lv_at hl 1 rfl) ?_
      refine lv_lload_n hx hb d_Natural_timesPlus_37 rfl (lv_at hl 0 rfl) ?_
      refine lv_l2i hx hb d_Natural_timesPlus_38 rfl ?_
      refine lv_topi (fun v38 e38 => ?_)
      refine va_iast hx hb hK hP hD hS 1 0 rfl rfl (q_in t_x5 (by omega)) d_Natural_timesPlus_39 (fun H locs hP hD hS => ?_)
      rw [q_cl (k := i) (t_x5)] at hP hD
      have hP : va_P (dC, dI) vwCl [(h0, .inr (1, [.ref a0])), (a0, .inl (cI, 12, .inl (upd k i v38)))] H := hP
      have hD : va_D A [(h0, .inr (1, [.ref a0])), (a0, .inl (cI, 12, .inl (upd k i v38)))] := hD
      refine lv_lload_n hx hb d_Natural_timesPlus_40 rfl (lv_at hl 0 rfl) ?_
      refine lv_bipush (v := 32) hx hb d_Natural_timesPlus_41 (by decide) ?_
      refine lv_lushr hx hb d_Natural_timesPlus_43 rfl ?_
      refine lv_topl (fun v43 e43 => ?_)
      refine lv_lstore_n (lv' := [(3, .long v43), (5, .int x5), (2, .int qa), (1, .int pf), (0, .ref h0)]) hx hb d_Natural_timesPlus_44 rfl hl (by decide) rfl (fun ls hl => ?_)
      obtain ⟨v45, e45⟩ : ∃ y : Int32, y = x5 + 1 := ⟨_, rfl⟩
      have t45 : v45.toInt = (i : Int) + 1 := by rw [e45]; exact q_iadd t_x5 (show (1 : Int32).toInt = 1 by decide) (by omega)
      refine lv_iinc (v := v45) (lv' := [(5, .int v45), (3, .long v43), (2, .int qa), (1, .int pf), (0, .ref h0)]) hx hb d_Natural_timesPlus_45 hl (k := 1) rfl (by rw [e45]; rfl) (by decide) rfl (fun ls hl => ?_)
      refine lv_goto (tgt := 6) hx hb d_Natural_timesPlus_48 (by decide) ?_
      have hp2 := uw_lt pf
      have hp3 := uw_half hp
      have hlf := uw_lt (f i)
      have k25 : ul v25 = uw (f i) := by rw [e25, e21, ul_i2l_lo, e20, hk i (Nat.le_refl i)]
      have k27 : ul v27 = uw pf := by rw [e27]; exact ul_i2l hp
      have hm : uw (f i) * uw pf ≤ 4294967295 * 2147483647 := Nat.mul_le_mul (by omega) (by omega)
      have k28 : ul v28 = uw (f i) * uw pf := by rw [e28, ul_mul, k25, k27, Nat.mod_eq_of_lt (by omega)]
      have k29 : ul v29 = ul c3 + uw (f i) * uw pf := by rw [e29, ul_add, k28, Nat.mod_eq_of_lt (by omega)]
      have k38 : uw v38 = (ul c3 + uw (f i) * uw pf) % 4294967296 := by rw [e38, uw_l2i, k29]
      have k43 : ul v43 = (ul c3 + uw (f i) * uw pf) / 4294967296 := by rw [e43, ul_s32, k29]
      have hstep := nv_mul_step hv k38
      exact ih (v45) (i + 1) (v43) (upd k i v38) H locs ls (by omega) ((t45).trans (by omega)) (by omega) (by intro j h; rw [pk_un (by omega)]; exact hk j (by omega)) (by rw [k43]; exact hstep) (by rw [k43]; omega) (va_Psub hP [0, 1] rfl) (hD.sub [0, 1] (by decide) rfl) hS (lv_sub hl [0, 1, 2, 3, 4] rfl)
set_option maxHeartbeats 4000000 in
set_option maxRecDepth 100000 in
theorem c_Natural_timesPlus (l : Launch) (dC : Nat → ClassId) (dI : Nat → Nat → Nat) (cI cB cJ : ClassId) (h0 : Nat) (a0 : Nat) (f : Nat → Int32) (pf : Int32) (qa : Int32) (hp : 0 ≤ pf.toInt) (hq : 0 ≤ qa.toInt) : Cv l dC dI cI cB cJ y_Natural_timesPlus w_Natural_timesPlus ({ frames := 0, cells := 0, slots := 0, locals := 0 } : Room) [.ref h0, .int pf, .int qa] [(h0, .inr (1, [.ref a0])), (a0, .inl (cI, 12, .inl f))] (fun (u : (Nat → Int32)) => nv u 12 = (nv f 12 * uw pf + uw qa) % 2 ^ (32 * 12)) (fun u : (Nat → Int32) => [(h0, .inr (1, [.ref a0])), (a0, .inl (cI, 12, .inl u))]) := by
  refine Cv.intro (cc := b_Natural_timesPlus) (maxL := 6) (by decide) rfl (Nat.le_of_ble_eq_true rfl) ?_
  intro p e s m below meth c A ls C0 hin hA hP hD hS hl
  obtain ⟨hx, hb, hml, hown, hts, hr, hlocks, hK, hN⟩ := id C0
  obtain ⟨H, hH⟩ : ∃ H, H = s.heap := ⟨_, rfl⟩
  have hP : va_P (dC, dI) vwCl [(h0, .inr (1, [.ref a0])), (a0, .inl (cI, 12, .inl f))] s.heap := hP
  have hl : lv_has ls 6 [(0, .ref h0), (1, .int pf), (2, .int qa)] := hl
  suffices h : ∀ (H : Heap) (locs : List Loc), va_P (dC, dI) vwCl [(h0, .inr (1, [.ref a0])), (a0, .inl (cI, 12, .inl f))] H → va_D A [(h0, .inr (1, [.ref a0])), (a0, .inl (cI, 12, .inl f))] → va_S A s.heap H locs → W p l e ({ frames := 0, cells := 0, slots := 0, locals := 0 } : Room) s m ([.ref h0, .int pf, .int qa] : List Value).toArray below meth c H locs 0 0 (MQ below (va_Qv (fun (u : (Nat → Int32)) => nv u 12 = (nv f 12 * uw pf + uw qa) % 2 ^ (32 * 12)) (poG dC dI A (fun u : (Nat → Int32) => [(h0, .inr (1, [.ref a0])), (a0, .inl (cI, 12, .inl u))])) A) ([.ref h0, .int pf, .int qa] : List Value).toArray s 0 0 A) (F0 m 0 ls []) from h _ _ hP hD hS
  clear hP hD hS hH H
  intro H locs hP hD hS
  refine lv_iload_n hx hb d_Natural_timesPlus_0 rfl (lv_at hl 2 rfl) ?_
  refine lv_i2l hx hb d_Natural_timesPlus_1 rfl ?_
  refine lv_topl (fun v1 e1 => ?_)
  refine lv_lstore_n (lv' := [(3, .long v1), (0, .ref h0), (1, .int pf), (2, .int qa)]) hx hb d_Natural_timesPlus_2 rfl hl (by decide) rfl (fun ls hl => ?_)
  refine lv_iconst (v := 0) hx hb d_Natural_timesPlus_3 (by decide) ?_
  refine lv_istore (lv' := [(5, .int 0), (3, .long v1), (0, .ref h0), (1, .int pf), (2, .int qa)]) hx hb d_Natural_timesPlus_4 hl (by decide) rfl (fun ls hl => ?_)
  exact L_Natural_timesPlus_6 (h0) (a0) (f) (pf) (qa) C0 hA (hp) (hq) _ (0) (0) (v1) (f) H locs ls (Nat.lt_succ_self _) (((show (0 : Int32).toInt = 0 by decide)).trans (by omega)) (by omega) (by intro j h; rfl) (by rw [e1]; have h := ul_i2l hq; show 0 + ul qa.toInt64 * 1 = 0 * uw pf + uw qa; omega) (by rw [e1, ul_i2l hq]; exact uw_lt qa) (va_Psub hP [0, 1] rfl) (hD.sub [0, 1] (by decide) rfl) hS (lv_sub hl [0, 1, 4, 3, 2] rfl)
end
