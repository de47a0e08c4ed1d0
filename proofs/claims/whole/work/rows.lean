section
-- ===== PART A: goes FIRST, ahead of the names: the tables' words, and 'selects' of the private methods out of them =====
/-- a private method of a class that the tables say can be made, by its rows of tables_1 -/
def lw_okq (q : MethodName × Nat) : Prop := (q.1.cls ≠ "java/lang/invoke/MethodHandle" ∧ q.1.cls ≠ "java/lang/invoke/VarHandle") ∧ Cond.instantiable q.1.cls q.2 ∈ tables_1 ∧ Cond.privateMethod q.1 ∈ tables_1 ∧ Cond.instanceMethod q.1 ∈ tables_1
theorem lw_p0 : lw_okq (⟨"LearnedLedge", "mergeAll", "()V"⟩, 15) := ⟨⟨by decide +kernel, by decide +kernel⟩, List.mem_of_getElem? (i := 14) (by decide +kernel), List.mem_of_getElem? (i := 117) (by decide +kernel), List.mem_of_getElem? (i := 118) (by decide +kernel)⟩
theorem lw_p1 : lw_okq (⟨"LearnedLedge", "gather", "(IIII)Z"⟩, 15) := ⟨⟨by decide +kernel, by decide +kernel⟩, List.mem_of_getElem? (i := 14) (by decide +kernel), List.mem_of_getElem? (i := 129) (by decide +kernel), List.mem_of_getElem? (i := 130) (by decide +kernel)⟩
theorem lw_p2 : lw_okq (⟨"LearnedLedge", "cutFresh", "(I)V"⟩, 15) := ⟨⟨by decide +kernel, by decide +kernel⟩, List.mem_of_getElem? (i := 14) (by decide +kernel), List.mem_of_getElem? (i := 145) (by decide +kernel), List.mem_of_getElem? (i := 146) (by decide +kernel)⟩
theorem lw_p3 : lw_okq (⟨"LearnedLedge", "mergePiece", "(I)V"⟩, 15) := ⟨⟨by decide +kernel, by decide +kernel⟩, List.mem_of_getElem? (i := 14) (by decide +kernel), List.mem_of_getElem? (i := 158) (by decide +kernel), List.mem_of_getElem? (i := 159) (by decide +kernel)⟩
theorem lw_p4 : lw_okq (⟨"LearnedLedge", "firstOf", "(I)I"⟩, 15) := ⟨⟨by decide +kernel, by decide +kernel⟩, List.mem_of_getElem? (i := 14) (by decide +kernel), List.mem_of_getElem? (i := 162) (by decide +kernel), List.mem_of_getElem? (i := 163) (by decide +kernel)⟩
theorem lw_p5 : lw_okq (⟨"LearnedLedge", "endOf", "(I)I"⟩, 15) := ⟨⟨by decide +kernel, by decide +kernel⟩, List.mem_of_getElem? (i := 14) (by decide +kernel), List.mem_of_getElem? (i := 172) (by decide +kernel), List.mem_of_getElem? (i := 173) (by decide +kernel)⟩
theorem lw_p6 : lw_okq (⟨"LearnedLedge", "clearRow", "()V"⟩, 15) := ⟨⟨by decide +kernel, by decide +kernel⟩, List.mem_of_getElem? (i := 14) (by decide +kernel), List.mem_of_getElem? (i := 176) (by decide +kernel), List.mem_of_getElem? (i := 177) (by decide +kernel)⟩
theorem lw_p7 : lw_okq (⟨"LearnedLedge", "clearPieces", "()V"⟩, 15) := ⟨⟨by decide +kernel, by decide +kernel⟩, List.mem_of_getElem? (i := 14) (by decide +kernel), List.mem_of_getElem? (i := 180) (by decide +kernel), List.mem_of_getElem? (i := 181) (by decide +kernel)⟩
theorem lw_p8 : lw_okq (⟨"LearnedLedge", "joinFresh", "()V"⟩, 15) := ⟨⟨by decide +kernel, by decide +kernel⟩, List.mem_of_getElem? (i := 14) (by decide +kernel), List.mem_of_getElem? (i := 184) (by decide +kernel), List.mem_of_getElem? (i := 185) (by decide +kernel)⟩
theorem lw_p9 : lw_okq (⟨"LearnedLedge", "tailTakes", "(II)Z"⟩, 15) := ⟨⟨by decide +kernel, by decide +kernel⟩, List.mem_of_getElem? (i := 14) (by decide +kernel), List.mem_of_getElem? (i := 188) (by decide +kernel), List.mem_of_getElem? (i := 189) (by decide +kernel)⟩
theorem lw_p10 : lw_okq (⟨"LearnedLedge", "beginPiece", "(II)V"⟩, 15) := ⟨⟨by decide +kernel, by decide +kernel⟩, List.mem_of_getElem? (i := 14) (by decide +kernel), List.mem_of_getElem? (i := 192) (by decide +kernel), List.mem_of_getElem? (i := 193) (by decide +kernel)⟩
theorem lw_p11 : lw_okq (⟨"LearnedLedge$SlopeRange", "divisor", "()J"⟩, 7) := ⟨⟨by decide +kernel, by decide +kernel⟩, List.mem_of_getElem? (i := 39) (by decide +kernel), List.mem_of_getElem? (i := 200) (by decide +kernel), List.mem_of_getElem? (i := 201) (by decide +kernel)⟩
theorem lw_p12 : lw_okq (⟨"LearnedLedge", "noteTailSlope", "()V"⟩, 15) := ⟨⟨by decide +kernel, by decide +kernel⟩, List.mem_of_getElem? (i := 14) (by decide +kernel), List.mem_of_getElem? (i := 208) (by decide +kernel), List.mem_of_getElem? (i := 209) (by decide +kernel)⟩
theorem lw_p13 : lw_okq (⟨"LearnedLedge", "keysThere", "()I"⟩, 15) := ⟨⟨by decide +kernel, by decide +kernel⟩, List.mem_of_getElem? (i := 14) (by decide +kernel), List.mem_of_getElem? (i := 220) (by decide +kernel), List.mem_of_getElem? (i := 221) (by decide +kernel)⟩
theorem lw_p14 : lw_okq (⟨"LearnedLedge", "allKeys", "()I"⟩, 15) := ⟨⟨by decide +kernel, by decide +kernel⟩, List.mem_of_getElem? (i := 14) (by decide +kernel), List.mem_of_getElem? (i := 224) (by decide +kernel), List.mem_of_getElem? (i := 225) (by decide +kernel)⟩
theorem lw_p15 : lw_okq (⟨"LearnedLedge", "isThere", "(I)Z"⟩, 15) := ⟨⟨by decide +kernel, by decide +kernel⟩, List.mem_of_getElem? (i := 14) (by decide +kernel), List.mem_of_getElem? (i := 232) (by decide +kernel), List.mem_of_getElem? (i := 233) (by decide +kernel)⟩
def lw_privs_1 : List (MethodName × Nat) := [(⟨"LearnedLedge", "mergeAll", "()V"⟩, 15), (⟨"LearnedLedge", "gather", "(IIII)Z"⟩, 15), (⟨"LearnedLedge", "cutFresh", "(I)V"⟩, 15), (⟨"LearnedLedge", "mergePiece", "(I)V"⟩, 15), (⟨"LearnedLedge", "firstOf", "(I)I"⟩, 15), (⟨"LearnedLedge", "endOf", "(I)I"⟩, 15), (⟨"LearnedLedge", "clearRow", "()V"⟩, 15), (⟨"LearnedLedge", "clearPieces", "()V"⟩, 15), (⟨"LearnedLedge", "joinFresh", "()V"⟩, 15), (⟨"LearnedLedge", "tailTakes", "(II)Z"⟩, 15), (⟨"LearnedLedge", "beginPiece", "(II)V"⟩, 15), (⟨"LearnedLedge$SlopeRange", "divisor", "()J"⟩, 7), (⟨"LearnedLedge", "noteTailSlope", "()V"⟩, 15), (⟨"LearnedLedge", "keysThere", "()I"⟩, 15), (⟨"LearnedLedge", "allKeys", "()I"⟩, 15), (⟨"LearnedLedge", "isThere", "(I)Z"⟩, 15)]
theorem lw_r1 : ∀ q ∈ lw_privs_1, lw_okq q := List.forall_mem_cons.mpr ⟨lw_p0, List.forall_mem_cons.mpr ⟨lw_p1, List.forall_mem_cons.mpr ⟨lw_p2, List.forall_mem_cons.mpr ⟨lw_p3, List.forall_mem_cons.mpr ⟨lw_p4, List.forall_mem_cons.mpr ⟨lw_p5, List.forall_mem_cons.mpr ⟨lw_p6, List.forall_mem_cons.mpr ⟨lw_p7, List.forall_mem_cons.mpr ⟨lw_p8, List.forall_mem_cons.mpr ⟨lw_p9, List.forall_mem_cons.mpr ⟨lw_p10, List.forall_mem_cons.mpr ⟨lw_p11, List.forall_mem_cons.mpr ⟨lw_p12, List.forall_mem_cons.mpr ⟨lw_p13, List.forall_mem_cons.mpr ⟨lw_p14, List.forall_mem_cons.mpr ⟨lw_p15, fun _ h => absurd h List.not_mem_nil⟩⟩⟩⟩⟩⟩⟩⟩⟩⟩⟩⟩⟩⟩⟩⟩
theorem lw_p16 : lw_okq (⟨"LearnedLedge", "thereBelow", "(I)I"⟩, 15) := ⟨⟨by decide +kernel, by decide +kernel⟩, List.mem_of_getElem? (i := 14) (by decide +kernel), List.mem_of_getElem? (i := 245) (by decide +kernel), List.mem_of_getElem? (i := 246) (by decide +kernel)⟩
theorem lw_p17 : lw_okq (⟨"LearnedLedge", "guessBy", "(II)J"⟩, 15) := ⟨⟨by decide +kernel, by decide +kernel⟩, List.mem_of_getElem? (i := 14) (by decide +kernel), List.mem_of_getElem? (i := 261) (by decide +kernel), List.mem_of_getElem? (i := 262) (by decide +kernel)⟩
theorem lw_p18 : lw_okq (⟨"LearnedLedge", "firstAlike", "(I)I"⟩, 15) := ⟨⟨by decide +kernel, by decide +kernel⟩, List.mem_of_getElem? (i := 14) (by decide +kernel), List.mem_of_getElem? (i := 283) (by decide +kernel), List.mem_of_getElem? (i := 284) (by decide +kernel)⟩
theorem lw_p19 : lw_okq (⟨"LearnedLedge", "alike", "(II)Z"⟩, 15) := ⟨⟨by decide +kernel, by decide +kernel⟩, List.mem_of_getElem? (i := 14) (by decide +kernel), List.mem_of_getElem? (i := 287) (by decide +kernel), List.mem_of_getElem? (i := 288) (by decide +kernel)⟩
theorem lw_p20 : lw_okq (⟨"LearnedLedge", "alikeFrom", "(I)I"⟩, 15) := ⟨⟨by decide +kernel, by decide +kernel⟩, List.mem_of_getElem? (i := 14) (by decide +kernel), List.mem_of_getElem? (i := 295) (by decide +kernel), List.mem_of_getElem? (i := 296) (by decide +kernel)⟩
theorem lw_p21 : lw_okq (⟨"java/lang/Throwable", "fillInStackTrace", "(I)Ljava/lang/Throwable;"⟩, 6) := ⟨⟨by decide +kernel, by decide +kernel⟩, List.mem_of_getElem? (i := 376) (by decide +kernel), List.mem_of_getElem? (i := 374) (by decide +kernel), List.mem_of_getElem? (i := 375) (by decide +kernel)⟩
theorem lw_p22 : lw_okq (⟨"LearnedLedge", "needToFollow", "(II)V"⟩, 15) := ⟨⟨by decide +kernel, by decide +kernel⟩, List.mem_of_getElem? (i := 14) (by decide +kernel), List.mem_of_getElem? (i := 406) (by decide +kernel), List.mem_of_getElem? (i := 407) (by decide +kernel)⟩
theorem lw_p23 : lw_okq (⟨"LearnedLedge", "addLast", "(I)V"⟩, 15) := ⟨⟨by decide +kernel, by decide +kernel⟩, List.mem_of_getElem? (i := 14) (by decide +kernel), List.mem_of_getElem? (i := 426) (by decide +kernel), List.mem_of_getElem? (i := 427) (by decide +kernel)⟩
theorem lw_p24 : lw_okq (⟨"LearnedLedge", "addLate", "(I)V"⟩, 15) := ⟨⟨by decide +kernel, by decide +kernel⟩, List.mem_of_getElem? (i := 14) (by decide +kernel), List.mem_of_getElem? (i := 446) (by decide +kernel), List.mem_of_getElem? (i := 447) (by decide +kernel)⟩
theorem lw_p25 : lw_okq (⟨"LearnedLedge", "gatherAll", "()V"⟩, 15) := ⟨⟨by decide +kernel, by decide +kernel⟩, List.mem_of_getElem? (i := 14) (by decide +kernel), List.mem_of_getElem? (i := 492) (by decide +kernel), List.mem_of_getElem? (i := 493) (by decide +kernel)⟩
theorem lw_p26 : lw_okq (⟨"LearnedLedge", "keyThere", "(I)I"⟩, 15) := ⟨⟨by decide +kernel, by decide +kernel⟩, List.mem_of_getElem? (i := 14) (by decide +kernel), List.mem_of_getElem? (i := 520) (by decide +kernel), List.mem_of_getElem? (i := 521) (by decide +kernel)⟩
theorem lw_p27 : lw_okq (⟨"LearnedLedge", "pieceOf", "(I)I"⟩, 15) := ⟨⟨by decide +kernel, by decide +kernel⟩, List.mem_of_getElem? (i := 14) (by decide +kernel), List.mem_of_getElem? (i := 539) (by decide +kernel), List.mem_of_getElem? (i := 540) (by decide +kernel)⟩
theorem lw_p28 : lw_okq (⟨"LearnedLedge", "looksBy", "(II)I"⟩, 15) := ⟨⟨by decide +kernel, by decide +kernel⟩, List.mem_of_getElem? (i := 14) (by decide +kernel), List.mem_of_getElem? (i := 550) (by decide +kernel), List.mem_of_getElem? (i := 551) (by decide +kernel)⟩
theorem lw_p29 : lw_okq (⟨"LearnedLedge", "needPiece", "(I)V"⟩, 15) := ⟨⟨by decide +kernel, by decide +kernel⟩, List.mem_of_getElem? (i := 14) (by decide +kernel), List.mem_of_getElem? (i := 564) (by decide +kernel), List.mem_of_getElem? (i := 565) (by decide +kernel)⟩
theorem lw_p30 : lw_okq (⟨"LearnedLedgeModel", "many", "()I"⟩, 18) := ⟨⟨by decide +kernel, by decide +kernel⟩, List.mem_of_getElem? (i := 590) (by decide +kernel), List.mem_of_getElem? (i := 665) (by decide +kernel), List.mem_of_getElem? (i := 666) (by decide +kernel)⟩
theorem lw_p31 : lw_okq (⟨"LearnedLedgeModel", "isAbove", "(I)Z"⟩, 18) := ⟨⟨by decide +kernel, by decide +kernel⟩, List.mem_of_getElem? (i := 590) (by decide +kernel), List.mem_of_getElem? (i := 669) (by decide +kernel), List.mem_of_getElem? (i := 670) (by decide +kernel)⟩
def lw_privs_2 : List (MethodName × Nat) := [(⟨"LearnedLedge", "thereBelow", "(I)I"⟩, 15), (⟨"LearnedLedge", "guessBy", "(II)J"⟩, 15), (⟨"LearnedLedge", "firstAlike", "(I)I"⟩, 15), (⟨"LearnedLedge", "alike", "(II)Z"⟩, 15), (⟨"LearnedLedge", "alikeFrom", "(I)I"⟩, 15), (⟨"java/lang/Throwable", "fillInStackTrace", "(I)Ljava/lang/Throwable;"⟩, 6), (⟨"LearnedLedge", "needToFollow", "(II)V"⟩, 15), (⟨"LearnedLedge", "addLast", "(I)V"⟩, 15), (⟨"LearnedLedge", "addLate", "(I)V"⟩, 15), (⟨"LearnedLedge", "gatherAll", "()V"⟩, 15), (⟨"LearnedLedge", "keyThere", "(I)I"⟩, 15), (⟨"LearnedLedge", "pieceOf", "(I)I"⟩, 15), (⟨"LearnedLedge", "looksBy", "(II)I"⟩, 15), (⟨"LearnedLedge", "needPiece", "(I)V"⟩, 15), (⟨"LearnedLedgeModel", "many", "()I"⟩, 18), (⟨"LearnedLedgeModel", "isAbove", "(I)Z"⟩, 18)]
theorem lw_r2 : ∀ q ∈ lw_privs_2, lw_okq q := List.forall_mem_cons.mpr ⟨lw_p16, List.forall_mem_cons.mpr ⟨lw_p17, List.forall_mem_cons.mpr ⟨lw_p18, List.forall_mem_cons.mpr ⟨lw_p19, List.forall_mem_cons.mpr ⟨lw_p20, List.forall_mem_cons.mpr ⟨lw_p21, List.forall_mem_cons.mpr ⟨lw_p22, List.forall_mem_cons.mpr ⟨lw_p23, List.forall_mem_cons.mpr ⟨lw_p24, List.forall_mem_cons.mpr ⟨lw_p25, List.forall_mem_cons.mpr ⟨lw_p26, List.forall_mem_cons.mpr ⟨lw_p27, List.forall_mem_cons.mpr ⟨lw_p28, List.forall_mem_cons.mpr ⟨lw_p29, List.forall_mem_cons.mpr ⟨lw_p30, List.forall_mem_cons.mpr ⟨lw_p31, fun _ h => absurd h List.not_mem_nil⟩⟩⟩⟩⟩⟩⟩⟩⟩⟩⟩⟩⟩⟩⟩⟩
theorem lw_p32 : lw_okq (⟨"LearnedLedgeModel", "ends", "(I)V"⟩, 18) := ⟨⟨by decide +kernel, by decide +kernel⟩, List.mem_of_getElem? (i := 590) (by decide +kernel), List.mem_of_getElem? (i := 673) (by decide +kernel), List.mem_of_getElem? (i := 674) (by decide +kernel)⟩
theorem lw_p33 : lw_okq (⟨"LearnedLedgeModel", "fits", "([III)Z"⟩, 18) := ⟨⟨by decide +kernel, by decide +kernel⟩, List.mem_of_getElem? (i := 590) (by decide +kernel), List.mem_of_getElem? (i := 677) (by decide +kernel), List.mem_of_getElem? (i := 678) (by decide +kernel)⟩
theorem lw_p34 : lw_okq (⟨"LearnedLedgeModel", "isInRow", "(I)Z"⟩, 18) := ⟨⟨by decide +kernel, by decide +kernel⟩, List.mem_of_getElem? (i := 590) (by decide +kernel), List.mem_of_getElem? (i := 689) (by decide +kernel), List.mem_of_getElem? (i := 690) (by decide +kernel)⟩
theorem lw_p35 : lw_okq (⟨"LearnedLedgeModel", "placeOf", "(I)I"⟩, 18) := ⟨⟨by decide +kernel, by decide +kernel⟩, List.mem_of_getElem? (i := 590) (by decide +kernel), List.mem_of_getElem? (i := 693) (by decide +kernel), List.mem_of_getElem? (i := 694) (by decide +kernel)⟩
theorem lw_p36 : lw_okq (⟨"LearnedLedgeModel", "isThere", "(I)Z"⟩, 18) := ⟨⟨by decide +kernel, by decide +kernel⟩, List.mem_of_getElem? (i := 590) (by decide +kernel), List.mem_of_getElem? (i := 697) (by decide +kernel), List.mem_of_getElem? (i := 698) (by decide +kernel)⟩
theorem lw_p37 : lw_okq (⟨"LearnedLedgeModel", "isBuffered", "(I)Z"⟩, 18) := ⟨⟨by decide +kernel, by decide +kernel⟩, List.mem_of_getElem? (i := 590) (by decide +kernel), List.mem_of_getElem? (i := 701) (by decide +kernel), List.mem_of_getElem? (i := 702) (by decide +kernel)⟩
theorem lw_p38 : lw_okq (⟨"LearnedLedgeModel", "mergesAll", "()V"⟩, 18) := ⟨⟨by decide +kernel, by decide +kernel⟩, List.mem_of_getElem? (i := 590) (by decide +kernel), List.mem_of_getElem? (i := 705) (by decide +kernel), List.mem_of_getElem? (i := 706) (by decide +kernel)⟩
theorem lw_p39 : lw_okq (⟨"LearnedLedgeModel", "gathers", "(I)Z"⟩, 18) := ⟨⟨by decide +kernel, by decide +kernel⟩, List.mem_of_getElem? (i := 590) (by decide +kernel), List.mem_of_getElem? (i := 709) (by decide +kernel), List.mem_of_getElem? (i := 710) (by decide +kernel)⟩
theorem lw_p40 : lw_okq (⟨"LearnedLedgeModel", "behind", "(I)I"⟩, 18) := ⟨⟨by decide +kernel, by decide +kernel⟩, List.mem_of_getElem? (i := 590) (by decide +kernel), List.mem_of_getElem? (i := 713) (by decide +kernel), List.mem_of_getElem? (i := 714) (by decide +kernel)⟩
theorem lw_p41 : lw_okq (⟨"LearnedLedgeModel", "makes", "(I)V"⟩, 18) := ⟨⟨by decide +kernel, by decide +kernel⟩, List.mem_of_getElem? (i := 590) (by decide +kernel), List.mem_of_getElem? (i := 717) (by decide +kernel), List.mem_of_getElem? (i := 718) (by decide +kernel)⟩
theorem lw_p42 : lw_okq (⟨"LearnedLedgeModel", "pieceOf", "(I)I"⟩, 18) := ⟨⟨by decide +kernel, by decide +kernel⟩, List.mem_of_getElem? (i := 590) (by decide +kernel), List.mem_of_getElem? (i := 721) (by decide +kernel), List.mem_of_getElem? (i := 722) (by decide +kernel)⟩
theorem lw_p43 : lw_okq (⟨"LearnedLedgeModel", "cuts", "(II)I"⟩, 18) := ⟨⟨by decide +kernel, by decide +kernel⟩, List.mem_of_getElem? (i := 590) (by decide +kernel), List.mem_of_getElem? (i := 725) (by decide +kernel), List.mem_of_getElem? (i := 726) (by decide +kernel)⟩
theorem lw_p44 : lw_okq (⟨"LearnedLedgeModel", "becomes", "(I)V"⟩, 18) := ⟨⟨by decide +kernel, by decide +kernel⟩, List.mem_of_getElem? (i := 590) (by decide +kernel), List.mem_of_getElem? (i := 729) (by decide +kernel), List.mem_of_getElem? (i := 730) (by decide +kernel)⟩
theorem lw_p45 : lw_okq (⟨"LearnedLedgeModel", "joinsPieces", "()V"⟩, 18) := ⟨⟨by decide +kernel, by decide +kernel⟩, List.mem_of_getElem? (i := 590) (by decide +kernel), List.mem_of_getElem? (i := 733) (by decide +kernel), List.mem_of_getElem? (i := 734) (by decide +kernel)⟩
theorem lw_p46 : lw_okq (⟨"LearnedLedgeModel", "keys", "()I"⟩, 18) := ⟨⟨by decide +kernel, by decide +kernel⟩, List.mem_of_getElem? (i := 590) (by decide +kernel), List.mem_of_getElem? (i := 741) (by decide +kernel), List.mem_of_getElem? (i := 742) (by decide +kernel)⟩
theorem lw_p47 : lw_okq (⟨"LearnedLedgeModel", "below", "(J)I"⟩, 18) := ⟨⟨by decide +kernel, by decide +kernel⟩, List.mem_of_getElem? (i := 590) (by decide +kernel), List.mem_of_getElem? (i := 746) (by decide +kernel), List.mem_of_getElem? (i := 747) (by decide +kernel)⟩
def lw_privs_3 : List (MethodName × Nat) := [(⟨"LearnedLedgeModel", "ends", "(I)V"⟩, 18), (⟨"LearnedLedgeModel", "fits", "([III)Z"⟩, 18), (⟨"LearnedLedgeModel", "isInRow", "(I)Z"⟩, 18), (⟨"LearnedLedgeModel", "placeOf", "(I)I"⟩, 18), (⟨"LearnedLedgeModel", "isThere", "(I)Z"⟩, 18), (⟨"LearnedLedgeModel", "isBuffered", "(I)Z"⟩, 18), (⟨"LearnedLedgeModel", "mergesAll", "()V"⟩, 18), (⟨"LearnedLedgeModel", "gathers", "(I)Z"⟩, 18), (⟨"LearnedLedgeModel", "behind", "(I)I"⟩, 18), (⟨"LearnedLedgeModel", "makes", "(I)V"⟩, 18), (⟨"LearnedLedgeModel", "pieceOf", "(I)I"⟩, 18), (⟨"LearnedLedgeModel", "cuts", "(II)I"⟩, 18), (⟨"LearnedLedgeModel", "becomes", "(I)V"⟩, 18), (⟨"LearnedLedgeModel", "joinsPieces", "()V"⟩, 18), (⟨"LearnedLedgeModel", "keys", "()I"⟩, 18), (⟨"LearnedLedgeModel", "below", "(J)I"⟩, 18)]
theorem lw_r3 : ∀ q ∈ lw_privs_3, lw_okq q := List.forall_mem_cons.mpr ⟨lw_p32, List.forall_mem_cons.mpr ⟨lw_p33, List.forall_mem_cons.mpr ⟨lw_p34, List.forall_mem_cons.mpr ⟨lw_p35, List.forall_mem_cons.mpr ⟨lw_p36, List.forall_mem_cons.mpr ⟨lw_p37, List.forall_mem_cons.mpr ⟨lw_p38, List.forall_mem_cons.mpr ⟨lw_p39, List.forall_mem_cons.mpr ⟨lw_p40, List.forall_mem_cons.mpr ⟨lw_p41, List.forall_mem_cons.mpr ⟨lw_p42, List.forall_mem_cons.mpr ⟨lw_p43, List.forall_mem_cons.mpr ⟨lw_p44, List.forall_mem_cons.mpr ⟨lw_p45, List.forall_mem_cons.mpr ⟨lw_p46, List.forall_mem_cons.mpr ⟨lw_p47, fun _ h => absurd h List.not_mem_nil⟩⟩⟩⟩⟩⟩⟩⟩⟩⟩⟩⟩⟩⟩⟩⟩
theorem lw_p48 : lw_okq (⟨"LearnedLedgeModel", "behindSo", "(I)I"⟩, 18) := ⟨⟨by decide +kernel, by decide +kernel⟩, List.mem_of_getElem? (i := 590) (by decide +kernel), List.mem_of_getElem? (i := 774) (by decide +kernel), List.mem_of_getElem? (i := 775) (by decide +kernel)⟩
theorem lw_p49 : lw_okq (⟨"LearnedLedgeModel", "guessOf", "(II)J"⟩, 18) := ⟨⟨by decide +kernel, by decide +kernel⟩, List.mem_of_getElem? (i := 590) (by decide +kernel), List.mem_of_getElem? (i := 795) (by decide +kernel), List.mem_of_getElem? (i := 796) (by decide +kernel)⟩
theorem lw_p50 : lw_okq (⟨"LearnedLedgeModel", "lays", "(I)V"⟩, 18) := ⟨⟨by decide +kernel, by decide +kernel⟩, List.mem_of_getElem? (i := 590) (by decide +kernel), List.mem_of_getElem? (i := 799) (by decide +kernel), List.mem_of_getElem? (i := 800) (by decide +kernel)⟩
theorem lw_p51 : lw_okq (⟨"LearnedLedgeModel", "asks", "(I)Z"⟩, 18) := ⟨⟨by decide +kernel, by decide +kernel⟩, List.mem_of_getElem? (i := 590) (by decide +kernel), List.mem_of_getElem? (i := 823) (by decide +kernel), List.mem_of_getElem? (i := 824) (by decide +kernel)⟩
theorem lw_p52 : lw_okq (⟨"LearnedLedgeModel", "riseOf", "(I)I"⟩, 18) := ⟨⟨by decide +kernel, by decide +kernel⟩, List.mem_of_getElem? (i := 590) (by decide +kernel), List.mem_of_getElem? (i := 835) (by decide +kernel), List.mem_of_getElem? (i := 836) (by decide +kernel)⟩
theorem lw_p53 : lw_okq (⟨"LearnedLedgeModel", "runOf", "(I)I"⟩, 18) := ⟨⟨by decide +kernel, by decide +kernel⟩, List.mem_of_getElem? (i := 590) (by decide +kernel), List.mem_of_getElem? (i := 843) (by decide +kernel), List.mem_of_getElem? (i := 844) (by decide +kernel)⟩
theorem lw_p54 : lw_okq (⟨"LearnedLedgeModel", "alike", "(II)I"⟩, 18) := ⟨⟨by decide +kernel, by decide +kernel⟩, List.mem_of_getElem? (i := 590) (by decide +kernel), List.mem_of_getElem? (i := 851) (by decide +kernel), List.mem_of_getElem? (i := 852) (by decide +kernel)⟩
def lw_privs_4 : List (MethodName × Nat) := [(⟨"LearnedLedgeModel", "behindSo", "(I)I"⟩, 18), (⟨"LearnedLedgeModel", "guessOf", "(II)J"⟩, 18), (⟨"LearnedLedgeModel", "lays", "(I)V"⟩, 18), (⟨"LearnedLedgeModel", "asks", "(I)Z"⟩, 18), (⟨"LearnedLedgeModel", "riseOf", "(I)I"⟩, 18), (⟨"LearnedLedgeModel", "runOf", "(I)I"⟩, 18), (⟨"LearnedLedgeModel", "alike", "(II)I"⟩, 18)]
theorem lw_r4 : ∀ q ∈ lw_privs_4, lw_okq q := List.forall_mem_cons.mpr ⟨lw_p48, List.forall_mem_cons.mpr ⟨lw_p49, List.forall_mem_cons.mpr ⟨lw_p50, List.forall_mem_cons.mpr ⟨lw_p51, List.forall_mem_cons.mpr ⟨lw_p52, List.forall_mem_cons.mpr ⟨lw_p53, List.forall_mem_cons.mpr ⟨lw_p54, fun _ h => absurd h List.not_mem_nil⟩⟩⟩⟩⟩⟩⟩
def lw_privs : List (MethodName × Nat) := lw_privs_1 ++ (lw_privs_2 ++ (lw_privs_3 ++ (lw_privs_4)))
def lw_tbl : List Cond := k2_sels lw_privs ++ tables_1
theorem lw_privs_ok : ∀ q ∈ lw_privs, lw_okq q := by
  show ∀ q ∈ lw_privs_1 ++ (lw_privs_2 ++ (lw_privs_3 ++ (lw_privs_4))), lw_okq q
  exact List.forall_mem_append.mpr ⟨lw_r1, List.forall_mem_append.mpr ⟨lw_r2, List.forall_mem_append.mpr ⟨lw_r3, lw_r4⟩⟩⟩
end
section
/-! ===== BEGIN words of one list among another's, by their places ===== -/
theorem goodIn_r {big : List Cond} (ws : List Cond) (ps : List Nat) (hp : ws = ps.filterMap (fun i => big[i]?)) (h : ws.all goodWord = true) : GoodIn big ws := by
  intro w hw
  have h1 := List.all_eq_true.mp h w hw
  rw [hp] at hw
  obtain ⟨i, -, hi⟩ := List.mem_filterMap.mp hw
  have hm : w ∈ big := by first | exact List.mem_of_getElem? hi | exact List.getElem?_mem hi
  exact ⟨hm, good_of_word h1⟩
theorem goodIn_app {big a b : List Cond} (ha : GoodIn big a) (hb : GoodIn big b) : GoodIn big (a ++ b) := fun w h => (List.mem_append.mp h).elim (ha w) (hb w)
theorem goodIn_ca {big a b : List Cond} {c : Cond} (ha : GoodIn big (c :: a)) (hb : GoodIn big b) : GoodIn big (c :: (a ++ b)) := fun w h => (List.mem_cons.mp h).elim (fun e => ha w (List.mem_cons.mpr (Or.inl e))) (fun h => (List.mem_append.mp h).elim (fun h => ha w (List.mem_cons.mpr (Or.inr h))) (hb w))
theorem goodIn_sub {big ws : List Cond} (hm : ∀ w ∈ ws, w ∈ big) (h : ws.all goodWord = true) : GoodIn big ws := fun w hw => ⟨hm w hw, good_of_word (List.all_eq_true.mp h w hw)⟩
/-! ===== END ===== -/

/-! ===== BEGIN exceptions that leave a method, and their catching by the caller (launches without stack traces) ===== -/
section VXA
/-! The laws vx_back, vx_callV, vx_callS, vx_callSW, vx_throw0, vx_throwS follow proofs of the library, with one case more: JvmDerived/Free/Laws.lean (Back.of_free), Shelf42/LK1.lean (callV, callS), Shelf/KitTraced.lean (throwNew0V, throwNewS). -/
/-- where a method has thrown q: the class by its name, the cell, what was written, the world -/
def vx_T (XC : String → State → State → Prop) (st : State) (q : Addr) (t : State) (mc ms : Nat) (free : Addr → Prop) : Prop :=
  ∃ (E : String) (ce : Cell) (L : List Loc), XC E st t ∧ t.heap[q]? = some ce ∧ ce.vm = .none ∧ st.vm.findClass E = some ce.cls ∧ st.WarmedH t.vm ∧ st.sameButNew ({ t with vm := st.vm } : State) L mc ms ∧ ∀ z ∈ L, free z.base
def vx_Q (Qc : Array Value → State → Outcome → State → Prop) (XC : String → State → State → Prop) (mc ms : Nat) (free : Addr → Prop) : Array Value → State → Outcome → State → Prop := fun a st o t =>
  (Qc a st o t ∧ ∃ L, FrameEnd st o t L mc ms ∧ ∀ q ∈ L, free q.base) ∨ ∃ q, o = .threw q ∧ vx_T XC st q t mc ms free
/-- a callee that returns or throws -/
def vx_Met (l : Launch) (y : MethodName) (ws : List Cond) (rm : Room) (Pc : Array Value → State → Prop) (Qc : Array Value → State → Outcome → State → Prop) (XC : String → State → State → Prop) (mc ms : Nat) (free : Addr → Prop) : Prop :=
  MetFree l y (headSpec ws rm) Pc (fun _ _ _ _ _ => True) (vx_Q Qc XC mc ms free)
def vx_Post (XC : String → State → State → Prop) (mc ms : Nat) (free : Addr → Prop) : Pt → Array Value → Addr → Pt → Prop := fun A a q B =>
  ∃ (g : JFrame) (mk : MethodId) (t : State) (L : List Loc) (E : String) (ce : Cell), B.U.heap = t.heap ∧ B.U.vm = t.vm ∧ XC E (A.U.calling g mk a) t ∧ t.heap[q]? = some ce ∧ ce.vm = .none ∧ A.U.vm.findClass E = some ce.cls ∧ B.locs = A.locs ++ L ∧ (∀ z ∈ L, free z.base) ∧ B.cells = A.cells + mc ∧ B.slots = A.slots + ms
def vx_Back (l : Launch) (R : Room) (p : Program) (e : Env) (below : List Frame) (s : State) (sargs : Array Value) (y : MethodName) (len W9 : Nat)
    (Pre : Pt → Array Value → Prop) (Post : Pt → Array Value → Option Value → Pt → Prop) (PostX : Pt → Array Value → Addr → Pt → Prop) : Prop :=
  ∀ (m : MethodId) (meth : Method) (c : Code) (A : Pt) (g : JFrame) (ig : Instr) (mk : MethodId) (a : Array Value),
    Stand p l e R s m sargs below meth c A.U A.locs A.cells A.slots → g.method = m → g.locals.size = c.maxLocals → decode c.code g.pc = .ok (ig, len) →
    2 * g.monitorRoom + (g.stack.map fun v => v.category).sum ≤ W9 → A.U.methodNamed? y = some mk → Pre A a →
    (∃ (v : Option Value) (B : Pt), Stand p l e R s m sargs below meth c B.U B.locs B.cells B.slots ∧ Post A a v B ∧
      Steps p.tables e below (doInvoke e (A.U.setTop g) [] mk a).1 (B.U.setTop { g with pc := g.pc + len, stack := v.toList ++ g.stack })) ∨
    (∃ (q : Addr) (B : Pt), Stand p l e R s m sargs below meth c B.U B.locs B.cells B.slots ∧ PostX A a q B ∧
      Steps p.tables e below (doInvoke e (A.U.setTop g) [] mk a).1 ((B.U.setTop g).pushFrame (.throwing q)))
section Payer
variable {l : Launch} {R : Room} {p : Program} {e : Env} {below : List Frame} {s : State} {sargs : Array Value} {y : MethodName} {len W9 : Nat}
theorem vx_back {ws : List Cond} {rm : Room} {Pc : Array Value → State → Prop} {Qc : Array Value → State → Outcome → State → Prop} {XC : String → State → State → Prop} {mc ms : Nat} {free : Addr → Prop} {bytes : ByteArray} {maxL : Nat} {ret : Option FieldType}
    (hM : vx_Met l y ws rm Pc Qc XC mc ms free) (hblind : FrameBlind Pc) (hrc : rm.cells = mc) (hrs : rm.slots = ms)
    (hframes : rm.frames + 1 ≤ R.frames) (hlocals : W9 + (maxL + 11) + rm.locals ≤ R.locals)
    (hws : ∀ w ∈ ws, ∀ a' U, s.WarmedH U.vm → w.before a' U = true) (hcode : Cond.code y bytes maxL ret ∈ ws) (hinit : ∀ a' U, s.WarmedH U.vm → (Cond.initialized y.cls).before a' U = true) :
    vx_Back l R p e below s sargs y len W9 (PreOf R mc ms Pc) (PostOf Qc mc ms free) (vx_Post XC mc ms free) := by
  intro m meth c A g ig mk a X hg hsize hdg hW hn hp
  have h1 : (headSpec ws rm).pre.before a A.U = true := atoms_intro fun w hw => hws w hw _ _ X.warmed
  have h2 : (Cond.code y bytes maxL ret).before a A.U = true := hws _ hcode _ _ X.warmed
  have h3 : (Cond.initialized y.cls).before a A.U = true := hinit _ _ X.warmed
  have h4 : A.cells + (headSpec ws rm).room.cells ≤ R.cells := by rw [show (headSpec ws rm).room.cells = mc from hrc]; exact hp.1
  have h5 : A.slots + (headSpec ws rm).room.slots ≤ R.slots := by rw [show (headSpec ws rm).room.slots = ms from hrs]; exact hp.2.1
  have hPc : Pc a (A.U.calling g mk a) := hblind _ _ _ _ hp.2.2
  obtain ⟨U, Ls, c0, s0⟩ := A
  dsimp only [Pt.U, Pt.locs, Pt.cells, Pt.slots] at h1 h2 h3 h4 h5 X hn hPc ⊢
  obtain ⟨methY, cY, hmY, hcY, -, hlY, -, -, -, -⟩ := Cond.code_spec hn h2
  obtain ⟨kY, hkY, -⟩ := className_of_methodNamed hn
  have hinitY : kY.init = .initialized := Cond.initialized_spec (findClass_of_methodNamed hn) hkY h3
  have h : At U g.method c below := by rw [hg]; exact X.here
  have hlocals9 : W9 + (maxL + 11) + (headSpec ws rm).room.locals ≤ R.locals := hlocals
  have happ : (headSpec ws rm).appliesLoose y e.platform (U.calling g mk a) = true :=
    Spec.appliesLoose_calling (g := g) h hdg hn hkY hinitY
      (X.room_calling (g := g) (R' := (headSpec ws rm).room) hsize hmY hcY hframes (by rw [hlY]; omega) h4 h5) h1
  obtain ⟨mid, hmid⟩ := h.above
  have hfr : (U.setTop g).frames = (.java g :: mid) ++ below := by rw [State.frames_setTop' g h.top, hmid]; rfl
  obtain ⟨o, s₂, hsteps, -, hend, hq⟩ := Steps.callFree hM p X.admits X.cas X.clock (acts := []) hfr happ hPc trivial
  have hq' : vx_Q Qc XC mc ms free a (U.calling g mk a) o s₂ := hq
  rw [State.frames_setTop' g h.top] at hend
  obtain ⟨g₀, hg0⟩ := Option.isSome_iff_exists.mp h.top
  obtain ⟨r, hr⟩ := State.topJava?_eq_some.mp hg0
  have hr' : (({ U with heap := s₂.heap, slotsUsed := s₂.slotsUsed } : State).setVm s₂.vm).frames = .java g₀ :: r := hr
  rcases hq' with ⟨hqc, L, hfe, hL⟩ | ⟨q, rfl, E, ce, L, hx, hce, hcv, hcl, hW₂, hsm, hL⟩
  · obtain ⟨⟨v, rfl⟩, hW₂, e2, q2, q3, q4, q5, q6⟩ := id hfe
    have e3 : s₂ = ({ (U.calling g mk a).setFrames s₂.frames with heap := s₂.heap, slotsUsed := s₂.slotsUsed } : State).setVm s₂.vm := by
      have : s₂ = ({ s₂ with vm := (U.calling g mk a).vm } : State).setVm s₂.vm := rfl
      rw [e2] at this
      exact this
    obtain ⟨c₂, i₂, len₂, hc₂, hd₂, hf₂⟩ := hend
    have hW' : U.WarmedH s₂.vm := hW₂
    have hcc : c₂ = c := by
      have h1 : s₂.code? g.method = U.code? g.method := by
        rw [State.code?_eq, State.code?_eq, hW'.alike.method?]
      exact Option.some.inj (hc₂.symm.trans (h1.trans h.code))
    subst hcc
    have hlen : len₂ = len := by rw [hdg] at hd₂; cases hd₂; rfl
    subst hlen
    have hs₂ : s₂ = (({ U with heap := s₂.heap, slotsUsed := s₂.slotsUsed } : State).setVm s₂.vm).setTop { g with pc := g.pc + len₂, stack := v.toList ++ g.stack } := by
      refine e3.trans ?_
      rw [hf₂, State.calling_eq h.top, State.setFrames_setFrames, State.setTop_of_frames _ hr', hr]
      rfl
    have hsame : U.sameButNew ({ U with heap := s₂.heap, slotsUsed := s₂.slotsUsed } : State) L mc ms := by
      refine ⟨?_, q2, q3, q4, q5, q6⟩
      obtain ⟨t, ht, -⟩ := State.frames_cons hr
      show ({ U with heap := s₂.heap, slotsUsed := s₂.slotsUsed } : State) = { U.setFrames U.frames with heap := s₂.heap, slotsUsed := s₂.slotsUsed }
      rw [State.setFrames_self ht]
    subst hg
    refine Or.inl ⟨v, ⟨(({ U with heap := s₂.heap, slotsUsed := s₂.slotsUsed } : State).setVm s₂.vm), Ls ++ L, c0 + mc, s0 + ms⟩,
      ⟨X.admits, X.cas, X.clock, X.frames, X.room, X.hears, X.method, X.code, (X.here.setHeapUsed s₂.heap s₂.slotsUsed).setVm hW'.alike, X.tail, State.WarmedH.trans X.warmed hW', X.limits, X.bytes, X.same.trans (hsame.setVm s.vm)⟩,
      ⟨g, mk, s₂, L, rfl, rfl, hqc, rfl, hL, rfl, rfl⟩, ?_⟩
    show Steps p.tables e below _ ((({ U with heap := s₂.heap, slotsUsed := s₂.slotsUsed } : State).setVm s₂.vm).setTop { g with pc := g.pc + len₂, stack := v.toList ++ g.stack })
    rw [← hs₂]
    exact hsteps
  · obtain ⟨e2, q2, q3, q4, q5, q6⟩ := id hsm
    have e3 : s₂ = ({ (U.calling g mk a).setFrames s₂.frames with heap := s₂.heap, slotsUsed := s₂.slotsUsed } : State).setVm s₂.vm := by
      have : s₂ = ({ s₂ with vm := (U.calling g mk a).vm } : State).setVm s₂.vm := rfl
      rw [e2] at this
      exact this
    have hf₂ : s₂.frames = .throwing q :: .java g :: U.frames.tail := hend
    have hW' : U.WarmedH s₂.vm := hW₂
    have hs₂ : s₂ = ((({ U with heap := s₂.heap, slotsUsed := s₂.slotsUsed } : State).setVm s₂.vm).setTop g).pushFrame (.throwing q) := by
      refine e3.trans ?_
      rw [hf₂, State.calling_eq h.top, State.setFrames_setFrames, State.pushFrame, State.frames_setTop _ hr', State.setTop_of_frames _ hr', State.setFrames_setFrames, hr]
      rfl
    have hsame : U.sameButNew ({ U with heap := s₂.heap, slotsUsed := s₂.slotsUsed } : State) L mc ms := by
      refine ⟨?_, q2, q3, q4, q5, q6⟩
      obtain ⟨t, ht, -⟩ := State.frames_cons hr
      show ({ U with heap := s₂.heap, slotsUsed := s₂.slotsUsed } : State) = { U.setFrames U.frames with heap := s₂.heap, slotsUsed := s₂.slotsUsed }
      rw [State.setFrames_self ht]
    subst hg
    refine Or.inr ⟨q, ⟨(({ U with heap := s₂.heap, slotsUsed := s₂.slotsUsed } : State).setVm s₂.vm), Ls ++ L, c0 + mc, s0 + ms⟩,
      ⟨X.admits, X.cas, X.clock, X.frames, X.room, X.hears, X.method, X.code, (X.here.setHeapUsed s₂.heap s₂.slotsUsed).setVm hW'.alike, X.tail, State.WarmedH.trans X.warmed hW', X.limits, X.bytes, X.same.trans (hsame.setVm s.vm)⟩,
      ⟨g, mk, s₂, L, E, ce, rfl, rfl, hx, hce, hcv, hcl, rfl, hL, rfl, rfl⟩, ?_⟩
    show Steps p.tables e below _ (((({ U with heap := s₂.heap, slotsUsed := s₂.slotsUsed } : State).setVm s₂.vm).setTop g).pushFrame (.throwing q))
    rw [← hs₂]
    exact hsteps
end Payer
section Calls
variable {p : Program} {l : Launch} {e : Env} {R : Room} {s : State} {m : MethodId} {args : Array Value} {below : List Frame} {meth : Method} {c : Code} {T : State} {locs : List Loc} {cells slots : Nat}
theorem vx_callV (X : Stand p l e R s m args below meth c T locs cells slots) (hexec : p.tables.exec = Jvm.exec) {own C : String} {index : Nat} {y : MethodName} {bytes : ByteArray} {maxL : Nat} {ret : Option FieldType}
    (hown : s.vm.findClass own = some m.cls) (hlink : (Cond.methodLink own index y).before args s = true) (hinst : (Cond.instanceMethod y).before args s = true) (hsel : (Cond.selects C y y).before args s = true)
    (hcode : (Cond.code y bytes maxL ret).before args s = true) (hy : y.cls ≠ "java/lang/invoke/MethodHandle" ∧ y.cls ≠ "java/lang/invoke/VarHandle")
    {W9 : Nat} {Pre : Pt → Array Value → Prop} {Post : Pt → Array Value → Option Value → Pt → Prop} {PostX : Pt → Array Value → Addr → Pt → Prop} (hK : vx_Back l R p e below s args y 3 W9 Pre Post PostX)
    {b : Addr} {cellB : Cell} (hcell : T.heap[b]? = some cellB) (hobj : cellB.vm.isStatics = false) (hcls : s.vm.findClass C = some cellB.cls)
    {g : JFrame} (hg : g.method = m) (hsize : g.locals.size = c.maxLocals) {argsL rest : List Value} (hlen : ∀ sig, parseMethodDescriptor y.desc = some sig → argsL.length = sig.parameters.length)
    (hstack : g.stack = argsL.reverse ++ .ref b :: rest) (hW : 2 * g.monitorRoom + (rest.map fun v => v.category).sum ≤ W9) (hdg : decode c.code g.pc = .ok (.invokevirtual index, 3))
    (hpre : ∀ vm₁, s.WarmedH vm₁ → Pre ⟨T.setVm vm₁, locs, cells, slots⟩ (Value.ref b :: argsL).toArray) :
    (∃ (v : Option Value) (vm₁ : Vm) (B : Pt), s.WarmedH vm₁ ∧ Stand p l e R s m args below meth c B.U B.locs B.cells B.slots ∧ Post ⟨T.setVm vm₁, locs, cells, slots⟩ (Value.ref b :: argsL).toArray v B ∧
      ∀ target, Steps p.tables e below (B.U.setTop { g with pc := g.pc + 3, stack := v.toList ++ rest }) target → Steps p.tables e below (T.setTop g) target) ∨
    (∃ (q : Addr) (vm₁ : Vm) (B : Pt), s.WarmedH vm₁ ∧ Stand p l e R s m args below meth c B.U B.locs B.cells B.slots ∧ PostX ⟨T.setVm vm₁, locs, cells, slots⟩ (Value.ref b :: argsL).toArray q B ∧
      Steps p.tables e below (T.setTop g) ((B.U.setTop { g with stack := rest }).pushFrame (.throwing q))) := by
  obtain ⟨mk, methM, hnamed, hmethM, hstM, habM⟩ := Cond.instanceMethod_spec hinst
  obtain ⟨methM', cM, hmethM', -, -, -, -, -, -, hsigM⟩ := Cond.code_spec hnamed hcode
  cases hmethM.symm.trans hmethM'
  obtain ⟨c2, r2, m2, q1, q2, q3, q4, kP, hkP, hkPi⟩ := Cond.selects_spec hsel
  cases hcls.symm.trans q1
  cases (State.methodFound?_of_named hnamed hy).symm.trans q2
  cases hnamed.symm.trans q3
  have hselP : selectMethod e.platform s.vm cellB.cls mk = .method mk := by rw [Launch.admits_selectMethod X.admits]; exact q4
  obtain ⟨vm₁, X₁, hstep₁⟩ := X.invokevirtual hexec hown hlink hnamed hmethM hstM hkP hkPi hy (a := b) (cell := cellB) hcell
    (fun z h => by rw [h] at hobj; cases hobj) hselP hmethM habM hkP hkPi (g := g) hg (argsL := argsL) (rest := rest) (hlen _ hsigM) hstack hdg
  rcases hK m meth c ⟨T.setVm vm₁, locs, cells, slots⟩ { g with stack := rest } (.invokevirtual index) mk (Value.ref b :: argsL).toArray X₁ hg hsize hdg hW (X₁.named hnamed) (hpre vm₁ X₁.warmed) with ⟨v, B, X', hpost, hsteps⟩ | ⟨q, B, X', hpost, hsteps⟩
  · exact Or.inl ⟨v, vm₁, B, X₁.warmed, X', hpost, fun target h => hstep₁ _ fun acts => by rw [doInvoke_state]; exact hsteps.trans h⟩
  · exact Or.inr ⟨q, vm₁, B, X₁.warmed, X', hpost, hstep₁ _ fun acts => by rw [doInvoke_state]; exact hsteps⟩
theorem vx_callS (X : Stand p l e R s m args below meth c T locs cells slots) (hexec : p.tables.exec = Jvm.exec) {own : String} {index : Nat} {y : MethodName} {bytes : ByteArray} {maxL : Nat} {ret : Option FieldType}
    (hown : s.vm.findClass own = some m.cls) (hlink : (Cond.methodLink own index y).before args s = true) (hstat : (Cond.static y).before args s = true) (hinit : (Cond.initialized y.cls).before args s = true)
    (hcode : (Cond.code y bytes maxL ret).before args s = true) (hy : y.cls ≠ "java/lang/invoke/MethodHandle" ∧ y.cls ≠ "java/lang/invoke/VarHandle")
    {W9 : Nat} {Pre : Pt → Array Value → Prop} {Post : Pt → Array Value → Option Value → Pt → Prop} {PostX : Pt → Array Value → Addr → Pt → Prop} (hK : vx_Back l R p e below s args y 3 W9 Pre Post PostX)
    {g : JFrame} (hg : g.method = m) (hsize : g.locals.size = c.maxLocals) {argsL rest : List Value} (hlen : ∀ sig, parseMethodDescriptor y.desc = some sig → argsL.length = sig.parameters.length)
    (hstack : g.stack = argsL.reverse ++ rest) (hW : 2 * g.monitorRoom + (rest.map fun v => v.category).sum ≤ W9) (hdg : decode c.code g.pc = .ok (.invokestatic index, 3))
    (hpre : ∀ vm₁, s.WarmedH vm₁ → Pre ⟨T.setVm vm₁, locs, cells, slots⟩ argsL.toArray) :
    (∃ (v : Option Value) (vm₁ : Vm) (B : Pt), s.WarmedH vm₁ ∧ Stand p l e R s m args below meth c B.U B.locs B.cells B.slots ∧ Post ⟨T.setVm vm₁, locs, cells, slots⟩ argsL.toArray v B ∧
      ∀ target, Steps p.tables e below (B.U.setTop { g with pc := g.pc + 3, stack := v.toList ++ rest }) target → Steps p.tables e below (T.setTop g) target) ∨
    (∃ (q : Addr) (vm₁ : Vm) (B : Pt), s.WarmedH vm₁ ∧ Stand p l e R s m args below meth c B.U B.locs B.cells B.slots ∧ PostX ⟨T.setVm vm₁, locs, cells, slots⟩ argsL.toArray q B ∧
      Steps p.tables e below (T.setTop g) ((B.U.setTop { g with stack := rest }).pushFrame (.throwing q))) := by
  obtain ⟨mk, hnamed⟩ := Cond.code_named hcode
  obtain ⟨methM, cM, hmethM, -, -, -, -, -, -, hsigM⟩ := Cond.code_spec hnamed hcode
  have hstatic : methM.isStatic = true := Cond.static_spec hnamed hmethM hstat
  obtain ⟨kP, hkP, -⟩ := className_of_methodNamed hnamed
  have hinitP : kP.init = .initialized := Cond.initialized_spec (findClass_of_methodNamed hnamed) hkP hinit
  obtain ⟨vm₁, X₁, hstep₁⟩ := X.invokestatic hexec hown hlink hnamed hmethM hstatic hkP hinitP hy (g := g) hg (argsL := argsL) (rest := rest) (hlen _ hsigM) hstack hdg
  rcases hK m meth c ⟨T.setVm vm₁, locs, cells, slots⟩ { g with stack := rest } (.invokestatic index) mk argsL.toArray X₁ hg hsize hdg hW (X₁.named hnamed) (hpre vm₁ X₁.warmed) with ⟨v, B, X', hpost, hsteps⟩ | ⟨q, B, X', hpost, hsteps⟩
  · exact Or.inl ⟨v, vm₁, B, X₁.warmed, X', hpost, fun target h => hstep₁ _ fun acts => by rw [doInvoke_state]; exact hsteps.trans h⟩
  · exact Or.inr ⟨q, vm₁, B, X₁.warmed, X', hpost, hstep₁ _ fun acts => by rw [doInvoke_state]; exact hsteps⟩
end Calls
theorem vx_cls {s : State} {T : State} {vm₁ : Vm} {E : String} {k : ClassId} (hW : s.WarmedH vm₁) (h : (T.setVm vm₁).vm.findClass E = some k) : s.vm.findClass E = some k := by
  have h1 : vm₁.findClass E = some k := h
  rw [hW.alike.findClass] at h1
  exact h1
/-- the method's frame g, with q thrown over it -/
def vx_W (p : Program) (l : Launch) (e : Env) (R : Room) (s : State) (m : MethodId) (args : Array Value) (below : List Frame) (meth : Method) (c : Code) (H : Heap) (locs : List Loc) (cells slots : Nat) (Q : State → Prop) (g : JFrame) (q : Addr) : Prop :=
  ∀ T : State, T.heap = H → Stand p l e R s m args below meth c T locs cells slots → ∃ t, Steps p.tables e below ((T.setTop g).pushFrame (.throwing q)) t ∧ Q t
def vx_Run (p : Program) (l : Launch) (e : Env) (R : Room) (s : State) (m : MethodId) (args : Array Value) (below : List Frame) (meth : Method) (c : Code) (H : Heap) (locs : List Loc) (cells slots mc ms : Nat) (g : JFrame) (rest : List Value) (Qa : State → Outcome → State → Prop) (XC : String → State → State → Prop) (free : Addr → Prop) : Prop :=
  ∀ T : State, T.heap = H → Stand p l e R s m args below meth c T locs cells slots →
    (∃ (v : Option Value) (st₀ t T' : State) (L : List Loc), st₀.heap = H ∧ Stand p l e R s m args below meth c T' (locs ++ L) (cells + mc) (slots + ms) ∧ (∀ q ∈ L, free q.base) ∧ T'.heap = t.heap ∧ T'.vm = t.vm ∧ Qa st₀ (.returned v) t ∧
      Goes p e below T g T' { g with pc := g.pc + 3, stack := v.toList ++ rest }) ∨
    (∃ (q : Addr) (st₀ t T' : State) (L : List Loc) (E : String) (ce : Cell), st₀.heap = H ∧ Stand p l e R s m args below meth c T' (locs ++ L) (cells + mc) (slots + ms) ∧ (∀ z ∈ L, free z.base) ∧ T'.heap = t.heap ∧ T'.vm = t.vm ∧ XC E st₀ t ∧ t.heap[q]? = some ce ∧ ce.vm = .none ∧ s.vm.findClass E = some ce.cls ∧
      Steps p.tables e below (T.setTop g) ((T'.setTop { g with stack := rest }).pushFrame (.throwing q)))
def vx_X {S : Type} (px : S → Prop) (B : String → S → State → Prop) (A : Nat → Prop) : String → State → State → Prop := fun E st t => ∃ u : S, px u ∧ B E u t ∧ va_F A st t
section Runs
variable {p : Program} {l : Launch} {e : Env} {R : Room} {s : State} {m : MethodId} {args : Array Value} {below : List Frame} {meth : Method} {c : Code} {H : Heap} {locs : List Loc} {cells slots : Nat}
variable {y : MethodName} {bytes cc : ByteArray} {maxL nL mc ms n index : Nat} {ret : Option FieldType} {ws : List Cond} {rm : Room} {Pc : Array Value → State → Prop} {Qc : Array Value → State → Outcome → State → Prop} {XC : String → State → State → Prop} {free : Addr → Prop} {Ts : List Cond} {own C : String} {b : Addr} {As rest : List Value} {g : JFrame}
theorem vx_callBack (cb : CallB R s args own index y bytes maxL ret ws rm mc ms n) (hM : vx_Met l y ws rm Pc Qc XC mc ms free) (hbl : FrameBlind Pc) : vx_Back l R p e below s args y 3 8 (PreOf R mc ms Pc) (PostOf Qc mc ms free) (vx_Post XC mc ms free) := by
  obtain ⟨hrc, hrs, hfr, hlo, hws, hcw, -, hini, -⟩ := cb
  exact vx_back (bytes := bytes) (maxL := maxL) (ret := ret) hM hbl hrc hrs hfr hlo hws hcw (fun a' U hW => word_at hW (Or.inl (by first | rfl | simp [Cond.onTables, Cond.keeps, Cond.steady])) hini)
theorem vx_runV (S : CallFix p m c cc nL s args Ts own) (hM : vx_Met l y ws rm Pc Qc XC mc ms free) (cw : CallW R s args own C index y bytes maxL ret ws rm mc ms n) (hp : PreV s H C b Pc As)
    (hg : g.method = m) (hn : As.length = n) (hsize : g.locals.size = nL) (hstack : g.stack = As.reverse ++ .ref b :: rest) (hW : 2 * g.monitorRoom + (rest.map fun v => v.category).sum ≤ 8) (hdg : decode cc g.pc = .ok (.invokevirtual index, 3)) (hf : cells + mc ≤ R.cells ∧ slots + ms ≤ R.slots) :
    vx_Run p l e R s m args below meth c H locs cells slots mc ms g rest (Qc (Value.ref b :: As).toArray) XC free := by
  have hK : vx_Back l R p e below s args y 3 8 (PreOf R mc ms Pc) (PostOf Qc mc ms free) (vx_Post XC mc ms free) := vx_callBack cw.1 hM hp.1
  obtain ⟨⟨-, -, -, -, -, -, hcode, -, hy, hlen, hl⟩, hin, hse⟩ := cw
  obtain ⟨hx, hb, hml, ho, -⟩ := S
  obtain ⟨-, ⟨cellB, hcB, hoB, hclB⟩, hPc⟩ := hp
  intro T hT X
  rcases vx_callV X hx (C := C) (bytes := bytes) (maxL := maxL) (ret := ret) ho hl hin hse hcode hy hK (by rw [hT]; exact hcB) hoB hclB hg (hsize.trans hml.symm) (argsL := As) (rest := rest) (fun sig h => hn.trans (hlen sig h)) hstack hW (by rw [hb]; exact hdg)
    (fun vm₁ hW₁ => ⟨hf.1, hf.2, hPc (T.setVm vm₁) hT hW₁⟩) with ⟨v, vm₁, ⟨U', l2, c2, s2⟩, hW₁, X', ⟨g', mk, t, L, e1, e2, hq, h1, hL, h2, h3⟩, st⟩ | ⟨q, vm₁, ⟨U', l2, c2, s2⟩, hW₁, X', ⟨g', mk, t, L, E, ce, e1, e2, hq, hce, hcv, hcl, h1, hL, h2, h3⟩, st⟩
  · dsimp only [Pt.U, Pt.locs, Pt.cells, Pt.slots] at X' e1 e2 h1 h2 h3 st
    subst h1; subst h2; subst h3
    exact Or.inl ⟨v, (T.setVm vm₁).calling g' mk (Value.ref b :: As).toArray, t, U', L, hT, X', hL, e1, e2, hq, st⟩
  · dsimp only [Pt.U, Pt.locs, Pt.cells, Pt.slots] at X' e1 e2 h1 h2 h3 st hcl
    subst h1; subst h2; subst h3
    exact Or.inr ⟨q, (T.setVm vm₁).calling g' mk (Value.ref b :: As).toArray, t, U', L, E, ce, hT, X', hL, e1, e2, hq, hce, hcv, vx_cls hW₁ hcl, st⟩
theorem vx_runS (S : CallFix p m c cc nL s args Ts own) (hM : vx_Met l y ws rm Pc Qc XC mc ms free) (cw : CallB R s args own index y bytes maxL ret ws rm mc ms n ∧ (Cond.static y).before args s = true) (hp : PreS s H Pc As)
    (hg : g.method = m) (hn : As.length = n) (hsize : g.locals.size = nL) (hstack : g.stack = As.reverse ++ rest) (hW : 2 * g.monitorRoom + (rest.map fun v => v.category).sum ≤ 8) (hdg : decode cc g.pc = .ok (.invokestatic index, 3)) (hf : cells + mc ≤ R.cells ∧ slots + ms ≤ R.slots) :
    vx_Run p l e R s m args below meth c H locs cells slots mc ms g rest (Qc As.toArray) XC free := by
  have hK : vx_Back l R p e below s args y 3 8 (PreOf R mc ms Pc) (PostOf Qc mc ms free) (vx_Post XC mc ms free) := vx_callBack cw.1 hM hp.1
  obtain ⟨⟨-, -, -, -, -, -, hcode, hini, hy, hlen, hl⟩, hstt⟩ := cw
  obtain ⟨hx, hb, hml, ho, -⟩ := S
  intro T hT X
  rcases vx_callS X hx (bytes := bytes) (maxL := maxL) (ret := ret) ho hl hstt hini hcode hy hK hg (hsize.trans hml.symm) (argsL := As) (rest := rest) (fun sig h => hn.trans (hlen sig h)) hstack hW (by rw [hb]; exact hdg)
    (fun vm₁ hW₁ => ⟨hf.1, hf.2, hp.2 (T.setVm vm₁) hT hW₁⟩) with ⟨v, vm₁, ⟨U', l2, c2, s2⟩, hW₁, X', ⟨g', mk, t, L, e1, e2, hq, h1, hL, h2, h3⟩, st⟩ | ⟨q, vm₁, ⟨U', l2, c2, s2⟩, hW₁, X', ⟨g', mk, t, L, E, ce, e1, e2, hq, hce, hcv, hcl, h1, hL, h2, h3⟩, st⟩
  · dsimp only [Pt.U, Pt.locs, Pt.cells, Pt.slots] at X' e1 e2 h1 h2 h3 st
    subst h1; subst h2; subst h3
    exact Or.inl ⟨v, (T.setVm vm₁).calling g' mk As.toArray, t, U', L, hT, X', hL, e1, e2, hq, st⟩
  · dsimp only [Pt.U, Pt.locs, Pt.cells, Pt.slots] at X' e1 e2 h1 h2 h3 st hcl
    subst h1; subst h2; subst h3
    exact Or.inr ⟨q, (T.setVm vm₁).calling g' mk As.toArray, t, U', L, E, ce, hT, X', hL, e1, e2, hq, hce, hcv, vx_cls hW₁ hcl, st⟩
end Runs
section Rows
variable {p : Program} {l : Launch} {e : Env} {R : Room} {s : State} {m : MethodId} {args : Array Value} {below : List Frame} {meth : Method} {c : Code} {H : Heap} {locs : List Loc} {cells slots : Nat} {Q : State → Prop}
variable {mc ms : Nat} {free : Addr → Prop} {A0 A1 : Nat → Prop} {H0 : Heap} {a : Array Value} {pc : Nat} {ls : Array Slot} {st0 rest : List Value}
theorem vx_keep {st₀ t T' : State} {L : List Loc} (h0 : st₀.heap = H) (e1 : T'.heap = t.heap) (hS : va_S A0 H0 H locs) (hA : ∀ q, q < H.size → A1 q → A0 q) (hf : ∀ q, free q → A0 q) (hL : ∀ q ∈ L, free q.base) (hF : va_F A1 st₀ t) :
    H.size ≤ T'.heap.size ∧ (∀ q : Nat, q < H.size → ¬ A1 q → T'.heap[q]? = H[q]?) ∧ va_S A0 H0 T'.heap (locs ++ L) := by
  obtain ⟨hz, hk⟩ := hF
  rw [h0] at hz hk
  exact ⟨by rw [e1]; exact hz, fun q h1 h2 => by rw [e1]; exact hk q h1 h2,
    ⟨Nat.le_trans hS.1 (by rw [e1]; exact hz), fun q h1 h2 => by rw [e1, hk q (Nat.lt_of_lt_of_le h1 hS.1) (fun z => h2 (hA q (Nat.lt_of_lt_of_le h1 hS.1) z))]; exact hS.2.1 q h1 h2, fun q hq => by
      rcases List.mem_append.mp hq with h | h
      · exact hS.2.2 q h
      · exact hf _ (hL q h)⟩⟩
theorem vx_calli {S SX : Type} {post : Int32 → S → Prop} {px : SX → Prop} {B : S → State → Prop} {BX : String → SX → State → Prop} {AX : Nat → Prop} (hr : vx_Run p l e R s m args below meth c H locs cells slots mc ms (F0 m pc ls st0) rest (va_Qi post B A1 a) (vx_X px BX AX) free) (hS : va_S A0 H0 H locs) (hA : ∀ q, q < H.size → A1 q → A0 q) (hf : ∀ q, free q → A0 q) (hAX : ∀ q, q < H.size → AX q → A0 q)
    (kx : ∀ (E : String) (ce : Cell) (q9 : Addr) (u : SX) (t : State) (H1 : Heap) (locs1 : List Loc), t.heap = H1 → s.vm.Alike t.vm → px u → BX E u t → H.size ≤ H1.size → (∀ q : Nat, q < H.size → ¬ AX q → H1[q]? = H[q]?) → va_S A0 H0 H1 locs1 → H1[q9]? = some ce → ce.vm = .none → s.vm.findClass E = some ce.cls → vx_W p l e R s m args below meth c H1 locs1 (cells + mc) (slots + ms) Q (F0 m pc ls rest) q9)
    (kk : ∀ (r : Int32) (u : S) (t : State) (H1 : Heap) (locs1 : List Loc), t.heap = H1 → s.vm.Alike t.vm → post r u → B u t → H.size ≤ H1.size → (∀ q : Nat, q < H.size → ¬ A1 q → H1[q]? = H[q]?) → va_S A0 H0 H1 locs1 → W p l e R s m args below meth c H1 locs1 (cells + mc) (slots + ms) Q (F0 m (pc + 3) ls (.int r :: rest))) : W p l e R s m args below meth c H locs cells slots Q (F0 m pc ls st0) := by
  intro T hT X
  rcases hr T hT X with ⟨v, st₀, t, T', L, h0, X', hL, e1, e2, ⟨⟨r, u, hv, hp, hb⟩, hF⟩, st⟩ | ⟨q, st₀, t, T', L, E, ce, h0, X', hL, e1, e2, ⟨u, hp, hb, hF⟩, hce, hcv, hcl, st⟩
  · cases hv
    obtain ⟨k1, k2, k3⟩ := vx_keep h0 e1 hS hA hf hL hF
    obtain ⟨t2, a1, b1⟩ := kk r u t T'.heap (locs ++ L) e1.symm (by rw [← e2]; exact X'.warmed.alike) hp hb k1 k2 k3 T' rfl X'
    exact ⟨t2, st t2 a1, b1⟩
  · obtain ⟨k1, k2, k3⟩ := vx_keep h0 e1 hS hAX hf hL hF
    obtain ⟨t2, a1, b1⟩ := kx E ce q u t T'.heap (locs ++ L) e1.symm (by rw [← e2]; exact X'.warmed.alike) hp hb k1 k2 k3 (by rw [e1]; exact hce) hcv hcl T' rfl X'
    exact ⟨t2, st.trans a1, b1⟩
theorem vx_calll {S SX : Type} {post : Int64 → S → Prop} {px : SX → Prop} {B : S → State → Prop} {BX : String → SX → State → Prop} {AX : Nat → Prop} (hr : vx_Run p l e R s m args below meth c H locs cells slots mc ms (F0 m pc ls st0) rest (va_Ql post B A1 a) (vx_X px BX AX) free) (hS : va_S A0 H0 H locs) (hA : ∀ q, q < H.size → A1 q → A0 q) (hf : ∀ q, free q → A0 q) (hAX : ∀ q, q < H.size → AX q → A0 q)
    (kx : ∀ (E : String) (ce : Cell) (q9 : Addr) (u : SX) (t : State) (H1 : Heap) (locs1 : List Loc), t.heap = H1 → s.vm.Alike t.vm → px u → BX E u t → H.size ≤ H1.size → (∀ q : Nat, q < H.size → ¬ AX q → H1[q]? = H[q]?) → va_S A0 H0 H1 locs1 → H1[q9]? = some ce → ce.vm = .none → s.vm.findClass E = some ce.cls → vx_W p l e R s m args below meth c H1 locs1 (cells + mc) (slots + ms) Q (F0 m pc ls rest) q9)
    (kk : ∀ (r : Int64) (u : S) (t : State) (H1 : Heap) (locs1 : List Loc), t.heap = H1 → s.vm.Alike t.vm → post r u → B u t → H.size ≤ H1.size → (∀ q : Nat, q < H.size → ¬ A1 q → H1[q]? = H[q]?) → va_S A0 H0 H1 locs1 → W p l e R s m args below meth c H1 locs1 (cells + mc) (slots + ms) Q (F0 m (pc + 3) ls (.long r :: rest))) : W p l e R s m args below meth c H locs cells slots Q (F0 m pc ls st0) := by
  intro T hT X
  rcases hr T hT X with ⟨v, st₀, t, T', L, h0, X', hL, e1, e2, ⟨⟨r, u, hv, hp, hb⟩, hF⟩, st⟩ | ⟨q, st₀, t, T', L, E, ce, h0, X', hL, e1, e2, ⟨u, hp, hb, hF⟩, hce, hcv, hcl, st⟩
  · cases hv
    obtain ⟨k1, k2, k3⟩ := vx_keep h0 e1 hS hA hf hL hF
    obtain ⟨t2, a1, b1⟩ := kk r u t T'.heap (locs ++ L) e1.symm (by rw [← e2]; exact X'.warmed.alike) hp hb k1 k2 k3 T' rfl X'
    exact ⟨t2, st t2 a1, b1⟩
  · obtain ⟨k1, k2, k3⟩ := vx_keep h0 e1 hS hAX hf hL hF
    obtain ⟨t2, a1, b1⟩ := kx E ce q u t T'.heap (locs ++ L) e1.symm (by rw [← e2]; exact X'.warmed.alike) hp hb k1 k2 k3 (by rw [e1]; exact hce) hcv hcl T' rfl X'
    exact ⟨t2, st.trans a1, b1⟩
theorem vx_callf {S SX : Type} {post : UInt32 → S → Prop} {px : SX → Prop} {B : S → State → Prop} {BX : String → SX → State → Prop} {AX : Nat → Prop} (hr : vx_Run p l e R s m args below meth c H locs cells slots mc ms (F0 m pc ls st0) rest (va_Qf post B A1 a) (vx_X px BX AX) free) (hS : va_S A0 H0 H locs) (hA : ∀ q, q < H.size → A1 q → A0 q) (hf : ∀ q, free q → A0 q) (hAX : ∀ q, q < H.size → AX q → A0 q)
    (kx : ∀ (E : String) (ce : Cell) (q9 : Addr) (u : SX) (t : State) (H1 : Heap) (locs1 : List Loc), t.heap = H1 → s.vm.Alike t.vm → px u → BX E u t → H.size ≤ H1.size → (∀ q : Nat, q < H.size → ¬ AX q → H1[q]? = H[q]?) → va_S A0 H0 H1 locs1 → H1[q9]? = some ce → ce.vm = .none → s.vm.findClass E = some ce.cls → vx_W p l e R s m args below meth c H1 locs1 (cells + mc) (slots + ms) Q (F0 m pc ls rest) q9)
    (kk : ∀ (r : UInt32) (u : S) (t : State) (H1 : Heap) (locs1 : List Loc), t.heap = H1 → s.vm.Alike t.vm → post r u → B u t → H.size ≤ H1.size → (∀ q : Nat, q < H.size → ¬ A1 q → H1[q]? = H[q]?) → va_S A0 H0 H1 locs1 → W p l e R s m args below meth c H1 locs1 (cells + mc) (slots + ms) Q (F0 m (pc + 3) ls (.float r :: rest))) : W p l e R s m args below meth c H locs cells slots Q (F0 m pc ls st0) := by
  intro T hT X
  rcases hr T hT X with ⟨v, st₀, t, T', L, h0, X', hL, e1, e2, ⟨⟨r, u, hv, hp, hb⟩, hF⟩, st⟩ | ⟨q, st₀, t, T', L, E, ce, h0, X', hL, e1, e2, ⟨u, hp, hb, hF⟩, hce, hcv, hcl, st⟩
  · cases hv
    obtain ⟨k1, k2, k3⟩ := vx_keep h0 e1 hS hA hf hL hF
    obtain ⟨t2, a1, b1⟩ := kk r u t T'.heap (locs ++ L) e1.symm (by rw [← e2]; exact X'.warmed.alike) hp hb k1 k2 k3 T' rfl X'
    exact ⟨t2, st t2 a1, b1⟩
  · obtain ⟨k1, k2, k3⟩ := vx_keep h0 e1 hS hAX hf hL hF
    obtain ⟨t2, a1, b1⟩ := kx E ce q u t T'.heap (locs ++ L) e1.symm (by rw [← e2]; exact X'.warmed.alike) hp hb k1 k2 k3 (by rw [e1]; exact hce) hcv hcl T' rfl X'
    exact ⟨t2, st.trans a1, b1⟩
theorem vx_calld {S SX : Type} {post : UInt64 → S → Prop} {px : SX → Prop} {B : S → State → Prop} {BX : String → SX → State → Prop} {AX : Nat → Prop} (hr : vx_Run p l e R s m args below meth c H locs cells slots mc ms (F0 m pc ls st0) rest (va_Qd post B A1 a) (vx_X px BX AX) free) (hS : va_S A0 H0 H locs) (hA : ∀ q, q < H.size → A1 q → A0 q) (hf : ∀ q, free q → A0 q) (hAX : ∀ q, q < H.size → AX q → A0 q)
    (kx : ∀ (E : String) (ce : Cell) (q9 : Addr) (u : SX) (t : State) (H1 : Heap) (locs1 : List Loc), t.heap = H1 → s.vm.Alike t.vm → px u → BX E u t → H.size ≤ H1.size → (∀ q : Nat, q < H.size → ¬ AX q → H1[q]? = H[q]?) → va_S A0 H0 H1 locs1 → H1[q9]? = some ce → ce.vm = .none → s.vm.findClass E = some ce.cls → vx_W p l e R s m args below meth c H1 locs1 (cells + mc) (slots + ms) Q (F0 m pc ls rest) q9)
    (kk : ∀ (r : UInt64) (u : S) (t : State) (H1 : Heap) (locs1 : List Loc), t.heap = H1 → s.vm.Alike t.vm → post r u → B u t → H.size ≤ H1.size → (∀ q : Nat, q < H.size → ¬ A1 q → H1[q]? = H[q]?) → va_S A0 H0 H1 locs1 → W p l e R s m args below meth c H1 locs1 (cells + mc) (slots + ms) Q (F0 m (pc + 3) ls (.double r :: rest))) : W p l e R s m args below meth c H locs cells slots Q (F0 m pc ls st0) := by
  intro T hT X
  rcases hr T hT X with ⟨v, st₀, t, T', L, h0, X', hL, e1, e2, ⟨⟨r, u, hv, hp, hb⟩, hF⟩, st⟩ | ⟨q, st₀, t, T', L, E, ce, h0, X', hL, e1, e2, ⟨u, hp, hb, hF⟩, hce, hcv, hcl, st⟩
  · cases hv
    obtain ⟨k1, k2, k3⟩ := vx_keep h0 e1 hS hA hf hL hF
    obtain ⟨t2, a1, b1⟩ := kk r u t T'.heap (locs ++ L) e1.symm (by rw [← e2]; exact X'.warmed.alike) hp hb k1 k2 k3 T' rfl X'
    exact ⟨t2, st t2 a1, b1⟩
  · obtain ⟨k1, k2, k3⟩ := vx_keep h0 e1 hS hAX hf hL hF
    obtain ⟨t2, a1, b1⟩ := kx E ce q u t T'.heap (locs ++ L) e1.symm (by rw [← e2]; exact X'.warmed.alike) hp hb k1 k2 k3 (by rw [e1]; exact hce) hcv hcl T' rfl X'
    exact ⟨t2, st.trans a1, b1⟩
theorem vx_callv {S SX : Type} {post : S → Prop} {px : SX → Prop} {B : S → State → Prop} {BX : String → SX → State → Prop} {AX : Nat → Prop} (hr : vx_Run p l e R s m args below meth c H locs cells slots mc ms (F0 m pc ls st0) rest (va_Qv post B A1 a) (vx_X px BX AX) free) (hS : va_S A0 H0 H locs) (hA : ∀ q, q < H.size → A1 q → A0 q) (hf : ∀ q, free q → A0 q) (hAX : ∀ q, q < H.size → AX q → A0 q)
    (kx : ∀ (E : String) (ce : Cell) (q9 : Addr) (u : SX) (t : State) (H1 : Heap) (locs1 : List Loc), t.heap = H1 → s.vm.Alike t.vm → px u → BX E u t → H.size ≤ H1.size → (∀ q : Nat, q < H.size → ¬ AX q → H1[q]? = H[q]?) → va_S A0 H0 H1 locs1 → H1[q9]? = some ce → ce.vm = .none → s.vm.findClass E = some ce.cls → vx_W p l e R s m args below meth c H1 locs1 (cells + mc) (slots + ms) Q (F0 m pc ls rest) q9)
    (kk : ∀ (u : S) (t : State) (H1 : Heap) (locs1 : List Loc), t.heap = H1 → s.vm.Alike t.vm → post u → B u t → H.size ≤ H1.size → (∀ q : Nat, q < H.size → ¬ A1 q → H1[q]? = H[q]?) → va_S A0 H0 H1 locs1 → W p l e R s m args below meth c H1 locs1 (cells + mc) (slots + ms) Q (F0 m (pc + 3) ls (rest))) : W p l e R s m args below meth c H locs cells slots Q (F0 m pc ls st0) := by
  intro T hT X
  rcases hr T hT X with ⟨v, st₀, t, T', L, h0, X', hL, e1, e2, ⟨⟨u, hv, hp, hb⟩, hF⟩, st⟩ | ⟨q, st₀, t, T', L, E, ce, h0, X', hL, e1, e2, ⟨u, hp, hb, hF⟩, hce, hcv, hcl, st⟩
  · cases hv
    obtain ⟨k1, k2, k3⟩ := vx_keep h0 e1 hS hA hf hL hF
    obtain ⟨t2, a1, b1⟩ := kk u t T'.heap (locs ++ L) e1.symm (by rw [← e2]; exact X'.warmed.alike) hp hb k1 k2 k3 T' rfl X'
    exact ⟨t2, st t2 a1, b1⟩
  · obtain ⟨k1, k2, k3⟩ := vx_keep h0 e1 hS hAX hf hL hF
    obtain ⟨t2, a1, b1⟩ := kx E ce q u t T'.heap (locs ++ L) e1.symm (by rw [← e2]; exact X'.warmed.alike) hp hb k1 k2 k3 (by rw [e1]; exact hce) hcv hcl T' rfl X'
    exact ⟨t2, st.trans a1, b1⟩
/-- caught by the row x of this method's table; the rows ahead don't take it -/
theorem vx_catch {own name : String} {E : String} {ce : Cell} {q : Addr} (hown : s.vm.findClass own = some m.cls) (pre : List ExceptionTableEntry) (x : ExceptionTableEntry) (suf : List ExceptionTableEntry) (hsplit : c.exceptionTable.toList = pre ++ x :: suf)
    (hpass : ∀ z ∈ pre, covers z pc = false ∨ (z.catchType ≠ 0 ∧ ∃ nm : String, (Cond.classLink own z.catchType nm).before args s = true ∧ va_Nc E nm s)) (hx : covers x pc = true) (h0 : x.catchType ≠ 0)
    (hlink : (Cond.classLink own x.catchType name).before args s = true) (hcast : (Cond.castable E name).before args s = true) (hcell : H[q]? = some ce) (hv : ce.vm = .none) (hcl : s.vm.findClass E = some ce.cls)
    (kk : W p l e R s m args below meth c H locs cells slots Q (F0 m x.handlerPc ls [.ref q])) : vx_W p l e R s m args below meth c H locs cells slots Q (F0 m pc ls rest) q := by
  intro T hT X
  have hpl : e.platform.magicAccessors = ({} : Platform).magicAccessors := by rw [X.admits.platform]
  obtain ⟨c3, c4, hc3, hc4, hasg⟩ := Cond.castable_spec hcast
  cases Option.some.inj (hc3.symm.trans hcl)
  obtain ⟨c5, hc5, hcl5⟩ := Cond.classLink_spec hown hlink e.platform hpl
  cases Option.some.inj (hc4.symm.trans hc5)
  obtain ⟨vm', X', st⟩ := X.thenCaughtThrough q (g := F0 m pc ls rest) rfl (Steps.refl _) (by rw [hT]; exact hcell) (by rw [hv]; rfl) (by obtain ⟨k9, h9, -⟩ := Vm.findClass_spec hcl; exact ⟨k9, h9⟩) pre x suf hsplit
    (fun z hz => by
      rcases hpass z hz with h | ⟨hz0, nm, hl1, hn1⟩
      · exact Or.inl h
      · obtain ⟨c6, hc6, hcl6⟩ := Cond.classLink_spec hown hl1 e.platform hpl
        obtain ⟨a8, b8, h1, h2, h3⟩ := hn1
        cases Option.some.inj (h1.symm.trans hcl)
        cases Option.some.inj (h2.symm.trans hc6)
        exact Or.inr ⟨hz0, _, hcl6, h3⟩) hx (Or.inr ⟨h0, c4, hcl5, hasg⟩)
  obtain ⟨t, a1, b1⟩ := kk (T.setVm vm') hT X'
  exact ⟨t, st.trans a1, b1⟩
end Rows
section Ends
variable {p : Program} {l : Launch} {e : Env} {R : Room} {s : State} {m : MethodId} {args : Array Value} {below : List Frame} {meth : Method} {c : Code} {H : Heap} {locs : List Loc} {cells slots : Nat} {Q : State → Prop}
variable {mc ms : Nat} {free : Addr → Prop} {A0 A1 : Nat → Prop} {H0 : Heap} {a : Array Value} {ls : Array Slot} {st0 rest : List Value}
variable {Qc : Array Value → State → Outcome → State → Prop} {XC : String → State → State → Prop}
/-- what a body that may throw owes at its end -/
def vx_MQ (below : List Frame) (Qc : Array Value → State → Outcome → State → Prop) (XC : String → State → State → Prop) (a : Array Value) (s : State) (mc ms : Nat) (free : Addr → Prop) : State → Prop := fun t =>
  ∃ o, t.status = .running ∧ Ended t below o ∧ vx_Q Qc XC mc ms free a s o t
theorem vx_ret {g : JFrame} {mc ms : Nat} (k : W p l e R s m args below meth c H locs cells slots (MQ below Qc args s mc ms free) g) : W p l e R s m args below meth c H locs cells slots (vx_MQ below Qc XC args s mc ms free) g := by
  intro T hT X
  obtain ⟨t, a1, o, b1, b2, b3, b4⟩ := k T hT X
  exact ⟨t, a1, o, b1, b2, Or.inl ⟨b3, b4⟩⟩
/-- not caught here: it goes on to the caller -/
theorem vx_widen {g : JFrame} {q : Addr} {k n : Nat} (h1 : cells ≤ k) (h2 : slots ≤ n) (kk : vx_W p l e R s m args below meth c H locs k n Q g q) : vx_W p l e R s m args below meth c H locs cells slots Q g q := fun T hT X => kk T hT (stand_widen X h1 h2)
theorem vx_out {pc : Nat} {E : String} {ce : Cell} {q : Addr} {mc ms : Nat} (hout : ∀ x ∈ c.exceptionTable.toList, covers x pc = false) (hlocks : meth.locks = false) (hcell : H[q]? = some ce) (hv : ce.vm = .none) (hcl : s.vm.findClass E = some ce.cls)
    (hx : ∀ t : State, t.heap = H → s.vm.Alike t.vm → XC E s t) (hf : ∀ z ∈ locs, free z.base) (hc : cells ≤ mc) (hs : slots ≤ ms) :
    vx_W p l e R s m args below meth c H locs cells slots (vx_MQ below Qc XC args s mc ms free) (F0 m pc ls rest) q := by
  intro T hT X
  obtain ⟨st1, hrun, hend, hW, hsm⟩ := X.leaveThrown q (g := F0 m pc ls rest) rfl rfl rfl hout hlocks
  have hcell9 : (T.setFrames (.throwing q :: below)).heap[q]? = some ce := by
    show T.heap[q]? = some ce
    rw [hT]; exact hcell
  exact ⟨_, st1, .threw q, hrun, hend, Or.inr ⟨q, rfl, E, ce, locs, hx _ hT hW.alike, hcell9, hv, hcl, hW, hsm.mono hc hs, hf⟩⟩
theorem vx_frame {U : State} {k n : Nat} (h : s.sameButNew ({ U with vm := s.vm } : State) locs k n) : s.heap.size ≤ U.heap.size ∧ ∀ q : Nat, q < s.heap.size → (∀ z ∈ locs, z.base ≠ q) → U.heap[q]? = s.heap[q]? := by
  obtain ⟨-, h2, -, -, -, h6⟩ := h
  refine ⟨h2, fun q hq hz => ?_⟩
  obtain ⟨c9, e1, e2, e3, e4⟩ := h6 q _ (Array.getElem?_eq_getElem hq)
  have hs : c9.slots = (s.heap[q]).slots := Array.ext_getElem? fun i => e4 i fun hm => hz _ hm rfl
  have h9 : c9 = s.heap[q] := by
    rw [hs] at e2
    exact e2
  have e5 : U.heap[q]? = some c9 := e1
  rw [e5, h9, Array.getElem?_eq_getElem hq]
/-- the words of a throw but the four that speak of the heap -/
def vx_no (w : Cond) : Bool := decide (w ≠ .isRef (.static Bundle.tN "UNASSIGNED_STACK" Bundle.steD)) && decide (w ≠ .isRef (.static Bundle.tN "SUPPRESSED_SENTINEL" Bundle.listD)) && decide (w ≠ .laysStatic Bundle.tN "UNASSIGNED_STACK" Bundle.steD) && decide (w ≠ .laysStatic Bundle.tN "SUPPRESSED_SENTINEL" Bundle.listD)
def vx_at0 (own : String) (ic : Nat) (X : String) (names : List String) : List Cond := (Bundle.ownAtoms0 own ic X names).filter vx_no
def vx_atS (own : String) (ic : Nat) (X : String) (names : List String) : List Cond := (Bundle.ownAtoms own ic X names).filter vx_no
/-- a word that the tables alone decide, or a good one -/
def vx_ot (w : Cond) : Bool := w.onTables || goodWord w
theorem vx_ot_at {args a' : Array Value} {s U : State} {w : Cond} (hW : s.WarmedH U.vm) (hvm : s.vm = U.vm) (hg : vx_ot w = true) (h : w.before args s = true) : w.before a' U = true := by
  simp only [vx_ot, Bool.or_eq_true] at hg
  rcases hg with hg | hg
  · exact va_tabs hg hvm h
  · exact word_at hW (good_of_word hg) h
/-- a list's words: the good ones out of the method's own list, the others by premises of their own -/
theorem vx_hat {args : Array Value} {s : State} {L B : List Cond} (h1 : ∀ w ∈ L.filter goodWord, w.before args s = true) (h2 : ∀ w ∈ L.filter (fun w => !goodWord w), w ∈ B) (h3 : ∀ w ∈ B, w.before args s = true) : ∀ w ∈ L, w.before args s = true := by
  intro w hw
  by_cases g : goodWord w = true
  · exact h1 w (List.mem_filter.mpr ⟨hw, g⟩)
  · refine h3 w (h2 w (List.mem_filter.mpr ⟨hw, ?_⟩))
    show (!goodWord w) = true
    cases hgw : goodWord w
    · rfl
    · exact absurd hgw g
theorem vx_c {args : Array Value} {s : State} {w : Cond} {B : List Cond} (h : w.before args s = true) (t : ∀ w ∈ B, w.before args s = true) : ∀ w' ∈ w :: B, w'.before args s = true := fun w' h' => (List.mem_cons.mp h').elim (fun e => by rw [e]; exact h) (t w')
theorem vx_n {args : Array Value} {s : State} : ∀ w ∈ ([] : List Cond), w.before args s = true := fun _ h => nomatch h
theorem vx_own {args : Array Value} {s : State} {L : List Cond} (h1 : ∀ w ∈ L.filter vx_no, w.before args s = true)
    (hU : (Cond.isRef (.static Bundle.tN "UNASSIGNED_STACK" Bundle.steD)).before args s = true) (hN : (Cond.isRef (.static Bundle.tN "SUPPRESSED_SENTINEL" Bundle.listD)).before args s = true)
    (lU : (Cond.laysStatic Bundle.tN "UNASSIGNED_STACK" Bundle.steD).before args s = true) (lN : (Cond.laysStatic Bundle.tN "SUPPRESSED_SENTINEL" Bundle.listD).before args s = true) : ∀ w ∈ L, w.before args s = true := by
  intro w hw
  by_cases e1 : w = .isRef (.static Bundle.tN "UNASSIGNED_STACK" Bundle.steD)
  · rw [e1]; exact hU
  · by_cases e2 : w = .isRef (.static Bundle.tN "SUPPRESSED_SENTINEL" Bundle.listD)
    · rw [e2]; exact hN
    · by_cases e3 : w = .laysStatic Bundle.tN "UNASSIGNED_STACK" Bundle.steD
      · rw [e3]; exact lU
      · by_cases e4 : w = .laysStatic Bundle.tN "SUPPRESSED_SENTINEL" Bundle.listD
        · rw [e4]; exact lN
        · exact h1 w (List.mem_filter.mpr ⟨hw, by unfold vx_no; rw [decide_eq_true e1, decide_eq_true e2, decide_eq_true e3, decide_eq_true e4]; rfl⟩)
/-- where a static field lies, its class's statics cell in H -/
def vx_L (C n d : String) (A : Nat → Prop) (U : State) (H : Heap) : Prop := ∃ (c : ClassId) (k : Class) (i : Nat) (f : Field) (a : Nat) (cell : Cell), U.vm.findClass C = some c ∧ U.fieldFound? C n d = some (c, k, i, f) ∧ f.isStatic = true ∧ k.statics = some a ∧ H[a]? = some cell ∧ cell.vm.isStatics = true ∧ cell.cls = c ∧ f.slot < cell.slots.size ∧ k.staticTypes[f.slot]? = some f.type ∧ ¬ A a
theorem vx_L.moved {C n d : String} {A : Nat → Prop} {u U : State} {H : Heap} (hvm : u.vm.Alike U.vm) (h : vx_L C n d A u H) : vx_L C n d A U H := by
  obtain ⟨c, k, i, f, a, cell, h1, h2, h3, h4, h5, h6, h7, h8, h9, h10⟩ := h
  obtain ⟨k', hi', he⟩ := State.fieldFound?_setVm hvm h2
  exact ⟨c, k', i, f, a, cell, by rw [hvm.findClass]; exact h1, hi', h3, by rw [he]; exact h4, h5, h6, h7, h8, by rw [he]; exact h9, h10⟩
theorem vx_L.kept {C n d : String} {A : Nat → Prop} {U : State} {H H1 : Heap} (h : vx_L C n d A U H) (hq : ∀ a : Nat, a < H.size → ¬ A a → H1[a]? = H[a]?) : vx_L C n d A U H1 := by
  obtain ⟨c, k, i, f, a, cell, h1, h2, h3, h4, h5, h6, h7, h8, h9, h10⟩ := h
  exact ⟨c, k, i, f, a, cell, h1, h2, h3, h4, by rw [hq a (Array.getElem?_eq_some_iff.mp h5).1 h10]; exact h5, h6, h7, h8, h9, h10⟩
theorem vx_L.narrow {C n d : String} {A B : Nat → Prop} {U : State} {H : Heap} (h : vx_L C n d A U H) (hAB : ∀ q, B q → A q) : vx_L C n d B U H := by
  obtain ⟨c, k, i, f, a, cell, h1, h2, h3, h4, h5, h6, h7, h8, h9, h10⟩ := h
  exact ⟨c, k, i, f, a, cell, h1, h2, h3, h4, h5, h6, h7, h8, h9, fun z => h10 (hAB _ z)⟩
theorem vx_L.word {C n d : String} {A : Nat → Prop} {s : State} {args : Array Value} (h : vx_L C n d A s s.heap) : (Cond.laysStatic C n d).before args s = true := by
  obtain ⟨c, k, i, f, a, cell, h1, h2, h3, h4, h5, h6, h7, h8, h9, -⟩ := h
  show (Cond.laysStatic C n d).holds args s none s [] = true
  exact Cond.laysStatic_of h1 h2 h3 h4 h5 h6 h7 h8 h9
/-- .. and what it holds: null or some reference -/
def vx_Zq (C n d : String) (A : Nat → Prop) (U : State) (H : Heap) : Prop := va_Zq C n d A U H ∧ vx_L C n d A U H
theorem vx_Zq.moved {C n d : String} {A : Nat → Prop} {u U : State} {H : Heap} (hvm : u.vm.Alike U.vm) (h : vx_Zq C n d A u H) : vx_Zq C n d A U H := ⟨va_Zq.moved hvm h.1, vx_L.moved hvm h.2⟩
theorem vx_Zq.kept {C n d : String} {A : Nat → Prop} {U : State} {H H1 : Heap} (h : vx_Zq C n d A U H) (hq : ∀ a : Nat, a < H.size → ¬ A a → H1[a]? = H[a]?) : vx_Zq C n d A U H1 := ⟨va_Zq.kept h.1 hq, vx_L.kept h.2 hq⟩
theorem vx_Zq.narrow {C n d : String} {A B : Nat → Prop} {U : State} {H : Heap} (h : vx_Zq C n d A U H) (hAB : ∀ q, B q → A q) : vx_Zq C n d B U H := ⟨va_Zq.narrow h.1 hAB, vx_L.narrow h.2 hAB⟩
theorem vx_Zqof {args : Array Value} {s : State} {C n d : String} {A : Nat → Prop} (hl : (Cond.laysStatic C n d).before args s = true) (hini : (Cond.initialized C).before args s = true) (h : (Cond.isRef (.static C n d)).before args s = true) (hA : ∀ a : Nat, a < s.heap.size → ¬ A a) : vx_Zq C n d A s s.heap := by
  refine ⟨va_Zqof hl hini h hA, ?_⟩
  obtain ⟨c, k, i, f, a, cell, h1, h2, h3, h4, h5, h6, h7, h8, h9⟩ := Cond.laysStatic_spec hl
  exact ⟨c, k, i, f, a, cell, h1, h2, h3, h4, h5, h6, h7, h8, h9, hA a (Array.getElem?_eq_some_iff.mp h5).1⟩
theorem vx_isRef {C n d : String} {v : Value} {A : Nat → Prop} {s : State} {args : Array Value} (h : va_Z C n d v A s s.heap) (hv : v.isRef = true) : (Cond.isRef (.static C n d)).before args s = true := by
  obtain ⟨cf, kf, fi, f, a, cell, h1, h2, h3, h4, h5, h6, h7, -⟩ := h
  have he : (Term.static C n d).eval args s none [] s = some v := by
    simp [Term.eval, State.fieldNamed?, h1, h2, h4, h5, h6, h7]
  simp only [Cond.before, Cond.holds, Cond.value, he]
  cases v <;> simp_all [Value.isRef]
theorem vx_isRefq {C n d : String} {A : Nat → Prop} {s : State} {args : Array Value} (h : va_Zq C n d A s s.heap) : (Cond.isRef (.static C n d)).before args s = true := by
  rcases h with h | ⟨t, h⟩
  · exact vx_isRef h rfl
  · exact vx_isRef h rfl
/-- the same frame, seen from here: as if the method were called anew in this heap -/
theorem vx_rebase {T : State} (X : Stand p l e R s m args below meth c T locs cells slots) {R' : Room} (hf : R'.frames ≤ R.frames) (hl : R'.locals ≤ R.locals) (hc : cells + R'.cells ≤ R.cells) (hs : slots + R'.slots ≤ R.slots) :
    Stand p l e R' ((T.setVm s.vm).setFrames (.invoking m args :: below)) m args below meth c T [] 0 0 := by
  have htop : (T.setVm s.vm).topJava?.isSome := X.here.top
  have hF : ((T.setVm s.vm).setFrames (.invoking m args :: below)).frames = .invoking m args :: below := State.frames_setFrames _ (State.cur_lt_of_top htop)
  obtain ⟨g₀, hg0⟩ := Option.isSome_iff_exists.mp htop
  obtain ⟨r, hr⟩ := State.topJava?_eq_some.mp hg0
  have hl9 : e.platform.stackLimits (T.setVm s.vm).me = e.platform.stackLimits s.me := X.limits
  have hb9 : (T.setVm s.vm).me.stackBytes = s.me.stackBytes := X.bytes
  refine ⟨X.admits, X.cas, X.clock, hF, ?_, X.hears, X.method, X.code, X.here, X.tail, X.warmed, ?_, ?_, ?_⟩
  · have h := X.room
    have hU : ((T.setVm s.vm).setFrames (.invoking m args :: below)).localsInUse = s.localsInUse := by
      rw [State.localsInUse_invoking hF (meth := meth) (c := c) X.method X.code, State.localsInUse_invoking X.frames X.method X.code]
    simp only [State.hasRoom, Bool.and_eq_true, decide_eq_true_eq] at h ⊢
    obtain ⟨⟨⟨⟨h1, h2, h3, h4, h5, h6⟩, h7⟩, h8⟩, h9⟩ := h
    rw [X.frames, List.length_cons] at h2 h3
    have q1 := X.heapSize
    have q2 := X.used
    simp only [hF, hU, List.length_cons, State.stackLimits_setFrames, State.stackBytes_setFrames, hl9, hb9]
    refine ⟨⟨⟨⟨by omega, by omega, by omega, by omega, by omega, h6⟩, ?_⟩, ?_⟩, X.book⟩
    · show T.heap.size + R'.cells ≤ e.platform.maxCells
      omega
    · show T.slotsUsed + R'.slots ≤ e.platform.maxSlots
      omega
  · rw [State.stackLimits_setFrames]; rfl
  · rw [State.stackBytes_setFrames]; rfl
  · refine ⟨?_, Nat.le_refl _, Nat.le_refl _, ?_, ?_, fun a c9 h9 => ⟨c9, h9, rfl, rfl, fun _ _ => rfl⟩⟩
    · obtain ⟨t, ht, -⟩ := State.frames_cons hr
      show T.setVm s.vm = { ((T.setVm s.vm).setFrames (.invoking m args :: below)).setFrames (T.setVm s.vm).frames with heap := T.heap, slotsUsed := T.slotsUsed }
      rw [State.setFrames_setFrames, State.setFrames_self ht]
      rfl
    · show T.slotsUsed = T.slotsUsed + ((T.heap.toList.drop T.heap.size).map (·.slots.size)).sum
      rw [List.drop_eq_nil_of_le (Nat.le_of_eq Array.length_toList)]
      rfl
    · show ((T.heap.toList.drop T.heap.size).map (·.slots.size)).sum ≤ 0
      rw [List.drop_eq_nil_of_le (Nat.le_of_eq Array.length_toList)]
      exact Nat.le_refl _
/-- 'throw new E()': new; dup; invokespecial; athrow -/
theorem vx_throw0 {cc : ByteArray} {pc : Nat} (hexec : p.tables.exec = Jvm.exec) (hb : c.code = cc) (hl : l.stackTraces = false) {own cls : String} {names : List String} {ik ic mc ms : Nat} {A : Nat → Prop}
    (hown : s.vm.findClass own = some m.cls) (hcls : Bundle.fit cls = true) (hnames : ∀ n ∈ names, Bundle.fit n = true)
    (hk : (Cond.classLink own ik cls).before args s = true) (hini : (Cond.initialized cls).before args s = true) (hat : ∀ w ∈ vx_at0 own ic cls names, w.before args s = true)
    (hgood : ∀ w ∈ Cond.classLink own ik cls :: Cond.initialized cls :: vx_at0 own ic cls names, vx_ot w = true)
    (hU : vx_Zq Bundle.tN "UNASSIGNED_STACK" Bundle.steD A s s.heap) (hN : vx_Zq Bundle.tN "SUPPRESSED_SENTINEL" Bundle.listD A s s.heap) (hS : va_S A s.heap H locs) (hsize : ls.size = c.maxLocals)
    (d0 : decode cc pc = .ok (.new ik, 3)) (d3 : decode cc (pc + 3) = .ok (.dup, 1)) (d4 : decode cc (pc + 4) = .ok (.invokespecial ic, 3)) (d7 : decode cc (pc + 7) = .ok (.athrow, 1))
    (hout : ∀ x ∈ c.exceptionTable.toList, covers x (pc + 7) = false)
    (hRframes : names.length + 3 < R.frames) (hRlocals : (rest.map fun v => v.category).sum + (13 * (names.length + 1) + 42) ≤ R.locals) (hRcells : cells + 1 ≤ R.cells) (hRslots : slots + 6 ≤ R.slots) (hlocks : meth.locks = false)
    (hx : ∀ t : State, s.vm.Alike t.vm → H.size ≤ t.heap.size → (∀ q : Nat, q < H.size → t.heap[q]? = H[q]?) → XC cls s t)
    (hf : ∀ z ∈ locs, free z.base) (hc : cells + 1 ≤ mc) (hs : slots + 6 ≤ ms) :
    W p l e R s m args below meth c H locs cells slots (vx_MQ below Qc XC args s mc ms free) (F0 m pc ls rest) := by
  intro T hT X
  have htr : e.platform.stackTraces = false := (show e.platform.stackTraces = l.stackTraces by rw [X.admits.platform]).trans hl
  have Y := vx_rebase X (R' := { frames := R.frames, locals := R.locals, cells := 1, slots := 6 }) (Nat.le_refl _) (Nat.le_refl _) hRcells hRslots
  obtain ⟨s', hA⟩ : ∃ z, z = (T.setVm s.vm).setFrames (.invoking m args :: below) := ⟨_, rfl⟩
  rw [← hA] at Y
  have hvm : s'.vm = s.vm := by rw [hA]; rfl
  have hhp : s'.heap = H := by rw [hA]; exact hT
  have hW0 : s.WarmedH s'.vm := by rw [hvm]; exact State.WarmedH.refl s
  have hat' : ∀ w ∈ vx_at0 own ic cls names, w.before args s' = true := fun w hw => vx_ot_at hW0 hvm.symm (hgood w (List.mem_cons_of_mem _ (List.mem_cons_of_mem _ hw))) (hat w hw)
  have hk' : (Cond.classLink own ik cls).before args s' = true := vx_ot_at hW0 hvm.symm (hgood _ List.mem_cons_self) hk
  have hini' : (Cond.initialized cls).before args s' = true := vx_ot_at hW0 hvm.symm (hgood _ (List.mem_cons_of_mem _ List.mem_cons_self)) hini
  have hU' : vx_Zq Bundle.tN "UNASSIGNED_STACK" Bundle.steD A s' s'.heap := by rw [hhp]; exact vx_Zq.moved hW0.alike (hU.kept hS.2.1)
  have hN' : vx_Zq Bundle.tN "SUPPRESSED_SENTINEL" Bundle.listD A s' s'.heap := by rw [hhp]; exact vx_Zq.moved hW0.alike (hN.kept hS.2.1)
  have h : ∀ w ∈ Bundle.ownAtoms0 own ic cls names, w.before args s' = true := vx_own hat' (vx_isRefq hU'.1) (vx_isRefq hN'.1) hU'.2.word hN'.2.word
  have hown' : s'.vm.findClass own = some m.cls := by rw [hvm]; exact hown
  have hins : (Cond.instantiable cls 6).before args s' = true := h _ (by simp [Bundle.ownAtoms0])
  obtain ⟨vm₁, cX, kX, hfX, hkX, -, -, X₁, st1⟩ := Y.newCold hexec (own := own) (C := cls) (index := ik) (n := 6) hown' hk' hins hini'
    (g := F0 m pc ls rest) rfl (by rw [hb]; exact d0) (Nat.le_refl _) (Nat.le_refl _)
  generalize hT1 : (T.setVm vm₁).pushCell { cls := cX, slots := kX.instanceTypes.map defaultValue, vm := .none } = T1 at X₁ st1
  have hcat : (Value.ref T.heap.size).category = 1 := rfl
  have hcellA : T1.heap[T.heap.size]? = some (freshCell cX kX) := by rw [← hT1]; exact State.heap_pushCell_size _ _
  have d3' : decode c.code (pc + 3) = .ok (.dup, 1) := by rw [hb]; exact d3
  obtain ⟨U, hsteps, hrun, hend, hW, hsame, ce, hce, hO⟩ := X₁.ctorThrow0 hexec htr (own := own) (cls := cls) (names := names) (ic := ic) hown' hcls hnames h (fun x hx => nomatch hx) hfX hkX hcellA (by rw [hhp, hT]; exact Nat.le_refl _)
    (g := { method := m, pc := pc + 4, locals := ls, stack := .ref T.heap.size :: .ref T.heap.size :: rest, locked := none }) rfl hsize rfl rfl (rest := rest) rfl
    (by rw [hb]; exact d4) (by rw [hb]; exact d7) hout hRframes (by simp only [List.map_cons, List.sum_cons, hcat]; omega) hlocks
  obtain ⟨f1, f2⟩ := vx_frame hsame
  rw [hhp] at f1 f2
  have hWs : s.WarmedH U.vm := State.WarmedH.trans hW0 hW
  have hcl : s.vm.findClass cls = some ce.cls := by
    have h9 := hO.cls
    rw [hvm] at h9
    exact h9
  have hall : s.sameButNew ({ U with vm := s.vm } : State) locs mc ms := by
    subst hA
    obtain ⟨e1, e2⟩ := hsame
    rw [State.setFrames_setFrames] at e1
    have h2 : (T.setVm s.vm).sameButNew ({ U with vm := s.vm } : State) [] (0 + 1) (0 + 6) := ⟨e1, e2⟩
    have h3 := X.same.trans h2
    rw [List.append_nil] at h3
    exact h3.mono hc hs
  refine ⟨U, ?_, .threw T.heap.size, hrun, hend, Or.inr ⟨T.heap.size, rfl, cls, ce, locs, hx U hWs.alike f1 (fun q hq => f2 q hq (fun z hz => nomatch hz)), hce, hO.vm, hcl, hWs, hall, hf⟩⟩
  refine st1 _ ?_
  show Steps p.tables e below (T1.setTop { method := m, pc := pc + 3, locals := ls, stack := .ref T.heap.size :: rest, locked := none }) _
  jvm_step X₁.here [X₁.here.top, hexec, d3', Value.category]
  exact hsteps
/-- 'throw new E("text")': new; dup; ldc; invokespecial; athrow -/
theorem vx_throwS {cc : ByteArray} {pc : Nat} (hexec : p.tables.exec = Jvm.exec) (hb : c.code = cc) (hl : l.stackTraces = false) {own cls text : String} {names : List String} {ik is ic mc ms sa : Nat} {A : Nat → Prop}
    (hown : s.vm.findClass own = some m.cls) (hcls : Bundle.fit cls = true) (hnames : ∀ n ∈ names, Bundle.fit n = true)
    (hk : (Cond.classLink own ik cls).before args s = true) (hini : (Cond.initialized cls).before args s = true) (hstr : vk_R own is text sa s) (hat : ∀ w ∈ vx_atS own ic cls names, w.before args s = true)
    (hgood : ∀ w ∈ Cond.classLink own ik cls :: Cond.initialized cls :: vx_atS own ic cls names, vx_ot w = true)
    (hU : vx_Zq Bundle.tN "UNASSIGNED_STACK" Bundle.steD A s s.heap) (hN : vx_Zq Bundle.tN "SUPPRESSED_SENTINEL" Bundle.listD A s s.heap) (hS : va_S A s.heap H locs) (hsize : ls.size = c.maxLocals)
    (d0 : decode cc pc = .ok (.new ik, 3)) (d3 : decode cc (pc + 3) = .ok (.dup, 1)) (d4 : decode cc (pc + 4) = .ok (.ldc is, 2)) (d6 : decode cc (pc + 6) = .ok (.invokespecial ic, 3)) (d9 : decode cc (pc + 9) = .ok (.athrow, 1))
    (hout : ∀ x ∈ c.exceptionTable.toList, covers x (pc + 9) = false)
    (hRframes : names.length + 3 < R.frames) (hRlocals : (rest.map fun v => v.category).sum + (13 * (names.length + 1) + 43) ≤ R.locals) (hRcells : cells + 1 ≤ R.cells) (hRslots : slots + 6 ≤ R.slots) (hlocks : meth.locks = false)
    (hx : ∀ t : State, s.vm.Alike t.vm → H.size ≤ t.heap.size → (∀ q : Nat, q < H.size → t.heap[q]? = H[q]?) → XC cls s t)
    (hf : ∀ z ∈ locs, free z.base) (hc : cells + 1 ≤ mc) (hs : slots + 6 ≤ ms) :
    W p l e R s m args below meth c H locs cells slots (vx_MQ below Qc XC args s mc ms free) (F0 m pc ls rest) := by
  intro T hT X
  have htr : e.platform.stackTraces = false := (show e.platform.stackTraces = l.stackTraces by rw [X.admits.platform]).trans hl
  have Y := vx_rebase X (R' := { frames := R.frames, locals := R.locals, cells := 1, slots := 6 }) (Nat.le_refl _) (Nat.le_refl _) hRcells hRslots
  obtain ⟨s', hA⟩ : ∃ z, z = (T.setVm s.vm).setFrames (.invoking m args :: below) := ⟨_, rfl⟩
  rw [← hA] at Y
  have hvm : s'.vm = s.vm := by rw [hA]; rfl
  have hhp : s'.heap = H := by rw [hA]; exact hT
  have hW0 : s.WarmedH s'.vm := by rw [hvm]; exact State.WarmedH.refl s
  have hat' : ∀ w ∈ vx_atS own ic cls names, w.before args s' = true := fun w hw => vx_ot_at hW0 hvm.symm (hgood w (List.mem_cons_of_mem _ (List.mem_cons_of_mem _ hw))) (hat w hw)
  have hk' : (Cond.classLink own ik cls).before args s' = true := vx_ot_at hW0 hvm.symm (hgood _ List.mem_cons_self) hk
  have hini' : (Cond.initialized cls).before args s' = true := vx_ot_at hW0 hvm.symm (hgood _ (List.mem_cons_of_mem _ List.mem_cons_self)) hini
  have hU' : vx_Zq Bundle.tN "UNASSIGNED_STACK" Bundle.steD A s' s'.heap := by rw [hhp]; exact vx_Zq.moved hW0.alike (hU.kept hS.2.1)
  have hN' : vx_Zq Bundle.tN "SUPPRESSED_SENTINEL" Bundle.listD A s' s'.heap := by rw [hhp]; exact vx_Zq.moved hW0.alike (hN.kept hS.2.1)
  have h : ∀ w ∈ Bundle.ownAtoms own ic cls names, w.before args s' = true := vx_own hat' (vx_isRefq hU'.1) (vx_isRefq hN'.1) hU'.2.word hN'.2.word
  have hown' : s'.vm.findClass own = some m.cls := by rw [hvm]; exact hown
  have hins : (Cond.instantiable cls 6).before args s' = true := h _ (by simp [Bundle.ownAtoms])
  obtain ⟨vm₁, cX, kX, hfX, hkX, -, -, X₁, st1⟩ := Y.newCold hexec (own := own) (C := cls) (index := ik) (n := 6) hown' hk' hins hini'
    (g := F0 m pc ls rest) rfl (by rw [hb]; exact d0) (Nat.le_refl _) (Nat.le_refl _)
  generalize hT1 : (T.setVm vm₁).pushCell { cls := cX, slots := kX.instanceTypes.map defaultValue, vm := .none } = T1 at X₁ st1
  have hcat : (Value.ref T.heap.size).category = 1 := rfl
  have hcellA : T1.heap[T.heap.size]? = some (freshCell cX kX) := by rw [← hT1]; exact State.heap_pushCell_size _ _
  have d3' : decode c.code (pc + 3) = .ok (.dup, 1) := by rw [hb]; exact d3
  have d4' : decode c.code (pc + 4) = .ok (.ldc is, 2) := by rw [hb]; exact d4
  have hstr' : vk_R own is text sa s' := vk_R.warm hW0 hstr
  obtain ⟨U, hsteps, hrun, hend, hW, hsame, ce, hce, hO⟩ := X₁.ctorThrowS hexec htr (own := own) (cls := cls) (names := names) (ic := ic) hown' hcls hnames h (fun x hx => nomatch hx) hfX hkX hcellA (by rw [hhp, hT]; exact Nat.le_refl _) (msg := .ref sa) rfl
    (g := { method := m, pc := pc + 6, locals := ls, stack := .ref sa :: .ref T.heap.size :: .ref T.heap.size :: rest, locked := none }) rfl hsize rfl rfl (rest := rest) rfl
    (by rw [hb]; exact d6) (by rw [hb]; exact d9) hout hRframes (by simp only [List.map_cons, List.sum_cons, hcat]; omega) hlocks
  obtain ⟨f1, f2⟩ := vx_frame hsame
  rw [hhp] at f1 f2
  have hWs : s.WarmedH U.vm := State.WarmedH.trans hW0 hW
  have hcl : s.vm.findClass cls = some ce.cls := by
    have h9 := hO.cls
    rw [hvm] at h9
    exact h9
  have hall : s.sameButNew ({ U with vm := s.vm } : State) locs mc ms := by
    subst hA
    obtain ⟨e1, e2⟩ := hsame
    rw [State.setFrames_setFrames] at e1
    have h2 : (T.setVm s.vm).sameButNew ({ U with vm := s.vm } : State) [] (0 + 1) (0 + 6) := ⟨e1, e2⟩
    have h3 := X.same.trans h2
    rw [List.append_nil] at h3
    exact h3.mono hc hs
  refine ⟨U, ?_, .threw T.heap.size, hrun, hend, Or.inr ⟨T.heap.size, rfl, cls, ce, locs, hx U hWs.alike f1 (fun q hq => f2 q hq (fun z hz => nomatch hz)), hce, hO.vm, hcl, hWs, hall, hf⟩⟩
  refine st1 _ ?_
  show Steps p.tables e below (T1.setTop { method := m, pc := pc + 3, locals := ls, stack := .ref T.heap.size :: rest, locked := none }) _
  jvm_step X₁.here [X₁.here.top, hexec, d3', Value.category]
  exact X₁.ldcString hexec (own := own) (text := text) (index := is) (a := sa) hown' hstr'.1 hstr'.2
    (g := { method := m, pc := pc + 4, locals := ls, stack := .ref T.heap.size :: .ref T.heap.size :: rest, locked := none }) rfl d4' _ hsteps
/-- 'throw new E("text")', the text by a wide index -/
theorem vx_throwSW {cc : ByteArray} {pc : Nat} (hexec : p.tables.exec = Jvm.exec) (hb : c.code = cc) (hl : l.stackTraces = false) {own cls text : String} {names : List String} {ik is ic mc ms sa : Nat} {A : Nat → Prop}
    (hown : s.vm.findClass own = some m.cls) (hcls : Bundle.fit cls = true) (hnames : ∀ n ∈ names, Bundle.fit n = true)
    (hk : (Cond.classLink own ik cls).before args s = true) (hini : (Cond.initialized cls).before args s = true) (hstr : vk_R own is text sa s) (hat : ∀ w ∈ vx_atS own ic cls names, w.before args s = true)
    (hgood : ∀ w ∈ Cond.classLink own ik cls :: Cond.initialized cls :: vx_atS own ic cls names, vx_ot w = true)
    (hU : vx_Zq Bundle.tN "UNASSIGNED_STACK" Bundle.steD A s s.heap) (hN : vx_Zq Bundle.tN "SUPPRESSED_SENTINEL" Bundle.listD A s s.heap) (hS : va_S A s.heap H locs) (hsize : ls.size = c.maxLocals)
    (d0 : decode cc pc = .ok (.new ik, 3)) (d3 : decode cc (pc + 3) = .ok (.dup, 1)) (d4 : decode cc (pc + 4) = .ok (.ldc_w is, 3)) (d7 : decode cc (pc + 7) = .ok (.invokespecial ic, 3)) (d10 : decode cc (pc + 10) = .ok (.athrow, 1))
    (hout : ∀ x ∈ c.exceptionTable.toList, covers x (pc + 10) = false)
    (hRframes : names.length + 3 < R.frames) (hRlocals : (rest.map fun v => v.category).sum + (13 * (names.length + 1) + 43) ≤ R.locals) (hRcells : cells + 1 ≤ R.cells) (hRslots : slots + 6 ≤ R.slots) (hlocks : meth.locks = false)
    (hx : ∀ t : State, s.vm.Alike t.vm → H.size ≤ t.heap.size → (∀ q : Nat, q < H.size → t.heap[q]? = H[q]?) → XC cls s t)
    (hf : ∀ z ∈ locs, free z.base) (hc : cells + 1 ≤ mc) (hs : slots + 6 ≤ ms) :
    W p l e R s m args below meth c H locs cells slots (vx_MQ below Qc XC args s mc ms free) (F0 m pc ls rest) := by
  intro T hT X
  have htr : e.platform.stackTraces = false := (show e.platform.stackTraces = l.stackTraces by rw [X.admits.platform]).trans hl
  have Y := vx_rebase X (R' := { frames := R.frames, locals := R.locals, cells := 1, slots := 6 }) (Nat.le_refl _) (Nat.le_refl _) hRcells hRslots
  obtain ⟨s', hA⟩ : ∃ z, z = (T.setVm s.vm).setFrames (.invoking m args :: below) := ⟨_, rfl⟩
  rw [← hA] at Y
  have hvm : s'.vm = s.vm := by rw [hA]; rfl
  have hhp : s'.heap = H := by rw [hA]; exact hT
  have hW0 : s.WarmedH s'.vm := by rw [hvm]; exact State.WarmedH.refl s
  have hat' : ∀ w ∈ vx_atS own ic cls names, w.before args s' = true := fun w hw => vx_ot_at hW0 hvm.symm (hgood w (List.mem_cons_of_mem _ (List.mem_cons_of_mem _ hw))) (hat w hw)
  have hk' : (Cond.classLink own ik cls).before args s' = true := vx_ot_at hW0 hvm.symm (hgood _ List.mem_cons_self) hk
  have hini' : (Cond.initialized cls).before args s' = true := vx_ot_at hW0 hvm.symm (hgood _ (List.mem_cons_of_mem _ List.mem_cons_self)) hini
  have hU' : vx_Zq Bundle.tN "UNASSIGNED_STACK" Bundle.steD A s' s'.heap := by rw [hhp]; exact vx_Zq.moved hW0.alike (hU.kept hS.2.1)
  have hN' : vx_Zq Bundle.tN "SUPPRESSED_SENTINEL" Bundle.listD A s' s'.heap := by rw [hhp]; exact vx_Zq.moved hW0.alike (hN.kept hS.2.1)
  have h : ∀ w ∈ Bundle.ownAtoms own ic cls names, w.before args s' = true := vx_own hat' (vx_isRefq hU'.1) (vx_isRefq hN'.1) hU'.2.word hN'.2.word
  have hown' : s'.vm.findClass own = some m.cls := by rw [hvm]; exact hown
  have hins : (Cond.instantiable cls 6).before args s' = true := h _ (by simp [Bundle.ownAtoms])
  obtain ⟨vm₁, cX, kX, hfX, hkX, -, -, X₁, st1⟩ := Y.newCold hexec (own := own) (C := cls) (index := ik) (n := 6) hown' hk' hins hini'
    (g := F0 m pc ls rest) rfl (by rw [hb]; exact d0) (Nat.le_refl _) (Nat.le_refl _)
  generalize hT1 : (T.setVm vm₁).pushCell { cls := cX, slots := kX.instanceTypes.map defaultValue, vm := .none } = T1 at X₁ st1
  have hcat : (Value.ref T.heap.size).category = 1 := rfl
  have hcellA : T1.heap[T.heap.size]? = some (freshCell cX kX) := by rw [← hT1]; exact State.heap_pushCell_size _ _
  have d3' : decode c.code (pc + 3) = .ok (.dup, 1) := by rw [hb]; exact d3
  have d4' : decode c.code (pc + 4) = .ok (.ldc_w is, 3) := by rw [hb]; exact d4
  have hstr' : vk_R own is text sa s' := vk_R.warm hW0 hstr
  obtain ⟨U, hsteps, hrun, hend, hW, hsame, ce, hce, hO⟩ := X₁.ctorThrowS hexec htr (own := own) (cls := cls) (names := names) (ic := ic) hown' hcls hnames h (fun x hx => nomatch hx) hfX hkX hcellA (by rw [hhp, hT]; exact Nat.le_refl _) (msg := .ref sa) rfl
    (g := { method := m, pc := pc + 7, locals := ls, stack := .ref sa :: .ref T.heap.size :: .ref T.heap.size :: rest, locked := none }) rfl hsize rfl rfl (rest := rest) rfl
    (by rw [hb]; exact d7) (by rw [hb]; exact d10) hout hRframes (by simp only [List.map_cons, List.sum_cons, hcat]; omega) hlocks
  obtain ⟨f1, f2⟩ := vx_frame hsame
  rw [hhp] at f1 f2
  have hWs : s.WarmedH U.vm := State.WarmedH.trans hW0 hW
  have hcl : s.vm.findClass cls = some ce.cls := by
    have h9 := hO.cls
    rw [hvm] at h9
    exact h9
  have hall : s.sameButNew ({ U with vm := s.vm } : State) locs mc ms := by
    subst hA
    obtain ⟨e1, e2⟩ := hsame
    rw [State.setFrames_setFrames] at e1
    have h2 : (T.setVm s.vm).sameButNew ({ U with vm := s.vm } : State) [] (0 + 1) (0 + 6) := ⟨e1, e2⟩
    have h3 := X.same.trans h2
    rw [List.append_nil] at h3
    exact h3.mono hc hs
  refine ⟨U, ?_, .threw T.heap.size, hrun, hend, Or.inr ⟨T.heap.size, rfl, cls, ce, locs, hx U hWs.alike f1 (fun q hq => f2 q hq (fun z hz => nomatch hz)), hce, hO.vm, hcl, hWs, hall, hf⟩⟩
  refine st1 _ ?_
  show Steps p.tables e below (T1.setTop { method := m, pc := pc + 3, locals := ls, stack := .ref T.heap.size :: rest, locked := none }) _
  jvm_step X₁.here [X₁.here.top, hexec, d3', Value.category]
  exact X₁.ldcStringW hexec (own := own) (text := text) (index := is) (a := sa) hown' hstr'.1 hstr'.2
    (g := { method := m, pc := pc + 4, locals := ls, stack := .ref T.heap.size :: .ref T.heap.size :: rest, locked := none }) rfl d4' _ hsteps
end Ends
section Bodies
variable {l : Launch}
theorem vx_ofW {y : MethodName} {ws ws' : List Cond} {rm : Room} {Pc : Array Value → State → Prop} {Qc : Array Value → State → Outcome → State → Prop} {XC : String → State → State → Prop} {mc ms : Nat} {free : Addr → Prop} {cc : ByteArray} {maxL : Nat} {ret : Option FieldType}
    (hy : plainName y.cls = true) (hw : ws = Cond.code y cc maxL ret :: ws')
    (body : ∀ p e s m args below meth c s₁, BodyLoose p l y (headSpec ws rm) cc maxL ret e s m args below meth c s₁ → c.maxLocals = maxL → (∀ x ∈ c.exceptionTable.toList, False) → Pc args s →
      W p l e (headSpec ws rm).room s m args below meth c s.heap [] 0 0 (vx_MQ below Qc XC args s mc ms free) (entryFrame m args maxL)) : vx_Met l y ws rm Pc Qc XC mc ms free := by
  refine MetFree.of_bodyS (code := cc) (maxLocals := maxL) (ret := ret) hy ?_ ?_
  · intro args s m h hn
    obtain ⟨meth, c, h1, h2, h3, h4, h5, h6, -, -⟩ := Cond.code_spec hn (atoms_spec (ws := ws) h _ (by rw [hw]; exact List.mem_cons_self))
    exact ⟨meth, c, h1, h2, h3, h4, h5, h6⟩
  · intro p e s m args below meth c s₁ B hml hP _
    have hh0 : s₁.heap = s.heap := by rw [B.state]; rfl
    have ht : ∀ x ∈ c.exceptionTable.toList, False := by
      obtain ⟨meth9, c9, h1, h2, -, -, -, -, h7, -⟩ := Cond.code_spec B.named (atoms_spec (ws := ws) B.pre _ (by rw [hw]; exact List.mem_cons_self))
      cases Option.some.inj (h1.symm.trans B.method)
      cases Option.some.inj (h2.symm.trans (Stand.of_body B).code)
      intro x hx
      rw [Array.isEmpty_iff.mp h7] at hx
      cases hx
    obtain ⟨t, a1, o, b1, b2, b3⟩ := body p e s m args below meth c s₁ B hml ht hP s₁ hh0 (Stand.of_body B)
    exact ⟨t, o, a1, b1, b2, b3⟩
/-- the table of a body with handlers -/
theorem vx_table {p : Program} {x y : MethodName} {S : Spec} {cc bytes : ByteArray} {maxL maxL' : Nat} {ret ret' : Option FieldType} {e : Env} {s s₁ : State} {m : MethodId} {args : Array Value} {below : List Frame} {meth : Method} {c : Code} {hh : List (Nat × Nat × Nat × Nat)}
    (B : BodyLoose p l y S cc maxL ret e s m args below meth c s₁) (h : (Cond.codeWith y bytes maxL' ret' hh).before args s = true) : c.exceptionTable.toList = tableOf hh := by
  obtain ⟨m9, meth9, c9, hn9, h1, h2, -, -, h6, -⟩ := Cond.codeWith_spec h
  cases Option.some.inj (hn9.symm.trans B.named)
  cases Option.some.inj (h1.symm.trans B.method)
  cases Option.some.inj (h2.symm.trans (Stand.of_body B).code)
  rw [← h6, table_eq]
end Bodies
end VXA
/-! ===== END ===== -/
/-! ===== BEGIN a static call of a method with an exception table ===== -/
section VXS
variable {p : Program} {l : Launch} {e : Env} {R : Room} {s : State} {m : MethodId} {args : Array Value} {below : List Frame} {meth : Method} {c : Code} {T : State} {H : Heap} {locs : List Loc} {cells slots : Nat}
abbrev vx_CSW (R : Room) (s : State) (args : Array Value) (own : String) (index : Nat) (y : MethodName) (bytes : ByteArray) (maxL : Nat) (ret : Option FieldType) (hh : List (Nat × Nat × Nat × Nat)) (ws : List Cond) (rm : Room) (mc ms n : Nat) : Prop :=
  (rm.cells = mc ∧ rm.slots = ms ∧ rm.frames + 1 ≤ R.frames ∧ 8 + (maxL + 11) + rm.locals ≤ R.locals ∧ (∀ w ∈ ws, ∀ (a' : Array Value) (U : State), s.WarmedH U.vm → w.before a' U = true) ∧ Cond.codeWith y bytes maxL ret hh ∈ ws) ∧
  (Cond.codeWith y bytes maxL ret hh).before args s = true ∧ (Cond.initialized y.cls).before args s = true ∧ (y.cls ≠ "java/lang/invoke/MethodHandle" ∧ y.cls ≠ "java/lang/invoke/VarHandle") ∧
  (∀ sig, parseMethodDescriptor y.desc = some sig → n = sig.parameters.length) ∧ (Cond.methodLink own index y).before args s = true ∧ (Cond.static y).before args s = true
theorem vx_cwSW {own : String} {index maxL mc ms : Nat} {y : MethodName} {bytes : ByteArray} {ret : Option FieldType} {hh : List (Nat × Nat × Nat × Nat)} {Ts ws ws' : List Cond} {rm : Room} (n : Nat) (ht : ∀ w ∈ Ts, w.before args s = true) (hT : GoodIn Ts (va_wsS own index y ws)) (hw : ws = Cond.codeWith y bytes maxL ret hh :: ws') (hrc : rm.cells = mc) (hrs : rm.slots = ms)
    (hd : y.cls ≠ "java/lang/invoke/MethodHandle" ∧ y.cls ≠ "java/lang/invoke/VarHandle" ∧ (parseMethodDescriptor y.desc).map (fun d => d.parameters.length) = some n) (hR : rm.frames + 1 ≤ R.frames ∧ 8 + (maxL + 11) + rm.locals ≤ R.locals) :
    vx_CSW R s args own index y bytes maxL ret hh ws rm mc ms n := by
  have ok : ∀ w ∈ va_wsS own index y ws, w.before args s = true := fun w h => ht w (hT w h).1
  have hG : GoodIn Ts ws := fun w h => hT w (by unfold va_wsS; exact List.mem_append_right _ h)
  have hc : Cond.codeWith y bytes maxL ret hh ∈ ws := by rw [hw]; exact List.mem_cons_self
  refine ⟨⟨hrc, hrs, hR.1, hR.2, pay_in ht hG, hc⟩, ht _ (hG _ hc).1, ok _ (by simp [va_wsS]), ⟨hd.1, hd.2.1⟩, fun sig h => ?_, ok _ (by simp [va_wsS]), ok _ (by simp [va_wsS])⟩
  have h2 := hd.2.2
  rw [h] at h2
  exact (Option.some.inj h2).symm
theorem vx_callSW (X : Stand p l e R s m args below meth c T locs cells slots) (hexec : p.tables.exec = Jvm.exec) {own : String} {index : Nat} {y : MethodName} {bytes : ByteArray} {maxL : Nat} {ret : Option FieldType} {hh : List (Nat × Nat × Nat × Nat)}
    (hown : s.vm.findClass own = some m.cls) (hlink : (Cond.methodLink own index y).before args s = true) (hstat : (Cond.static y).before args s = true) (hinit : (Cond.initialized y.cls).before args s = true)
    (hcode : (Cond.codeWith y bytes maxL ret hh).before args s = true) (hy : y.cls ≠ "java/lang/invoke/MethodHandle" ∧ y.cls ≠ "java/lang/invoke/VarHandle")
    {W9 : Nat} {Pre : Pt → Array Value → Prop} {Post : Pt → Array Value → Option Value → Pt → Prop} (hK : Back l R p e below s args y 3 W9 Pre Post)
    {g : JFrame} (hg : g.method = m) (hsize : g.locals.size = c.maxLocals) {argsL rest : List Value} (hlen : ∀ sig, parseMethodDescriptor y.desc = some sig → argsL.length = sig.parameters.length)
    (hstack : g.stack = argsL.reverse ++ rest) (hW : 2 * g.monitorRoom + (rest.map fun v => v.category).sum ≤ W9) (hdg : decode c.code g.pc = .ok (.invokestatic index, 3))
    (hpre : ∀ vm₁, s.WarmedH vm₁ → Pre ⟨T.setVm vm₁, locs, cells, slots⟩ argsL.toArray) :
    ∃ (v : Option Value) (vm₁ : Vm) (B : Pt), s.WarmedH vm₁ ∧ Stand p l e R s m args below meth c B.U B.locs B.cells B.slots ∧ Post ⟨T.setVm vm₁, locs, cells, slots⟩ argsL.toArray v B ∧
      ∀ target, Steps p.tables e below (B.U.setTop { g with pc := g.pc + 3, stack := v.toList ++ rest }) target → Steps p.tables e below (T.setTop g) target := by
  obtain ⟨mk, methM, cM, hnamed, hmethM, -, -, -, -, -, -, hsigM⟩ := Cond.codeWith_spec hcode
  have hstatic : methM.isStatic = true := Cond.static_spec hnamed hmethM hstat
  obtain ⟨kP, hkP, -⟩ := className_of_methodNamed hnamed
  have hinitP : kP.init = .initialized := Cond.initialized_spec (findClass_of_methodNamed hnamed) hkP hinit
  obtain ⟨vm₁, X₁, hstep₁⟩ := X.invokestatic hexec hown hlink hnamed hmethM hstatic hkP hinitP hy (g := g) hg (argsL := argsL) (rest := rest) (hlen _ hsigM) hstack hdg
  obtain ⟨v, B, X', hpost, hsteps⟩ := hK m meth c ⟨T.setVm vm₁, locs, cells, slots⟩ { g with stack := rest } (.invokestatic index) mk argsL.toArray X₁ hg hsize hdg hW (X₁.named hnamed) (hpre vm₁ X₁.warmed)
  exact ⟨v, vm₁, B, X₁.warmed, X', hpost, fun target h => hstep₁ _ fun acts => by rw [doInvoke_state]; exact hsteps.trans h⟩
theorem vx_runSW {y : MethodName} {bytes cc : ByteArray} {maxL nL mc ms n index : Nat} {ret : Option FieldType} {hh : List (Nat × Nat × Nat × Nat)} {ws : List Cond} {rm : Room} {Pc : Array Value → State → Prop} {Qc : Array Value → State → Outcome → State → Prop} {free : Addr → Prop} {Ts : List Cond} {own : String} {As rest : List Value} {g : JFrame}
    (S : CallFix p m c cc nL s args Ts own) (hM : Met l y ws rm Pc Qc mc ms free) (cw : vx_CSW R s args own index y bytes maxL ret hh ws rm mc ms n) (hp : PreS s H Pc As)
    (hg : g.method = m) (hn : As.length = n) (hsize : g.locals.size = nL) (hstack : g.stack = As.reverse ++ rest) (hW : 2 * g.monitorRoom + (rest.map fun v => v.category).sum ≤ 8) (hdg : decode cc g.pc = .ok (.invokestatic index, 3)) (hf : cells + mc ≤ R.cells ∧ slots + ms ≤ R.slots) :
    va_Run p l e R s m args below meth c H locs cells slots mc ms g rest (Qc As.toArray) (free) := by
  obtain ⟨⟨hrc, hrs, hfr, hlo, hws, hcw⟩, hcode, hini, hy, hlen, hl, hstt⟩ := cw
  have hK : Back l R p e below s args y 3 8 (PreOf R mc ms Pc) (PostOf Qc mc ms free) := va_backW (hh := hh) (bytes := bytes) (maxL := maxL) (ret := ret) hM hp.1 hrc hrs hfr hlo hws hcw (fun a' U hW => word_at hW (Or.inl (by first | rfl | simp [Cond.onTables, Cond.keeps, Cond.steady])) hini)
  obtain ⟨hx, hb, hml, ho, -⟩ := S
  intro T hT X
  obtain ⟨v, vm₁, ⟨U', l2, c2, s2⟩, hW₁, X', ⟨g', mk, t, L, e1, e2, hq, h1, hL, h2, h3⟩, st⟩ := vx_callSW X hx (hh := hh) (bytes := bytes) (maxL := maxL) (ret := ret) ho hl hstt hini hcode hy hK hg (hsize.trans hml.symm) (argsL := As) (rest := rest) (fun sig h => hn.trans (hlen sig h)) hstack hW (by rw [hb]; exact hdg)
    (fun vm₁ hW₁ => ⟨hf.1, hf.2, hp.2 (T.setVm vm₁) hT hW₁⟩)
  dsimp only [Pt.U, Pt.locs, Pt.cells, Pt.slots] at X' e1 e2 h1 h2 h3 st
  subst h1; subst h2; subst h3
  exact ⟨v, (T.setVm vm₁).calling g' mk As.toArray, t, U', L, hT, X', hL, e1, e2, hq, st⟩
/-- not caught here, past rows that name other classes: it goes on to the caller -/
theorem vx_outP {p : Program} {l : Launch} {e : Env} {R : Room} {s : State} {m : MethodId} {args : Array Value} {below : List Frame} {meth : Method} {c : Code} {H : Heap} {locs : List Loc} {cells slots : Nat} {free : Addr → Prop} {ls : Array Slot} {rest : List Value} {Qc : Array Value → State → Outcome → State → Prop} {XC : String → State → State → Prop}
    {pc : Nat} {own E : String} {ce : Cell} {q : Addr} {mc ms : Nat} (hown : s.vm.findClass own = some m.cls) (hlocks : meth.locks = false)
    (hpass : ∀ z ∈ c.exceptionTable.toList, covers z pc = false ∨ (z.catchType ≠ 0 ∧ ∃ nm : String, (Cond.classLink own z.catchType nm).before args s = true ∧ va_Nc E nm s)) (hcell : H[q]? = some ce) (hv : ce.vm = .none) (hcl : s.vm.findClass E = some ce.cls)
    (hx : ∀ t : State, t.heap = H → s.vm.Alike t.vm → XC E s t) (hf : ∀ z ∈ locs, free z.base) (hc : cells ≤ mc) (hs : slots ≤ ms) :
    vx_W p l e R s m args below meth c H locs cells slots (vx_MQ below Qc XC args s mc ms free) (F0 m pc ls rest) q := by
  intro T hT X
  have hpl : e.platform.magicAccessors = ({} : Platform).magicAccessors := by rw [X.admits.platform]
  obtain ⟨vm', hW', X', st⟩ := X.outThrough hlocks q (g := F0 m pc ls rest) rfl rfl rfl (cell := ce) (by rw [hT]; exact hcell) (by rw [hv]; rfl)
    (by obtain ⟨k9, h9, -⟩ := Vm.findClass_spec hcl; exact ⟨k9, h9⟩) (fun z hz => by
      rcases hpass z hz with h | ⟨hz0, nm, hl1, hn1⟩
      · exact Or.inl h
      · obtain ⟨c6, hc6, hcl6⟩ := Cond.classLink_spec hown hl1 e.platform hpl
        obtain ⟨a8, b8, h1, h2, h3⟩ := hn1
        cases Option.some.inj (h1.symm.trans hcl)
        cases Option.some.inj (h2.symm.trans hc6)
        exact Or.inr ⟨hz0, _, hcl6, h3⟩)
  obtain ⟨g₀, hfr⟩ := X'.frames_eq
  have hcell9 : ((T.setVm vm').setFrames (.throwing q :: below)).heap[q]? = some ce := by
    show T.heap[q]? = some ce
    rw [hT]; exact hcell
  have hend : Ended ((T.setVm vm').setFrames (.throwing q :: below)) below (.threw q) := State.frames_setFrames _ (State.cur_lt_of_frames hfr)
  refine ⟨(T.setVm vm').setFrames (.throwing q :: below), ?_, .threw q, X'.here.running, hend, Or.inr ⟨q, rfl, E, ce, locs, hx _ hT (X'.ends _).1.alike, hcell9, hv, hcl, (X'.ends _).1, (X'.ends _).2.mono hc hs, hf⟩⟩
  rw [X.pushThrowing_eq]
  exact st
/-- a thing of a world lies in the heap -/
theorem vx_lt {D : va_G} {cl : List vw_C} {ws : va_W} {H1 : Heap} (h : va_P D cl ws H1) {k : Nat} {q : Nat × va_E} (hk : ws[k]? = some q) : q.1 < H1.size := (h k q hk).lt
end VXS
/-! ===== END ===== -/
/-! ===== BEGIN methods with a table of their own: called by a name, returning or throwing ===== -/
section VXH
/-! vx_backW, vx_callVX, vx_callSX, vx_callVW, vx_runVW, vx_runVX, vx_runSX, vx_ofWH follow the same proofs as their sisters above (Free/Laws.lean, Shelf42/LK1.lean); vx_outP calls Shelf42/NT130.lean (outThrough). -/
section
variable {l : Launch} {R : Room} {p : Program} {e : Env} {below : List Frame} {s : State} {sargs : Array Value} {y : MethodName} {len W9 : Nat}
theorem vx_backW {ws : List Cond} {rm : Room} {Pc : Array Value → State → Prop} {Qc : Array Value → State → Outcome → State → Prop} {XC : String → State → State → Prop} {mc ms : Nat} {free : Addr → Prop} {bytes : ByteArray} {maxL : Nat} {ret : Option FieldType} {hh : List (Nat × Nat × Nat × Nat)}
    (hM : vx_Met l y ws rm Pc Qc XC mc ms free) (hblind : FrameBlind Pc) (hrc : rm.cells = mc) (hrs : rm.slots = ms)
    (hframes : rm.frames + 1 ≤ R.frames) (hlocals : W9 + (maxL + 11) + rm.locals ≤ R.locals)
    (hws : ∀ w ∈ ws, ∀ a' U, s.WarmedH U.vm → w.before a' U = true) (hcode : Cond.codeWith y bytes maxL ret hh ∈ ws) (hinit : ∀ a' U, s.WarmedH U.vm → (Cond.initialized y.cls).before a' U = true) :
    vx_Back l R p e below s sargs y len W9 (PreOf R mc ms Pc) (PostOf Qc mc ms free) (vx_Post XC mc ms free) := by
  intro m meth c A g ig mk a X hg hsize hdg hW hn hp
  have h1 : (headSpec ws rm).pre.before a A.U = true := atoms_intro fun w hw => hws w hw _ _ X.warmed
  have h2 : (Cond.codeWith y bytes maxL ret hh).before a A.U = true := hws _ hcode _ _ X.warmed
  have h3 : (Cond.initialized y.cls).before a A.U = true := hinit _ _ X.warmed
  have h4 : A.cells + (headSpec ws rm).room.cells ≤ R.cells := by rw [show (headSpec ws rm).room.cells = mc from hrc]; exact hp.1
  have h5 : A.slots + (headSpec ws rm).room.slots ≤ R.slots := by rw [show (headSpec ws rm).room.slots = ms from hrs]; exact hp.2.1
  have hPc : Pc a (A.U.calling g mk a) := hblind _ _ _ _ hp.2.2
  obtain ⟨U, Ls, c0, s0⟩ := A
  dsimp only [Pt.U, Pt.locs, Pt.cells, Pt.slots] at h1 h2 h3 h4 h5 X hn hPc ⊢
  obtain ⟨m9, methY, cY, hn9, hmY, hcY, -, hlY, -⟩ := Cond.codeWith_spec h2
  cases Option.some.inj (hn9.symm.trans hn)
  obtain ⟨kY, hkY, -⟩ := className_of_methodNamed hn
  have hinitY : kY.init = .initialized := Cond.initialized_spec (findClass_of_methodNamed hn) hkY h3
  have h : At U g.method c below := by rw [hg]; exact X.here
  have hlocals9 : W9 + (maxL + 11) + (headSpec ws rm).room.locals ≤ R.locals := hlocals
  have happ : (headSpec ws rm).appliesLoose y e.platform (U.calling g mk a) = true :=
    Spec.appliesLoose_calling (g := g) h hdg hn hkY hinitY
      (X.room_calling (g := g) (R' := (headSpec ws rm).room) hsize hmY hcY hframes (by rw [hlY]; omega) h4 h5) h1
  obtain ⟨mid, hmid⟩ := h.above
  have hfr : (U.setTop g).frames = (.java g :: mid) ++ below := by rw [State.frames_setTop' g h.top, hmid]; rfl
  obtain ⟨o, s₂, hsteps, -, hend, hq⟩ := Steps.callFree hM p X.admits X.cas X.clock (acts := []) hfr happ hPc trivial
  have hq' : vx_Q Qc XC mc ms free a (U.calling g mk a) o s₂ := hq
  rw [State.frames_setTop' g h.top] at hend
  obtain ⟨g₀, hg0⟩ := Option.isSome_iff_exists.mp h.top
  obtain ⟨r, hr⟩ := State.topJava?_eq_some.mp hg0
  have hr' : (({ U with heap := s₂.heap, slotsUsed := s₂.slotsUsed } : State).setVm s₂.vm).frames = .java g₀ :: r := hr
  rcases hq' with ⟨hqc, L, hfe, hL⟩ | ⟨q, rfl, E, ce, L, hx, hce, hcv, hcl, hW₂, hsm, hL⟩
  · obtain ⟨⟨v, rfl⟩, hW₂, e2, q2, q3, q4, q5, q6⟩ := id hfe
    have e3 : s₂ = ({ (U.calling g mk a).setFrames s₂.frames with heap := s₂.heap, slotsUsed := s₂.slotsUsed } : State).setVm s₂.vm := by
      have : s₂ = ({ s₂ with vm := (U.calling g mk a).vm } : State).setVm s₂.vm := rfl
      rw [e2] at this
      exact this
    obtain ⟨c₂, i₂, len₂, hc₂, hd₂, hf₂⟩ := hend
    have hW' : U.WarmedH s₂.vm := hW₂
    have hcc : c₂ = c := by
      have h1 : s₂.code? g.method = U.code? g.method := by
        rw [State.code?_eq, State.code?_eq, hW'.alike.method?]
      exact Option.some.inj (hc₂.symm.trans (h1.trans h.code))
    subst hcc
    have hlen : len₂ = len := by rw [hdg] at hd₂; cases hd₂; rfl
    subst hlen
    have hs₂ : s₂ = (({ U with heap := s₂.heap, slotsUsed := s₂.slotsUsed } : State).setVm s₂.vm).setTop { g with pc := g.pc + len₂, stack := v.toList ++ g.stack } := by
      refine e3.trans ?_
      rw [hf₂, State.calling_eq h.top, State.setFrames_setFrames, State.setTop_of_frames _ hr', hr]
      rfl
    have hsame : U.sameButNew ({ U with heap := s₂.heap, slotsUsed := s₂.slotsUsed } : State) L mc ms := by
      refine ⟨?_, q2, q3, q4, q5, q6⟩
      obtain ⟨t, ht, -⟩ := State.frames_cons hr
      show ({ U with heap := s₂.heap, slotsUsed := s₂.slotsUsed } : State) = { U.setFrames U.frames with heap := s₂.heap, slotsUsed := s₂.slotsUsed }
      rw [State.setFrames_self ht]
    subst hg
    refine Or.inl ⟨v, ⟨(({ U with heap := s₂.heap, slotsUsed := s₂.slotsUsed } : State).setVm s₂.vm), Ls ++ L, c0 + mc, s0 + ms⟩,
      ⟨X.admits, X.cas, X.clock, X.frames, X.room, X.hears, X.method, X.code, (X.here.setHeapUsed s₂.heap s₂.slotsUsed).setVm hW'.alike, X.tail, State.WarmedH.trans X.warmed hW', X.limits, X.bytes, X.same.trans (hsame.setVm s.vm)⟩,
      ⟨g, mk, s₂, L, rfl, rfl, hqc, rfl, hL, rfl, rfl⟩, ?_⟩
    show Steps p.tables e below _ ((({ U with heap := s₂.heap, slotsUsed := s₂.slotsUsed } : State).setVm s₂.vm).setTop { g with pc := g.pc + len₂, stack := v.toList ++ g.stack })
    rw [← hs₂]
    exact hsteps
  · obtain ⟨e2, q2, q3, q4, q5, q6⟩ := id hsm
    have e3 : s₂ = ({ (U.calling g mk a).setFrames s₂.frames with heap := s₂.heap, slotsUsed := s₂.slotsUsed } : State).setVm s₂.vm := by
      have : s₂ = ({ s₂ with vm := (U.calling g mk a).vm } : State).setVm s₂.vm := rfl
      rw [e2] at this
      exact this
    have hf₂ : s₂.frames = .throwing q :: .java g :: U.frames.tail := hend
    have hW' : U.WarmedH s₂.vm := hW₂
    have hs₂ : s₂ = ((({ U with heap := s₂.heap, slotsUsed := s₂.slotsUsed } : State).setVm s₂.vm).setTop g).pushFrame (.throwing q) := by
      refine e3.trans ?_
      rw [hf₂, State.calling_eq h.top, State.setFrames_setFrames, State.pushFrame, State.frames_setTop _ hr', State.setTop_of_frames _ hr', State.setFrames_setFrames, hr]
      rfl
    have hsame : U.sameButNew ({ U with heap := s₂.heap, slotsUsed := s₂.slotsUsed } : State) L mc ms := by
      refine ⟨?_, q2, q3, q4, q5, q6⟩
      obtain ⟨t, ht, -⟩ := State.frames_cons hr
      show ({ U with heap := s₂.heap, slotsUsed := s₂.slotsUsed } : State) = { U.setFrames U.frames with heap := s₂.heap, slotsUsed := s₂.slotsUsed }
      rw [State.setFrames_self ht]
    subst hg
    refine Or.inr ⟨q, ⟨(({ U with heap := s₂.heap, slotsUsed := s₂.slotsUsed } : State).setVm s₂.vm), Ls ++ L, c0 + mc, s0 + ms⟩,
      ⟨X.admits, X.cas, X.clock, X.frames, X.room, X.hears, X.method, X.code, (X.here.setHeapUsed s₂.heap s₂.slotsUsed).setVm hW'.alike, X.tail, State.WarmedH.trans X.warmed hW', X.limits, X.bytes, X.same.trans (hsame.setVm s.vm)⟩,
      ⟨g, mk, s₂, L, E, ce, rfl, rfl, hx, hce, hcv, hcl, rfl, hL, rfl, rfl⟩, ?_⟩
    show Steps p.tables e below _ (((({ U with heap := s₂.heap, slotsUsed := s₂.slotsUsed } : State).setVm s₂.vm).setTop g).pushFrame (.throwing q))
    rw [← hs₂]
    exact hsteps
end
variable {p : Program} {l : Launch} {e : Env} {R : Room} {s : State} {m : MethodId} {args : Array Value} {below : List Frame} {meth : Method} {c : Code} {T : State} {H : Heap} {locs : List Loc} {cells slots : Nat}
theorem vx_callVX (X : Stand p l e R s m args below meth c T locs cells slots) (hexec : p.tables.exec = Jvm.exec) {own C : String} {index : Nat} {y : MethodName} {bytes : ByteArray} {maxL : Nat} {ret : Option FieldType} {hh : List (Nat × Nat × Nat × Nat)}
    (hown : s.vm.findClass own = some m.cls) (hlink : (Cond.methodLink own index y).before args s = true) (hinst : (Cond.instanceMethod y).before args s = true) (hsel : (Cond.selects C y y).before args s = true)
    (hcode : (Cond.codeWith y bytes maxL ret hh).before args s = true) (hy : y.cls ≠ "java/lang/invoke/MethodHandle" ∧ y.cls ≠ "java/lang/invoke/VarHandle")
    {W9 : Nat} {Pre : Pt → Array Value → Prop} {Post : Pt → Array Value → Option Value → Pt → Prop} {PostX : Pt → Array Value → Addr → Pt → Prop} (hK : vx_Back l R p e below s args y 3 W9 Pre Post PostX)
    {b : Addr} {cellB : Cell} (hcell : T.heap[b]? = some cellB) (hobj : cellB.vm.isStatics = false) (hcls : s.vm.findClass C = some cellB.cls)
    {g : JFrame} (hg : g.method = m) (hsize : g.locals.size = c.maxLocals) {argsL rest : List Value} (hlen : ∀ sig, parseMethodDescriptor y.desc = some sig → argsL.length = sig.parameters.length)
    (hstack : g.stack = argsL.reverse ++ .ref b :: rest) (hW : 2 * g.monitorRoom + (rest.map fun v => v.category).sum ≤ W9) (hdg : decode c.code g.pc = .ok (.invokevirtual index, 3))
    (hpre : ∀ vm₁, s.WarmedH vm₁ → Pre ⟨T.setVm vm₁, locs, cells, slots⟩ (Value.ref b :: argsL).toArray) :
    (∃ (v : Option Value) (vm₁ : Vm) (B : Pt), s.WarmedH vm₁ ∧ Stand p l e R s m args below meth c B.U B.locs B.cells B.slots ∧ Post ⟨T.setVm vm₁, locs, cells, slots⟩ (Value.ref b :: argsL).toArray v B ∧
      ∀ target, Steps p.tables e below (B.U.setTop { g with pc := g.pc + 3, stack := v.toList ++ rest }) target → Steps p.tables e below (T.setTop g) target) ∨
    (∃ (q : Addr) (vm₁ : Vm) (B : Pt), s.WarmedH vm₁ ∧ Stand p l e R s m args below meth c B.U B.locs B.cells B.slots ∧ PostX ⟨T.setVm vm₁, locs, cells, slots⟩ (Value.ref b :: argsL).toArray q B ∧
      Steps p.tables e below (T.setTop g) ((B.U.setTop { g with stack := rest }).pushFrame (.throwing q))) := by
  obtain ⟨mk, methM, hnamed, hmethM, hstM, habM⟩ := Cond.instanceMethod_spec hinst
  obtain ⟨m8, methM', cM, hn8, hmethM', -, -, -, -, -, -, hsigM⟩ := Cond.codeWith_spec hcode
  cases Option.some.inj (hn8.symm.trans hnamed)
  cases hmethM.symm.trans hmethM'
  obtain ⟨c2, r2, m2, q1, q2, q3, q4, kP, hkP, hkPi⟩ := Cond.selects_spec hsel
  cases hcls.symm.trans q1
  cases (State.methodFound?_of_named hnamed hy).symm.trans q2
  cases hnamed.symm.trans q3
  have hselP : selectMethod e.platform s.vm cellB.cls mk = .method mk := by rw [Launch.admits_selectMethod X.admits]; exact q4
  obtain ⟨vm₁, X₁, hstep₁⟩ := X.invokevirtual hexec hown hlink hnamed hmethM hstM hkP hkPi hy (a := b) (cell := cellB) hcell
    (fun z h => by rw [h] at hobj; cases hobj) hselP hmethM habM hkP hkPi (g := g) hg (argsL := argsL) (rest := rest) (hlen _ hsigM) hstack hdg
  rcases hK m meth c ⟨T.setVm vm₁, locs, cells, slots⟩ { g with stack := rest } (.invokevirtual index) mk (Value.ref b :: argsL).toArray X₁ hg hsize hdg hW (X₁.named hnamed) (hpre vm₁ X₁.warmed) with ⟨v, B, X', hpost, hsteps⟩ | ⟨q, B, X', hpost, hsteps⟩
  · exact Or.inl ⟨v, vm₁, B, X₁.warmed, X', hpost, fun target h => hstep₁ _ fun acts => by rw [doInvoke_state]; exact hsteps.trans h⟩
  · exact Or.inr ⟨q, vm₁, B, X₁.warmed, X', hpost, hstep₁ _ fun acts => by rw [doInvoke_state]; exact hsteps⟩
theorem vx_callSX (X : Stand p l e R s m args below meth c T locs cells slots) (hexec : p.tables.exec = Jvm.exec) {own : String} {index : Nat} {y : MethodName} {bytes : ByteArray} {maxL : Nat} {ret : Option FieldType} {hh : List (Nat × Nat × Nat × Nat)}
    (hown : s.vm.findClass own = some m.cls) (hlink : (Cond.methodLink own index y).before args s = true) (hstat : (Cond.static y).before args s = true) (hinit : (Cond.initialized y.cls).before args s = true)
    (hcode : (Cond.codeWith y bytes maxL ret hh).before args s = true) (hy : y.cls ≠ "java/lang/invoke/MethodHandle" ∧ y.cls ≠ "java/lang/invoke/VarHandle")
    {W9 : Nat} {Pre : Pt → Array Value → Prop} {Post : Pt → Array Value → Option Value → Pt → Prop} {PostX : Pt → Array Value → Addr → Pt → Prop} (hK : vx_Back l R p e below s args y 3 W9 Pre Post PostX)
    {g : JFrame} (hg : g.method = m) (hsize : g.locals.size = c.maxLocals) {argsL rest : List Value} (hlen : ∀ sig, parseMethodDescriptor y.desc = some sig → argsL.length = sig.parameters.length)
    (hstack : g.stack = argsL.reverse ++ rest) (hW : 2 * g.monitorRoom + (rest.map fun v => v.category).sum ≤ W9) (hdg : decode c.code g.pc = .ok (.invokestatic index, 3))
    (hpre : ∀ vm₁, s.WarmedH vm₁ → Pre ⟨T.setVm vm₁, locs, cells, slots⟩ argsL.toArray) :
    (∃ (v : Option Value) (vm₁ : Vm) (B : Pt), s.WarmedH vm₁ ∧ Stand p l e R s m args below meth c B.U B.locs B.cells B.slots ∧ Post ⟨T.setVm vm₁, locs, cells, slots⟩ argsL.toArray v B ∧
      ∀ target, Steps p.tables e below (B.U.setTop { g with pc := g.pc + 3, stack := v.toList ++ rest }) target → Steps p.tables e below (T.setTop g) target) ∨
    (∃ (q : Addr) (vm₁ : Vm) (B : Pt), s.WarmedH vm₁ ∧ Stand p l e R s m args below meth c B.U B.locs B.cells B.slots ∧ PostX ⟨T.setVm vm₁, locs, cells, slots⟩ argsL.toArray q B ∧
      Steps p.tables e below (T.setTop g) ((B.U.setTop { g with stack := rest }).pushFrame (.throwing q))) := by
  obtain ⟨mk, methM, cM, hnamed, hmethM, -, -, -, -, -, -, hsigM⟩ := Cond.codeWith_spec hcode
  have hstatic : methM.isStatic = true := Cond.static_spec hnamed hmethM hstat
  obtain ⟨kP, hkP, -⟩ := className_of_methodNamed hnamed
  have hinitP : kP.init = .initialized := Cond.initialized_spec (findClass_of_methodNamed hnamed) hkP hinit
  obtain ⟨vm₁, X₁, hstep₁⟩ := X.invokestatic hexec hown hlink hnamed hmethM hstatic hkP hinitP hy (g := g) hg (argsL := argsL) (rest := rest) (hlen _ hsigM) hstack hdg
  rcases hK m meth c ⟨T.setVm vm₁, locs, cells, slots⟩ { g with stack := rest } (.invokestatic index) mk argsL.toArray X₁ hg hsize hdg hW (X₁.named hnamed) (hpre vm₁ X₁.warmed) with ⟨v, B, X', hpost, hsteps⟩ | ⟨q, B, X', hpost, hsteps⟩
  · exact Or.inl ⟨v, vm₁, B, X₁.warmed, X', hpost, fun target h => hstep₁ _ fun acts => by rw [doInvoke_state]; exact hsteps.trans h⟩
  · exact Or.inr ⟨q, vm₁, B, X₁.warmed, X', hpost, hstep₁ _ fun acts => by rw [doInvoke_state]; exact hsteps⟩
theorem vx_callVW (X : Stand p l e R s m args below meth c T locs cells slots) (hexec : p.tables.exec = Jvm.exec) {own C : String} {index : Nat} {y : MethodName} {bytes : ByteArray} {maxL : Nat} {ret : Option FieldType} {hh : List (Nat × Nat × Nat × Nat)}
    (hown : s.vm.findClass own = some m.cls) (hlink : (Cond.methodLink own index y).before args s = true) (hinst : (Cond.instanceMethod y).before args s = true) (hsel : (Cond.selects C y y).before args s = true)
    (hcode : (Cond.codeWith y bytes maxL ret hh).before args s = true) (hy : y.cls ≠ "java/lang/invoke/MethodHandle" ∧ y.cls ≠ "java/lang/invoke/VarHandle")
    {W9 : Nat} {Pre : Pt → Array Value → Prop} {Post : Pt → Array Value → Option Value → Pt → Prop} (hK : Back l R p e below s args y 3 W9 Pre Post)
    {b : Addr} {cellB : Cell} (hcell : T.heap[b]? = some cellB) (hobj : cellB.vm.isStatics = false) (hcls : s.vm.findClass C = some cellB.cls)
    {g : JFrame} (hg : g.method = m) (hsize : g.locals.size = c.maxLocals) {argsL rest : List Value} (hlen : ∀ sig, parseMethodDescriptor y.desc = some sig → argsL.length = sig.parameters.length)
    (hstack : g.stack = argsL.reverse ++ .ref b :: rest) (hW : 2 * g.monitorRoom + (rest.map fun v => v.category).sum ≤ W9) (hdg : decode c.code g.pc = .ok (.invokevirtual index, 3))
    (hpre : ∀ vm₁, s.WarmedH vm₁ → Pre ⟨T.setVm vm₁, locs, cells, slots⟩ (Value.ref b :: argsL).toArray) :
    ∃ (v : Option Value) (vm₁ : Vm) (B : Pt), s.WarmedH vm₁ ∧ Stand p l e R s m args below meth c B.U B.locs B.cells B.slots ∧ Post ⟨T.setVm vm₁, locs, cells, slots⟩ (Value.ref b :: argsL).toArray v B ∧
      ∀ target, Steps p.tables e below (B.U.setTop { g with pc := g.pc + 3, stack := v.toList ++ rest }) target → Steps p.tables e below (T.setTop g) target := by
  obtain ⟨mk, methM, hnamed, hmethM, hstM, habM⟩ := Cond.instanceMethod_spec hinst
  obtain ⟨m8, methM', cM, hn8, hmethM', -, -, -, -, -, -, hsigM⟩ := Cond.codeWith_spec hcode
  cases Option.some.inj (hn8.symm.trans hnamed)
  cases hmethM.symm.trans hmethM'
  obtain ⟨c2, r2, m2, q1, q2, q3, q4, kP, hkP, hkPi⟩ := Cond.selects_spec hsel
  cases hcls.symm.trans q1
  cases (State.methodFound?_of_named hnamed hy).symm.trans q2
  cases hnamed.symm.trans q3
  have hselP : selectMethod e.platform s.vm cellB.cls mk = .method mk := by rw [Launch.admits_selectMethod X.admits]; exact q4
  obtain ⟨vm₁, X₁, hstep₁⟩ := X.invokevirtual hexec hown hlink hnamed hmethM hstM hkP hkPi hy (a := b) (cell := cellB) hcell
    (fun z h => by rw [h] at hobj; cases hobj) hselP hmethM habM hkP hkPi (g := g) hg (argsL := argsL) (rest := rest) (hlen _ hsigM) hstack hdg
  obtain ⟨v, B, X', hpost, hsteps⟩ := hK m meth c ⟨T.setVm vm₁, locs, cells, slots⟩ { g with stack := rest } (.invokevirtual index) mk (Value.ref b :: argsL).toArray X₁ hg hsize hdg hW (X₁.named hnamed) (hpre vm₁ X₁.warmed)
  exact ⟨v, vm₁, B, X₁.warmed, X', hpost, fun target h => hstep₁ _ fun acts => by rw [doInvoke_state]; exact hsteps.trans h⟩
abbrev vx_CVW (R : Room) (s : State) (args : Array Value) (own C : String) (index : Nat) (y : MethodName) (bytes : ByteArray) (maxL : Nat) (ret : Option FieldType) (hh : List (Nat × Nat × Nat × Nat)) (ws : List Cond) (rm : Room) (mc ms n : Nat) : Prop :=
  (rm.cells = mc ∧ rm.slots = ms ∧ rm.frames + 1 ≤ R.frames ∧ 8 + (maxL + 11) + rm.locals ≤ R.locals ∧ (∀ w ∈ ws, ∀ (a' : Array Value) (U : State), s.WarmedH U.vm → w.before a' U = true) ∧ Cond.codeWith y bytes maxL ret hh ∈ ws) ∧
  (Cond.codeWith y bytes maxL ret hh).before args s = true ∧ (Cond.initialized y.cls).before args s = true ∧ (y.cls ≠ "java/lang/invoke/MethodHandle" ∧ y.cls ≠ "java/lang/invoke/VarHandle") ∧
  (∀ sig, parseMethodDescriptor y.desc = some sig → n = sig.parameters.length) ∧ (Cond.methodLink own index y).before args s = true ∧ (Cond.instanceMethod y).before args s = true ∧ (Cond.selects C y y).before args s = true
theorem vx_cwVW {own C : String} {index maxL mc ms : Nat} {y : MethodName} {bytes : ByteArray} {ret : Option FieldType} {hh : List (Nat × Nat × Nat × Nat)} {Ts ws ws' : List Cond} {rm : Room} (n : Nat) (ht : ∀ w ∈ Ts, w.before args s = true) (hT : GoodIn Ts (wsV own index C y ws)) (hw : ws = Cond.codeWith y bytes maxL ret hh :: ws') (hrc : rm.cells = mc) (hrs : rm.slots = ms)
    (hd : y.cls = C ∧ y.cls ≠ "java/lang/invoke/MethodHandle" ∧ y.cls ≠ "java/lang/invoke/VarHandle" ∧ (parseMethodDescriptor y.desc).map (fun d => d.parameters.length) = some n) (hR : rm.frames + 1 ≤ R.frames ∧ 8 + (maxL + 11) + rm.locals ≤ R.locals) :
    vx_CVW R s args own C index y bytes maxL ret hh ws rm mc ms n := by
  obtain ⟨hC, hd⟩ := hd
  subst hC
  have ok : ∀ w ∈ wsV own index y.cls y ws, w.before args s = true := fun w h => ht w (hT w h).1
  have hG : GoodIn Ts ws := fun w h => hT w (by unfold wsV; exact List.mem_append_right _ h)
  have hc : Cond.codeWith y bytes maxL ret hh ∈ ws := by rw [hw]; exact List.mem_cons_self
  refine ⟨⟨hrc, hrs, hR.1, hR.2, pay_in ht hG, hc⟩, ht _ (hG _ hc).1, ok _ (by simp [wsV]), ⟨hd.1, hd.2.1⟩, fun sig h => ?_, ok _ (by simp [wsV]), ok _ (by simp [wsV]), ok _ (by simp [wsV])⟩
  have h2 := hd.2.2
  rw [h] at h2
  exact (Option.some.inj h2).symm
theorem vx_runVW {y : MethodName} {bytes cc : ByteArray} {maxL nL mc ms n index : Nat} {ret : Option FieldType} {hh : List (Nat × Nat × Nat × Nat)} {ws : List Cond} {rm : Room} {Pc : Array Value → State → Prop} {Qc : Array Value → State → Outcome → State → Prop} {free : Addr → Prop} {Ts : List Cond} {own C : String} {b : Addr} {As rest : List Value} {g : JFrame}
    (S : CallFix p m c cc nL s args Ts own) (hM : Met l y ws rm Pc Qc mc ms free) (cw : vx_CVW R s args own C index y bytes maxL ret hh ws rm mc ms n) (hp : PreV s H C b Pc As)
    (hg : g.method = m) (hn : As.length = n) (hsize : g.locals.size = nL) (hstack : g.stack = As.reverse ++ .ref b :: rest) (hW : 2 * g.monitorRoom + (rest.map fun v => v.category).sum ≤ 8) (hdg : decode cc g.pc = .ok (.invokevirtual index, 3)) (hf : cells + mc ≤ R.cells ∧ slots + ms ≤ R.slots) :
    va_Run p l e R s m args below meth c H locs cells slots mc ms g rest (Qc (Value.ref b :: As).toArray) free := by
  obtain ⟨⟨hrc, hrs, hfr, hlo, hws, hcw⟩, hcode, hini, hy, hlen, hl, hin, hse⟩ := cw
  have hK : Back l R p e below s args y 3 8 (PreOf R mc ms Pc) (PostOf Qc mc ms free) := va_backW (hh := hh) (bytes := bytes) (maxL := maxL) (ret := ret) hM hp.1 hrc hrs hfr hlo hws hcw (fun a' U hW => word_at hW (Or.inl (by first | rfl | simp [Cond.onTables, Cond.keeps, Cond.steady])) hini)
  obtain ⟨hx, hb, hml, ho, -⟩ := S
  obtain ⟨-, ⟨cellB, hcB, hoB, hclB⟩, hPc⟩ := hp
  intro T hT X
  obtain ⟨v, vm₁, ⟨U', l2, c2, s2⟩, hW₁, X', ⟨g', mk, t, L, e1, e2, hq, h1, hL, h2, h3⟩, st⟩ := vx_callVW X hx (C := C) (hh := hh) (bytes := bytes) (maxL := maxL) (ret := ret) ho hl hin hse hcode hy hK (by rw [hT]; exact hcB) hoB hclB hg (hsize.trans hml.symm) (argsL := As) (rest := rest) (fun sig h => hn.trans (hlen sig h)) hstack hW (by rw [hb]; exact hdg)
    (fun vm₁ hW₁ => ⟨hf.1, hf.2, hPc (T.setVm vm₁) hT hW₁⟩)
  dsimp only [Pt.U, Pt.locs, Pt.cells, Pt.slots] at X' e1 e2 h1 h2 h3 st
  subst h1; subst h2; subst h3
  exact ⟨v, (T.setVm vm₁).calling g' mk (Value.ref b :: As).toArray, t, U', L, hT, X', hL, e1, e2, hq, st⟩
section
variable {y : MethodName} {bytes cc : ByteArray} {maxL nL mc ms n index : Nat} {ret : Option FieldType} {ws : List Cond} {rm : Room} {Pc : Array Value → State → Prop} {Qc : Array Value → State → Outcome → State → Prop} {XC : String → State → State → Prop} {free : Addr → Prop} {Ts : List Cond} {own C : String} {b : Addr} {As rest : List Value} {g : JFrame}
theorem vx_runVX {hh : List (Nat × Nat × Nat × Nat)} (S : CallFix p m c cc nL s args Ts own) (hM : vx_Met l y ws rm Pc Qc XC mc ms free) (cw : vx_CVW R s args own C index y bytes maxL ret hh ws rm mc ms n) (hp : PreV s H C b Pc As)
    (hg : g.method = m) (hn : As.length = n) (hsize : g.locals.size = nL) (hstack : g.stack = As.reverse ++ .ref b :: rest) (hW : 2 * g.monitorRoom + (rest.map fun v => v.category).sum ≤ 8) (hdg : decode cc g.pc = .ok (.invokevirtual index, 3)) (hf : cells + mc ≤ R.cells ∧ slots + ms ≤ R.slots) :
    vx_Run p l e R s m args below meth c H locs cells slots mc ms g rest (Qc (Value.ref b :: As).toArray) XC free := by
  obtain ⟨⟨hrc, hrs, hfr, hlo, hws, hcw⟩, hcode, hini, hy, hlen, hl, hin, hse⟩ := cw
  have hK : vx_Back l R p e below s args y 3 8 (PreOf R mc ms Pc) (PostOf Qc mc ms free) (vx_Post XC mc ms free) := vx_backW (hh := hh) (bytes := bytes) (maxL := maxL) (ret := ret) hM hp.1 hrc hrs hfr hlo hws hcw (fun a' U hW => word_at hW (Or.inl (by first | rfl | simp [Cond.onTables, Cond.keeps, Cond.steady])) hini)
  obtain ⟨hx, hb, hml, ho, -⟩ := S
  obtain ⟨-, ⟨cellB, hcB, hoB, hclB⟩, hPc⟩ := hp
  intro T hT X
  rcases vx_callVX X hx (C := C) (hh := hh) (bytes := bytes) (maxL := maxL) (ret := ret) ho hl hin hse hcode hy hK (by rw [hT]; exact hcB) hoB hclB hg (hsize.trans hml.symm) (argsL := As) (rest := rest) (fun sig h => hn.trans (hlen sig h)) hstack hW (by rw [hb]; exact hdg)
    (fun vm₁ hW₁ => ⟨hf.1, hf.2, hPc (T.setVm vm₁) hT hW₁⟩) with ⟨v, vm₁, ⟨U', l2, c2, s2⟩, hW₁, X', ⟨g', mk, t, L, e1, e2, hq, h1, hL, h2, h3⟩, st⟩ | ⟨q, vm₁, ⟨U', l2, c2, s2⟩, hW₁, X', ⟨g', mk, t, L, E, ce, e1, e2, hq, hce, hcv, hcl, h1, hL, h2, h3⟩, st⟩
  · dsimp only [Pt.U, Pt.locs, Pt.cells, Pt.slots] at X' e1 e2 h1 h2 h3 st
    subst h1; subst h2; subst h3
    exact Or.inl ⟨v, (T.setVm vm₁).calling g' mk (Value.ref b :: As).toArray, t, U', L, hT, X', hL, e1, e2, hq, st⟩
  · dsimp only [Pt.U, Pt.locs, Pt.cells, Pt.slots] at X' e1 e2 h1 h2 h3 st hcl
    subst h1; subst h2; subst h3
    exact Or.inr ⟨q, (T.setVm vm₁).calling g' mk (Value.ref b :: As).toArray, t, U', L, E, ce, hT, X', hL, e1, e2, hq, hce, hcv, vx_cls hW₁ hcl, st⟩
theorem vx_runSX {hh : List (Nat × Nat × Nat × Nat)} (S : CallFix p m c cc nL s args Ts own) (hM : vx_Met l y ws rm Pc Qc XC mc ms free) (cw : vx_CSW R s args own index y bytes maxL ret hh ws rm mc ms n) (hp : PreS s H Pc As)
    (hg : g.method = m) (hn : As.length = n) (hsize : g.locals.size = nL) (hstack : g.stack = As.reverse ++ rest) (hW : 2 * g.monitorRoom + (rest.map fun v => v.category).sum ≤ 8) (hdg : decode cc g.pc = .ok (.invokestatic index, 3)) (hf : cells + mc ≤ R.cells ∧ slots + ms ≤ R.slots) :
    vx_Run p l e R s m args below meth c H locs cells slots mc ms g rest (Qc As.toArray) XC free := by
  obtain ⟨⟨hrc, hrs, hfr, hlo, hws, hcw⟩, hcode, hini, hy, hlen, hl, hstt⟩ := cw
  have hK : vx_Back l R p e below s args y 3 8 (PreOf R mc ms Pc) (PostOf Qc mc ms free) (vx_Post XC mc ms free) := vx_backW (hh := hh) (bytes := bytes) (maxL := maxL) (ret := ret) hM hp.1 hrc hrs hfr hlo hws hcw (fun a' U hW => word_at hW (Or.inl (by first | rfl | simp [Cond.onTables, Cond.keeps, Cond.steady])) hini)
  obtain ⟨hx, hb, hml, ho, -⟩ := S
  intro T hT X
  rcases vx_callSX X hx (hh := hh) (bytes := bytes) (maxL := maxL) (ret := ret) ho hl hstt hini hcode hy hK hg (hsize.trans hml.symm) (argsL := As) (rest := rest) (fun sig h => hn.trans (hlen sig h)) hstack hW (by rw [hb]; exact hdg)
    (fun vm₁ hW₁ => ⟨hf.1, hf.2, hp.2 (T.setVm vm₁) hT hW₁⟩) with ⟨v, vm₁, ⟨U', l2, c2, s2⟩, hW₁, X', ⟨g', mk, t, L, e1, e2, hq, h1, hL, h2, h3⟩, st⟩ | ⟨q, vm₁, ⟨U', l2, c2, s2⟩, hW₁, X', ⟨g', mk, t, L, E, ce, e1, e2, hq, hce, hcv, hcl, h1, hL, h2, h3⟩, st⟩
  · dsimp only [Pt.U, Pt.locs, Pt.cells, Pt.slots] at X' e1 e2 h1 h2 h3 st
    subst h1; subst h2; subst h3
    exact Or.inl ⟨v, (T.setVm vm₁).calling g' mk As.toArray, t, U', L, hT, X', hL, e1, e2, hq, st⟩
  · dsimp only [Pt.U, Pt.locs, Pt.cells, Pt.slots] at X' e1 e2 h1 h2 h3 st hcl
    subst h1; subst h2; subst h3
    exact Or.inr ⟨q, (T.setVm vm₁).calling g' mk As.toArray, t, U', L, E, ce, hT, X', hL, e1, e2, hq, hce, hcv, vx_cls hW₁ hcl, st⟩
end
end VXH
theorem vx_ofWH {l : Launch} {y : MethodName} {ws ws' : List Cond} {rm : Room} {Pc : Array Value → State → Prop} {Qc : Array Value → State → Outcome → State → Prop} {XC : String → State → State → Prop} {mc ms : Nat} {free : Addr → Prop} {cc : ByteArray} {maxL : Nat} {ret : Option FieldType} {hh : List (Nat × Nat × Nat × Nat)}
    (hy : plainName y.cls = true) (hw : ws = Cond.codeWith y cc maxL ret hh :: ws')
    (body : ∀ p e s m args below meth c s₁, BodyLoose p l y (headSpec ws rm) cc maxL ret e s m args below meth c s₁ → c.maxLocals = maxL → Pc args s →
      W p l e (headSpec ws rm).room s m args below meth c s.heap [] 0 0 (vx_MQ below Qc XC args s mc ms free) (entryFrame m args maxL)) : vx_Met l y ws rm Pc Qc XC mc ms free := by
  refine MetFree.of_bodyS (code := cc) (maxLocals := maxL) (ret := ret) hy ?_ ?_
  · intro args s m h hn
    obtain ⟨m9, meth, c, hn9, h1, h2, h3, h4, -, h5, h6, -⟩ := Cond.codeWith_spec (atoms_spec (ws := ws) h _ (by rw [hw]; exact List.mem_cons_self))
    cases hn.symm.trans hn9
    exact ⟨meth, c, h1, h2, h3, h4, h5, h6⟩
  · intro p e s m args below meth c s₁ B hml hP _
    have hh0 : s₁.heap = s.heap := by rw [B.state]; rfl
    obtain ⟨t, a1, o, b1, b2, b3⟩ := body p e s m args below meth c s₁ B hml hP s₁ hh0 (Stand.of_body B)
    exact ⟨t, o, a1, b1, b2, b3⟩
/-! ===== END ===== -/
end
section
/-! NoSuchElementException's constructor in this JDK links its super constructor by entry 13, not 7: its words, as own lists -/
def ns_X : String := "java/util/NoSuchElementException"
def ns_six : ByteArray := ⟨#[0x2a, 0x2b, 0xb7, 0x00, 0x0d, 0xb1]⟩
def ns_chain : List Cond := Bundle.passSAtoms ns_X "java/lang/RuntimeException" 13 ns_six ++ Bundle.chainSAtoms "java/lang/RuntimeException" ["java/lang/Exception"]
def ns_atoms (own : String) (ic : Nat) : List Cond :=
  Bundle.throwableAtoms ++ Bundle.throwableSAtoms ++ ns_chain ++
  [.methodLink own ic (Bundle.initS ns_X), .instantiable ns_X 6, .castable ns_X ns_X, .selects ns_X Bundle.tFill0 Bundle.tFill0, .selects ns_X Bundle.tFill Bundle.tFill,
   .lays ns_X Bundle.tN "cause" "Ljava/lang/Throwable;", .lays ns_X Bundle.tN "stackTrace" Bundle.steD, .lays ns_X Bundle.tN "suppressedExceptions" Bundle.listD, .lays ns_X Bundle.tN "detailMessage" "Ljava/lang/String;",
   .isRef (.static Bundle.tN "UNASSIGNED_STACK" Bundle.steD), .isRef (.static Bundle.tN "SUPPRESSED_SENTINEL" Bundle.listD),
   .fieldLink Bundle.tN 198 Bundle.tN "backtrace" "Ljava/lang/Object;", .lays Bundle.tN Bundle.tN "backtrace" "Ljava/lang/Object;", .lays ns_X Bundle.tN "backtrace" "Ljava/lang/Object;"]
def ns_atS (own : String) (ic : Nat) : List Cond := (ns_atoms own ic).filter vx_no
/-! ===== BEGIN printed: names, fields, word lists, decode rows ===== -/
def RX0 : String := "LearnedLedge$Numbers"
def TX0 : u_T := fun k => match k with
  | 0 => ("LearnedLedge$Numbers", "items", "[I", true)
  | _ => ("LearnedLedge$Numbers", "length", "I", false)
def tyX0 : Nat → FieldType := fun k => match k with
  | 0 => .array .int
  | _ => .int
abbrev wsX00 : List Cond := u_ws RX0 TX0 2
theorem nmX0 : ∀ a, a < 2 → ∀ b, b < 2 → a ≠ b → (TX0 a).2.1 ≠ (TX0 b).2.1 := by decide +kernel
theorem tyX0_ok : ∀ k, k < 2 → parseFieldDescriptor (TX0 k).2.2.1 = some (tyX0 k) := by decide +kernel
abbrev cX0_init : ByteArray := prog_2_method_1_code
def yX0_init : MethodName := ⟨RX0, "<init>", "(I)V"⟩
abbrev cX0_length : ByteArray := prog_2_method_2_code
def yX0_length : MethodName := ⟨RX0, "length", "()I"⟩
abbrev cX0_has : ByteArray := prog_2_method_3_code
def yX0_has : MethodName := ⟨RX0, "has", "(I)Z"⟩
abbrev cX0_at : ByteArray := prog_2_method_4_code
def yX0_at : MethodName := ⟨RX0, "at", "(I)I"⟩
abbrev cX0_put : ByteArray := prog_2_method_5_code
def yX0_put : MethodName := ⟨RX0, "put", "(II)V"⟩
abbrev cX0_push : ByteArray := prog_2_method_6_code
def yX0_push : MethodName := ⟨RX0, "push", "(I)V"⟩
abbrev cX0_clear : ByteArray := prog_2_method_7_code
def yX0_clear : MethodName := ⟨RX0, "clear", "()V"⟩
abbrev cX0_squeezeIn : ByteArray := prog_2_method_8_code
def yX0_squeezeIn : MethodName := ⟨RX0, "squeezeIn", "(II)V"⟩
abbrev cX0_takeOut : ByteArray := prog_2_method_9_code
def yX0_takeOut : MethodName := ⟨RX0, "takeOut", "(I)V"⟩
abbrev cX0_below : ByteArray := prog_2_method_10_code
def yX0_below : MethodName := ⟨RX0, "below", "(I)I"⟩
abbrev cX0_indexOf : ByteArray := prog_2_method_11_code
def yX0_indexOf : MethodName := ⟨RX0, "indexOf", "(I)I"⟩
def RX1 : String := "LearnedLedge$SlopeRange"
def TX1 : u_T := fun k => match k with
  | 0 => ("LearnedLedge$SlopeRange", "originKey", "I", false)
  | 1 => ("LearnedLedge$SlopeRange", "originPlace", "I", false)
  | 2 => ("LearnedLedge$SlopeRange", "error", "I", false)
  | 3 => ("LearnedLedge$SlopeRange", "leastRise", "J", false)
  | 4 => ("LearnedLedge$SlopeRange", "leastRun", "J", false)
  | 5 => ("LearnedLedge$SlopeRange", "mostRise", "J", false)
  | _ => ("LearnedLedge$SlopeRange", "mostRun", "J", false)
def tyX1 : Nat → FieldType := fun k => match k with
  | 0 => .int
  | 1 => .int
  | 2 => .int
  | 3 => .long
  | 4 => .long
  | 5 => .long
  | _ => .long
abbrev wsX10 : List Cond := u_ws RX1 TX1 7
theorem nmX1 : ∀ a, a < 7 → ∀ b, b < 7 → a ≠ b → (TX1 a).2.1 ≠ (TX1 b).2.1 := by decide +kernel
theorem tyX1_ok : ∀ k, k < 7 → parseFieldDescriptor (TX1 k).2.2.1 = some (tyX1 k) := by decide +kernel
abbrev cX1_init : ByteArray := prog_3_method_1_code
def yX1_init : MethodName := ⟨RX1, "<init>", "()V"⟩
abbrev cX1_begin : ByteArray := prog_3_method_2_code
def yX1_begin : MethodName := ⟨RX1, "begin", "(III)V"⟩
abbrev cX1_take : ByteArray := prog_3_method_3_code
def yX1_take : MethodName := ⟨RX1, "take", "(II)Z"⟩
abbrev cX1_leastRise : ByteArray := prog_3_method_4_code
def yX1_leastRise : MethodName := ⟨RX1, "leastRise", "()I"⟩
abbrev cX1_leastRun : ByteArray := prog_3_method_5_code
def yX1_leastRun : MethodName := ⟨RX1, "leastRun", "()I"⟩
abbrev cX1_divisor : ByteArray := prog_3_method_6_code
def yX1_divisor : MethodName := ⟨RX1, "divisor", "()J"⟩
def RX2 : String := "LearnedLedge"
def TX2 : u_T := fun k => match k with
  | 0 => ("LearnedLedge", "keys", "LLearnedLedge$Numbers;", true)
  | 1 => ("LearnedLedge", "marks", "LLearnedLedge$Numbers;", true)
  | 2 => ("LearnedLedge", "buffer", "LLearnedLedge$Numbers;", true)
  | 3 => ("LearnedLedge", "starts", "LLearnedLedge$Numbers;", true)
  | 4 => ("LearnedLedge", "rises", "LLearnedLedge$Numbers;", true)
  | 5 => ("LearnedLedge", "runs", "LLearnedLedge$Numbers;", true)
  | 6 => ("LearnedLedge", "tail", "LLearnedLedge$SlopeRange;", true)
  | 7 => ("LearnedLedge", "freshKeys", "LLearnedLedge$Numbers;", true)
  | 8 => ("LearnedLedge", "freshStarts", "LLearnedLedge$Numbers;", true)
  | 9 => ("LearnedLedge", "bound", "I", false)
  | 10 => ("LearnedLedge", "room", "I", false)
  | 11 => ("LearnedLedge", "markCount", "I", false)
  | 12 => ("LearnedLedge", "mergeCount", "I", false)
  | 13 => ("LearnedLedge", "splitCount", "I", false)
  | _ => ("LearnedLedge", "joinCount", "I", false)
def tyX2 : Nat → FieldType := fun k => match k with
  | 0 => .object "LearnedLedge$Numbers"
  | 1 => .object "LearnedLedge$Numbers"
  | 2 => .object "LearnedLedge$Numbers"
  | 3 => .object "LearnedLedge$Numbers"
  | 4 => .object "LearnedLedge$Numbers"
  | 5 => .object "LearnedLedge$Numbers"
  | 6 => .object "LearnedLedge$SlopeRange"
  | 7 => .object "LearnedLedge$Numbers"
  | 8 => .object "LearnedLedge$Numbers"
  | 9 => .int
  | 10 => .int
  | 11 => .int
  | 12 => .int
  | 13 => .int
  | _ => .int
abbrev wsX20 : List Cond := u_ws RX2 TX2 15
theorem nmX2 : ∀ a, a < 15 → ∀ b, b < 15 → a ≠ b → (TX2 a).2.1 ≠ (TX2 b).2.1 := by decide +kernel
theorem tyX2_ok : ∀ k, k < 15 → parseFieldDescriptor (TX2 k).2.2.1 = some (tyX2 k) := by decide +kernel
abbrev cX2_init : ByteArray := prog_1_method_1_code
def yX2_init : MethodName := ⟨RX2, "<init>", "()V"⟩
abbrev cX2_append : ByteArray := prog_1_method_2_code
def yX2_append : MethodName := ⟨RX2, "append", "(I)I"⟩
abbrev cX2_appendMany : ByteArray := prog_1_method_3_code
def yX2_appendMany : MethodName := ⟨RX2, "appendMany", "(III)I"⟩
abbrev cX2_insert : ByteArray := prog_1_method_4_code
def yX2_insert : MethodName := ⟨RX2, "insert", "(I)I"⟩
abbrev cX2_remove : ByteArray := prog_1_method_5_code
def yX2_remove : MethodName := ⟨RX2, "remove", "(I)I"⟩
abbrev cX2_merge : ByteArray := prog_1_method_6_code
def yX2_merge : MethodName := ⟨RX2, "merge", "()I"⟩
abbrev cX2_rebuild : ByteArray := prog_1_method_7_code
def yX2_rebuild : MethodName := ⟨RX2, "rebuild", "(II)I"⟩
abbrev cX2_size : ByteArray := prog_1_method_8_code
def yX2_size : MethodName := ⟨RX2, "size", "()I"⟩
abbrev cX2_contains : ByteArray := prog_1_method_9_code
def yX2_contains : MethodName := ⟨RX2, "contains", "(I)Z"⟩
abbrev cX2_rank : ByteArray := prog_1_method_10_code
def yX2_rank : MethodName := ⟨RX2, "rank", "(I)I"⟩
abbrev cX2_select : ByteArray := prog_1_method_11_code
def yX2_select : MethodName := ⟨RX2, "select", "(I)I"⟩
abbrev cX2_ceiling : ByteArray := prog_1_method_12_code
def yX2_ceiling : MethodName := ⟨RX2, "ceiling", "(I)I"⟩
abbrev cX2_count : ByteArray := prog_1_method_13_code
def yX2_count : MethodName := ⟨RX2, "count", "(II)I"⟩
abbrev cX2_place : ByteArray := prog_1_method_14_code
def yX2_place : MethodName := ⟨RX2, "place", "(I)I"⟩
abbrev cX2_guess : ByteArray := prog_1_method_15_code
def yX2_guess : MethodName := ⟨RX2, "guess", "(I)J"⟩
abbrev cX2_looks : ByteArray := prog_1_method_16_code
def yX2_looks : MethodName := ⟨RX2, "looks", "(I)I"⟩
abbrev cX2_worstError : ByteArray := prog_1_method_17_code
def yX2_worstError : MethodName := ⟨RX2, "worstError", "()I"⟩
abbrev cX2_pieces : ByteArray := prog_1_method_18_code
def yX2_pieces : MethodName := ⟨RX2, "pieces", "()I"⟩
abbrev cX2_start : ByteArray := prog_1_method_19_code
def yX2_start : MethodName := ⟨RX2, "start", "(I)I"⟩
abbrev cX2_firstKey : ByteArray := prog_1_method_20_code
def yX2_firstKey : MethodName := ⟨RX2, "firstKey", "(I)I"⟩
abbrev cX2_rise : ByteArray := prog_1_method_21_code
def yX2_rise : MethodName := ⟨RX2, "rise", "(I)I"⟩
abbrev cX2_run : ByteArray := prog_1_method_22_code
def yX2_run : MethodName := ⟨RX2, "run", "(I)I"⟩
abbrev cX2_slopes : ByteArray := prog_1_method_23_code
def yX2_slopes : MethodName := ⟨RX2, "slopes", "()I"⟩
abbrev cX2_commonest : ByteArray := prog_1_method_24_code
def yX2_commonest : MethodName := ⟨RX2, "commonest", "()I"⟩
abbrev cX2_buffered : ByteArray := prog_1_method_25_code
def yX2_buffered : MethodName := ⟨RX2, "buffered", "()I"⟩
abbrev cX2_marked : ByteArray := prog_1_method_26_code
def yX2_marked : MethodName := ⟨RX2, "marked", "()I"⟩
abbrev cX2_rowSize : ByteArray := prog_1_method_27_code
def yX2_rowSize : MethodName := ⟨RX2, "rowSize", "()I"⟩
abbrev cX2_merges : ByteArray := prog_1_method_28_code
def yX2_merges : MethodName := ⟨RX2, "merges", "()I"⟩
abbrev cX2_splits : ByteArray := prog_1_method_29_code
def yX2_splits : MethodName := ⟨RX2, "splits", "()I"⟩
abbrev cX2_joins : ByteArray := prog_1_method_30_code
def yX2_joins : MethodName := ⟨RX2, "joins", "()I"⟩
abbrev cX2_needKey : ByteArray := prog_1_method_31_code
def yX2_needKey : MethodName := ⟨RX2, "needKey", "(J)V"⟩
abbrev cX2_needPiece : ByteArray := prog_1_method_32_code
def yX2_needPiece : MethodName := ⟨RX2, "needPiece", "(I)V"⟩
abbrev cX2_needToFollow : ByteArray := prog_1_method_33_code
def yX2_needToFollow : MethodName := ⟨RX2, "needToFollow", "(II)V"⟩
abbrev cX2_allKeys : ByteArray := prog_1_method_34_code
def yX2_allKeys : MethodName := ⟨RX2, "allKeys", "()I"⟩
abbrev cX2_keysThere : ByteArray := prog_1_method_35_code
def yX2_keysThere : MethodName := ⟨RX2, "keysThere", "()I"⟩
abbrev cX2_isThere : ByteArray := prog_1_method_36_code
def yX2_isThere : MethodName := ⟨RX2, "isThere", "(I)Z"⟩
abbrev cX2_thereBelow : ByteArray := prog_1_method_37_code
def yX2_thereBelow : MethodName := ⟨RX2, "thereBelow", "(I)I"⟩
abbrev cX2_keyThere : ByteArray := prog_1_method_38_code
def yX2_keyThere : MethodName := ⟨RX2, "keyThere", "(I)I"⟩
abbrev cX2_addLast : ByteArray := prog_1_method_39_code
def yX2_addLast : MethodName := ⟨RX2, "addLast", "(I)V"⟩
abbrev cX2_addLate : ByteArray := prog_1_method_40_code
def yX2_addLate : MethodName := ⟨RX2, "addLate", "(I)V"⟩
abbrev cX2_clearRow : ByteArray := prog_1_method_41_code
def yX2_clearRow : MethodName := ⟨RX2, "clearRow", "()V"⟩
abbrev cX2_clearPieces : ByteArray := prog_1_method_42_code
def yX2_clearPieces : MethodName := ⟨RX2, "clearPieces", "()V"⟩
abbrev cX2_beginPiece : ByteArray := prog_1_method_43_code
def yX2_beginPiece : MethodName := ⟨RX2, "beginPiece", "(II)V"⟩
abbrev cX2_noteTailSlope : ByteArray := prog_1_method_44_code
def yX2_noteTailSlope : MethodName := ⟨RX2, "noteTailSlope", "()V"⟩
abbrev cX2_firstOf : ByteArray := prog_1_method_45_code
def yX2_firstOf : MethodName := ⟨RX2, "firstOf", "(I)I"⟩
abbrev cX2_endOf : ByteArray := prog_1_method_46_code
def yX2_endOf : MethodName := ⟨RX2, "endOf", "(I)I"⟩
abbrev cX2_pieceOf : ByteArray := prog_1_method_47_code
def yX2_pieceOf : MethodName := ⟨RX2, "pieceOf", "(I)I"⟩
abbrev cX2_guessBy : ByteArray := prog_1_method_48_code
def yX2_guessBy : MethodName := ⟨RX2, "guessBy", "(II)J"⟩
abbrev cX2_looksBy : ByteArray := prog_1_method_49_code
def yX2_looksBy : MethodName := ⟨RX2, "looksBy", "(II)I"⟩
abbrev cX2_alike : ByteArray := prog_1_method_50_code
def yX2_alike : MethodName := ⟨RX2, "alike", "(II)Z"⟩
abbrev cX2_firstAlike : ByteArray := prog_1_method_51_code
def yX2_firstAlike : MethodName := ⟨RX2, "firstAlike", "(I)I"⟩
abbrev cX2_alikeFrom : ByteArray := prog_1_method_52_code
def yX2_alikeFrom : MethodName := ⟨RX2, "alikeFrom", "(I)I"⟩
abbrev cX2_mergeAll : ByteArray := prog_1_method_53_code
def yX2_mergeAll : MethodName := ⟨RX2, "mergeAll", "()V"⟩
abbrev cX2_mergePiece : ByteArray := prog_1_method_54_code
def yX2_mergePiece : MethodName := ⟨RX2, "mergePiece", "(I)V"⟩
abbrev cX2_gatherAll : ByteArray := prog_1_method_55_code
def yX2_gatherAll : MethodName := ⟨RX2, "gatherAll", "()V"⟩
abbrev cX2_gather : ByteArray := prog_1_method_56_code
def yX2_gather : MethodName := ⟨RX2, "gather", "(IIII)Z"⟩
abbrev cX2_cutFresh : ByteArray := prog_1_method_57_code
def yX2_cutFresh : MethodName := ⟨RX2, "cutFresh", "(I)V"⟩
abbrev cX2_joinFresh : ByteArray := prog_1_method_58_code
def yX2_joinFresh : MethodName := ⟨RX2, "joinFresh", "()V"⟩
abbrev cX2_tailTakes : ByteArray := prog_1_method_59_code
def yX2_tailTakes : MethodName := ⟨RX2, "tailTakes", "(II)Z"⟩
def RX3 : String := "LearnedLedgeModel"
def TX3 : u_T := fun k => match k with
  | 0 => ("LearnedLedgeModel", "thrown", "I", false)
  | 1 => ("LearnedLedgeModel", "bound", "I", false)
  | 2 => ("LearnedLedgeModel", "room", "I", false)
  | 3 => ("LearnedLedgeModel", "row", "[I", true)
  | 4 => ("LearnedLedgeModel", "isMarked", "[Z", true)
  | 5 => ("LearnedLedgeModel", "rowMany", "I", false)
  | 6 => ("LearnedLedgeModel", "start", "[I", true)
  | 7 => ("LearnedLedgeModel", "pieces", "I", false)
  | 8 => ("LearnedLedgeModel", "buffer", "[I", true)
  | 9 => ("LearnedLedgeModel", "buffered", "I", false)
  | 10 => ("LearnedLedgeModel", "merges", "I", false)
  | 11 => ("LearnedLedgeModel", "splits", "I", false)
  | 12 => ("LearnedLedgeModel", "joins", "I", false)
  | 13 => ("LearnedLedgeModel", "made", "[I", true)
  | 14 => ("LearnedLedgeModel", "begun", "[I", true)
  | 15 => ("LearnedLedgeModel", "madeMany", "I", false)
  | 16 => ("LearnedLedgeModel", "leastUp", "J", false)
  | _ => ("LearnedLedgeModel", "leastUnder", "J", false)
def tyX3 : Nat → FieldType := fun k => match k with
  | 0 => .int
  | 1 => .int
  | 2 => .int
  | 3 => .array .int
  | 4 => .array .boolean
  | 5 => .int
  | 6 => .array .int
  | 7 => .int
  | 8 => .array .int
  | 9 => .int
  | 10 => .int
  | 11 => .int
  | 12 => .int
  | 13 => .array .int
  | 14 => .array .int
  | 15 => .int
  | 16 => .long
  | _ => .long
abbrev wsX30 : List Cond := u_ws RX3 TX3 18
theorem nmX3 : ∀ a, a < 18 → ∀ b, b < 18 → a ≠ b → (TX3 a).2.1 ≠ (TX3 b).2.1 := by decide +kernel
theorem tyX3_ok : ∀ k, k < 18 → parseFieldDescriptor (TX3 k).2.2.1 = some (tyX3 k) := by decide +kernel
abbrev cX3_init : ByteArray := prog_5_method_1_code
def yX3_init : MethodName := ⟨RX3, "<init>", "()V"⟩
abbrev cX3_thrown : ByteArray := prog_5_method_2_code
def yX3_thrown : MethodName := ⟨RX3, "thrown", "()I"⟩
abbrev cX3_isKey : ByteArray := prog_5_method_3_code
def yX3_isKey : MethodName := ⟨RX3, "isKey", "(I)Z"⟩
abbrev cX3_fits : ByteArray := prog_5_method_4_code
def yX3_fits : MethodName := ⟨RX3, "fits", "([III)Z"⟩
abbrev cX3_behind : ByteArray := prog_5_method_5_code
def yX3_behind : MethodName := ⟨RX3, "behind", "(I)I"⟩
abbrev cX3_common : ByteArray := prog_5_method_6_code
def yX3_common : MethodName := ⟨RX3, "common", "(JJ)J"⟩
abbrev cX3_lays : ByteArray := prog_5_method_7_code
def yX3_lays : MethodName := ⟨RX3, "lays", "(I)V"⟩
abbrev cX3_placeOf : ByteArray := prog_5_method_8_code
def yX3_placeOf : MethodName := ⟨RX3, "placeOf", "(I)I"⟩
abbrev cX3_isInRow : ByteArray := prog_5_method_9_code
def yX3_isInRow : MethodName := ⟨RX3, "isInRow", "(I)Z"⟩
abbrev cX3_isBuffered : ByteArray := prog_5_method_10_code
def yX3_isBuffered : MethodName := ⟨RX3, "isBuffered", "(I)Z"⟩
abbrev cX3_isThere : ByteArray := prog_5_method_11_code
def yX3_isThere : MethodName := ⟨RX3, "isThere", "(I)Z"⟩
abbrev cX3_pieceOf : ByteArray := prog_5_method_12_code
def yX3_pieceOf : MethodName := ⟨RX3, "pieceOf", "(I)I"⟩
abbrev cX3_many : ByteArray := prog_5_method_13_code
def yX3_many : MethodName := ⟨RX3, "many", "()I"⟩
abbrev cX3_isAbove : ByteArray := prog_5_method_14_code
def yX3_isAbove : MethodName := ⟨RX3, "isAbove", "(I)Z"⟩
abbrev cX3_ends : ByteArray := prog_5_method_15_code
def yX3_ends : MethodName := ⟨RX3, "ends", "(I)V"⟩
abbrev cX3_append : ByteArray := prog_5_method_16_code
def yX3_append : MethodName := ⟨RX3, "append", "(I)I"⟩
abbrev cX3_appendMany : ByteArray := prog_5_method_17_code
def yX3_appendMany : MethodName := ⟨RX3, "appendMany", "(III)I"⟩
abbrev cX3_insert : ByteArray := prog_5_method_18_code
def yX3_insert : MethodName := ⟨RX3, "insert", "(I)I"⟩
abbrev cX3_remove : ByteArray := prog_5_method_19_code
def yX3_remove : MethodName := ⟨RX3, "remove", "(I)I"⟩
abbrev cX3_makes : ByteArray := prog_5_method_20_code
def yX3_makes : MethodName := ⟨RX3, "makes", "(I)V"⟩
abbrev cX3_cuts : ByteArray := prog_5_method_21_code
def yX3_cuts : MethodName := ⟨RX3, "cuts", "(II)I"⟩
abbrev cX3_gathers : ByteArray := prog_5_method_22_code
def yX3_gathers : MethodName := ⟨RX3, "gathers", "(I)Z"⟩
abbrev cX3_becomes : ByteArray := prog_5_method_23_code
def yX3_becomes : MethodName := ⟨RX3, "becomes", "(I)V"⟩
abbrev cX3_joinsPieces : ByteArray := prog_5_method_24_code
def yX3_joinsPieces : MethodName := ⟨RX3, "joinsPieces", "()V"⟩
abbrev cX3_mergesAll : ByteArray := prog_5_method_25_code
def yX3_mergesAll : MethodName := ⟨RX3, "mergesAll", "()V"⟩
abbrev cX3_merge : ByteArray := prog_5_method_26_code
def yX3_merge : MethodName := ⟨RX3, "merge", "()I"⟩
abbrev cX3_rebuild : ByteArray := prog_5_method_27_code
def yX3_rebuild : MethodName := ⟨RX3, "rebuild", "(II)I"⟩
abbrev cX3_below : ByteArray := prog_5_method_28_code
def yX3_below : MethodName := ⟨RX3, "below", "(J)I"⟩
abbrev cX3_keys : ByteArray := prog_5_method_29_code
def yX3_keys : MethodName := ⟨RX3, "keys", "()I"⟩
abbrev cX3_size : ByteArray := prog_5_method_30_code
def yX3_size : MethodName := ⟨RX3, "size", "()I"⟩
abbrev cX3_contains : ByteArray := prog_5_method_31_code
def yX3_contains : MethodName := ⟨RX3, "contains", "(I)Z"⟩
abbrev cX3_rank : ByteArray := prog_5_method_32_code
def yX3_rank : MethodName := ⟨RX3, "rank", "(I)I"⟩
abbrev cX3_behindSo : ByteArray := prog_5_method_33_code
def yX3_behindSo : MethodName := ⟨RX3, "behindSo", "(I)I"⟩
abbrev cX3_select : ByteArray := prog_5_method_34_code
def yX3_select : MethodName := ⟨RX3, "select", "(I)I"⟩
abbrev cX3_ceiling : ByteArray := prog_5_method_35_code
def yX3_ceiling : MethodName := ⟨RX3, "ceiling", "(I)I"⟩
abbrev cX3_count : ByteArray := prog_5_method_36_code
def yX3_count : MethodName := ⟨RX3, "count", "(II)I"⟩
abbrev cX3_place : ByteArray := prog_5_method_37_code
def yX3_place : MethodName := ⟨RX3, "place", "(I)I"⟩
abbrev cX3_guessOf : ByteArray := prog_5_method_38_code
def yX3_guessOf : MethodName := ⟨RX3, "guessOf", "(II)J"⟩
abbrev cX3_guess : ByteArray := prog_5_method_39_code
def yX3_guess : MethodName := ⟨RX3, "guess", "(I)J"⟩
abbrev cX3_looks : ByteArray := prog_5_method_40_code
def yX3_looks : MethodName := ⟨RX3, "looks", "(I)I"⟩
abbrev cX3_worstError : ByteArray := prog_5_method_41_code
def yX3_worstError : MethodName := ⟨RX3, "worstError", "()I"⟩
abbrev cX3_pieces : ByteArray := prog_5_method_42_code
def yX3_pieces : MethodName := ⟨RX3, "pieces", "()I"⟩
abbrev cX3_asks : ByteArray := prog_5_method_43_code
def yX3_asks : MethodName := ⟨RX3, "asks", "(I)Z"⟩
abbrev cX3_start : ByteArray := prog_5_method_44_code
def yX3_start : MethodName := ⟨RX3, "start", "(I)I"⟩
abbrev cX3_firstKey : ByteArray := prog_5_method_45_code
def yX3_firstKey : MethodName := ⟨RX3, "firstKey", "(I)I"⟩
abbrev cX3_riseOf : ByteArray := prog_5_method_46_code
def yX3_riseOf : MethodName := ⟨RX3, "riseOf", "(I)I"⟩
abbrev cX3_runOf : ByteArray := prog_5_method_47_code
def yX3_runOf : MethodName := ⟨RX3, "runOf", "(I)I"⟩
abbrev cX3_rise : ByteArray := prog_5_method_48_code
def yX3_rise : MethodName := ⟨RX3, "rise", "(I)I"⟩
abbrev cX3_run : ByteArray := prog_5_method_49_code
def yX3_run : MethodName := ⟨RX3, "run", "(I)I"⟩
abbrev cX3_alike : ByteArray := prog_5_method_50_code
def yX3_alike : MethodName := ⟨RX3, "alike", "(II)I"⟩
abbrev cX3_slopes : ByteArray := prog_5_method_51_code
def yX3_slopes : MethodName := ⟨RX3, "slopes", "()I"⟩
abbrev cX3_commonest : ByteArray := prog_5_method_52_code
def yX3_commonest : MethodName := ⟨RX3, "commonest", "()I"⟩
abbrev cX3_buffered : ByteArray := prog_5_method_53_code
def yX3_buffered : MethodName := ⟨RX3, "buffered", "()I"⟩
abbrev cX3_marked : ByteArray := prog_5_method_54_code
def yX3_marked : MethodName := ⟨RX3, "marked", "()I"⟩
abbrev cX3_rowSize : ByteArray := prog_5_method_55_code
def yX3_rowSize : MethodName := ⟨RX3, "rowSize", "()I"⟩
abbrev cX3_merges : ByteArray := prog_5_method_56_code
def yX3_merges : MethodName := ⟨RX3, "merges", "()I"⟩
abbrev cX3_splits : ByteArray := prog_5_method_57_code
def yX3_splits : MethodName := ⟨RX3, "splits", "()I"⟩
abbrev cX3_joins : ByteArray := prog_5_method_58_code
def yX3_joins : MethodName := ⟨RX3, "joins", "()I"⟩
def RJx145de : String := "java/io/Serializable"
def TJx145de : u_T := fun k => match k with
  | _ => ("", "", "", false)
def tyJx145de : Nat → FieldType := fun k => match k with
  | _ => .int
abbrev wsJx145de0 : List Cond := u_ws RJx145de TJx145de 0
theorem nmJx145de : ∀ a, a < 0 → ∀ b, b < 0 → a ≠ b → (TJx145de a).2.1 ≠ (TJx145de b).2.1 := by decide +kernel
theorem tyJx145de_ok : ∀ k, k < 0 → parseFieldDescriptor (TJx145de k).2.2.1 = some (tyJx145de k) := by decide +kernel
def RJ9 : String := "java/lang/Math"
def TJ9 : u_T := fun k => match k with
  | _ => ("", "", "", false)
def tyJ9 : Nat → FieldType := fun k => match k with
  | _ => .int
abbrev wsJ90 : List Cond := u_ws RJ9 TJ9 0
theorem nmJ9 : ∀ a, a < 0 → ∀ b, b < 0 → a ≠ b → (TJ9 a).2.1 ≠ (TJ9 b).2.1 := by decide +kernel
theorem tyJ9_ok : ∀ k, k < 0 → parseFieldDescriptor (TJ9 k).2.2.1 = some (tyJ9 k) := by decide +kernel
abbrev cJ9_floorDiv_f86c9 : ByteArray := prog_11_method_49_code
def yJ9_floorDiv_f86c9 : MethodName := ⟨RJ9, "floorDiv", "(JJ)J"⟩
abbrev cJ9_abs_067f4 : ByteArray := prog_11_method_61_code
def yJ9_abs_067f4 : MethodName := ⟨RJ9, "abs", "(J)J"⟩
abbrev cJ9_max_7cf53 : ByteArray := prog_11_method_65_code
def yJ9_max_7cf53 : MethodName := ⟨RJ9, "max", "(II)I"⟩
abbrev cJ9_max_f86c9 : ByteArray := prog_11_method_66_code
def yJ9_max_f86c9 : MethodName := ⟨RJ9, "max", "(JJ)J"⟩
abbrev cJ9_min_f86c9 : ByteArray := prog_11_method_70_code
def yJ9_min_f86c9 : MethodName := ⟨RJ9, "min", "(JJ)J"⟩
def RJ0 : String := "java/lang/String"
def TJ0 : u_T := fun k => match k with
  | _ => ("", "", "", false)
def tyJ0 : Nat → FieldType := fun k => match k with
  | _ => .int
abbrev wsJ00 : List Cond := u_ws RJ0 TJ0 0
theorem nmJ0 : ∀ a, a < 0 → ∀ b, b < 0 → a ≠ b → (TJ0 a).2.1 ≠ (TJ0 b).2.1 := by decide +kernel
theorem tyJ0_ok : ∀ k, k < 0 → parseFieldDescriptor (TJ0 k).2.2.1 = some (tyJ0 k) := by decide +kernel
def RL : String := "LearnedLedgeLaw"
abbrev cL_append : ByteArray := method_3_code
def yL_append : MethodName := ⟨RL, "append", "(LLearnedLedge;I[J)I"⟩
abbrev cL_appendMany : ByteArray := method_4_code
def yL_appendMany : MethodName := ⟨RL, "appendMany", "(LLearnedLedge;III[J)I"⟩
abbrev cL_insert : ByteArray := method_5_code
def yL_insert : MethodName := ⟨RL, "insert", "(LLearnedLedge;I[J)I"⟩
abbrev cL_remove : ByteArray := method_6_code
def yL_remove : MethodName := ⟨RL, "remove", "(LLearnedLedge;I[J)I"⟩
abbrev cL_rebuild : ByteArray := method_7_code
def yL_rebuild : MethodName := ⟨RL, "rebuild", "(LLearnedLedge;II[J)I"⟩
abbrev cL_select : ByteArray := method_8_code
def yL_select : MethodName := ⟨RL, "select", "(LLearnedLedge;I[J)I"⟩
abbrev cL_ceiling : ByteArray := method_9_code
def yL_ceiling : MethodName := ⟨RL, "ceiling", "(LLearnedLedge;I[J)I"⟩
abbrev cL_guess : ByteArray := method_10_code
def yL_guess : MethodName := ⟨RL, "guess", "(LLearnedLedge;I[J)I"⟩
abbrev cL_looks : ByteArray := method_11_code
def yL_looks : MethodName := ⟨RL, "looks", "(LLearnedLedge;I[J)I"⟩
abbrev cL_start : ByteArray := method_12_code
def yL_start : MethodName := ⟨RL, "start", "(LLearnedLedge;I[J)I"⟩
abbrev cL_firstKey : ByteArray := method_13_code
def yL_firstKey : MethodName := ⟨RL, "firstKey", "(LLearnedLedge;I[J)I"⟩
abbrev cL_rise : ByteArray := method_14_code
def yL_rise : MethodName := ⟨RL, "rise", "(LLearnedLedge;I[J)I"⟩
abbrev cL_run : ByteArray := method_15_code
def yL_run : MethodName := ⟨RL, "run", "(LLearnedLedge;I[J)I"⟩
abbrev cL_law : ByteArray := code
def yL_law : MethodName := ⟨RL, "law", "([I)Z"⟩
def wsX0_init : List Cond := .code yX0_init cX0_init 2 none :: ([.methodLink RX0 3 objectInit, .instanceMethod objectInit, .code objectInit ⟨#[0xb1]⟩ 1 none, .methodLink RX0 9 Lib.Math.max.name, .static Lib.Math.max.name, .initialized "java/lang/Math", .code Lib.Math.max.name Lib.Math.max.code 2 (some .int), .arrayClass .int, .fieldLink RX0 15 "LearnedLedge$Numbers" "items" "[I", .fieldLink RX0 21 "LearnedLedge$Numbers" "length" "I"] ++ wsX00)
def wsX0_length : List Cond := .code yX0_length cX0_length 1 (some .int) :: ([.fieldLink RX0 21 "LearnedLedge$Numbers" "length" "I"] ++ wsX00)
def wsX0_has : List Cond := .code yX0_has cX0_has 2 (some .boolean) :: ([.fieldLink RX0 21 "LearnedLedge$Numbers" "length" "I", .fieldLink RX0 15 "LearnedLedge$Numbers" "items" "[I"] ++ wsX00)
def wsX0_at : List Cond := .code yX0_at cX0_at 2 (some .int) :: ([.fieldLink RX0 15 "LearnedLedge$Numbers" "items" "[I", .methodLink RX0 25 yX0_has, .instanceMethod yX0_has, .selects RX0 yX0_has yX0_has, .initialized RX0, .code yX0_has cX0_has 2 (some .boolean), .fieldLink RX0 21 "LearnedLedge$Numbers" "length" "I"] ++ wsX00)
def wsX0_put : List Cond := .code yX0_put cX0_put 3 none :: ([.fieldLink RX0 15 "LearnedLedge$Numbers" "items" "[I", .methodLink RX0 25 yX0_has, .instanceMethod yX0_has, .selects RX0 yX0_has yX0_has, .initialized RX0, .code yX0_has cX0_has 2 (some .boolean), .fieldLink RX0 21 "LearnedLedge$Numbers" "length" "I"] ++ wsX00)
def wsX0_push : List Cond := .code yX0_push cX0_push 2 none :: ([.fieldLink RX0 21 "LearnedLedge$Numbers" "length" "I", .fieldLink RX0 15 "LearnedLedge$Numbers" "items" "[I"] ++ wsX00)
def wsX0_clear : List Cond := .code yX0_clear cX0_clear 1 none :: ([.fieldLink RX0 21 "LearnedLedge$Numbers" "length" "I"] ++ wsX00)
def wsX0_squeezeIn : List Cond := .code yX0_squeezeIn cX0_squeezeIn 4 none :: ([.fieldLink RX0 21 "LearnedLedge$Numbers" "length" "I", .methodLink RX0 29 yX0_push, .instanceMethod yX0_push, .selects RX0 yX0_push yX0_push, .initialized RX0, .code yX0_push cX0_push 2 none, .fieldLink RX0 15 "LearnedLedge$Numbers" "items" "[I", .methodLink RX0 33 yX0_at, .instanceMethod yX0_at, .selects RX0 yX0_at yX0_at, .code yX0_at cX0_at 2 (some .int), .methodLink RX0 25 yX0_has, .instanceMethod yX0_has, .selects RX0 yX0_has yX0_has, .code yX0_has cX0_has 2 (some .boolean), .methodLink RX0 37 yX0_put, .instanceMethod yX0_put, .selects RX0 yX0_put yX0_put, .code yX0_put cX0_put 3 none] ++ wsX00)
def wsX0_takeOut : List Cond := .code yX0_takeOut cX0_takeOut 3 none :: ([.fieldLink RX0 21 "LearnedLedge$Numbers" "length" "I", .methodLink RX0 25 yX0_has, .instanceMethod yX0_has, .selects RX0 yX0_has yX0_has, .initialized RX0, .code yX0_has cX0_has 2 (some .boolean), .fieldLink RX0 15 "LearnedLedge$Numbers" "items" "[I", .methodLink RX0 33 yX0_at, .instanceMethod yX0_at, .selects RX0 yX0_at yX0_at, .code yX0_at cX0_at 2 (some .int), .methodLink RX0 37 yX0_put, .instanceMethod yX0_put, .selects RX0 yX0_put yX0_put, .code yX0_put cX0_put 3 none] ++ wsX00)
def wsX0_below : List Cond := .code yX0_below cX0_below 6 (some .int) :: ([.fieldLink RX0 21 "LearnedLedge$Numbers" "length" "I", .methodLink RX0 33 yX0_at, .instanceMethod yX0_at, .selects RX0 yX0_at yX0_at, .initialized RX0, .code yX0_at cX0_at 2 (some .int), .fieldLink RX0 15 "LearnedLedge$Numbers" "items" "[I", .methodLink RX0 25 yX0_has, .instanceMethod yX0_has, .selects RX0 yX0_has yX0_has, .code yX0_has cX0_has 2 (some .boolean)] ++ wsX00)
def wsX0_indexOf : List Cond := .code yX0_indexOf cX0_indexOf 3 (some .int) :: ([.fieldLink RX0 15 "LearnedLedge$Numbers" "items" "[I", .methodLink RX0 41 yX0_below, .instanceMethod yX0_below, .selects RX0 yX0_below yX0_below, .initialized RX0, .code yX0_below cX0_below 6 (some .int), .fieldLink RX0 21 "LearnedLedge$Numbers" "length" "I", .methodLink RX0 33 yX0_at, .instanceMethod yX0_at, .selects RX0 yX0_at yX0_at, .code yX0_at cX0_at 2 (some .int), .methodLink RX0 25 yX0_has, .instanceMethod yX0_has, .selects RX0 yX0_has yX0_has, .code yX0_has cX0_has 2 (some .boolean)] ++ wsX00)
def wsX1_init : List Cond := .code yX1_init cX1_init 1 none :: ([.methodLink RX1 3 objectInit, .instanceMethod objectInit, .code objectInit ⟨#[0xb1]⟩ 1 none, .fieldLink RX1 9 "LearnedLedge$SlopeRange" "leastRise" "J", .fieldLink RX1 15 "LearnedLedge$SlopeRange" "leastRun" "J", .fieldLink RX1 18 "LearnedLedge$SlopeRange" "mostRise" "J", .fieldLink RX1 21 "LearnedLedge$SlopeRange" "mostRun" "J"] ++ wsX10)
def wsX1_begin : List Cond := .code yX1_begin cX1_begin 4 none :: ([.fieldLink RX1 24 "LearnedLedge$SlopeRange" "originKey" "I", .fieldLink RX1 28 "LearnedLedge$SlopeRange" "originPlace" "I", .fieldLink RX1 31 "LearnedLedge$SlopeRange" "error" "I", .fieldLink RX1 9 "LearnedLedge$SlopeRange" "leastRise" "J", .fieldLink RX1 15 "LearnedLedge$SlopeRange" "leastRun" "J", .fieldLink RX1 18 "LearnedLedge$SlopeRange" "mostRise" "J", .fieldLink RX1 21 "LearnedLedge$SlopeRange" "mostRun" "J"] ++ wsX10)
def wsX1_take : List Cond := .code yX1_take cX1_take 11 (some .boolean) :: ([.fieldLink RX1 24 "LearnedLedge$SlopeRange" "originKey" "I", .fieldLink RX1 28 "LearnedLedge$SlopeRange" "originPlace" "I", .fieldLink RX1 31 "LearnedLedge$SlopeRange" "error" "I", .constantLong RX1 34 (2), .fieldLink RX1 15 "LearnedLedge$SlopeRange" "leastRun" "J", .fieldLink RX1 9 "LearnedLedge$SlopeRange" "leastRise" "J", .fieldLink RX1 21 "LearnedLedge$SlopeRange" "mostRun" "J", .fieldLink RX1 18 "LearnedLedge$SlopeRange" "mostRise" "J"] ++ wsX10)
def wsX1_divisor : List Cond := .code yX1_divisor cX1_divisor 8 (some .long) :: ([.fieldLink RX1 15 "LearnedLedge$SlopeRange" "leastRun" "J", .fieldLink RX1 9 "LearnedLedge$SlopeRange" "leastRise" "J"] ++ wsX10)
def wsX1_leastRise : List Cond := .code yX1_leastRise cX1_leastRise 1 (some .int) :: ([.fieldLink RX1 9 "LearnedLedge$SlopeRange" "leastRise" "J", .methodLink RX1 36 yX1_divisor, .instanceMethod yX1_divisor, .selects RX1 yX1_divisor yX1_divisor, .initialized RX1, .code yX1_divisor cX1_divisor 8 (some .long), .fieldLink RX1 15 "LearnedLedge$SlopeRange" "leastRun" "J"] ++ wsX10)
def wsX1_leastRun : List Cond := .code yX1_leastRun cX1_leastRun 1 (some .int) :: ([.fieldLink RX1 15 "LearnedLedge$SlopeRange" "leastRun" "J", .methodLink RX1 36 yX1_divisor, .instanceMethod yX1_divisor, .selects RX1 yX1_divisor yX1_divisor, .initialized RX1, .code yX1_divisor cX1_divisor 8 (some .long), .fieldLink RX1 9 "LearnedLedge$SlopeRange" "leastRise" "J"] ++ wsX10)
def wsX2_init_r1 : List Cond := [Cond.methodLink RX2 1 objectInit, Cond.instanceMethod objectInit, Cond.code objectInit ⟨#[0xb1]⟩ 1 none, Cond.classLink RX2 7 RX0, Cond.instantiable RX0 2, Cond.initialized RX0, Cond.fieldLink RX2 14 "LearnedLedge" "keys" "LLearnedLedge$Numbers;", Cond.fieldLink RX2 18 "LearnedLedge" "marks" "LLearnedLedge$Numbers;", Cond.fieldLink RX2 21 "LearnedLedge" "buffer" "LLearnedLedge$Numbers;", Cond.fieldLink RX2 24 "LearnedLedge" "starts" "LLearnedLedge$Numbers;", Cond.fieldLink RX2 27 "LearnedLedge" "rises" "LLearnedLedge$Numbers;", Cond.fieldLink RX2 30 "LearnedLedge" "runs" "LLearnedLedge$Numbers;", Cond.classLink RX2 33 RX1, Cond.instantiable RX1 7, Cond.initialized RX1, Cond.fieldLink RX2 36 "LearnedLedge" "tail" "LLearnedLedge$SlopeRange;", Cond.fieldLink RX2 40 "LearnedLedge" "freshKeys" "LLearnedLedge$Numbers;", Cond.fieldLink RX2 43 "LearnedLedge" "freshStarts" "LLearnedLedge$Numbers;", Cond.fieldLink RX2 46 "LearnedLedge" "bound" "I", Cond.fieldLink RX2 50 "LearnedLedge" "room" "I", Cond.fieldLink RX2 53 "LearnedLedge" "markCount" "I", Cond.fieldLink RX2 56 "LearnedLedge" "mergeCount" "I", Cond.fieldLink RX2 59 "LearnedLedge" "splitCount" "I", Cond.fieldLink RX2 62 "LearnedLedge" "joinCount" "I"]
def wsX2_init_r2 : List Cond := [Cond.methodLink RX2 11 yX0_init, Cond.instanceMethod yX0_init, Cond.code yX0_init cX0_init 2 none, Cond.methodLink RX0 3 objectInit, Cond.methodLink RX0 9 Lib.Math.max.name, Cond.static Lib.Math.max.name, Cond.initialized "java/lang/Math", Cond.code Lib.Math.max.name Lib.Math.max.code 2 (some .int), Cond.arrayClass .int, Cond.fieldLink RX0 15 "LearnedLedge$Numbers" "items" "[I", Cond.fieldLink RX0 21 "LearnedLedge$Numbers" "length" "I", Cond.instanceMethod yX1_init, Cond.code yX1_init cX1_init 1 none, Cond.methodLink RX1 3 objectInit, Cond.fieldLink RX1 9 "LearnedLedge$SlopeRange" "leastRise" "J", Cond.fieldLink RX1 15 "LearnedLedge$SlopeRange" "leastRun" "J", Cond.fieldLink RX1 18 "LearnedLedge$SlopeRange" "mostRise" "J", Cond.fieldLink RX1 21 "LearnedLedge$SlopeRange" "mostRun" "J"]
def wsX2_init : List Cond := .code yX2_init cX2_init 1 none :: ((wsX2_init_r1 ++ wsX2_init_r2) ++ wsX00 ++ wsX20 ++ wsX10)
def wsX2_needKey : List Cond := .code yX2_needKey cX2_needKey 2 none :: ([.classLink RX2 80 "java/lang/IllegalArgumentException", .initialized "java/lang/IllegalArgumentException", .constantLong RX2 186 (-1000000), .constantLong RX2 188 (1000000)] ++ (vx_atS RX2 84 "java/lang/IllegalArgumentException" ["java/lang/RuntimeException", "java/lang/Exception"]).filter goodWord)
def wsX2_allKeys : List Cond := .code yX2_allKeys cX2_allKeys 1 (some .int) :: ([.fieldLink RX2 14 "LearnedLedge" "keys" "LLearnedLedge$Numbers;", .fieldLink RX2 21 "LearnedLedge" "buffer" "LLearnedLedge$Numbers;", .methodLink RX2 76 yX0_length, .instanceMethod yX0_length, .selects RX0 yX0_length yX0_length, .initialized RX0, .code yX0_length cX0_length 1 (some .int), .fieldLink RX0 21 "LearnedLedge$Numbers" "length" "I"] ++ wsX20 ++ wsX00)
def wsX2_needToFollow_r1 : List Cond := [Cond.classLink RX2 98 "java/lang/IllegalStateException", Cond.initialized "java/lang/IllegalStateException", Cond.fieldLink RX2 14 "LearnedLedge" "keys" "LLearnedLedge$Numbers;", Cond.fieldLink RX2 21 "LearnedLedge" "buffer" "LLearnedLedge$Numbers;", Cond.methodLink RX2 114 yX0_below, Cond.instanceMethod yX0_below, Cond.selects RX0 yX0_below yX0_below, Cond.initialized RX0, Cond.code yX0_below cX0_below 6 (some .int), Cond.fieldLink RX0 21 "LearnedLedge$Numbers" "length" "I", Cond.methodLink RX0 33 yX0_at, Cond.instanceMethod yX0_at, Cond.selects RX0 yX0_at yX0_at, Cond.code yX0_at cX0_at 2 (some .int), Cond.fieldLink RX0 15 "LearnedLedge$Numbers" "items" "[I", Cond.methodLink RX0 25 yX0_has, Cond.instanceMethod yX0_has, Cond.selects RX0 yX0_has yX0_has, Cond.code yX0_has cX0_has 2 (some .boolean), Cond.methodLink RX2 76 yX0_length, Cond.instanceMethod yX0_length, Cond.selects RX0 yX0_length yX0_length, Cond.code yX0_length cX0_length 1 (some .int), Cond.methodLink RX2 95 yX2_allKeys]
def wsX2_needToFollow_r2 : List Cond := [Cond.instanceMethod yX2_allKeys, Cond.selects RX2 yX2_allKeys yX2_allKeys, Cond.initialized RX2, Cond.code yX2_allKeys cX2_allKeys 1 (some .int)]
def wsX2_needToFollow : List Cond := .code yX2_needToFollow cX2_needToFollow 4 none :: ((wsX2_needToFollow_r1 ++ wsX2_needToFollow_r2) ++ wsX20 ++ wsX00 ++ (vx_atS RX2 102 "java/lang/IllegalStateException" ["java/lang/RuntimeException", "java/lang/Exception"]).filter goodWord)
def wsX2_noteTailSlope_r1 : List Cond := [Cond.fieldLink RX2 24 "LearnedLedge" "starts" "LLearnedLedge$Numbers;", Cond.fieldLink RX2 27 "LearnedLedge" "rises" "LLearnedLedge$Numbers;", Cond.fieldLink RX2 36 "LearnedLedge" "tail" "LLearnedLedge$SlopeRange;", Cond.fieldLink RX2 30 "LearnedLedge" "runs" "LLearnedLedge$Numbers;", Cond.methodLink RX2 76 yX0_length, Cond.instanceMethod yX0_length, Cond.selects RX0 yX0_length yX0_length, Cond.initialized RX0, Cond.code yX0_length cX0_length 1 (some .int), Cond.fieldLink RX0 21 "LearnedLedge$Numbers" "length" "I", Cond.methodLink RX2 225 yX1_leastRise, Cond.instanceMethod yX1_leastRise, Cond.selects RX1 yX1_leastRise yX1_leastRise, Cond.initialized RX1, Cond.code yX1_leastRise cX1_leastRise 1 (some .int), Cond.fieldLink RX1 9 "LearnedLedge$SlopeRange" "leastRise" "J", Cond.methodLink RX1 36 yX1_divisor, Cond.instanceMethod yX1_divisor, Cond.selects RX1 yX1_divisor yX1_divisor, Cond.code yX1_divisor cX1_divisor 8 (some .long), Cond.fieldLink RX1 15 "LearnedLedge$SlopeRange" "leastRun" "J", Cond.methodLink RX2 106 yX0_put, Cond.instanceMethod yX0_put, Cond.selects RX0 yX0_put yX0_put]
def wsX2_noteTailSlope_r2 : List Cond := [Cond.code yX0_put cX0_put 3 none, Cond.fieldLink RX0 15 "LearnedLedge$Numbers" "items" "[I", Cond.methodLink RX0 25 yX0_has, Cond.instanceMethod yX0_has, Cond.selects RX0 yX0_has yX0_has, Cond.code yX0_has cX0_has 2 (some .boolean), Cond.methodLink RX2 228 yX1_leastRun, Cond.instanceMethod yX1_leastRun, Cond.selects RX1 yX1_leastRun yX1_leastRun, Cond.code yX1_leastRun cX1_leastRun 1 (some .int)]
def wsX2_noteTailSlope : List Cond := .code yX2_noteTailSlope cX2_noteTailSlope 2 none :: ((wsX2_noteTailSlope_r1 ++ wsX2_noteTailSlope_r2) ++ wsX20 ++ wsX00 ++ wsX10)
def wsX2_beginPiece_r1 : List Cond := [Cond.fieldLink RX2 36 "LearnedLedge" "tail" "LLearnedLedge$SlopeRange;", Cond.fieldLink RX2 46 "LearnedLedge" "bound" "I", Cond.fieldLink RX2 24 "LearnedLedge" "starts" "LLearnedLedge$Numbers;", Cond.fieldLink RX2 27 "LearnedLedge" "rises" "LLearnedLedge$Numbers;", Cond.fieldLink RX2 30 "LearnedLedge" "runs" "LLearnedLedge$Numbers;", Cond.methodLink RX2 221 yX1_begin, Cond.instanceMethod yX1_begin, Cond.selects RX1 yX1_begin yX1_begin, Cond.initialized RX1, Cond.code yX1_begin cX1_begin 4 none, Cond.fieldLink RX1 24 "LearnedLedge$SlopeRange" "originKey" "I", Cond.fieldLink RX1 28 "LearnedLedge$SlopeRange" "originPlace" "I", Cond.fieldLink RX1 31 "LearnedLedge$SlopeRange" "error" "I", Cond.fieldLink RX1 9 "LearnedLedge$SlopeRange" "leastRise" "J", Cond.fieldLink RX1 15 "LearnedLedge$SlopeRange" "leastRun" "J", Cond.fieldLink RX1 18 "LearnedLedge$SlopeRange" "mostRise" "J", Cond.fieldLink RX1 21 "LearnedLedge$SlopeRange" "mostRun" "J", Cond.methodLink RX2 199 yX0_push, Cond.instanceMethod yX0_push, Cond.selects RX0 yX0_push yX0_push, Cond.initialized RX0, Cond.code yX0_push cX0_push 2 none, Cond.fieldLink RX0 21 "LearnedLedge$Numbers" "length" "I", Cond.fieldLink RX0 15 "LearnedLedge$Numbers" "items" "[I"]
def wsX2_beginPiece_r2 : List Cond := [Cond.methodLink RX2 225 yX1_leastRise, Cond.instanceMethod yX1_leastRise, Cond.selects RX1 yX1_leastRise yX1_leastRise, Cond.code yX1_leastRise cX1_leastRise 1 (some .int), Cond.methodLink RX1 36 yX1_divisor, Cond.instanceMethod yX1_divisor, Cond.selects RX1 yX1_divisor yX1_divisor, Cond.code yX1_divisor cX1_divisor 8 (some .long), Cond.methodLink RX2 228 yX1_leastRun, Cond.instanceMethod yX1_leastRun, Cond.selects RX1 yX1_leastRun yX1_leastRun, Cond.code yX1_leastRun cX1_leastRun 1 (some .int)]
def wsX2_beginPiece : List Cond := .code yX2_beginPiece cX2_beginPiece 3 none :: ((wsX2_beginPiece_r1 ++ wsX2_beginPiece_r2) ++ wsX20 ++ wsX10 ++ wsX00)
def wsX2_addLast_r1 : List Cond := [Cond.fieldLink RX2 14 "LearnedLedge" "keys" "LLearnedLedge$Numbers;", Cond.fieldLink RX2 18 "LearnedLedge" "marks" "LLearnedLedge$Numbers;", Cond.fieldLink RX2 24 "LearnedLedge" "starts" "LLearnedLedge$Numbers;", Cond.fieldLink RX2 36 "LearnedLedge" "tail" "LLearnedLedge$SlopeRange;", Cond.methodLink RX2 76 yX0_length, Cond.instanceMethod yX0_length, Cond.selects RX0 yX0_length yX0_length, Cond.initialized RX0, Cond.code yX0_length cX0_length 1 (some .int), Cond.fieldLink RX0 21 "LearnedLedge$Numbers" "length" "I", Cond.methodLink RX2 199 yX0_push, Cond.instanceMethod yX0_push, Cond.selects RX0 yX0_push yX0_push, Cond.code yX0_push cX0_push 2 none, Cond.fieldLink RX0 15 "LearnedLedge$Numbers" "items" "[I", Cond.methodLink RX2 202 yX1_take, Cond.instanceMethod yX1_take, Cond.selects RX1 yX1_take yX1_take, Cond.initialized RX1, Cond.code yX1_take cX1_take 11 (some .boolean), Cond.fieldLink RX1 24 "LearnedLedge$SlopeRange" "originKey" "I", Cond.fieldLink RX1 28 "LearnedLedge$SlopeRange" "originPlace" "I", Cond.fieldLink RX1 31 "LearnedLedge$SlopeRange" "error" "I", Cond.constantLong RX1 34 (2)]
def wsX2_addLast_r2 : List Cond := [Cond.fieldLink RX1 15 "LearnedLedge$SlopeRange" "leastRun" "J", Cond.fieldLink RX1 9 "LearnedLedge$SlopeRange" "leastRise" "J", Cond.fieldLink RX1 21 "LearnedLedge$SlopeRange" "mostRun" "J", Cond.fieldLink RX1 18 "LearnedLedge$SlopeRange" "mostRise" "J", Cond.methodLink RX2 206 yX2_noteTailSlope, Cond.instanceMethod yX2_noteTailSlope, Cond.selects RX2 yX2_noteTailSlope yX2_noteTailSlope, Cond.initialized RX2, Cond.code yX2_noteTailSlope cX2_noteTailSlope 2 none, Cond.fieldLink RX2 27 "LearnedLedge" "rises" "LLearnedLedge$Numbers;", Cond.fieldLink RX2 30 "LearnedLedge" "runs" "LLearnedLedge$Numbers;", Cond.methodLink RX2 225 yX1_leastRise, Cond.instanceMethod yX1_leastRise, Cond.selects RX1 yX1_leastRise yX1_leastRise, Cond.code yX1_leastRise cX1_leastRise 1 (some .int), Cond.methodLink RX1 36 yX1_divisor, Cond.instanceMethod yX1_divisor, Cond.selects RX1 yX1_divisor yX1_divisor, Cond.code yX1_divisor cX1_divisor 8 (some .long), Cond.methodLink RX2 106 yX0_put, Cond.instanceMethod yX0_put, Cond.selects RX0 yX0_put yX0_put, Cond.code yX0_put cX0_put 3 none, Cond.methodLink RX0 25 yX0_has]
def wsX2_addLast_r3 : List Cond := [Cond.instanceMethod yX0_has, Cond.selects RX0 yX0_has yX0_has, Cond.code yX0_has cX0_has 2 (some .boolean), Cond.methodLink RX2 228 yX1_leastRun, Cond.instanceMethod yX1_leastRun, Cond.selects RX1 yX1_leastRun yX1_leastRun, Cond.code yX1_leastRun cX1_leastRun 1 (some .int), Cond.methodLink RX2 209 yX2_beginPiece, Cond.instanceMethod yX2_beginPiece, Cond.selects RX2 yX2_beginPiece yX2_beginPiece, Cond.code yX2_beginPiece cX2_beginPiece 3 none, Cond.fieldLink RX2 46 "LearnedLedge" "bound" "I", Cond.methodLink RX2 221 yX1_begin, Cond.instanceMethod yX1_begin, Cond.selects RX1 yX1_begin yX1_begin, Cond.code yX1_begin cX1_begin 4 none]
def wsX2_addLast : List Cond := .code yX2_addLast cX2_addLast 3 none :: ((wsX2_addLast_r1 ++ (wsX2_addLast_r2 ++ wsX2_addLast_r3)) ++ wsX20 ++ wsX00 ++ wsX10)
def wsX2_append_r1 : List Cond := [Cond.fieldLink RX2 24 "LearnedLedge" "starts" "LLearnedLedge$Numbers;", Cond.methodLink RX2 65 yX2_needKey, Cond.static yX2_needKey, Cond.initialized RX2, Cond.code yX2_needKey cX2_needKey 2 none, Cond.classLink RX2 80 "java/lang/IllegalArgumentException", Cond.initialized "java/lang/IllegalArgumentException", Cond.constantLong RX2 186 (-1000000), Cond.constantLong RX2 188 (1000000), Cond.methodLink RX2 69 yX2_needToFollow, Cond.instanceMethod yX2_needToFollow, Cond.selects RX2 yX2_needToFollow yX2_needToFollow, Cond.code yX2_needToFollow cX2_needToFollow 4 none, Cond.classLink RX2 98 "java/lang/IllegalStateException", Cond.initialized "java/lang/IllegalStateException", Cond.fieldLink RX2 14 "LearnedLedge" "keys" "LLearnedLedge$Numbers;", Cond.fieldLink RX2 21 "LearnedLedge" "buffer" "LLearnedLedge$Numbers;", Cond.methodLink RX2 114 yX0_below, Cond.instanceMethod yX0_below, Cond.selects RX0 yX0_below yX0_below, Cond.initialized RX0, Cond.code yX0_below cX0_below 6 (some .int), Cond.fieldLink RX0 21 "LearnedLedge$Numbers" "length" "I", Cond.methodLink RX0 33 yX0_at]
def wsX2_append_r2 : List Cond := [Cond.instanceMethod yX0_at, Cond.selects RX0 yX0_at yX0_at, Cond.code yX0_at cX0_at 2 (some .int), Cond.fieldLink RX0 15 "LearnedLedge$Numbers" "items" "[I", Cond.methodLink RX0 25 yX0_has, Cond.instanceMethod yX0_has, Cond.selects RX0 yX0_has yX0_has, Cond.code yX0_has cX0_has 2 (some .boolean), Cond.methodLink RX2 76 yX0_length, Cond.instanceMethod yX0_length, Cond.selects RX0 yX0_length yX0_length, Cond.code yX0_length cX0_length 1 (some .int), Cond.methodLink RX2 95 yX2_allKeys, Cond.instanceMethod yX2_allKeys, Cond.selects RX2 yX2_allKeys yX2_allKeys, Cond.code yX2_allKeys cX2_allKeys 1 (some .int), Cond.methodLink RX2 73 yX2_addLast, Cond.instanceMethod yX2_addLast, Cond.selects RX2 yX2_addLast yX2_addLast, Cond.code yX2_addLast cX2_addLast 3 none, Cond.fieldLink RX2 18 "LearnedLedge" "marks" "LLearnedLedge$Numbers;", Cond.fieldLink RX2 36 "LearnedLedge" "tail" "LLearnedLedge$SlopeRange;", Cond.methodLink RX2 199 yX0_push, Cond.instanceMethod yX0_push]
def wsX2_append_r3 : List Cond := [Cond.selects RX0 yX0_push yX0_push, Cond.code yX0_push cX0_push 2 none, Cond.methodLink RX2 202 yX1_take, Cond.instanceMethod yX1_take, Cond.selects RX1 yX1_take yX1_take, Cond.initialized RX1, Cond.code yX1_take cX1_take 11 (some .boolean), Cond.fieldLink RX1 24 "LearnedLedge$SlopeRange" "originKey" "I", Cond.fieldLink RX1 28 "LearnedLedge$SlopeRange" "originPlace" "I", Cond.fieldLink RX1 31 "LearnedLedge$SlopeRange" "error" "I", Cond.constantLong RX1 34 (2), Cond.fieldLink RX1 15 "LearnedLedge$SlopeRange" "leastRun" "J", Cond.fieldLink RX1 9 "LearnedLedge$SlopeRange" "leastRise" "J", Cond.fieldLink RX1 21 "LearnedLedge$SlopeRange" "mostRun" "J", Cond.fieldLink RX1 18 "LearnedLedge$SlopeRange" "mostRise" "J", Cond.methodLink RX2 206 yX2_noteTailSlope, Cond.instanceMethod yX2_noteTailSlope, Cond.selects RX2 yX2_noteTailSlope yX2_noteTailSlope, Cond.code yX2_noteTailSlope cX2_noteTailSlope 2 none, Cond.fieldLink RX2 27 "LearnedLedge" "rises" "LLearnedLedge$Numbers;", Cond.fieldLink RX2 30 "LearnedLedge" "runs" "LLearnedLedge$Numbers;", Cond.methodLink RX2 225 yX1_leastRise, Cond.instanceMethod yX1_leastRise, Cond.selects RX1 yX1_leastRise yX1_leastRise]
def wsX2_append_r4 : List Cond := [Cond.code yX1_leastRise cX1_leastRise 1 (some .int), Cond.methodLink RX1 36 yX1_divisor, Cond.instanceMethod yX1_divisor, Cond.selects RX1 yX1_divisor yX1_divisor, Cond.code yX1_divisor cX1_divisor 8 (some .long), Cond.methodLink RX2 106 yX0_put, Cond.instanceMethod yX0_put, Cond.selects RX0 yX0_put yX0_put, Cond.code yX0_put cX0_put 3 none, Cond.methodLink RX2 228 yX1_leastRun, Cond.instanceMethod yX1_leastRun, Cond.selects RX1 yX1_leastRun yX1_leastRun, Cond.code yX1_leastRun cX1_leastRun 1 (some .int), Cond.methodLink RX2 209 yX2_beginPiece, Cond.instanceMethod yX2_beginPiece, Cond.selects RX2 yX2_beginPiece yX2_beginPiece, Cond.code yX2_beginPiece cX2_beginPiece 3 none, Cond.fieldLink RX2 46 "LearnedLedge" "bound" "I", Cond.methodLink RX2 221 yX1_begin, Cond.instanceMethod yX1_begin, Cond.selects RX1 yX1_begin yX1_begin, Cond.code yX1_begin cX1_begin 4 none]
def wsX2_append : List Cond := .code yX2_append cX2_append 2 (some .int) :: ((wsX2_append_r1 ++ (wsX2_append_r2 ++ (wsX2_append_r3 ++ wsX2_append_r4))) ++ wsX20 ++ wsX00 ++ wsX10 ++ (vx_atS RX2 84 "java/lang/IllegalArgumentException" ["java/lang/RuntimeException", "java/lang/Exception"]).filter goodWord ++ (vx_atS RX2 102 "java/lang/IllegalStateException" ["java/lang/RuntimeException", "java/lang/Exception"]).filter goodWord)
def wsX2_appendMany_r1 : List Cond := [Cond.classLink RX2 80 "java/lang/IllegalArgumentException", Cond.initialized "java/lang/IllegalArgumentException", Cond.fieldLink RX2 24 "LearnedLedge" "starts" "LLearnedLedge$Numbers;", Cond.methodLink RX2 65 yX2_needKey, Cond.static yX2_needKey, Cond.initialized RX2, Cond.code yX2_needKey cX2_needKey 2 none, Cond.constantLong RX2 186 (-1000000), Cond.constantLong RX2 188 (1000000), Cond.methodLink RX2 69 yX2_needToFollow, Cond.instanceMethod yX2_needToFollow, Cond.selects RX2 yX2_needToFollow yX2_needToFollow, Cond.code yX2_needToFollow cX2_needToFollow 4 none, Cond.classLink RX2 98 "java/lang/IllegalStateException", Cond.initialized "java/lang/IllegalStateException", Cond.fieldLink RX2 14 "LearnedLedge" "keys" "LLearnedLedge$Numbers;", Cond.fieldLink RX2 21 "LearnedLedge" "buffer" "LLearnedLedge$Numbers;", Cond.methodLink RX2 114 yX0_below, Cond.instanceMethod yX0_below, Cond.selects RX0 yX0_below yX0_below, Cond.initialized RX0, Cond.code yX0_below cX0_below 6 (some .int), Cond.fieldLink RX0 21 "LearnedLedge$Numbers" "length" "I", Cond.methodLink RX0 33 yX0_at]
def wsX2_appendMany_r2 : List Cond := [Cond.instanceMethod yX0_at, Cond.selects RX0 yX0_at yX0_at, Cond.code yX0_at cX0_at 2 (some .int), Cond.fieldLink RX0 15 "LearnedLedge$Numbers" "items" "[I", Cond.methodLink RX0 25 yX0_has, Cond.instanceMethod yX0_has, Cond.selects RX0 yX0_has yX0_has, Cond.code yX0_has cX0_has 2 (some .boolean), Cond.methodLink RX2 76 yX0_length, Cond.instanceMethod yX0_length, Cond.selects RX0 yX0_length yX0_length, Cond.code yX0_length cX0_length 1 (some .int), Cond.methodLink RX2 95 yX2_allKeys, Cond.instanceMethod yX2_allKeys, Cond.selects RX2 yX2_allKeys yX2_allKeys, Cond.code yX2_allKeys cX2_allKeys 1 (some .int), Cond.methodLink RX2 73 yX2_addLast, Cond.instanceMethod yX2_addLast, Cond.selects RX2 yX2_addLast yX2_addLast, Cond.code yX2_addLast cX2_addLast 3 none, Cond.fieldLink RX2 18 "LearnedLedge" "marks" "LLearnedLedge$Numbers;", Cond.fieldLink RX2 36 "LearnedLedge" "tail" "LLearnedLedge$SlopeRange;", Cond.methodLink RX2 199 yX0_push, Cond.instanceMethod yX0_push]
def wsX2_appendMany_r3 : List Cond := [Cond.selects RX0 yX0_push yX0_push, Cond.code yX0_push cX0_push 2 none, Cond.methodLink RX2 202 yX1_take, Cond.instanceMethod yX1_take, Cond.selects RX1 yX1_take yX1_take, Cond.initialized RX1, Cond.code yX1_take cX1_take 11 (some .boolean), Cond.fieldLink RX1 24 "LearnedLedge$SlopeRange" "originKey" "I", Cond.fieldLink RX1 28 "LearnedLedge$SlopeRange" "originPlace" "I", Cond.fieldLink RX1 31 "LearnedLedge$SlopeRange" "error" "I", Cond.constantLong RX1 34 (2), Cond.fieldLink RX1 15 "LearnedLedge$SlopeRange" "leastRun" "J", Cond.fieldLink RX1 9 "LearnedLedge$SlopeRange" "leastRise" "J", Cond.fieldLink RX1 21 "LearnedLedge$SlopeRange" "mostRun" "J", Cond.fieldLink RX1 18 "LearnedLedge$SlopeRange" "mostRise" "J", Cond.methodLink RX2 206 yX2_noteTailSlope, Cond.instanceMethod yX2_noteTailSlope, Cond.selects RX2 yX2_noteTailSlope yX2_noteTailSlope, Cond.code yX2_noteTailSlope cX2_noteTailSlope 2 none, Cond.fieldLink RX2 27 "LearnedLedge" "rises" "LLearnedLedge$Numbers;", Cond.fieldLink RX2 30 "LearnedLedge" "runs" "LLearnedLedge$Numbers;", Cond.methodLink RX2 225 yX1_leastRise, Cond.instanceMethod yX1_leastRise, Cond.selects RX1 yX1_leastRise yX1_leastRise]
def wsX2_appendMany_r4 : List Cond := [Cond.code yX1_leastRise cX1_leastRise 1 (some .int), Cond.methodLink RX1 36 yX1_divisor, Cond.instanceMethod yX1_divisor, Cond.selects RX1 yX1_divisor yX1_divisor, Cond.code yX1_divisor cX1_divisor 8 (some .long), Cond.methodLink RX2 106 yX0_put, Cond.instanceMethod yX0_put, Cond.selects RX0 yX0_put yX0_put, Cond.code yX0_put cX0_put 3 none, Cond.methodLink RX2 228 yX1_leastRun, Cond.instanceMethod yX1_leastRun, Cond.selects RX1 yX1_leastRun yX1_leastRun, Cond.code yX1_leastRun cX1_leastRun 1 (some .int), Cond.methodLink RX2 209 yX2_beginPiece, Cond.instanceMethod yX2_beginPiece, Cond.selects RX2 yX2_beginPiece yX2_beginPiece, Cond.code yX2_beginPiece cX2_beginPiece 3 none, Cond.fieldLink RX2 46 "LearnedLedge" "bound" "I", Cond.methodLink RX2 221 yX1_begin, Cond.instanceMethod yX1_begin, Cond.selects RX1 yX1_begin yX1_begin, Cond.code yX1_begin cX1_begin 4 none]
def wsX2_appendMany : List Cond := .code yX2_appendMany cX2_appendMany 7 (some .int) :: ((wsX2_appendMany_r1 ++ (wsX2_appendMany_r2 ++ (wsX2_appendMany_r3 ++ wsX2_appendMany_r4))) ++ wsX20 ++ wsX00 ++ wsX10 ++ (vx_atS RX2 84 "java/lang/IllegalArgumentException" ["java/lang/RuntimeException", "java/lang/Exception"]).filter goodWord ++ (vx_atS RX2 102 "java/lang/IllegalStateException" ["java/lang/RuntimeException", "java/lang/Exception"]).filter goodWord)
def wsX2_isThere : List Cond := .code yX2_isThere cX2_isThere 3 (some .boolean) :: ([.fieldLink RX2 14 "LearnedLedge" "keys" "LLearnedLedge$Numbers;", .fieldLink RX2 21 "LearnedLedge" "buffer" "LLearnedLedge$Numbers;", .fieldLink RX2 18 "LearnedLedge" "marks" "LLearnedLedge$Numbers;", .methodLink RX2 87 yX0_indexOf, .instanceMethod yX0_indexOf, .selects RX0 yX0_indexOf yX0_indexOf, .initialized RX0, .code yX0_indexOf cX0_indexOf 3 (some .int), .fieldLink RX0 15 "LearnedLedge$Numbers" "items" "[I", .methodLink RX0 41 yX0_below, .instanceMethod yX0_below, .selects RX0 yX0_below yX0_below, .code yX0_below cX0_below 6 (some .int), .fieldLink RX0 21 "LearnedLedge$Numbers" "length" "I", .methodLink RX0 33 yX0_at, .instanceMethod yX0_at, .selects RX0 yX0_at yX0_at, .code yX0_at cX0_at 2 (some .int), .methodLink RX0 25 yX0_has, .instanceMethod yX0_has, .selects RX0 yX0_has yX0_has, .code yX0_has cX0_has 2 (some .boolean), .methodLink RX2 134 yX0_at] ++ wsX20 ++ wsX00)
def wsX2_gather : List Cond := .code yX2_gather cX2_gather 9 (some .boolean) :: ([.fieldLink RX2 14 "LearnedLedge" "keys" "LLearnedLedge$Numbers;", .fieldLink RX2 21 "LearnedLedge" "buffer" "LLearnedLedge$Numbers;", .fieldLink RX2 40 "LearnedLedge" "freshKeys" "LLearnedLedge$Numbers;", .fieldLink RX2 18 "LearnedLedge" "marks" "LLearnedLedge$Numbers;", .methodLink RX2 134 yX0_at, .instanceMethod yX0_at, .selects RX0 yX0_at yX0_at, .initialized RX0, .code yX0_at cX0_at 2 (some .int), .fieldLink RX0 15 "LearnedLedge$Numbers" "items" "[I", .methodLink RX0 25 yX0_has, .instanceMethod yX0_has, .selects RX0 yX0_has yX0_has, .code yX0_has cX0_has 2 (some .boolean), .fieldLink RX0 21 "LearnedLedge$Numbers" "length" "I", .methodLink RX2 199 yX0_push, .instanceMethod yX0_push, .selects RX0 yX0_push yX0_push, .code yX0_push cX0_push 2 none] ++ wsX20 ++ wsX00)
def wsX2_cutFresh_r1 : List Cond := [Cond.fieldLink RX2 40 "LearnedLedge" "freshKeys" "LLearnedLedge$Numbers;", Cond.fieldLink RX2 36 "LearnedLedge" "tail" "LLearnedLedge$SlopeRange;", Cond.fieldLink RX2 46 "LearnedLedge" "bound" "I", Cond.fieldLink RX2 43 "LearnedLedge" "freshStarts" "LLearnedLedge$Numbers;", Cond.fieldLink RX2 59 "LearnedLedge" "splitCount" "I", Cond.methodLink RX2 76 yX0_length, Cond.instanceMethod yX0_length, Cond.selects RX0 yX0_length yX0_length, Cond.initialized RX0, Cond.code yX0_length cX0_length 1 (some .int), Cond.fieldLink RX0 21 "LearnedLedge$Numbers" "length" "I", Cond.methodLink RX2 134 yX0_at, Cond.instanceMethod yX0_at, Cond.selects RX0 yX0_at yX0_at, Cond.code yX0_at cX0_at 2 (some .int), Cond.fieldLink RX0 15 "LearnedLedge$Numbers" "items" "[I", Cond.methodLink RX0 25 yX0_has, Cond.instanceMethod yX0_has, Cond.selects RX0 yX0_has yX0_has, Cond.code yX0_has cX0_has 2 (some .boolean), Cond.methodLink RX2 202 yX1_take, Cond.instanceMethod yX1_take, Cond.selects RX1 yX1_take yX1_take, Cond.initialized RX1]
def wsX2_cutFresh_r2 : List Cond := [Cond.code yX1_take cX1_take 11 (some .boolean), Cond.fieldLink RX1 24 "LearnedLedge$SlopeRange" "originKey" "I", Cond.fieldLink RX1 28 "LearnedLedge$SlopeRange" "originPlace" "I", Cond.fieldLink RX1 31 "LearnedLedge$SlopeRange" "error" "I", Cond.constantLong RX1 34 (2), Cond.fieldLink RX1 15 "LearnedLedge$SlopeRange" "leastRun" "J", Cond.fieldLink RX1 9 "LearnedLedge$SlopeRange" "leastRise" "J", Cond.fieldLink RX1 21 "LearnedLedge$SlopeRange" "mostRun" "J", Cond.fieldLink RX1 18 "LearnedLedge$SlopeRange" "mostRise" "J", Cond.methodLink RX2 221 yX1_begin, Cond.instanceMethod yX1_begin, Cond.selects RX1 yX1_begin yX1_begin, Cond.code yX1_begin cX1_begin 4 none, Cond.methodLink RX2 199 yX0_push, Cond.instanceMethod yX0_push, Cond.selects RX0 yX0_push yX0_push, Cond.code yX0_push cX0_push 2 none]
def wsX2_cutFresh : List Cond := .code yX2_cutFresh cX2_cutFresh 4 none :: ((wsX2_cutFresh_r1 ++ wsX2_cutFresh_r2) ++ wsX20 ++ wsX00 ++ wsX10)
def wsX2_firstOf : List Cond := .code yX2_firstOf cX2_firstOf 2 (some .int) :: ([.fieldLink RX2 14 "LearnedLedge" "keys" "LLearnedLedge$Numbers;", .fieldLink RX2 24 "LearnedLedge" "starts" "LLearnedLedge$Numbers;", .methodLink RX2 134 yX0_at, .instanceMethod yX0_at, .selects RX0 yX0_at yX0_at, .initialized RX0, .code yX0_at cX0_at 2 (some .int), .fieldLink RX0 15 "LearnedLedge$Numbers" "items" "[I", .methodLink RX0 25 yX0_has, .instanceMethod yX0_has, .selects RX0 yX0_has yX0_has, .code yX0_has cX0_has 2 (some .boolean), .fieldLink RX0 21 "LearnedLedge$Numbers" "length" "I"] ++ wsX20 ++ wsX00)
def wsX2_endOf : List Cond := .code yX2_endOf cX2_endOf 2 (some .int) :: ([.fieldLink RX2 24 "LearnedLedge" "starts" "LLearnedLedge$Numbers;", .fieldLink RX2 14 "LearnedLedge" "keys" "LLearnedLedge$Numbers;", .methodLink RX2 192 yX0_has, .instanceMethod yX0_has, .selects RX0 yX0_has yX0_has, .initialized RX0, .code yX0_has cX0_has 2 (some .boolean), .fieldLink RX0 21 "LearnedLedge$Numbers" "length" "I", .fieldLink RX0 15 "LearnedLedge$Numbers" "items" "[I", .methodLink RX2 134 yX0_at, .instanceMethod yX0_at, .selects RX0 yX0_at yX0_at, .code yX0_at cX0_at 2 (some .int), .methodLink RX0 25 yX0_has, .methodLink RX2 76 yX0_length, .instanceMethod yX0_length, .selects RX0 yX0_length yX0_length, .code yX0_length cX0_length 1 (some .int)] ++ wsX20 ++ wsX00)
def wsX2_mergePiece_r1 : List Cond := [Cond.fieldLink RX2 21 "LearnedLedge" "buffer" "LLearnedLedge$Numbers;", Cond.fieldLink RX2 24 "LearnedLedge" "starts" "LLearnedLedge$Numbers;", Cond.fieldLink RX2 40 "LearnedLedge" "freshKeys" "LLearnedLedge$Numbers;", Cond.fieldLink RX2 43 "LearnedLedge" "freshStarts" "LLearnedLedge$Numbers;", Cond.methodLink RX2 177 yX2_firstOf, Cond.instanceMethod yX2_firstOf, Cond.selects RX2 yX2_firstOf yX2_firstOf, Cond.initialized RX2, Cond.code yX2_firstOf cX2_firstOf 2 (some .int), Cond.fieldLink RX2 14 "LearnedLedge" "keys" "LLearnedLedge$Numbers;", Cond.methodLink RX2 134 yX0_at, Cond.instanceMethod yX0_at, Cond.selects RX0 yX0_at yX0_at, Cond.initialized RX0, Cond.code yX0_at cX0_at 2 (some .int), Cond.fieldLink RX0 15 "LearnedLedge$Numbers" "items" "[I", Cond.methodLink RX0 25 yX0_has, Cond.instanceMethod yX0_has, Cond.selects RX0 yX0_has yX0_has, Cond.code yX0_has cX0_has 2 (some .boolean), Cond.fieldLink RX0 21 "LearnedLedge$Numbers" "length" "I", Cond.methodLink RX2 114 yX0_below, Cond.instanceMethod yX0_below, Cond.selects RX0 yX0_below yX0_below]
def wsX2_mergePiece_r2 : List Cond := [Cond.code yX0_below cX0_below 6 (some .int), Cond.methodLink RX0 33 yX0_at, Cond.methodLink RX2 192 yX0_has, Cond.methodLink RX2 76 yX0_length, Cond.instanceMethod yX0_length, Cond.selects RX0 yX0_length yX0_length, Cond.code yX0_length cX0_length 1 (some .int), Cond.methodLink RX2 161 yX2_endOf, Cond.instanceMethod yX2_endOf, Cond.selects RX2 yX2_endOf yX2_endOf, Cond.code yX2_endOf cX2_endOf 2 (some .int), Cond.methodLink RX2 242 yX2_gather, Cond.instanceMethod yX2_gather, Cond.selects RX2 yX2_gather yX2_gather, Cond.code yX2_gather cX2_gather 9 (some .boolean), Cond.fieldLink RX2 18 "LearnedLedge" "marks" "LLearnedLedge$Numbers;", Cond.methodLink RX2 199 yX0_push, Cond.instanceMethod yX0_push, Cond.selects RX0 yX0_push yX0_push, Cond.code yX0_push cX0_push 2 none, Cond.methodLink RX2 246 yX2_cutFresh, Cond.instanceMethod yX2_cutFresh, Cond.selects RX2 yX2_cutFresh yX2_cutFresh, Cond.code yX2_cutFresh cX2_cutFresh 4 none]
def wsX2_mergePiece_r3 : List Cond := [Cond.fieldLink RX2 36 "LearnedLedge" "tail" "LLearnedLedge$SlopeRange;", Cond.fieldLink RX2 46 "LearnedLedge" "bound" "I", Cond.fieldLink RX2 59 "LearnedLedge" "splitCount" "I", Cond.methodLink RX2 202 yX1_take, Cond.instanceMethod yX1_take, Cond.selects RX1 yX1_take yX1_take, Cond.initialized RX1, Cond.code yX1_take cX1_take 11 (some .boolean), Cond.fieldLink RX1 24 "LearnedLedge$SlopeRange" "originKey" "I", Cond.fieldLink RX1 28 "LearnedLedge$SlopeRange" "originPlace" "I", Cond.fieldLink RX1 31 "LearnedLedge$SlopeRange" "error" "I", Cond.constantLong RX1 34 (2), Cond.fieldLink RX1 15 "LearnedLedge$SlopeRange" "leastRun" "J", Cond.fieldLink RX1 9 "LearnedLedge$SlopeRange" "leastRise" "J", Cond.fieldLink RX1 21 "LearnedLedge$SlopeRange" "mostRun" "J", Cond.fieldLink RX1 18 "LearnedLedge$SlopeRange" "mostRise" "J", Cond.methodLink RX2 221 yX1_begin, Cond.instanceMethod yX1_begin, Cond.selects RX1 yX1_begin yX1_begin, Cond.code yX1_begin cX1_begin 4 none]
def wsX2_mergePiece : List Cond := .code yX2_mergePiece cX2_mergePiece 6 none :: ((wsX2_mergePiece_r1 ++ (wsX2_mergePiece_r2 ++ wsX2_mergePiece_r3)) ++ wsX20 ++ wsX00 ++ wsX10)
def wsX2_clearPieces : List Cond := .code yX2_clearPieces cX2_clearPieces 1 none :: ([.fieldLink RX2 24 "LearnedLedge" "starts" "LLearnedLedge$Numbers;", .fieldLink RX2 27 "LearnedLedge" "rises" "LLearnedLedge$Numbers;", .fieldLink RX2 30 "LearnedLedge" "runs" "LLearnedLedge$Numbers;", .methodLink RX2 215 yX0_clear, .instanceMethod yX0_clear, .selects RX0 yX0_clear yX0_clear, .initialized RX0, .code yX0_clear cX0_clear 1 none, .fieldLink RX0 21 "LearnedLedge$Numbers" "length" "I"] ++ wsX20 ++ wsX00)
def wsX2_clearRow : List Cond := .code yX2_clearRow cX2_clearRow 1 none :: ([.fieldLink RX2 14 "LearnedLedge" "keys" "LLearnedLedge$Numbers;", .fieldLink RX2 18 "LearnedLedge" "marks" "LLearnedLedge$Numbers;", .fieldLink RX2 53 "LearnedLedge" "markCount" "I", .fieldLink RX2 21 "LearnedLedge" "buffer" "LLearnedLedge$Numbers;", .methodLink RX2 215 yX0_clear, .instanceMethod yX0_clear, .selects RX0 yX0_clear yX0_clear, .initialized RX0, .code yX0_clear cX0_clear 1 none, .fieldLink RX0 21 "LearnedLedge$Numbers" "length" "I", .methodLink RX2 218 yX2_clearPieces, .instanceMethod yX2_clearPieces, .selects RX2 yX2_clearPieces yX2_clearPieces, .initialized RX2, .code yX2_clearPieces cX2_clearPieces 1 none, .fieldLink RX2 24 "LearnedLedge" "starts" "LLearnedLedge$Numbers;", .fieldLink RX2 27 "LearnedLedge" "rises" "LLearnedLedge$Numbers;", .fieldLink RX2 30 "LearnedLedge" "runs" "LLearnedLedge$Numbers;"] ++ wsX20 ++ wsX00)
def wsX2_tailTakes_r1 : List Cond := [Cond.fieldLink RX2 36 "LearnedLedge" "tail" "LLearnedLedge$SlopeRange;", Cond.fieldLink RX2 14 "LearnedLedge" "keys" "LLearnedLedge$Numbers;", Cond.methodLink RX2 134 yX0_at, Cond.instanceMethod yX0_at, Cond.selects RX0 yX0_at yX0_at, Cond.initialized RX0, Cond.code yX0_at cX0_at 2 (some .int), Cond.fieldLink RX0 15 "LearnedLedge$Numbers" "items" "[I", Cond.methodLink RX0 25 yX0_has, Cond.instanceMethod yX0_has, Cond.selects RX0 yX0_has yX0_has, Cond.code yX0_has cX0_has 2 (some .boolean), Cond.fieldLink RX0 21 "LearnedLedge$Numbers" "length" "I", Cond.methodLink RX2 202 yX1_take, Cond.instanceMethod yX1_take, Cond.selects RX1 yX1_take yX1_take, Cond.initialized RX1, Cond.code yX1_take cX1_take 11 (some .boolean), Cond.fieldLink RX1 24 "LearnedLedge$SlopeRange" "originKey" "I", Cond.fieldLink RX1 28 "LearnedLedge$SlopeRange" "originPlace" "I", Cond.fieldLink RX1 31 "LearnedLedge$SlopeRange" "error" "I", Cond.constantLong RX1 34 (2), Cond.fieldLink RX1 15 "LearnedLedge$SlopeRange" "leastRun" "J", Cond.fieldLink RX1 9 "LearnedLedge$SlopeRange" "leastRise" "J"]
def wsX2_tailTakes_r2 : List Cond := [Cond.fieldLink RX1 21 "LearnedLedge$SlopeRange" "mostRun" "J", Cond.fieldLink RX1 18 "LearnedLedge$SlopeRange" "mostRise" "J"]
def wsX2_tailTakes : List Cond := .code yX2_tailTakes cX2_tailTakes 4 (some .boolean) :: ((wsX2_tailTakes_r1 ++ wsX2_tailTakes_r2) ++ wsX20 ++ wsX00 ++ wsX10)
def wsX2_joinFresh_r1 : List Cond := [Cond.fieldLink RX2 43 "LearnedLedge" "freshStarts" "LLearnedLedge$Numbers;", Cond.fieldLink RX2 14 "LearnedLedge" "keys" "LLearnedLedge$Numbers;", Cond.fieldLink RX2 62 "LearnedLedge" "joinCount" "I", Cond.methodLink RX2 76 yX0_length, Cond.instanceMethod yX0_length, Cond.selects RX0 yX0_length yX0_length, Cond.initialized RX0, Cond.code yX0_length cX0_length 1 (some .int), Cond.fieldLink RX0 21 "LearnedLedge$Numbers" "length" "I", Cond.methodLink RX2 134 yX0_at, Cond.instanceMethod yX0_at, Cond.selects RX0 yX0_at yX0_at, Cond.code yX0_at cX0_at 2 (some .int), Cond.fieldLink RX0 15 "LearnedLedge$Numbers" "items" "[I", Cond.methodLink RX0 25 yX0_has, Cond.instanceMethod yX0_has, Cond.selects RX0 yX0_has yX0_has, Cond.code yX0_has cX0_has 2 (some .boolean), Cond.methodLink RX2 192 yX0_has, Cond.methodLink RX2 255 yX2_tailTakes, Cond.instanceMethod yX2_tailTakes, Cond.selects RX2 yX2_tailTakes yX2_tailTakes, Cond.initialized RX2, Cond.code yX2_tailTakes cX2_tailTakes 4 (some .boolean)]
def wsX2_joinFresh_r2 : List Cond := [Cond.fieldLink RX2 36 "LearnedLedge" "tail" "LLearnedLedge$SlopeRange;", Cond.methodLink RX2 202 yX1_take, Cond.instanceMethod yX1_take, Cond.selects RX1 yX1_take yX1_take, Cond.initialized RX1, Cond.code yX1_take cX1_take 11 (some .boolean), Cond.fieldLink RX1 24 "LearnedLedge$SlopeRange" "originKey" "I", Cond.fieldLink RX1 28 "LearnedLedge$SlopeRange" "originPlace" "I", Cond.fieldLink RX1 31 "LearnedLedge$SlopeRange" "error" "I", Cond.constantLong RX1 34 (2), Cond.fieldLink RX1 15 "LearnedLedge$SlopeRange" "leastRun" "J", Cond.fieldLink RX1 9 "LearnedLedge$SlopeRange" "leastRise" "J", Cond.fieldLink RX1 21 "LearnedLedge$SlopeRange" "mostRun" "J", Cond.fieldLink RX1 18 "LearnedLedge$SlopeRange" "mostRise" "J", Cond.methodLink RX2 209 yX2_beginPiece, Cond.instanceMethod yX2_beginPiece, Cond.selects RX2 yX2_beginPiece yX2_beginPiece, Cond.code yX2_beginPiece cX2_beginPiece 3 none, Cond.fieldLink RX2 46 "LearnedLedge" "bound" "I", Cond.fieldLink RX2 24 "LearnedLedge" "starts" "LLearnedLedge$Numbers;", Cond.fieldLink RX2 27 "LearnedLedge" "rises" "LLearnedLedge$Numbers;", Cond.fieldLink RX2 30 "LearnedLedge" "runs" "LLearnedLedge$Numbers;", Cond.methodLink RX2 221 yX1_begin, Cond.instanceMethod yX1_begin]
def wsX2_joinFresh_r3 : List Cond := [Cond.selects RX1 yX1_begin yX1_begin, Cond.code yX1_begin cX1_begin 4 none, Cond.methodLink RX2 199 yX0_push, Cond.instanceMethod yX0_push, Cond.selects RX0 yX0_push yX0_push, Cond.code yX0_push cX0_push 2 none, Cond.methodLink RX2 225 yX1_leastRise, Cond.instanceMethod yX1_leastRise, Cond.selects RX1 yX1_leastRise yX1_leastRise, Cond.code yX1_leastRise cX1_leastRise 1 (some .int), Cond.methodLink RX1 36 yX1_divisor, Cond.instanceMethod yX1_divisor, Cond.selects RX1 yX1_divisor yX1_divisor, Cond.code yX1_divisor cX1_divisor 8 (some .long), Cond.methodLink RX2 228 yX1_leastRun, Cond.instanceMethod yX1_leastRun, Cond.selects RX1 yX1_leastRun yX1_leastRun, Cond.code yX1_leastRun cX1_leastRun 1 (some .int), Cond.methodLink RX2 206 yX2_noteTailSlope, Cond.instanceMethod yX2_noteTailSlope, Cond.selects RX2 yX2_noteTailSlope yX2_noteTailSlope, Cond.code yX2_noteTailSlope cX2_noteTailSlope 2 none, Cond.methodLink RX2 106 yX0_put, Cond.instanceMethod yX0_put]
def wsX2_joinFresh_r4 : List Cond := [Cond.selects RX0 yX0_put yX0_put, Cond.code yX0_put cX0_put 3 none]
def wsX2_joinFresh : List Cond := .code yX2_joinFresh cX2_joinFresh 4 none :: ((wsX2_joinFresh_r1 ++ (wsX2_joinFresh_r2 ++ (wsX2_joinFresh_r3 ++ wsX2_joinFresh_r4))) ++ wsX20 ++ wsX00 ++ wsX10)
def wsX2_mergeAll_r1 : List Cond := [Cond.fieldLink RX2 40 "LearnedLedge" "freshKeys" "LLearnedLedge$Numbers;", Cond.fieldLink RX2 43 "LearnedLedge" "freshStarts" "LLearnedLedge$Numbers;", Cond.fieldLink RX2 24 "LearnedLedge" "starts" "LLearnedLedge$Numbers;", Cond.fieldLink RX2 21 "LearnedLedge" "buffer" "LLearnedLedge$Numbers;", Cond.fieldLink RX2 14 "LearnedLedge" "keys" "LLearnedLedge$Numbers;", Cond.fieldLink RX2 18 "LearnedLedge" "marks" "LLearnedLedge$Numbers;", Cond.fieldLink RX2 56 "LearnedLedge" "mergeCount" "I", Cond.methodLink RX2 215 yX0_clear, Cond.instanceMethod yX0_clear, Cond.selects RX0 yX0_clear yX0_clear, Cond.initialized RX0, Cond.code yX0_clear cX0_clear 1 none, Cond.fieldLink RX0 21 "LearnedLedge$Numbers" "length" "I", Cond.methodLink RX2 76 yX0_length, Cond.instanceMethod yX0_length, Cond.selects RX0 yX0_length yX0_length, Cond.code yX0_length cX0_length 1 (some .int), Cond.methodLink RX2 242 yX2_gather, Cond.instanceMethod yX2_gather, Cond.selects RX2 yX2_gather yX2_gather, Cond.initialized RX2, Cond.code yX2_gather cX2_gather 9 (some .boolean), Cond.methodLink RX2 134 yX0_at, Cond.instanceMethod yX0_at]
def wsX2_mergeAll_r2 : List Cond := [Cond.selects RX0 yX0_at yX0_at, Cond.code yX0_at cX0_at 2 (some .int), Cond.fieldLink RX0 15 "LearnedLedge$Numbers" "items" "[I", Cond.methodLink RX0 25 yX0_has, Cond.instanceMethod yX0_has, Cond.selects RX0 yX0_has yX0_has, Cond.code yX0_has cX0_has 2 (some .boolean), Cond.methodLink RX2 199 yX0_push, Cond.instanceMethod yX0_push, Cond.selects RX0 yX0_push yX0_push, Cond.code yX0_push cX0_push 2 none, Cond.methodLink RX2 246 yX2_cutFresh, Cond.instanceMethod yX2_cutFresh, Cond.selects RX2 yX2_cutFresh yX2_cutFresh, Cond.code yX2_cutFresh cX2_cutFresh 4 none, Cond.fieldLink RX2 36 "LearnedLedge" "tail" "LLearnedLedge$SlopeRange;", Cond.fieldLink RX2 46 "LearnedLedge" "bound" "I", Cond.fieldLink RX2 59 "LearnedLedge" "splitCount" "I", Cond.methodLink RX2 202 yX1_take, Cond.instanceMethod yX1_take, Cond.selects RX1 yX1_take yX1_take, Cond.initialized RX1, Cond.code yX1_take cX1_take 11 (some .boolean), Cond.fieldLink RX1 24 "LearnedLedge$SlopeRange" "originKey" "I"]
def wsX2_mergeAll_r3 : List Cond := [Cond.fieldLink RX1 28 "LearnedLedge$SlopeRange" "originPlace" "I", Cond.fieldLink RX1 31 "LearnedLedge$SlopeRange" "error" "I", Cond.constantLong RX1 34 (2), Cond.fieldLink RX1 15 "LearnedLedge$SlopeRange" "leastRun" "J", Cond.fieldLink RX1 9 "LearnedLedge$SlopeRange" "leastRise" "J", Cond.fieldLink RX1 21 "LearnedLedge$SlopeRange" "mostRun" "J", Cond.fieldLink RX1 18 "LearnedLedge$SlopeRange" "mostRise" "J", Cond.methodLink RX2 221 yX1_begin, Cond.instanceMethod yX1_begin, Cond.selects RX1 yX1_begin yX1_begin, Cond.code yX1_begin cX1_begin 4 none, Cond.methodLink RX2 249 yX2_mergePiece, Cond.instanceMethod yX2_mergePiece, Cond.selects RX2 yX2_mergePiece yX2_mergePiece, Cond.code yX2_mergePiece cX2_mergePiece 6 none, Cond.methodLink RX2 177 yX2_firstOf, Cond.instanceMethod yX2_firstOf, Cond.selects RX2 yX2_firstOf yX2_firstOf, Cond.code yX2_firstOf cX2_firstOf 2 (some .int), Cond.methodLink RX2 114 yX0_below, Cond.instanceMethod yX0_below, Cond.selects RX0 yX0_below yX0_below, Cond.code yX0_below cX0_below 6 (some .int), Cond.methodLink RX0 33 yX0_at]
def wsX2_mergeAll_r4 : List Cond := [Cond.methodLink RX2 192 yX0_has, Cond.methodLink RX2 161 yX2_endOf, Cond.instanceMethod yX2_endOf, Cond.selects RX2 yX2_endOf yX2_endOf, Cond.code yX2_endOf cX2_endOf 2 (some .int), Cond.methodLink RX2 131 yX2_clearRow, Cond.instanceMethod yX2_clearRow, Cond.selects RX2 yX2_clearRow yX2_clearRow, Cond.code yX2_clearRow cX2_clearRow 1 none, Cond.fieldLink RX2 53 "LearnedLedge" "markCount" "I", Cond.methodLink RX2 218 yX2_clearPieces, Cond.instanceMethod yX2_clearPieces, Cond.selects RX2 yX2_clearPieces yX2_clearPieces, Cond.code yX2_clearPieces cX2_clearPieces 1 none, Cond.fieldLink RX2 27 "LearnedLedge" "rises" "LLearnedLedge$Numbers;", Cond.fieldLink RX2 30 "LearnedLedge" "runs" "LLearnedLedge$Numbers;", Cond.methodLink RX2 252 yX2_joinFresh, Cond.instanceMethod yX2_joinFresh, Cond.selects RX2 yX2_joinFresh yX2_joinFresh, Cond.code yX2_joinFresh cX2_joinFresh 4 none, Cond.fieldLink RX2 62 "LearnedLedge" "joinCount" "I", Cond.methodLink RX2 255 yX2_tailTakes, Cond.instanceMethod yX2_tailTakes, Cond.selects RX2 yX2_tailTakes yX2_tailTakes]
def wsX2_mergeAll_r5 : List Cond := [Cond.code yX2_tailTakes cX2_tailTakes 4 (some .boolean), Cond.methodLink RX2 209 yX2_beginPiece, Cond.instanceMethod yX2_beginPiece, Cond.selects RX2 yX2_beginPiece yX2_beginPiece, Cond.code yX2_beginPiece cX2_beginPiece 3 none, Cond.methodLink RX2 225 yX1_leastRise, Cond.instanceMethod yX1_leastRise, Cond.selects RX1 yX1_leastRise yX1_leastRise, Cond.code yX1_leastRise cX1_leastRise 1 (some .int), Cond.methodLink RX1 36 yX1_divisor, Cond.instanceMethod yX1_divisor, Cond.selects RX1 yX1_divisor yX1_divisor, Cond.code yX1_divisor cX1_divisor 8 (some .long), Cond.methodLink RX2 228 yX1_leastRun, Cond.instanceMethod yX1_leastRun, Cond.selects RX1 yX1_leastRun yX1_leastRun, Cond.code yX1_leastRun cX1_leastRun 1 (some .int), Cond.methodLink RX2 206 yX2_noteTailSlope, Cond.instanceMethod yX2_noteTailSlope, Cond.selects RX2 yX2_noteTailSlope yX2_noteTailSlope, Cond.code yX2_noteTailSlope cX2_noteTailSlope 2 none, Cond.methodLink RX2 106 yX0_put, Cond.instanceMethod yX0_put, Cond.selects RX0 yX0_put yX0_put]
def wsX2_mergeAll_r6 : List Cond := [Cond.code yX0_put cX0_put 3 none]
def wsX2_mergeAll : List Cond := .code yX2_mergeAll cX2_mergeAll 2 none :: ((wsX2_mergeAll_r1 ++ (wsX2_mergeAll_r2 ++ (wsX2_mergeAll_r3 ++ (wsX2_mergeAll_r4 ++ (wsX2_mergeAll_r5 ++ wsX2_mergeAll_r6))))) ++ wsX20 ++ wsX00 ++ wsX10)
def wsX2_addLate_r1 : List Cond := [Cond.fieldLink RX2 21 "LearnedLedge" "buffer" "LLearnedLedge$Numbers;", Cond.fieldLink RX2 50 "LearnedLedge" "room" "I", Cond.methodLink RX2 114 yX0_below, Cond.instanceMethod yX0_below, Cond.selects RX0 yX0_below yX0_below, Cond.initialized RX0, Cond.code yX0_below cX0_below 6 (some .int), Cond.fieldLink RX0 21 "LearnedLedge$Numbers" "length" "I", Cond.methodLink RX0 33 yX0_at, Cond.instanceMethod yX0_at, Cond.selects RX0 yX0_at yX0_at, Cond.code yX0_at cX0_at 2 (some .int), Cond.fieldLink RX0 15 "LearnedLedge$Numbers" "items" "[I", Cond.methodLink RX0 25 yX0_has, Cond.instanceMethod yX0_has, Cond.selects RX0 yX0_has yX0_has, Cond.code yX0_has cX0_has 2 (some .boolean), Cond.methodLink RX2 212 yX0_squeezeIn, Cond.instanceMethod yX0_squeezeIn, Cond.selects RX0 yX0_squeezeIn yX0_squeezeIn, Cond.code yX0_squeezeIn cX0_squeezeIn 4 none, Cond.methodLink RX0 29 yX0_push, Cond.instanceMethod yX0_push, Cond.selects RX0 yX0_push yX0_push]
def wsX2_addLate_r2 : List Cond := [Cond.code yX0_push cX0_push 2 none, Cond.methodLink RX0 37 yX0_put, Cond.instanceMethod yX0_put, Cond.selects RX0 yX0_put yX0_put, Cond.code yX0_put cX0_put 3 none, Cond.methodLink RX2 76 yX0_length, Cond.instanceMethod yX0_length, Cond.selects RX0 yX0_length yX0_length, Cond.code yX0_length cX0_length 1 (some .int), Cond.methodLink RX2 123 yX2_mergeAll, Cond.instanceMethod yX2_mergeAll, Cond.selects RX2 yX2_mergeAll yX2_mergeAll, Cond.initialized RX2, Cond.code yX2_mergeAll cX2_mergeAll 2 none, Cond.fieldLink RX2 40 "LearnedLedge" "freshKeys" "LLearnedLedge$Numbers;", Cond.fieldLink RX2 43 "LearnedLedge" "freshStarts" "LLearnedLedge$Numbers;", Cond.fieldLink RX2 24 "LearnedLedge" "starts" "LLearnedLedge$Numbers;", Cond.fieldLink RX2 14 "LearnedLedge" "keys" "LLearnedLedge$Numbers;", Cond.fieldLink RX2 18 "LearnedLedge" "marks" "LLearnedLedge$Numbers;", Cond.fieldLink RX2 56 "LearnedLedge" "mergeCount" "I", Cond.methodLink RX2 215 yX0_clear, Cond.instanceMethod yX0_clear, Cond.selects RX0 yX0_clear yX0_clear, Cond.code yX0_clear cX0_clear 1 none]
def wsX2_addLate_r3 : List Cond := [Cond.methodLink RX2 242 yX2_gather, Cond.instanceMethod yX2_gather, Cond.selects RX2 yX2_gather yX2_gather, Cond.code yX2_gather cX2_gather 9 (some .boolean), Cond.methodLink RX2 134 yX0_at, Cond.methodLink RX2 199 yX0_push, Cond.methodLink RX2 246 yX2_cutFresh, Cond.instanceMethod yX2_cutFresh, Cond.selects RX2 yX2_cutFresh yX2_cutFresh, Cond.code yX2_cutFresh cX2_cutFresh 4 none, Cond.fieldLink RX2 36 "LearnedLedge" "tail" "LLearnedLedge$SlopeRange;", Cond.fieldLink RX2 46 "LearnedLedge" "bound" "I", Cond.fieldLink RX2 59 "LearnedLedge" "splitCount" "I", Cond.methodLink RX2 202 yX1_take, Cond.instanceMethod yX1_take, Cond.selects RX1 yX1_take yX1_take, Cond.initialized RX1, Cond.code yX1_take cX1_take 11 (some .boolean), Cond.fieldLink RX1 24 "LearnedLedge$SlopeRange" "originKey" "I", Cond.fieldLink RX1 28 "LearnedLedge$SlopeRange" "originPlace" "I", Cond.fieldLink RX1 31 "LearnedLedge$SlopeRange" "error" "I", Cond.constantLong RX1 34 (2), Cond.fieldLink RX1 15 "LearnedLedge$SlopeRange" "leastRun" "J", Cond.fieldLink RX1 9 "LearnedLedge$SlopeRange" "leastRise" "J"]
def wsX2_addLate_r4 : List Cond := [Cond.fieldLink RX1 21 "LearnedLedge$SlopeRange" "mostRun" "J", Cond.fieldLink RX1 18 "LearnedLedge$SlopeRange" "mostRise" "J", Cond.methodLink RX2 221 yX1_begin, Cond.instanceMethod yX1_begin, Cond.selects RX1 yX1_begin yX1_begin, Cond.code yX1_begin cX1_begin 4 none, Cond.methodLink RX2 249 yX2_mergePiece, Cond.instanceMethod yX2_mergePiece, Cond.selects RX2 yX2_mergePiece yX2_mergePiece, Cond.code yX2_mergePiece cX2_mergePiece 6 none, Cond.methodLink RX2 177 yX2_firstOf, Cond.instanceMethod yX2_firstOf, Cond.selects RX2 yX2_firstOf yX2_firstOf, Cond.code yX2_firstOf cX2_firstOf 2 (some .int), Cond.methodLink RX2 192 yX0_has, Cond.methodLink RX2 161 yX2_endOf, Cond.instanceMethod yX2_endOf, Cond.selects RX2 yX2_endOf yX2_endOf, Cond.code yX2_endOf cX2_endOf 2 (some .int), Cond.methodLink RX2 131 yX2_clearRow, Cond.instanceMethod yX2_clearRow, Cond.selects RX2 yX2_clearRow yX2_clearRow, Cond.code yX2_clearRow cX2_clearRow 1 none, Cond.fieldLink RX2 53 "LearnedLedge" "markCount" "I"]
def wsX2_addLate_r5 : List Cond := [Cond.methodLink RX2 218 yX2_clearPieces, Cond.instanceMethod yX2_clearPieces, Cond.selects RX2 yX2_clearPieces yX2_clearPieces, Cond.code yX2_clearPieces cX2_clearPieces 1 none, Cond.fieldLink RX2 27 "LearnedLedge" "rises" "LLearnedLedge$Numbers;", Cond.fieldLink RX2 30 "LearnedLedge" "runs" "LLearnedLedge$Numbers;", Cond.methodLink RX2 252 yX2_joinFresh, Cond.instanceMethod yX2_joinFresh, Cond.selects RX2 yX2_joinFresh yX2_joinFresh, Cond.code yX2_joinFresh cX2_joinFresh 4 none, Cond.fieldLink RX2 62 "LearnedLedge" "joinCount" "I", Cond.methodLink RX2 255 yX2_tailTakes, Cond.instanceMethod yX2_tailTakes, Cond.selects RX2 yX2_tailTakes yX2_tailTakes, Cond.code yX2_tailTakes cX2_tailTakes 4 (some .boolean), Cond.methodLink RX2 209 yX2_beginPiece, Cond.instanceMethod yX2_beginPiece, Cond.selects RX2 yX2_beginPiece yX2_beginPiece, Cond.code yX2_beginPiece cX2_beginPiece 3 none, Cond.methodLink RX2 225 yX1_leastRise, Cond.instanceMethod yX1_leastRise, Cond.selects RX1 yX1_leastRise yX1_leastRise, Cond.code yX1_leastRise cX1_leastRise 1 (some .int), Cond.methodLink RX1 36 yX1_divisor]
def wsX2_addLate_r6 : List Cond := [Cond.instanceMethod yX1_divisor, Cond.selects RX1 yX1_divisor yX1_divisor, Cond.code yX1_divisor cX1_divisor 8 (some .long), Cond.methodLink RX2 228 yX1_leastRun, Cond.instanceMethod yX1_leastRun, Cond.selects RX1 yX1_leastRun yX1_leastRun, Cond.code yX1_leastRun cX1_leastRun 1 (some .int), Cond.methodLink RX2 206 yX2_noteTailSlope, Cond.instanceMethod yX2_noteTailSlope, Cond.selects RX2 yX2_noteTailSlope yX2_noteTailSlope, Cond.code yX2_noteTailSlope cX2_noteTailSlope 2 none, Cond.methodLink RX2 106 yX0_put]
def wsX2_addLate : List Cond := .code yX2_addLate cX2_addLate 2 none :: ((wsX2_addLate_r1 ++ (wsX2_addLate_r2 ++ (wsX2_addLate_r3 ++ (wsX2_addLate_r4 ++ (wsX2_addLate_r5 ++ wsX2_addLate_r6))))) ++ wsX20 ++ wsX00 ++ wsX10)
def wsX2_insert_r1 : List Cond := [Cond.classLink RX2 98 "java/lang/IllegalStateException", Cond.initialized "java/lang/IllegalStateException", Cond.fieldLink RX2 14 "LearnedLedge" "keys" "LLearnedLedge$Numbers;", Cond.fieldLink RX2 18 "LearnedLedge" "marks" "LLearnedLedge$Numbers;", Cond.fieldLink RX2 53 "LearnedLedge" "markCount" "I", Cond.fieldLink RX2 21 "LearnedLedge" "buffer" "LLearnedLedge$Numbers;", Cond.methodLink RX2 65 yX2_needKey, Cond.static yX2_needKey, Cond.initialized RX2, Cond.code yX2_needKey cX2_needKey 2 none, Cond.classLink RX2 80 "java/lang/IllegalArgumentException", Cond.initialized "java/lang/IllegalArgumentException", Cond.constantLong RX2 186 (-1000000), Cond.constantLong RX2 188 (1000000), Cond.methodLink RX2 87 yX0_indexOf, Cond.instanceMethod yX0_indexOf, Cond.selects RX0 yX0_indexOf yX0_indexOf, Cond.initialized RX0, Cond.code yX0_indexOf cX0_indexOf 3 (some .int), Cond.fieldLink RX0 15 "LearnedLedge$Numbers" "items" "[I", Cond.methodLink RX0 41 yX0_below, Cond.instanceMethod yX0_below, Cond.selects RX0 yX0_below yX0_below, Cond.code yX0_below cX0_below 6 (some .int)]
def wsX2_insert_r2 : List Cond := [Cond.fieldLink RX0 21 "LearnedLedge$Numbers" "length" "I", Cond.methodLink RX0 33 yX0_at, Cond.instanceMethod yX0_at, Cond.selects RX0 yX0_at yX0_at, Cond.code yX0_at cX0_at 2 (some .int), Cond.methodLink RX0 25 yX0_has, Cond.instanceMethod yX0_has, Cond.selects RX0 yX0_has yX0_has, Cond.code yX0_has cX0_has 2 (some .boolean), Cond.methodLink RX2 91 yX2_isThere, Cond.instanceMethod yX2_isThere, Cond.selects RX2 yX2_isThere yX2_isThere, Cond.code yX2_isThere cX2_isThere 3 (some .boolean), Cond.methodLink RX2 134 yX0_at, Cond.methodLink RX2 95 yX2_allKeys, Cond.instanceMethod yX2_allKeys, Cond.selects RX2 yX2_allKeys yX2_allKeys, Cond.code yX2_allKeys cX2_allKeys 1 (some .int), Cond.methodLink RX2 76 yX0_length, Cond.instanceMethod yX0_length, Cond.selects RX0 yX0_length yX0_length, Cond.code yX0_length cX0_length 1 (some .int), Cond.methodLink RX2 103 yX2_addLate, Cond.instanceMethod yX2_addLate]
def wsX2_insert_r3 : List Cond := [Cond.selects RX2 yX2_addLate yX2_addLate, Cond.code yX2_addLate cX2_addLate 2 none, Cond.fieldLink RX2 50 "LearnedLedge" "room" "I", Cond.methodLink RX2 114 yX0_below, Cond.methodLink RX2 212 yX0_squeezeIn, Cond.instanceMethod yX0_squeezeIn, Cond.selects RX0 yX0_squeezeIn yX0_squeezeIn, Cond.code yX0_squeezeIn cX0_squeezeIn 4 none, Cond.methodLink RX0 29 yX0_push, Cond.instanceMethod yX0_push, Cond.selects RX0 yX0_push yX0_push, Cond.code yX0_push cX0_push 2 none, Cond.methodLink RX0 37 yX0_put, Cond.instanceMethod yX0_put, Cond.selects RX0 yX0_put yX0_put, Cond.code yX0_put cX0_put 3 none, Cond.methodLink RX2 123 yX2_mergeAll, Cond.instanceMethod yX2_mergeAll, Cond.selects RX2 yX2_mergeAll yX2_mergeAll, Cond.code yX2_mergeAll cX2_mergeAll 2 none, Cond.fieldLink RX2 40 "LearnedLedge" "freshKeys" "LLearnedLedge$Numbers;", Cond.fieldLink RX2 43 "LearnedLedge" "freshStarts" "LLearnedLedge$Numbers;", Cond.fieldLink RX2 24 "LearnedLedge" "starts" "LLearnedLedge$Numbers;", Cond.fieldLink RX2 56 "LearnedLedge" "mergeCount" "I"]
def wsX2_insert_r4 : List Cond := [Cond.methodLink RX2 215 yX0_clear, Cond.instanceMethod yX0_clear, Cond.selects RX0 yX0_clear yX0_clear, Cond.code yX0_clear cX0_clear 1 none, Cond.methodLink RX2 242 yX2_gather, Cond.instanceMethod yX2_gather, Cond.selects RX2 yX2_gather yX2_gather, Cond.code yX2_gather cX2_gather 9 (some .boolean), Cond.methodLink RX2 199 yX0_push, Cond.methodLink RX2 246 yX2_cutFresh, Cond.instanceMethod yX2_cutFresh, Cond.selects RX2 yX2_cutFresh yX2_cutFresh, Cond.code yX2_cutFresh cX2_cutFresh 4 none, Cond.fieldLink RX2 36 "LearnedLedge" "tail" "LLearnedLedge$SlopeRange;", Cond.fieldLink RX2 46 "LearnedLedge" "bound" "I", Cond.fieldLink RX2 59 "LearnedLedge" "splitCount" "I", Cond.methodLink RX2 202 yX1_take, Cond.instanceMethod yX1_take, Cond.selects RX1 yX1_take yX1_take, Cond.initialized RX1, Cond.code yX1_take cX1_take 11 (some .boolean), Cond.fieldLink RX1 24 "LearnedLedge$SlopeRange" "originKey" "I", Cond.fieldLink RX1 28 "LearnedLedge$SlopeRange" "originPlace" "I", Cond.fieldLink RX1 31 "LearnedLedge$SlopeRange" "error" "I"]
def wsX2_insert_r5 : List Cond := [Cond.constantLong RX1 34 (2), Cond.fieldLink RX1 15 "LearnedLedge$SlopeRange" "leastRun" "J", Cond.fieldLink RX1 9 "LearnedLedge$SlopeRange" "leastRise" "J", Cond.fieldLink RX1 21 "LearnedLedge$SlopeRange" "mostRun" "J", Cond.fieldLink RX1 18 "LearnedLedge$SlopeRange" "mostRise" "J", Cond.methodLink RX2 221 yX1_begin, Cond.instanceMethod yX1_begin, Cond.selects RX1 yX1_begin yX1_begin, Cond.code yX1_begin cX1_begin 4 none, Cond.methodLink RX2 249 yX2_mergePiece, Cond.instanceMethod yX2_mergePiece, Cond.selects RX2 yX2_mergePiece yX2_mergePiece, Cond.code yX2_mergePiece cX2_mergePiece 6 none, Cond.methodLink RX2 177 yX2_firstOf, Cond.instanceMethod yX2_firstOf, Cond.selects RX2 yX2_firstOf yX2_firstOf, Cond.code yX2_firstOf cX2_firstOf 2 (some .int), Cond.methodLink RX2 192 yX0_has, Cond.methodLink RX2 161 yX2_endOf, Cond.instanceMethod yX2_endOf, Cond.selects RX2 yX2_endOf yX2_endOf, Cond.code yX2_endOf cX2_endOf 2 (some .int), Cond.methodLink RX2 131 yX2_clearRow, Cond.instanceMethod yX2_clearRow]
def wsX2_insert_r6 : List Cond := [Cond.selects RX2 yX2_clearRow yX2_clearRow, Cond.code yX2_clearRow cX2_clearRow 1 none, Cond.methodLink RX2 218 yX2_clearPieces, Cond.instanceMethod yX2_clearPieces, Cond.selects RX2 yX2_clearPieces yX2_clearPieces, Cond.code yX2_clearPieces cX2_clearPieces 1 none, Cond.fieldLink RX2 27 "LearnedLedge" "rises" "LLearnedLedge$Numbers;", Cond.fieldLink RX2 30 "LearnedLedge" "runs" "LLearnedLedge$Numbers;", Cond.methodLink RX2 252 yX2_joinFresh, Cond.instanceMethod yX2_joinFresh, Cond.selects RX2 yX2_joinFresh yX2_joinFresh, Cond.code yX2_joinFresh cX2_joinFresh 4 none, Cond.fieldLink RX2 62 "LearnedLedge" "joinCount" "I", Cond.methodLink RX2 255 yX2_tailTakes, Cond.instanceMethod yX2_tailTakes, Cond.selects RX2 yX2_tailTakes yX2_tailTakes, Cond.code yX2_tailTakes cX2_tailTakes 4 (some .boolean), Cond.methodLink RX2 209 yX2_beginPiece, Cond.instanceMethod yX2_beginPiece, Cond.selects RX2 yX2_beginPiece yX2_beginPiece, Cond.code yX2_beginPiece cX2_beginPiece 3 none, Cond.methodLink RX2 225 yX1_leastRise, Cond.instanceMethod yX1_leastRise, Cond.selects RX1 yX1_leastRise yX1_leastRise]
def wsX2_insert_r7 : List Cond := [Cond.code yX1_leastRise cX1_leastRise 1 (some .int), Cond.methodLink RX1 36 yX1_divisor, Cond.instanceMethod yX1_divisor, Cond.selects RX1 yX1_divisor yX1_divisor, Cond.code yX1_divisor cX1_divisor 8 (some .long), Cond.methodLink RX2 228 yX1_leastRun, Cond.instanceMethod yX1_leastRun, Cond.selects RX1 yX1_leastRun yX1_leastRun, Cond.code yX1_leastRun cX1_leastRun 1 (some .int), Cond.methodLink RX2 206 yX2_noteTailSlope, Cond.instanceMethod yX2_noteTailSlope, Cond.selects RX2 yX2_noteTailSlope yX2_noteTailSlope, Cond.code yX2_noteTailSlope cX2_noteTailSlope 2 none, Cond.methodLink RX2 106 yX0_put]
def wsX2_insert : List Cond := .code yX2_insert cX2_insert 3 (some .int) :: ((wsX2_insert_r1 ++ (wsX2_insert_r2 ++ (wsX2_insert_r3 ++ (wsX2_insert_r4 ++ (wsX2_insert_r5 ++ (wsX2_insert_r6 ++ wsX2_insert_r7)))))) ++ wsX20 ++ wsX00 ++ wsX10 ++ (vx_atS RX2 102 "java/lang/IllegalStateException" ["java/lang/RuntimeException", "java/lang/Exception"]).filter goodWord ++ (vx_atS RX2 84 "java/lang/IllegalArgumentException" ["java/lang/RuntimeException", "java/lang/Exception"]).filter goodWord)
def wsX2_keysThere : List Cond := .code yX2_keysThere cX2_keysThere 1 (some .int) :: ([.fieldLink RX2 53 "LearnedLedge" "markCount" "I", .methodLink RX2 95 yX2_allKeys, .instanceMethod yX2_allKeys, .selects RX2 yX2_allKeys yX2_allKeys, .initialized RX2, .code yX2_allKeys cX2_allKeys 1 (some .int), .fieldLink RX2 14 "LearnedLedge" "keys" "LLearnedLedge$Numbers;", .fieldLink RX2 21 "LearnedLedge" "buffer" "LLearnedLedge$Numbers;", .methodLink RX2 76 yX0_length, .instanceMethod yX0_length, .selects RX0 yX0_length yX0_length, .initialized RX0, .code yX0_length cX0_length 1 (some .int), .fieldLink RX0 21 "LearnedLedge$Numbers" "length" "I"] ++ wsX20 ++ wsX00)
def wsX2_remove_r1 : List Cond := [Cond.classLink RX2 109 "java/util/NoSuchElementException", Cond.initialized "java/util/NoSuchElementException", Cond.fieldLink RX2 14 "LearnedLedge" "keys" "LLearnedLedge$Numbers;", Cond.fieldLink RX2 21 "LearnedLedge" "buffer" "LLearnedLedge$Numbers;", Cond.fieldLink RX2 18 "LearnedLedge" "marks" "LLearnedLedge$Numbers;", Cond.fieldLink RX2 53 "LearnedLedge" "markCount" "I", Cond.methodLink RX2 91 yX2_isThere, Cond.instanceMethod yX2_isThere, Cond.selects RX2 yX2_isThere yX2_isThere, Cond.initialized RX2, Cond.code yX2_isThere cX2_isThere 3 (some .boolean), Cond.methodLink RX2 87 yX0_indexOf, Cond.instanceMethod yX0_indexOf, Cond.selects RX0 yX0_indexOf yX0_indexOf, Cond.initialized RX0, Cond.code yX0_indexOf cX0_indexOf 3 (some .int), Cond.fieldLink RX0 15 "LearnedLedge$Numbers" "items" "[I", Cond.methodLink RX0 41 yX0_below, Cond.instanceMethod yX0_below, Cond.selects RX0 yX0_below yX0_below, Cond.code yX0_below cX0_below 6 (some .int), Cond.fieldLink RX0 21 "LearnedLedge$Numbers" "length" "I", Cond.methodLink RX0 33 yX0_at, Cond.instanceMethod yX0_at]
def wsX2_remove_r2 : List Cond := [Cond.selects RX0 yX0_at yX0_at, Cond.code yX0_at cX0_at 2 (some .int), Cond.methodLink RX0 25 yX0_has, Cond.instanceMethod yX0_has, Cond.selects RX0 yX0_has yX0_has, Cond.code yX0_has cX0_has 2 (some .boolean), Cond.methodLink RX2 134 yX0_at, Cond.methodLink RX2 114 yX0_below, Cond.methodLink RX2 117 yX0_takeOut, Cond.instanceMethod yX0_takeOut, Cond.selects RX0 yX0_takeOut yX0_takeOut, Cond.code yX0_takeOut cX0_takeOut 3 none, Cond.methodLink RX0 37 yX0_put, Cond.instanceMethod yX0_put, Cond.selects RX0 yX0_put yX0_put, Cond.code yX0_put cX0_put 3 none, Cond.methodLink RX2 106 yX0_put, Cond.methodLink RX2 120 yX2_keysThere, Cond.instanceMethod yX2_keysThere, Cond.selects RX2 yX2_keysThere yX2_keysThere, Cond.code yX2_keysThere cX2_keysThere 1 (some .int), Cond.methodLink RX2 95 yX2_allKeys, Cond.instanceMethod yX2_allKeys, Cond.selects RX2 yX2_allKeys yX2_allKeys]
def wsX2_remove_r3 : List Cond := [Cond.code yX2_allKeys cX2_allKeys 1 (some .int), Cond.methodLink RX2 76 yX0_length, Cond.instanceMethod yX0_length, Cond.selects RX0 yX0_length yX0_length, Cond.code yX0_length cX0_length 1 (some .int)]
def wsX2_remove : List Cond := .code yX2_remove cX2_remove 3 (some .int) :: ((wsX2_remove_r1 ++ (wsX2_remove_r2 ++ wsX2_remove_r3)) ++ wsX20 ++ wsX00 ++ (ns_atS RX2 113).filter goodWord)
def wsX2_merge_r1 : List Cond := [Cond.fieldLink RX2 24 "LearnedLedge" "starts" "LLearnedLedge$Numbers;", Cond.methodLink RX2 123 yX2_mergeAll, Cond.instanceMethod yX2_mergeAll, Cond.selects RX2 yX2_mergeAll yX2_mergeAll, Cond.initialized RX2, Cond.code yX2_mergeAll cX2_mergeAll 2 none, Cond.fieldLink RX2 40 "LearnedLedge" "freshKeys" "LLearnedLedge$Numbers;", Cond.fieldLink RX2 43 "LearnedLedge" "freshStarts" "LLearnedLedge$Numbers;", Cond.fieldLink RX2 21 "LearnedLedge" "buffer" "LLearnedLedge$Numbers;", Cond.fieldLink RX2 14 "LearnedLedge" "keys" "LLearnedLedge$Numbers;", Cond.fieldLink RX2 18 "LearnedLedge" "marks" "LLearnedLedge$Numbers;", Cond.fieldLink RX2 56 "LearnedLedge" "mergeCount" "I", Cond.methodLink RX2 215 yX0_clear, Cond.instanceMethod yX0_clear, Cond.selects RX0 yX0_clear yX0_clear, Cond.initialized RX0, Cond.code yX0_clear cX0_clear 1 none, Cond.fieldLink RX0 21 "LearnedLedge$Numbers" "length" "I", Cond.methodLink RX2 76 yX0_length, Cond.instanceMethod yX0_length, Cond.selects RX0 yX0_length yX0_length, Cond.code yX0_length cX0_length 1 (some .int), Cond.methodLink RX2 242 yX2_gather, Cond.instanceMethod yX2_gather]
def wsX2_merge_r2 : List Cond := [Cond.selects RX2 yX2_gather yX2_gather, Cond.code yX2_gather cX2_gather 9 (some .boolean), Cond.methodLink RX2 134 yX0_at, Cond.instanceMethod yX0_at, Cond.selects RX0 yX0_at yX0_at, Cond.code yX0_at cX0_at 2 (some .int), Cond.fieldLink RX0 15 "LearnedLedge$Numbers" "items" "[I", Cond.methodLink RX0 25 yX0_has, Cond.instanceMethod yX0_has, Cond.selects RX0 yX0_has yX0_has, Cond.code yX0_has cX0_has 2 (some .boolean), Cond.methodLink RX2 199 yX0_push, Cond.instanceMethod yX0_push, Cond.selects RX0 yX0_push yX0_push, Cond.code yX0_push cX0_push 2 none, Cond.methodLink RX2 246 yX2_cutFresh, Cond.instanceMethod yX2_cutFresh, Cond.selects RX2 yX2_cutFresh yX2_cutFresh, Cond.code yX2_cutFresh cX2_cutFresh 4 none, Cond.fieldLink RX2 36 "LearnedLedge" "tail" "LLearnedLedge$SlopeRange;", Cond.fieldLink RX2 46 "LearnedLedge" "bound" "I", Cond.fieldLink RX2 59 "LearnedLedge" "splitCount" "I", Cond.methodLink RX2 202 yX1_take, Cond.instanceMethod yX1_take]
def wsX2_merge_r3 : List Cond := [Cond.selects RX1 yX1_take yX1_take, Cond.initialized RX1, Cond.code yX1_take cX1_take 11 (some .boolean), Cond.fieldLink RX1 24 "LearnedLedge$SlopeRange" "originKey" "I", Cond.fieldLink RX1 28 "LearnedLedge$SlopeRange" "originPlace" "I", Cond.fieldLink RX1 31 "LearnedLedge$SlopeRange" "error" "I", Cond.constantLong RX1 34 (2), Cond.fieldLink RX1 15 "LearnedLedge$SlopeRange" "leastRun" "J", Cond.fieldLink RX1 9 "LearnedLedge$SlopeRange" "leastRise" "J", Cond.fieldLink RX1 21 "LearnedLedge$SlopeRange" "mostRun" "J", Cond.fieldLink RX1 18 "LearnedLedge$SlopeRange" "mostRise" "J", Cond.methodLink RX2 221 yX1_begin, Cond.instanceMethod yX1_begin, Cond.selects RX1 yX1_begin yX1_begin, Cond.code yX1_begin cX1_begin 4 none, Cond.methodLink RX2 249 yX2_mergePiece, Cond.instanceMethod yX2_mergePiece, Cond.selects RX2 yX2_mergePiece yX2_mergePiece, Cond.code yX2_mergePiece cX2_mergePiece 6 none, Cond.methodLink RX2 177 yX2_firstOf, Cond.instanceMethod yX2_firstOf, Cond.selects RX2 yX2_firstOf yX2_firstOf, Cond.code yX2_firstOf cX2_firstOf 2 (some .int), Cond.methodLink RX2 114 yX0_below]
def wsX2_merge_r4 : List Cond := [Cond.instanceMethod yX0_below, Cond.selects RX0 yX0_below yX0_below, Cond.code yX0_below cX0_below 6 (some .int), Cond.methodLink RX0 33 yX0_at, Cond.methodLink RX2 192 yX0_has, Cond.methodLink RX2 161 yX2_endOf, Cond.instanceMethod yX2_endOf, Cond.selects RX2 yX2_endOf yX2_endOf, Cond.code yX2_endOf cX2_endOf 2 (some .int), Cond.methodLink RX2 131 yX2_clearRow, Cond.instanceMethod yX2_clearRow, Cond.selects RX2 yX2_clearRow yX2_clearRow, Cond.code yX2_clearRow cX2_clearRow 1 none, Cond.fieldLink RX2 53 "LearnedLedge" "markCount" "I", Cond.methodLink RX2 218 yX2_clearPieces, Cond.instanceMethod yX2_clearPieces, Cond.selects RX2 yX2_clearPieces yX2_clearPieces, Cond.code yX2_clearPieces cX2_clearPieces 1 none, Cond.fieldLink RX2 27 "LearnedLedge" "rises" "LLearnedLedge$Numbers;", Cond.fieldLink RX2 30 "LearnedLedge" "runs" "LLearnedLedge$Numbers;", Cond.methodLink RX2 252 yX2_joinFresh, Cond.instanceMethod yX2_joinFresh, Cond.selects RX2 yX2_joinFresh yX2_joinFresh, Cond.code yX2_joinFresh cX2_joinFresh 4 none]
def wsX2_merge_r5 : List Cond := [Cond.fieldLink RX2 62 "LearnedLedge" "joinCount" "I", Cond.methodLink RX2 255 yX2_tailTakes, Cond.instanceMethod yX2_tailTakes, Cond.selects RX2 yX2_tailTakes yX2_tailTakes, Cond.code yX2_tailTakes cX2_tailTakes 4 (some .boolean), Cond.methodLink RX2 209 yX2_beginPiece, Cond.instanceMethod yX2_beginPiece, Cond.selects RX2 yX2_beginPiece yX2_beginPiece, Cond.code yX2_beginPiece cX2_beginPiece 3 none, Cond.methodLink RX2 225 yX1_leastRise, Cond.instanceMethod yX1_leastRise, Cond.selects RX1 yX1_leastRise yX1_leastRise, Cond.code yX1_leastRise cX1_leastRise 1 (some .int), Cond.methodLink RX1 36 yX1_divisor, Cond.instanceMethod yX1_divisor, Cond.selects RX1 yX1_divisor yX1_divisor, Cond.code yX1_divisor cX1_divisor 8 (some .long), Cond.methodLink RX2 228 yX1_leastRun, Cond.instanceMethod yX1_leastRun, Cond.selects RX1 yX1_leastRun yX1_leastRun, Cond.code yX1_leastRun cX1_leastRun 1 (some .int), Cond.methodLink RX2 206 yX2_noteTailSlope, Cond.instanceMethod yX2_noteTailSlope, Cond.selects RX2 yX2_noteTailSlope yX2_noteTailSlope]
def wsX2_merge_r6 : List Cond := [Cond.code yX2_noteTailSlope cX2_noteTailSlope 2 none, Cond.methodLink RX2 106 yX0_put, Cond.instanceMethod yX0_put, Cond.selects RX0 yX0_put yX0_put, Cond.code yX0_put cX0_put 3 none]
def wsX2_merge : List Cond := .code yX2_merge cX2_merge 1 (some .int) :: ((wsX2_merge_r1 ++ (wsX2_merge_r2 ++ (wsX2_merge_r3 ++ (wsX2_merge_r4 ++ (wsX2_merge_r5 ++ wsX2_merge_r6))))) ++ wsX20 ++ wsX00 ++ wsX10)
def wsX2_gatherAll_r1 : List Cond := [Cond.fieldLink RX2 40 "LearnedLedge" "freshKeys" "LLearnedLedge$Numbers;", Cond.fieldLink RX2 14 "LearnedLedge" "keys" "LLearnedLedge$Numbers;", Cond.fieldLink RX2 21 "LearnedLedge" "buffer" "LLearnedLedge$Numbers;", Cond.methodLink RX2 215 yX0_clear, Cond.instanceMethod yX0_clear, Cond.selects RX0 yX0_clear yX0_clear, Cond.initialized RX0, Cond.code yX0_clear cX0_clear 1 none, Cond.fieldLink RX0 21 "LearnedLedge$Numbers" "length" "I", Cond.methodLink RX2 76 yX0_length, Cond.instanceMethod yX0_length, Cond.selects RX0 yX0_length yX0_length, Cond.code yX0_length cX0_length 1 (some .int), Cond.methodLink RX2 242 yX2_gather, Cond.instanceMethod yX2_gather, Cond.selects RX2 yX2_gather yX2_gather, Cond.initialized RX2, Cond.code yX2_gather cX2_gather 9 (some .boolean), Cond.fieldLink RX2 18 "LearnedLedge" "marks" "LLearnedLedge$Numbers;", Cond.methodLink RX2 134 yX0_at, Cond.instanceMethod yX0_at, Cond.selects RX0 yX0_at yX0_at, Cond.code yX0_at cX0_at 2 (some .int), Cond.fieldLink RX0 15 "LearnedLedge$Numbers" "items" "[I"]
def wsX2_gatherAll_r2 : List Cond := [Cond.methodLink RX0 25 yX0_has, Cond.instanceMethod yX0_has, Cond.selects RX0 yX0_has yX0_has, Cond.code yX0_has cX0_has 2 (some .boolean), Cond.methodLink RX2 199 yX0_push, Cond.instanceMethod yX0_push, Cond.selects RX0 yX0_push yX0_push, Cond.code yX0_push cX0_push 2 none]
def wsX2_gatherAll : List Cond := .code yX2_gatherAll cX2_gatherAll 1 none :: ((wsX2_gatherAll_r1 ++ wsX2_gatherAll_r2) ++ wsX20 ++ wsX00)
def wsX2_rebuild_r1 : List Cond := [Cond.classLink RX2 80 "java/lang/IllegalArgumentException", Cond.initialized "java/lang/IllegalArgumentException", Cond.fieldLink RX2 46 "LearnedLedge" "bound" "I", Cond.fieldLink RX2 50 "LearnedLedge" "room" "I", Cond.fieldLink RX2 40 "LearnedLedge" "freshKeys" "LLearnedLedge$Numbers;", Cond.fieldLink RX2 24 "LearnedLedge" "starts" "LLearnedLedge$Numbers;", Cond.methodLink RX2 128 yX2_gatherAll, Cond.instanceMethod yX2_gatherAll, Cond.selects RX2 yX2_gatherAll yX2_gatherAll, Cond.initialized RX2, Cond.code yX2_gatherAll cX2_gatherAll 1 none, Cond.fieldLink RX2 14 "LearnedLedge" "keys" "LLearnedLedge$Numbers;", Cond.fieldLink RX2 21 "LearnedLedge" "buffer" "LLearnedLedge$Numbers;", Cond.methodLink RX2 215 yX0_clear, Cond.instanceMethod yX0_clear, Cond.selects RX0 yX0_clear yX0_clear, Cond.initialized RX0, Cond.code yX0_clear cX0_clear 1 none, Cond.fieldLink RX0 21 "LearnedLedge$Numbers" "length" "I", Cond.methodLink RX2 76 yX0_length, Cond.instanceMethod yX0_length, Cond.selects RX0 yX0_length yX0_length, Cond.code yX0_length cX0_length 1 (some .int), Cond.methodLink RX2 242 yX2_gather]
def wsX2_rebuild_r2 : List Cond := [Cond.instanceMethod yX2_gather, Cond.selects RX2 yX2_gather yX2_gather, Cond.code yX2_gather cX2_gather 9 (some .boolean), Cond.fieldLink RX2 18 "LearnedLedge" "marks" "LLearnedLedge$Numbers;", Cond.methodLink RX2 134 yX0_at, Cond.instanceMethod yX0_at, Cond.selects RX0 yX0_at yX0_at, Cond.code yX0_at cX0_at 2 (some .int), Cond.fieldLink RX0 15 "LearnedLedge$Numbers" "items" "[I", Cond.methodLink RX0 25 yX0_has, Cond.instanceMethod yX0_has, Cond.selects RX0 yX0_has yX0_has, Cond.code yX0_has cX0_has 2 (some .boolean), Cond.methodLink RX2 199 yX0_push, Cond.instanceMethod yX0_push, Cond.selects RX0 yX0_push yX0_push, Cond.code yX0_push cX0_push 2 none, Cond.methodLink RX2 131 yX2_clearRow, Cond.instanceMethod yX2_clearRow, Cond.selects RX2 yX2_clearRow yX2_clearRow, Cond.code yX2_clearRow cX2_clearRow 1 none, Cond.fieldLink RX2 53 "LearnedLedge" "markCount" "I", Cond.methodLink RX2 218 yX2_clearPieces, Cond.instanceMethod yX2_clearPieces]
def wsX2_rebuild_r3 : List Cond := [Cond.selects RX2 yX2_clearPieces yX2_clearPieces, Cond.code yX2_clearPieces cX2_clearPieces 1 none, Cond.fieldLink RX2 27 "LearnedLedge" "rises" "LLearnedLedge$Numbers;", Cond.fieldLink RX2 30 "LearnedLedge" "runs" "LLearnedLedge$Numbers;", Cond.methodLink RX2 73 yX2_addLast, Cond.instanceMethod yX2_addLast, Cond.selects RX2 yX2_addLast yX2_addLast, Cond.code yX2_addLast cX2_addLast 3 none, Cond.fieldLink RX2 36 "LearnedLedge" "tail" "LLearnedLedge$SlopeRange;", Cond.methodLink RX2 202 yX1_take, Cond.instanceMethod yX1_take, Cond.selects RX1 yX1_take yX1_take, Cond.initialized RX1, Cond.code yX1_take cX1_take 11 (some .boolean), Cond.fieldLink RX1 24 "LearnedLedge$SlopeRange" "originKey" "I", Cond.fieldLink RX1 28 "LearnedLedge$SlopeRange" "originPlace" "I", Cond.fieldLink RX1 31 "LearnedLedge$SlopeRange" "error" "I", Cond.constantLong RX1 34 (2), Cond.fieldLink RX1 15 "LearnedLedge$SlopeRange" "leastRun" "J", Cond.fieldLink RX1 9 "LearnedLedge$SlopeRange" "leastRise" "J", Cond.fieldLink RX1 21 "LearnedLedge$SlopeRange" "mostRun" "J", Cond.fieldLink RX1 18 "LearnedLedge$SlopeRange" "mostRise" "J", Cond.methodLink RX2 206 yX2_noteTailSlope, Cond.instanceMethod yX2_noteTailSlope]
def wsX2_rebuild_r4 : List Cond := [Cond.selects RX2 yX2_noteTailSlope yX2_noteTailSlope, Cond.code yX2_noteTailSlope cX2_noteTailSlope 2 none, Cond.methodLink RX2 225 yX1_leastRise, Cond.instanceMethod yX1_leastRise, Cond.selects RX1 yX1_leastRise yX1_leastRise, Cond.code yX1_leastRise cX1_leastRise 1 (some .int), Cond.methodLink RX1 36 yX1_divisor, Cond.instanceMethod yX1_divisor, Cond.selects RX1 yX1_divisor yX1_divisor, Cond.code yX1_divisor cX1_divisor 8 (some .long), Cond.methodLink RX2 106 yX0_put, Cond.instanceMethod yX0_put, Cond.selects RX0 yX0_put yX0_put, Cond.code yX0_put cX0_put 3 none, Cond.methodLink RX2 228 yX1_leastRun, Cond.instanceMethod yX1_leastRun, Cond.selects RX1 yX1_leastRun yX1_leastRun, Cond.code yX1_leastRun cX1_leastRun 1 (some .int), Cond.methodLink RX2 209 yX2_beginPiece, Cond.instanceMethod yX2_beginPiece, Cond.selects RX2 yX2_beginPiece yX2_beginPiece, Cond.code yX2_beginPiece cX2_beginPiece 3 none, Cond.methodLink RX2 221 yX1_begin, Cond.instanceMethod yX1_begin]
def wsX2_rebuild_r5 : List Cond := [Cond.selects RX1 yX1_begin yX1_begin, Cond.code yX1_begin cX1_begin 4 none]
def wsX2_rebuild : List Cond := .code yX2_rebuild cX2_rebuild 4 (some .int) :: ((wsX2_rebuild_r1 ++ (wsX2_rebuild_r2 ++ (wsX2_rebuild_r3 ++ (wsX2_rebuild_r4 ++ wsX2_rebuild_r5)))) ++ wsX20 ++ wsX00 ++ wsX10 ++ (vx_atS RX2 84 "java/lang/IllegalArgumentException" ["java/lang/RuntimeException", "java/lang/Exception"]).filter goodWord)
def wsX2_size : List Cond := .code yX2_size cX2_size 1 (some .int) :: ([.methodLink RX2 120 yX2_keysThere, .instanceMethod yX2_keysThere, .selects RX2 yX2_keysThere yX2_keysThere, .initialized RX2, .code yX2_keysThere cX2_keysThere 1 (some .int), .fieldLink RX2 53 "LearnedLedge" "markCount" "I", .methodLink RX2 95 yX2_allKeys, .instanceMethod yX2_allKeys, .selects RX2 yX2_allKeys yX2_allKeys, .code yX2_allKeys cX2_allKeys 1 (some .int), .fieldLink RX2 14 "LearnedLedge" "keys" "LLearnedLedge$Numbers;", .fieldLink RX2 21 "LearnedLedge" "buffer" "LLearnedLedge$Numbers;", .methodLink RX2 76 yX0_length, .instanceMethod yX0_length, .selects RX0 yX0_length yX0_length, .initialized RX0, .code yX0_length cX0_length 1 (some .int), .fieldLink RX0 21 "LearnedLedge$Numbers" "length" "I"] ++ wsX20 ++ wsX00)
def wsX2_contains_r1 : List Cond := [Cond.methodLink RX2 91 yX2_isThere, Cond.instanceMethod yX2_isThere, Cond.selects RX2 yX2_isThere yX2_isThere, Cond.initialized RX2, Cond.code yX2_isThere cX2_isThere 3 (some .boolean), Cond.fieldLink RX2 14 "LearnedLedge" "keys" "LLearnedLedge$Numbers;", Cond.fieldLink RX2 21 "LearnedLedge" "buffer" "LLearnedLedge$Numbers;", Cond.fieldLink RX2 18 "LearnedLedge" "marks" "LLearnedLedge$Numbers;", Cond.methodLink RX2 87 yX0_indexOf, Cond.instanceMethod yX0_indexOf, Cond.selects RX0 yX0_indexOf yX0_indexOf, Cond.initialized RX0, Cond.code yX0_indexOf cX0_indexOf 3 (some .int), Cond.fieldLink RX0 15 "LearnedLedge$Numbers" "items" "[I", Cond.methodLink RX0 41 yX0_below, Cond.instanceMethod yX0_below, Cond.selects RX0 yX0_below yX0_below, Cond.code yX0_below cX0_below 6 (some .int), Cond.fieldLink RX0 21 "LearnedLedge$Numbers" "length" "I", Cond.methodLink RX0 33 yX0_at, Cond.instanceMethod yX0_at, Cond.selects RX0 yX0_at yX0_at, Cond.code yX0_at cX0_at 2 (some .int), Cond.methodLink RX0 25 yX0_has]
def wsX2_contains_r2 : List Cond := [Cond.instanceMethod yX0_has, Cond.selects RX0 yX0_has yX0_has, Cond.code yX0_has cX0_has 2 (some .boolean), Cond.methodLink RX2 134 yX0_at]
def wsX2_contains : List Cond := .code yX2_contains cX2_contains 2 (some .boolean) :: ((wsX2_contains_r1 ++ wsX2_contains_r2) ++ wsX20 ++ wsX00)
def wsX2_thereBelow : List Cond := .code yX2_thereBelow cX2_thereBelow 5 (some .int) :: ([.fieldLink RX2 14 "LearnedLedge" "keys" "LLearnedLedge$Numbers;", .fieldLink RX2 21 "LearnedLedge" "buffer" "LLearnedLedge$Numbers;", .fieldLink RX2 18 "LearnedLedge" "marks" "LLearnedLedge$Numbers;", .methodLink RX2 114 yX0_below, .instanceMethod yX0_below, .selects RX0 yX0_below yX0_below, .initialized RX0, .code yX0_below cX0_below 6 (some .int), .fieldLink RX0 21 "LearnedLedge$Numbers" "length" "I", .methodLink RX0 33 yX0_at, .instanceMethod yX0_at, .selects RX0 yX0_at yX0_at, .code yX0_at cX0_at 2 (some .int), .fieldLink RX0 15 "LearnedLedge$Numbers" "items" "[I", .methodLink RX0 25 yX0_has, .instanceMethod yX0_has, .selects RX0 yX0_has yX0_has, .code yX0_has cX0_has 2 (some .boolean), .methodLink RX2 134 yX0_at] ++ wsX20 ++ wsX00)
def wsX2_rank : List Cond := .code yX2_rank cX2_rank 2 (some .int) :: ([.methodLink RX2 137 yX2_thereBelow, .instanceMethod yX2_thereBelow, .selects RX2 yX2_thereBelow yX2_thereBelow, .initialized RX2, .code yX2_thereBelow cX2_thereBelow 5 (some .int), .fieldLink RX2 14 "LearnedLedge" "keys" "LLearnedLedge$Numbers;", .fieldLink RX2 21 "LearnedLedge" "buffer" "LLearnedLedge$Numbers;", .fieldLink RX2 18 "LearnedLedge" "marks" "LLearnedLedge$Numbers;", .methodLink RX2 114 yX0_below, .instanceMethod yX0_below, .selects RX0 yX0_below yX0_below, .initialized RX0, .code yX0_below cX0_below 6 (some .int), .fieldLink RX0 21 "LearnedLedge$Numbers" "length" "I", .methodLink RX0 33 yX0_at, .instanceMethod yX0_at, .selects RX0 yX0_at yX0_at, .code yX0_at cX0_at 2 (some .int), .fieldLink RX0 15 "LearnedLedge$Numbers" "items" "[I", .methodLink RX0 25 yX0_has, .instanceMethod yX0_has, .selects RX0 yX0_has yX0_has, .code yX0_has cX0_has 2 (some .boolean), .methodLink RX2 134 yX0_at] ++ wsX20 ++ wsX00)
def wsX2_keyThere_r1 : List Cond := [Cond.fieldLink RX2 40 "LearnedLedge" "freshKeys" "LLearnedLedge$Numbers;", Cond.methodLink RX2 128 yX2_gatherAll, Cond.instanceMethod yX2_gatherAll, Cond.selects RX2 yX2_gatherAll yX2_gatherAll, Cond.initialized RX2, Cond.code yX2_gatherAll cX2_gatherAll 1 none, Cond.fieldLink RX2 14 "LearnedLedge" "keys" "LLearnedLedge$Numbers;", Cond.fieldLink RX2 21 "LearnedLedge" "buffer" "LLearnedLedge$Numbers;", Cond.methodLink RX2 215 yX0_clear, Cond.instanceMethod yX0_clear, Cond.selects RX0 yX0_clear yX0_clear, Cond.initialized RX0, Cond.code yX0_clear cX0_clear 1 none, Cond.fieldLink RX0 21 "LearnedLedge$Numbers" "length" "I", Cond.methodLink RX2 76 yX0_length, Cond.instanceMethod yX0_length, Cond.selects RX0 yX0_length yX0_length, Cond.code yX0_length cX0_length 1 (some .int), Cond.methodLink RX2 242 yX2_gather, Cond.instanceMethod yX2_gather, Cond.selects RX2 yX2_gather yX2_gather, Cond.code yX2_gather cX2_gather 9 (some .boolean), Cond.fieldLink RX2 18 "LearnedLedge" "marks" "LLearnedLedge$Numbers;", Cond.methodLink RX2 134 yX0_at]
def wsX2_keyThere_r2 : List Cond := [Cond.instanceMethod yX0_at, Cond.selects RX0 yX0_at yX0_at, Cond.code yX0_at cX0_at 2 (some .int), Cond.fieldLink RX0 15 "LearnedLedge$Numbers" "items" "[I", Cond.methodLink RX0 25 yX0_has, Cond.instanceMethod yX0_has, Cond.selects RX0 yX0_has yX0_has, Cond.code yX0_has cX0_has 2 (some .boolean), Cond.methodLink RX2 199 yX0_push, Cond.instanceMethod yX0_push, Cond.selects RX0 yX0_push yX0_push, Cond.code yX0_push cX0_push 2 none]
def wsX2_keyThere : List Cond := .code yX2_keyThere cX2_keyThere 2 (some .int) :: ((wsX2_keyThere_r1 ++ wsX2_keyThere_r2) ++ wsX20 ++ wsX00)
def wsX2_select_r1 : List Cond := [Cond.classLink RX2 140 "java/lang/IndexOutOfBoundsException", Cond.initialized "java/lang/IndexOutOfBoundsException", Cond.methodLink RX2 120 yX2_keysThere, Cond.instanceMethod yX2_keysThere, Cond.selects RX2 yX2_keysThere yX2_keysThere, Cond.initialized RX2, Cond.code yX2_keysThere cX2_keysThere 1 (some .int), Cond.fieldLink RX2 53 "LearnedLedge" "markCount" "I", Cond.methodLink RX2 95 yX2_allKeys, Cond.instanceMethod yX2_allKeys, Cond.selects RX2 yX2_allKeys yX2_allKeys, Cond.code yX2_allKeys cX2_allKeys 1 (some .int), Cond.fieldLink RX2 14 "LearnedLedge" "keys" "LLearnedLedge$Numbers;", Cond.fieldLink RX2 21 "LearnedLedge" "buffer" "LLearnedLedge$Numbers;", Cond.methodLink RX2 76 yX0_length, Cond.instanceMethod yX0_length, Cond.selects RX0 yX0_length yX0_length, Cond.initialized RX0, Cond.code yX0_length cX0_length 1 (some .int), Cond.fieldLink RX0 21 "LearnedLedge$Numbers" "length" "I", Cond.methodLink RX2 145 yX2_keyThere, Cond.instanceMethod yX2_keyThere, Cond.selects RX2 yX2_keyThere yX2_keyThere, Cond.code yX2_keyThere cX2_keyThere 2 (some .int)]
def wsX2_select_r2 : List Cond := [Cond.fieldLink RX2 40 "LearnedLedge" "freshKeys" "LLearnedLedge$Numbers;", Cond.methodLink RX2 128 yX2_gatherAll, Cond.instanceMethod yX2_gatherAll, Cond.selects RX2 yX2_gatherAll yX2_gatherAll, Cond.code yX2_gatherAll cX2_gatherAll 1 none, Cond.methodLink RX2 215 yX0_clear, Cond.instanceMethod yX0_clear, Cond.selects RX0 yX0_clear yX0_clear, Cond.code yX0_clear cX0_clear 1 none, Cond.methodLink RX2 242 yX2_gather, Cond.instanceMethod yX2_gather, Cond.selects RX2 yX2_gather yX2_gather, Cond.code yX2_gather cX2_gather 9 (some .boolean), Cond.fieldLink RX2 18 "LearnedLedge" "marks" "LLearnedLedge$Numbers;", Cond.methodLink RX2 134 yX0_at, Cond.instanceMethod yX0_at, Cond.selects RX0 yX0_at yX0_at, Cond.code yX0_at cX0_at 2 (some .int), Cond.fieldLink RX0 15 "LearnedLedge$Numbers" "items" "[I", Cond.methodLink RX0 25 yX0_has, Cond.instanceMethod yX0_has, Cond.selects RX0 yX0_has yX0_has, Cond.code yX0_has cX0_has 2 (some .boolean), Cond.methodLink RX2 199 yX0_push]
def wsX2_select_r3 : List Cond := [Cond.instanceMethod yX0_push, Cond.selects RX0 yX0_push yX0_push, Cond.code yX0_push cX0_push 2 none]
def wsX2_select : List Cond := .code yX2_select cX2_select 2 (some .int) :: ((wsX2_select_r1 ++ (wsX2_select_r2 ++ wsX2_select_r3)) ++ wsX20 ++ wsX00 ++ (vx_atS RX2 144 "java/lang/IndexOutOfBoundsException" ["java/lang/RuntimeException", "java/lang/Exception"]).filter goodWord)
def wsX2_ceiling_r1 : List Cond := [Cond.classLink RX2 109 "java/util/NoSuchElementException", Cond.initialized "java/util/NoSuchElementException", Cond.methodLink RX2 137 yX2_thereBelow, Cond.instanceMethod yX2_thereBelow, Cond.selects RX2 yX2_thereBelow yX2_thereBelow, Cond.initialized RX2, Cond.code yX2_thereBelow cX2_thereBelow 5 (some .int), Cond.fieldLink RX2 14 "LearnedLedge" "keys" "LLearnedLedge$Numbers;", Cond.fieldLink RX2 21 "LearnedLedge" "buffer" "LLearnedLedge$Numbers;", Cond.fieldLink RX2 18 "LearnedLedge" "marks" "LLearnedLedge$Numbers;", Cond.methodLink RX2 114 yX0_below, Cond.instanceMethod yX0_below, Cond.selects RX0 yX0_below yX0_below, Cond.initialized RX0, Cond.code yX0_below cX0_below 6 (some .int), Cond.fieldLink RX0 21 "LearnedLedge$Numbers" "length" "I", Cond.methodLink RX0 33 yX0_at, Cond.instanceMethod yX0_at, Cond.selects RX0 yX0_at yX0_at, Cond.code yX0_at cX0_at 2 (some .int), Cond.fieldLink RX0 15 "LearnedLedge$Numbers" "items" "[I", Cond.methodLink RX0 25 yX0_has, Cond.instanceMethod yX0_has, Cond.selects RX0 yX0_has yX0_has]
def wsX2_ceiling_r2 : List Cond := [Cond.code yX0_has cX0_has 2 (some .boolean), Cond.methodLink RX2 134 yX0_at, Cond.methodLink RX2 120 yX2_keysThere, Cond.instanceMethod yX2_keysThere, Cond.selects RX2 yX2_keysThere yX2_keysThere, Cond.code yX2_keysThere cX2_keysThere 1 (some .int), Cond.fieldLink RX2 53 "LearnedLedge" "markCount" "I", Cond.methodLink RX2 95 yX2_allKeys, Cond.instanceMethod yX2_allKeys, Cond.selects RX2 yX2_allKeys yX2_allKeys, Cond.code yX2_allKeys cX2_allKeys 1 (some .int), Cond.methodLink RX2 76 yX0_length, Cond.instanceMethod yX0_length, Cond.selects RX0 yX0_length yX0_length, Cond.code yX0_length cX0_length 1 (some .int), Cond.methodLink RX2 145 yX2_keyThere, Cond.instanceMethod yX2_keyThere, Cond.selects RX2 yX2_keyThere yX2_keyThere, Cond.code yX2_keyThere cX2_keyThere 2 (some .int), Cond.fieldLink RX2 40 "LearnedLedge" "freshKeys" "LLearnedLedge$Numbers;", Cond.methodLink RX2 128 yX2_gatherAll, Cond.instanceMethod yX2_gatherAll, Cond.selects RX2 yX2_gatherAll yX2_gatherAll, Cond.code yX2_gatherAll cX2_gatherAll 1 none]
def wsX2_ceiling_r3 : List Cond := [Cond.methodLink RX2 215 yX0_clear, Cond.instanceMethod yX0_clear, Cond.selects RX0 yX0_clear yX0_clear, Cond.code yX0_clear cX0_clear 1 none, Cond.methodLink RX2 242 yX2_gather, Cond.instanceMethod yX2_gather, Cond.selects RX2 yX2_gather yX2_gather, Cond.code yX2_gather cX2_gather 9 (some .boolean), Cond.methodLink RX2 199 yX0_push, Cond.instanceMethod yX0_push, Cond.selects RX0 yX0_push yX0_push, Cond.code yX0_push cX0_push 2 none]
def wsX2_ceiling : List Cond := .code yX2_ceiling cX2_ceiling 3 (some .int) :: ((wsX2_ceiling_r1 ++ (wsX2_ceiling_r2 ++ wsX2_ceiling_r3)) ++ wsX20 ++ wsX00 ++ (ns_atS RX2 113).filter goodWord)
def wsX2_count_r1 : List Cond := [Cond.methodLink RX2 137 yX2_thereBelow, Cond.instanceMethod yX2_thereBelow, Cond.selects RX2 yX2_thereBelow yX2_thereBelow, Cond.initialized RX2, Cond.code yX2_thereBelow cX2_thereBelow 5 (some .int), Cond.fieldLink RX2 14 "LearnedLedge" "keys" "LLearnedLedge$Numbers;", Cond.fieldLink RX2 21 "LearnedLedge" "buffer" "LLearnedLedge$Numbers;", Cond.fieldLink RX2 18 "LearnedLedge" "marks" "LLearnedLedge$Numbers;", Cond.methodLink RX2 114 yX0_below, Cond.instanceMethod yX0_below, Cond.selects RX0 yX0_below yX0_below, Cond.initialized RX0, Cond.code yX0_below cX0_below 6 (some .int), Cond.fieldLink RX0 21 "LearnedLedge$Numbers" "length" "I", Cond.methodLink RX0 33 yX0_at, Cond.instanceMethod yX0_at, Cond.selects RX0 yX0_at yX0_at, Cond.code yX0_at cX0_at 2 (some .int), Cond.fieldLink RX0 15 "LearnedLedge$Numbers" "items" "[I", Cond.methodLink RX0 25 yX0_has, Cond.instanceMethod yX0_has, Cond.selects RX0 yX0_has yX0_has, Cond.code yX0_has cX0_has 2 (some .boolean), Cond.methodLink RX2 134 yX0_at]
def wsX2_count_r2 : List Cond := [Cond.methodLink RX2 91 yX2_isThere, Cond.instanceMethod yX2_isThere, Cond.selects RX2 yX2_isThere yX2_isThere, Cond.code yX2_isThere cX2_isThere 3 (some .boolean), Cond.methodLink RX2 87 yX0_indexOf, Cond.instanceMethod yX0_indexOf, Cond.selects RX0 yX0_indexOf yX0_indexOf, Cond.code yX0_indexOf cX0_indexOf 3 (some .int), Cond.methodLink RX0 41 yX0_below]
def wsX2_count : List Cond := .code yX2_count cX2_count 3 (some .int) :: ((wsX2_count_r1 ++ wsX2_count_r2) ++ wsX20 ++ wsX00)
def wsX2_place : List Cond := .code yX2_place cX2_place 2 (some .int) :: ([.fieldLink RX2 14 "LearnedLedge" "keys" "LLearnedLedge$Numbers;", .methodLink RX2 114 yX0_below, .instanceMethod yX0_below, .selects RX0 yX0_below yX0_below, .initialized RX0, .code yX0_below cX0_below 6 (some .int), .fieldLink RX0 21 "LearnedLedge$Numbers" "length" "I", .methodLink RX0 33 yX0_at, .instanceMethod yX0_at, .selects RX0 yX0_at yX0_at, .code yX0_at cX0_at 2 (some .int), .fieldLink RX0 15 "LearnedLedge$Numbers" "items" "[I", .methodLink RX0 25 yX0_has, .instanceMethod yX0_has, .selects RX0 yX0_has yX0_has, .code yX0_has cX0_has 2 (some .boolean)] ++ wsX20 ++ wsX00)
def wsX2_pieceOf : List Cond := .code yX2_pieceOf cX2_pieceOf 3 (some .int) :: ([.fieldLink RX2 14 "LearnedLedge" "keys" "LLearnedLedge$Numbers;", .fieldLink RX2 24 "LearnedLedge" "starts" "LLearnedLedge$Numbers;", .methodLink RX2 114 yX0_below, .instanceMethod yX0_below, .selects RX0 yX0_below yX0_below, .initialized RX0, .code yX0_below cX0_below 6 (some .int), .fieldLink RX0 21 "LearnedLedge$Numbers" "length" "I", .methodLink RX0 33 yX0_at, .instanceMethod yX0_at, .selects RX0 yX0_at yX0_at, .code yX0_at cX0_at 2 (some .int), .fieldLink RX0 15 "LearnedLedge$Numbers" "items" "[I", .methodLink RX0 25 yX0_has, .instanceMethod yX0_has, .selects RX0 yX0_has yX0_has, .code yX0_has cX0_has 2 (some .boolean)] ++ wsX20 ++ wsX00)
def wsJ9_floorDiv_f86c9 : List Cond := .code yJ9_floorDiv_f86c9 cJ9_floorDiv_f86c9 6 (some .long) :: ([])
def wsX2_guessBy_r1 : List Cond := [Cond.fieldLink RX2 30 "LearnedLedge" "runs" "LLearnedLedge$Numbers;", Cond.constantLong RX2 231 (-1), Cond.fieldLink RX2 24 "LearnedLedge" "starts" "LLearnedLedge$Numbers;", Cond.fieldLink RX2 27 "LearnedLedge" "rises" "LLearnedLedge$Numbers;", Cond.methodLink RX2 134 yX0_at, Cond.instanceMethod yX0_at, Cond.selects RX0 yX0_at yX0_at, Cond.initialized RX0, Cond.code yX0_at cX0_at 2 (some .int), Cond.fieldLink RX0 15 "LearnedLedge$Numbers" "items" "[I", Cond.methodLink RX0 25 yX0_has, Cond.instanceMethod yX0_has, Cond.selects RX0 yX0_has yX0_has, Cond.code yX0_has cX0_has 2 (some .boolean), Cond.fieldLink RX0 21 "LearnedLedge$Numbers" "length" "I", Cond.methodLink RX2 177 yX2_firstOf, Cond.instanceMethod yX2_firstOf, Cond.selects RX2 yX2_firstOf yX2_firstOf, Cond.initialized RX2, Cond.code yX2_firstOf cX2_firstOf 2 (some .int), Cond.fieldLink RX2 14 "LearnedLedge" "keys" "LLearnedLedge$Numbers;", Cond.methodLink RX2 233 yJ9_floorDiv_f86c9, Cond.static yJ9_floorDiv_f86c9, Cond.initialized RJ9]
def wsX2_guessBy_r2 : List Cond := [Cond.code yJ9_floorDiv_f86c9 cJ9_floorDiv_f86c9 6 (some .long)]
def wsX2_guessBy : List Cond := .code yX2_guessBy cX2_guessBy 7 (some .long) :: ((wsX2_guessBy_r1 ++ wsX2_guessBy_r2) ++ wsX20 ++ wsX00)
def wsX2_guess_r1 : List Cond := [Cond.methodLink RX2 65 yX2_needKey, Cond.static yX2_needKey, Cond.initialized RX2, Cond.code yX2_needKey cX2_needKey 2 none, Cond.classLink RX2 80 "java/lang/IllegalArgumentException", Cond.initialized "java/lang/IllegalArgumentException", Cond.constantLong RX2 186 (-1000000), Cond.constantLong RX2 188 (1000000), Cond.methodLink RX2 150 yX2_pieceOf, Cond.instanceMethod yX2_pieceOf, Cond.selects RX2 yX2_pieceOf yX2_pieceOf, Cond.code yX2_pieceOf cX2_pieceOf 3 (some .int), Cond.fieldLink RX2 14 "LearnedLedge" "keys" "LLearnedLedge$Numbers;", Cond.fieldLink RX2 24 "LearnedLedge" "starts" "LLearnedLedge$Numbers;", Cond.methodLink RX2 114 yX0_below, Cond.instanceMethod yX0_below, Cond.selects RX0 yX0_below yX0_below, Cond.initialized RX0, Cond.code yX0_below cX0_below 6 (some .int), Cond.fieldLink RX0 21 "LearnedLedge$Numbers" "length" "I", Cond.methodLink RX0 33 yX0_at, Cond.instanceMethod yX0_at, Cond.selects RX0 yX0_at yX0_at, Cond.code yX0_at cX0_at 2 (some .int)]
def wsX2_guess_r2 : List Cond := [Cond.fieldLink RX0 15 "LearnedLedge$Numbers" "items" "[I", Cond.methodLink RX0 25 yX0_has, Cond.instanceMethod yX0_has, Cond.selects RX0 yX0_has yX0_has, Cond.code yX0_has cX0_has 2 (some .boolean), Cond.methodLink RX2 153 yX2_guessBy, Cond.instanceMethod yX2_guessBy, Cond.selects RX2 yX2_guessBy yX2_guessBy, Cond.code yX2_guessBy cX2_guessBy 7 (some .long), Cond.fieldLink RX2 30 "LearnedLedge" "runs" "LLearnedLedge$Numbers;", Cond.constantLong RX2 231 (-1), Cond.fieldLink RX2 27 "LearnedLedge" "rises" "LLearnedLedge$Numbers;", Cond.methodLink RX2 134 yX0_at, Cond.methodLink RX2 177 yX2_firstOf, Cond.instanceMethod yX2_firstOf, Cond.selects RX2 yX2_firstOf yX2_firstOf, Cond.code yX2_firstOf cX2_firstOf 2 (some .int), Cond.methodLink RX2 233 yJ9_floorDiv_f86c9, Cond.static yJ9_floorDiv_f86c9, Cond.initialized RJ9, Cond.code yJ9_floorDiv_f86c9 cJ9_floorDiv_f86c9 6 (some .long)]
def wsX2_guess : List Cond := .code yX2_guess cX2_guess 2 (some .long) :: ((wsX2_guess_r1 ++ wsX2_guess_r2) ++ wsX20 ++ wsX00 ++ (vx_atS RX2 84 "java/lang/IllegalArgumentException" ["java/lang/RuntimeException", "java/lang/Exception"]).filter goodWord)
def wsX2_looksBy_r1 : List Cond := [Cond.fieldLink RX2 24 "LearnedLedge" "starts" "LLearnedLedge$Numbers;", Cond.fieldLink RX2 46 "LearnedLedge" "bound" "I", Cond.methodLink RX2 170 Lib.MathLoose.max_long.x, Cond.static Lib.MathLoose.max_long.x, Cond.initialized "java/lang/Math", Cond.code Lib.MathLoose.max_long.x Lib.MathLoose.max_long.code 4 (some .long), Cond.methodLink RX2 236 Lib.MathLoose.min_long.x, Cond.static Lib.MathLoose.min_long.x, Cond.code Lib.MathLoose.min_long.x Lib.MathLoose.min_long.code 4 (some .long), Cond.fieldLink RX2 14 "LearnedLedge" "keys" "LLearnedLedge$Numbers;", Cond.methodLink RX2 153 yX2_guessBy, Cond.instanceMethod yX2_guessBy, Cond.selects RX2 yX2_guessBy yX2_guessBy, Cond.initialized RX2, Cond.code yX2_guessBy cX2_guessBy 7 (some .long), Cond.fieldLink RX2 30 "LearnedLedge" "runs" "LLearnedLedge$Numbers;", Cond.constantLong RX2 231 (-1), Cond.fieldLink RX2 27 "LearnedLedge" "rises" "LLearnedLedge$Numbers;", Cond.methodLink RX2 134 yX0_at, Cond.instanceMethod yX0_at, Cond.selects RX0 yX0_at yX0_at, Cond.initialized RX0, Cond.code yX0_at cX0_at 2 (some .int), Cond.fieldLink RX0 15 "LearnedLedge$Numbers" "items" "[I"]
def wsX2_looksBy_r2 : List Cond := [Cond.methodLink RX0 25 yX0_has, Cond.instanceMethod yX0_has, Cond.selects RX0 yX0_has yX0_has, Cond.code yX0_has cX0_has 2 (some .boolean), Cond.fieldLink RX0 21 "LearnedLedge$Numbers" "length" "I", Cond.methodLink RX2 177 yX2_firstOf, Cond.instanceMethod yX2_firstOf, Cond.selects RX2 yX2_firstOf yX2_firstOf, Cond.code yX2_firstOf cX2_firstOf 2 (some .int), Cond.methodLink RX2 233 yJ9_floorDiv_f86c9, Cond.static yJ9_floorDiv_f86c9, Cond.initialized RJ9, Cond.code yJ9_floorDiv_f86c9 cJ9_floorDiv_f86c9 6 (some .long), Cond.methodLink RX2 161 yX2_endOf, Cond.instanceMethod yX2_endOf, Cond.selects RX2 yX2_endOf yX2_endOf, Cond.code yX2_endOf cX2_endOf 2 (some .int), Cond.methodLink RX2 192 yX0_has, Cond.methodLink RX2 76 yX0_length, Cond.instanceMethod yX0_length, Cond.selects RX0 yX0_length yX0_length, Cond.code yX0_length cX0_length 1 (some .int)]
def wsX2_looksBy : List Cond := .code yX2_looksBy cX2_looksBy 11 (some .int) :: ((wsX2_looksBy_r1 ++ wsX2_looksBy_r2) ++ wsX20 ++ wsX00)
def wsX2_looks_r1 : List Cond := [Cond.methodLink RX2 65 yX2_needKey, Cond.static yX2_needKey, Cond.initialized RX2, Cond.code yX2_needKey cX2_needKey 2 none, Cond.classLink RX2 80 "java/lang/IllegalArgumentException", Cond.initialized "java/lang/IllegalArgumentException", Cond.constantLong RX2 186 (-1000000), Cond.constantLong RX2 188 (1000000), Cond.methodLink RX2 150 yX2_pieceOf, Cond.instanceMethod yX2_pieceOf, Cond.selects RX2 yX2_pieceOf yX2_pieceOf, Cond.code yX2_pieceOf cX2_pieceOf 3 (some .int), Cond.fieldLink RX2 14 "LearnedLedge" "keys" "LLearnedLedge$Numbers;", Cond.fieldLink RX2 24 "LearnedLedge" "starts" "LLearnedLedge$Numbers;", Cond.methodLink RX2 114 yX0_below, Cond.instanceMethod yX0_below, Cond.selects RX0 yX0_below yX0_below, Cond.initialized RX0, Cond.code yX0_below cX0_below 6 (some .int), Cond.fieldLink RX0 21 "LearnedLedge$Numbers" "length" "I", Cond.methodLink RX0 33 yX0_at, Cond.instanceMethod yX0_at, Cond.selects RX0 yX0_at yX0_at, Cond.code yX0_at cX0_at 2 (some .int)]
def wsX2_looks_r2 : List Cond := [Cond.fieldLink RX0 15 "LearnedLedge$Numbers" "items" "[I", Cond.methodLink RX0 25 yX0_has, Cond.instanceMethod yX0_has, Cond.selects RX0 yX0_has yX0_has, Cond.code yX0_has cX0_has 2 (some .boolean), Cond.methodLink RX2 157 yX2_looksBy, Cond.instanceMethod yX2_looksBy, Cond.selects RX2 yX2_looksBy yX2_looksBy, Cond.code yX2_looksBy cX2_looksBy 11 (some .int), Cond.fieldLink RX2 46 "LearnedLedge" "bound" "I", Cond.methodLink RX2 170 Lib.MathLoose.max_long.x, Cond.static Lib.MathLoose.max_long.x, Cond.initialized "java/lang/Math", Cond.code Lib.MathLoose.max_long.x Lib.MathLoose.max_long.code 4 (some .long), Cond.methodLink RX2 236 Lib.MathLoose.min_long.x, Cond.static Lib.MathLoose.min_long.x, Cond.code Lib.MathLoose.min_long.x Lib.MathLoose.min_long.code 4 (some .long), Cond.methodLink RX2 153 yX2_guessBy, Cond.instanceMethod yX2_guessBy, Cond.selects RX2 yX2_guessBy yX2_guessBy, Cond.code yX2_guessBy cX2_guessBy 7 (some .long), Cond.fieldLink RX2 30 "LearnedLedge" "runs" "LLearnedLedge$Numbers;", Cond.constantLong RX2 231 (-1), Cond.fieldLink RX2 27 "LearnedLedge" "rises" "LLearnedLedge$Numbers;"]
def wsX2_looks_r3 : List Cond := [Cond.methodLink RX2 134 yX0_at, Cond.methodLink RX2 177 yX2_firstOf, Cond.instanceMethod yX2_firstOf, Cond.selects RX2 yX2_firstOf yX2_firstOf, Cond.code yX2_firstOf cX2_firstOf 2 (some .int), Cond.methodLink RX2 233 yJ9_floorDiv_f86c9, Cond.static yJ9_floorDiv_f86c9, Cond.initialized RJ9, Cond.code yJ9_floorDiv_f86c9 cJ9_floorDiv_f86c9 6 (some .long), Cond.methodLink RX2 161 yX2_endOf, Cond.instanceMethod yX2_endOf, Cond.selects RX2 yX2_endOf yX2_endOf, Cond.code yX2_endOf cX2_endOf 2 (some .int), Cond.methodLink RX2 192 yX0_has, Cond.methodLink RX2 76 yX0_length, Cond.instanceMethod yX0_length, Cond.selects RX0 yX0_length yX0_length, Cond.code yX0_length cX0_length 1 (some .int)]
def wsX2_looks : List Cond := .code yX2_looks cX2_looks 3 (some .int) :: ((wsX2_looks_r1 ++ (wsX2_looks_r2 ++ wsX2_looks_r3)) ++ wsX20 ++ wsX00 ++ (vx_atS RX2 84 "java/lang/IllegalArgumentException" ["java/lang/RuntimeException", "java/lang/Exception"]).filter goodWord)
def wsX2_worstError_r1 : List Cond := [Cond.fieldLink RX2 24 "LearnedLedge" "starts" "LLearnedLedge$Numbers;", Cond.fieldLink RX2 14 "LearnedLedge" "keys" "LLearnedLedge$Numbers;", Cond.methodLink RX2 164 Lib.MathLoose.abs_long.x, Cond.static Lib.MathLoose.abs_long.x, Cond.initialized "java/lang/Math", Cond.code Lib.MathLoose.abs_long.x Lib.MathLoose.abs_long.code 2 (some .long), Cond.methodLink RX2 170 Lib.MathLoose.max_long.x, Cond.static Lib.MathLoose.max_long.x, Cond.code Lib.MathLoose.max_long.x Lib.MathLoose.max_long.code 4 (some .long), Cond.methodLink RX2 76 yX0_length, Cond.instanceMethod yX0_length, Cond.selects RX0 yX0_length yX0_length, Cond.initialized RX0, Cond.code yX0_length cX0_length 1 (some .int), Cond.fieldLink RX0 21 "LearnedLedge$Numbers" "length" "I", Cond.methodLink RX2 161 yX2_endOf, Cond.instanceMethod yX2_endOf, Cond.selects RX2 yX2_endOf yX2_endOf, Cond.initialized RX2, Cond.code yX2_endOf cX2_endOf 2 (some .int), Cond.methodLink RX2 192 yX0_has, Cond.instanceMethod yX0_has, Cond.selects RX0 yX0_has yX0_has, Cond.code yX0_has cX0_has 2 (some .boolean)]
def wsX2_worstError_r2 : List Cond := [Cond.fieldLink RX0 15 "LearnedLedge$Numbers" "items" "[I", Cond.methodLink RX2 134 yX0_at, Cond.instanceMethod yX0_at, Cond.selects RX0 yX0_at yX0_at, Cond.code yX0_at cX0_at 2 (some .int), Cond.methodLink RX0 25 yX0_has, Cond.methodLink RX2 153 yX2_guessBy, Cond.instanceMethod yX2_guessBy, Cond.selects RX2 yX2_guessBy yX2_guessBy, Cond.code yX2_guessBy cX2_guessBy 7 (some .long), Cond.fieldLink RX2 30 "LearnedLedge" "runs" "LLearnedLedge$Numbers;", Cond.constantLong RX2 231 (-1), Cond.fieldLink RX2 27 "LearnedLedge" "rises" "LLearnedLedge$Numbers;", Cond.methodLink RX2 177 yX2_firstOf, Cond.instanceMethod yX2_firstOf, Cond.selects RX2 yX2_firstOf yX2_firstOf, Cond.code yX2_firstOf cX2_firstOf 2 (some .int), Cond.methodLink RX2 233 yJ9_floorDiv_f86c9, Cond.static yJ9_floorDiv_f86c9, Cond.initialized RJ9, Cond.code yJ9_floorDiv_f86c9 cJ9_floorDiv_f86c9 6 (some .long)]
def wsX2_worstError : List Cond := .code yX2_worstError cX2_worstError 8 (some .int) :: ((wsX2_worstError_r1 ++ wsX2_worstError_r2) ++ wsX20 ++ wsX00)
def wsX2_pieces : List Cond := .code yX2_pieces cX2_pieces 1 (some .int) :: ([.fieldLink RX2 24 "LearnedLedge" "starts" "LLearnedLedge$Numbers;", .methodLink RX2 76 yX0_length, .instanceMethod yX0_length, .selects RX0 yX0_length yX0_length, .initialized RX0, .code yX0_length cX0_length 1 (some .int), .fieldLink RX0 21 "LearnedLedge$Numbers" "length" "I"] ++ wsX20 ++ wsX00)
def wsX2_needPiece : List Cond := .code yX2_needPiece cX2_needPiece 2 none :: ([.classLink RX2 140 "java/lang/IndexOutOfBoundsException", .initialized "java/lang/IndexOutOfBoundsException", .fieldLink RX2 24 "LearnedLedge" "starts" "LLearnedLedge$Numbers;", .methodLink RX2 192 yX0_has, .instanceMethod yX0_has, .selects RX0 yX0_has yX0_has, .initialized RX0, .code yX0_has cX0_has 2 (some .boolean), .fieldLink RX0 21 "LearnedLedge$Numbers" "length" "I", .fieldLink RX0 15 "LearnedLedge$Numbers" "items" "[I"] ++ wsX20 ++ wsX00 ++ (vx_atS RX2 144 "java/lang/IndexOutOfBoundsException" ["java/lang/RuntimeException", "java/lang/Exception"]).filter goodWord)
def wsX2_start : List Cond := .code yX2_start cX2_start 2 (some .int) :: ([.fieldLink RX2 24 "LearnedLedge" "starts" "LLearnedLedge$Numbers;", .methodLink RX2 174 yX2_needPiece, .instanceMethod yX2_needPiece, .selects RX2 yX2_needPiece yX2_needPiece, .initialized RX2, .code yX2_needPiece cX2_needPiece 2 none, .classLink RX2 140 "java/lang/IndexOutOfBoundsException", .initialized "java/lang/IndexOutOfBoundsException", .methodLink RX2 192 yX0_has, .instanceMethod yX0_has, .selects RX0 yX0_has yX0_has, .initialized RX0, .code yX0_has cX0_has 2 (some .boolean), .fieldLink RX0 21 "LearnedLedge$Numbers" "length" "I", .fieldLink RX0 15 "LearnedLedge$Numbers" "items" "[I", .methodLink RX2 134 yX0_at, .instanceMethod yX0_at, .selects RX0 yX0_at yX0_at, .code yX0_at cX0_at 2 (some .int), .methodLink RX0 25 yX0_has] ++ wsX20 ++ wsX00 ++ (vx_atS RX2 144 "java/lang/IndexOutOfBoundsException" ["java/lang/RuntimeException", "java/lang/Exception"]).filter goodWord)
def wsX2_firstKey_r1 : List Cond := [Cond.methodLink RX2 174 yX2_needPiece, Cond.instanceMethod yX2_needPiece, Cond.selects RX2 yX2_needPiece yX2_needPiece, Cond.initialized RX2, Cond.code yX2_needPiece cX2_needPiece 2 none, Cond.classLink RX2 140 "java/lang/IndexOutOfBoundsException", Cond.initialized "java/lang/IndexOutOfBoundsException", Cond.fieldLink RX2 24 "LearnedLedge" "starts" "LLearnedLedge$Numbers;", Cond.methodLink RX2 192 yX0_has, Cond.instanceMethod yX0_has, Cond.selects RX0 yX0_has yX0_has, Cond.initialized RX0, Cond.code yX0_has cX0_has 2 (some .boolean), Cond.fieldLink RX0 21 "LearnedLedge$Numbers" "length" "I", Cond.fieldLink RX0 15 "LearnedLedge$Numbers" "items" "[I", Cond.methodLink RX2 177 yX2_firstOf, Cond.instanceMethod yX2_firstOf, Cond.selects RX2 yX2_firstOf yX2_firstOf, Cond.code yX2_firstOf cX2_firstOf 2 (some .int), Cond.fieldLink RX2 14 "LearnedLedge" "keys" "LLearnedLedge$Numbers;", Cond.methodLink RX2 134 yX0_at, Cond.instanceMethod yX0_at, Cond.selects RX0 yX0_at yX0_at, Cond.code yX0_at cX0_at 2 (some .int)]
def wsX2_firstKey_r2 : List Cond := [Cond.methodLink RX0 25 yX0_has]
def wsX2_firstKey : List Cond := .code yX2_firstKey cX2_firstKey 2 (some .int) :: ((wsX2_firstKey_r1 ++ wsX2_firstKey_r2) ++ wsX20 ++ wsX00 ++ (vx_atS RX2 144 "java/lang/IndexOutOfBoundsException" ["java/lang/RuntimeException", "java/lang/Exception"]).filter goodWord)
def wsX2_rise : List Cond := .code yX2_rise cX2_rise 2 (some .int) :: ([.fieldLink RX2 27 "LearnedLedge" "rises" "LLearnedLedge$Numbers;", .methodLink RX2 174 yX2_needPiece, .instanceMethod yX2_needPiece, .selects RX2 yX2_needPiece yX2_needPiece, .initialized RX2, .code yX2_needPiece cX2_needPiece 2 none, .classLink RX2 140 "java/lang/IndexOutOfBoundsException", .initialized "java/lang/IndexOutOfBoundsException", .fieldLink RX2 24 "LearnedLedge" "starts" "LLearnedLedge$Numbers;", .methodLink RX2 192 yX0_has, .instanceMethod yX0_has, .selects RX0 yX0_has yX0_has, .initialized RX0, .code yX0_has cX0_has 2 (some .boolean), .fieldLink RX0 21 "LearnedLedge$Numbers" "length" "I", .fieldLink RX0 15 "LearnedLedge$Numbers" "items" "[I", .methodLink RX2 134 yX0_at, .instanceMethod yX0_at, .selects RX0 yX0_at yX0_at, .code yX0_at cX0_at 2 (some .int), .methodLink RX0 25 yX0_has] ++ wsX20 ++ wsX00 ++ (vx_atS RX2 144 "java/lang/IndexOutOfBoundsException" ["java/lang/RuntimeException", "java/lang/Exception"]).filter goodWord)
def wsX2_run : List Cond := .code yX2_run cX2_run 2 (some .int) :: ([.fieldLink RX2 30 "LearnedLedge" "runs" "LLearnedLedge$Numbers;", .methodLink RX2 174 yX2_needPiece, .instanceMethod yX2_needPiece, .selects RX2 yX2_needPiece yX2_needPiece, .initialized RX2, .code yX2_needPiece cX2_needPiece 2 none, .classLink RX2 140 "java/lang/IndexOutOfBoundsException", .initialized "java/lang/IndexOutOfBoundsException", .fieldLink RX2 24 "LearnedLedge" "starts" "LLearnedLedge$Numbers;", .methodLink RX2 192 yX0_has, .instanceMethod yX0_has, .selects RX0 yX0_has yX0_has, .initialized RX0, .code yX0_has cX0_has 2 (some .boolean), .fieldLink RX0 21 "LearnedLedge$Numbers" "length" "I", .fieldLink RX0 15 "LearnedLedge$Numbers" "items" "[I", .methodLink RX2 134 yX0_at, .instanceMethod yX0_at, .selects RX0 yX0_at yX0_at, .code yX0_at cX0_at 2 (some .int), .methodLink RX0 25 yX0_has] ++ wsX20 ++ wsX00 ++ (vx_atS RX2 144 "java/lang/IndexOutOfBoundsException" ["java/lang/RuntimeException", "java/lang/Exception"]).filter goodWord)
def wsX2_alike : List Cond := .code yX2_alike cX2_alike 3 (some .boolean) :: ([.fieldLink RX2 27 "LearnedLedge" "rises" "LLearnedLedge$Numbers;", .fieldLink RX2 30 "LearnedLedge" "runs" "LLearnedLedge$Numbers;", .methodLink RX2 134 yX0_at, .instanceMethod yX0_at, .selects RX0 yX0_at yX0_at, .initialized RX0, .code yX0_at cX0_at 2 (some .int), .fieldLink RX0 15 "LearnedLedge$Numbers" "items" "[I", .methodLink RX0 25 yX0_has, .instanceMethod yX0_has, .selects RX0 yX0_has yX0_has, .code yX0_has cX0_has 2 (some .boolean), .fieldLink RX0 21 "LearnedLedge$Numbers" "length" "I"] ++ wsX20 ++ wsX00)
def wsX2_firstAlike : List Cond := .code yX2_firstAlike cX2_firstAlike 3 (some .int) :: ([.methodLink RX2 239 yX2_alike, .instanceMethod yX2_alike, .selects RX2 yX2_alike yX2_alike, .initialized RX2, .code yX2_alike cX2_alike 3 (some .boolean), .fieldLink RX2 27 "LearnedLedge" "rises" "LLearnedLedge$Numbers;", .fieldLink RX2 30 "LearnedLedge" "runs" "LLearnedLedge$Numbers;", .methodLink RX2 134 yX0_at, .instanceMethod yX0_at, .selects RX0 yX0_at yX0_at, .initialized RX0, .code yX0_at cX0_at 2 (some .int), .fieldLink RX0 15 "LearnedLedge$Numbers" "items" "[I", .methodLink RX0 25 yX0_has, .instanceMethod yX0_has, .selects RX0 yX0_has yX0_has, .code yX0_has cX0_has 2 (some .boolean), .fieldLink RX0 21 "LearnedLedge$Numbers" "length" "I"] ++ wsX20 ++ wsX00)
def wsX2_slopes_r1 : List Cond := [Cond.fieldLink RX2 24 "LearnedLedge" "starts" "LLearnedLedge$Numbers;", Cond.methodLink RX2 76 yX0_length, Cond.instanceMethod yX0_length, Cond.selects RX0 yX0_length yX0_length, Cond.initialized RX0, Cond.code yX0_length cX0_length 1 (some .int), Cond.fieldLink RX0 21 "LearnedLedge$Numbers" "length" "I", Cond.methodLink RX2 180 yX2_firstAlike, Cond.instanceMethod yX2_firstAlike, Cond.selects RX2 yX2_firstAlike yX2_firstAlike, Cond.initialized RX2, Cond.code yX2_firstAlike cX2_firstAlike 3 (some .int), Cond.methodLink RX2 239 yX2_alike, Cond.instanceMethod yX2_alike, Cond.selects RX2 yX2_alike yX2_alike, Cond.code yX2_alike cX2_alike 3 (some .boolean), Cond.fieldLink RX2 27 "LearnedLedge" "rises" "LLearnedLedge$Numbers;", Cond.fieldLink RX2 30 "LearnedLedge" "runs" "LLearnedLedge$Numbers;", Cond.methodLink RX2 134 yX0_at, Cond.instanceMethod yX0_at, Cond.selects RX0 yX0_at yX0_at, Cond.code yX0_at cX0_at 2 (some .int), Cond.fieldLink RX0 15 "LearnedLedge$Numbers" "items" "[I", Cond.methodLink RX0 25 yX0_has]
def wsX2_slopes_r2 : List Cond := [Cond.instanceMethod yX0_has, Cond.selects RX0 yX0_has yX0_has, Cond.code yX0_has cX0_has 2 (some .boolean)]
def wsX2_slopes : List Cond := .code yX2_slopes cX2_slopes 3 (some .int) :: ((wsX2_slopes_r1 ++ wsX2_slopes_r2) ++ wsX20 ++ wsX00)
def wsX2_alikeFrom : List Cond := .code yX2_alikeFrom cX2_alikeFrom 4 (some .int) :: ([.fieldLink RX2 24 "LearnedLedge" "starts" "LLearnedLedge$Numbers;", .methodLink RX2 76 yX0_length, .instanceMethod yX0_length, .selects RX0 yX0_length yX0_length, .initialized RX0, .code yX0_length cX0_length 1 (some .int), .fieldLink RX0 21 "LearnedLedge$Numbers" "length" "I", .methodLink RX2 239 yX2_alike, .instanceMethod yX2_alike, .selects RX2 yX2_alike yX2_alike, .initialized RX2, .code yX2_alike cX2_alike 3 (some .boolean), .fieldLink RX2 27 "LearnedLedge" "rises" "LLearnedLedge$Numbers;", .fieldLink RX2 30 "LearnedLedge" "runs" "LLearnedLedge$Numbers;", .methodLink RX2 134 yX0_at, .instanceMethod yX0_at, .selects RX0 yX0_at yX0_at, .code yX0_at cX0_at 2 (some .int), .fieldLink RX0 15 "LearnedLedge$Numbers" "items" "[I", .methodLink RX0 25 yX0_has, .instanceMethod yX0_has, .selects RX0 yX0_has yX0_has, .code yX0_has cX0_has 2 (some .boolean)] ++ wsX20 ++ wsX00)
def wsX2_commonest_r1 : List Cond := [Cond.fieldLink RX2 24 "LearnedLedge" "starts" "LLearnedLedge$Numbers;", Cond.methodLink RX2 76 yX0_length, Cond.instanceMethod yX0_length, Cond.selects RX0 yX0_length yX0_length, Cond.initialized RX0, Cond.code yX0_length cX0_length 1 (some .int), Cond.fieldLink RX0 21 "LearnedLedge$Numbers" "length" "I", Cond.methodLink RX2 183 yX2_alikeFrom, Cond.instanceMethod yX2_alikeFrom, Cond.selects RX2 yX2_alikeFrom yX2_alikeFrom, Cond.initialized RX2, Cond.code yX2_alikeFrom cX2_alikeFrom 4 (some .int), Cond.methodLink RX2 239 yX2_alike, Cond.instanceMethod yX2_alike, Cond.selects RX2 yX2_alike yX2_alike, Cond.code yX2_alike cX2_alike 3 (some .boolean), Cond.fieldLink RX2 27 "LearnedLedge" "rises" "LLearnedLedge$Numbers;", Cond.fieldLink RX2 30 "LearnedLedge" "runs" "LLearnedLedge$Numbers;", Cond.methodLink RX2 134 yX0_at, Cond.instanceMethod yX0_at, Cond.selects RX0 yX0_at yX0_at, Cond.code yX0_at cX0_at 2 (some .int), Cond.fieldLink RX0 15 "LearnedLedge$Numbers" "items" "[I", Cond.methodLink RX0 25 yX0_has]
def wsX2_commonest_r2 : List Cond := [Cond.instanceMethod yX0_has, Cond.selects RX0 yX0_has yX0_has, Cond.code yX0_has cX0_has 2 (some .boolean)]
def wsX2_commonest : List Cond := .code yX2_commonest cX2_commonest 5 (some .int) :: ((wsX2_commonest_r1 ++ wsX2_commonest_r2) ++ wsX20 ++ wsX00)
def wsX2_buffered : List Cond := .code yX2_buffered cX2_buffered 1 (some .int) :: ([.fieldLink RX2 21 "LearnedLedge" "buffer" "LLearnedLedge$Numbers;", .methodLink RX2 76 yX0_length, .instanceMethod yX0_length, .selects RX0 yX0_length yX0_length, .initialized RX0, .code yX0_length cX0_length 1 (some .int), .fieldLink RX0 21 "LearnedLedge$Numbers" "length" "I"] ++ wsX20 ++ wsX00)
def wsX2_marked : List Cond := .code yX2_marked cX2_marked 1 (some .int) :: ([.fieldLink RX2 53 "LearnedLedge" "markCount" "I"] ++ wsX20)
def wsX2_rowSize : List Cond := .code yX2_rowSize cX2_rowSize 1 (some .int) :: ([.fieldLink RX2 14 "LearnedLedge" "keys" "LLearnedLedge$Numbers;", .methodLink RX2 76 yX0_length, .instanceMethod yX0_length, .selects RX0 yX0_length yX0_length, .initialized RX0, .code yX0_length cX0_length 1 (some .int), .fieldLink RX0 21 "LearnedLedge$Numbers" "length" "I"] ++ wsX20 ++ wsX00)
def wsX2_merges : List Cond := .code yX2_merges cX2_merges 1 (some .int) :: ([.fieldLink RX2 56 "LearnedLedge" "mergeCount" "I"] ++ wsX20)
def wsX2_splits : List Cond := .code yX2_splits cX2_splits 1 (some .int) :: ([.fieldLink RX2 59 "LearnedLedge" "splitCount" "I"] ++ wsX20)
def wsX2_joins : List Cond := .code yX2_joins cX2_joins 1 (some .int) :: ([.fieldLink RX2 62 "LearnedLedge" "joinCount" "I"] ++ wsX20)
def wsX3_init : List Cond := .code yX3_init cX3_init 1 none :: ([.methodLink RX3 1 objectInit, .instanceMethod objectInit, .code objectInit ⟨#[0xb1]⟩ 1 none, .fieldLink RX3 7 "LearnedLedgeModel" "bound" "I", .fieldLink RX3 13 "LearnedLedgeModel" "room" "I", .arrayClass .int, .fieldLink RX3 16 "LearnedLedgeModel" "row" "[I", .arrayClass .boolean, .fieldLink RX3 20 "LearnedLedgeModel" "isMarked" "[Z", .fieldLink RX3 24 "LearnedLedgeModel" "start" "[I", .fieldLink RX3 27 "LearnedLedgeModel" "buffer" "[I", .fieldLink RX3 30 "LearnedLedgeModel" "made" "[I", .fieldLink RX3 33 "LearnedLedgeModel" "begun" "[I"] ++ wsX30)
def wsX3_thrown : List Cond := .code yX3_thrown cX3_thrown 1 (some .int) :: ([.fieldLink RX3 36 "LearnedLedgeModel" "thrown" "I"] ++ wsX30)
def wsX3_isKey : List Cond := .code yX3_isKey cX3_isKey 1 (some .boolean) :: ([.constant RX3 39 (-1000000), .constant RX3 40 (1000000)])
def wsX3_fits : List Cond := .code yX3_fits cX3_fits 13 (some .boolean) :: ([.fieldLink RX3 41 "LearnedLedgeModel" "leastUp" "J", .fieldLink RX3 45 "LearnedLedgeModel" "leastUnder" "J", .fieldLink RX3 7 "LearnedLedgeModel" "bound" "I"] ++ wsX30)
def wsX3_behind : List Cond := .code yX3_behind cX3_behind 2 (some .int) :: ([.fieldLink RX3 48 "LearnedLedgeModel" "pieces" "I", .fieldLink RX3 24 "LearnedLedgeModel" "start" "[I", .fieldLink RX3 51 "LearnedLedgeModel" "rowMany" "I"] ++ wsX30)
def wsX3_common : List Cond := .code yX3_common cX3_common 10 (some .long) :: ([])
def wsX3_lays : List Cond := .code yX3_lays cX3_lays 4 none :: ([.fieldLink RX3 16 "LearnedLedgeModel" "row" "[I", .fieldLink RX3 24 "LearnedLedgeModel" "start" "[I", .fieldLink RX3 41 "LearnedLedgeModel" "leastUp" "J", .fieldLink RX3 45 "LearnedLedgeModel" "leastUnder" "J", .methodLink RX3 54 yX3_behind, .instanceMethod yX3_behind, .selects RX3 yX3_behind yX3_behind, .initialized RX3, .code yX3_behind cX3_behind 2 (some .int), .fieldLink RX3 48 "LearnedLedgeModel" "pieces" "I", .fieldLink RX3 51 "LearnedLedgeModel" "rowMany" "I", .methodLink RX3 58 yX3_fits, .instanceMethod yX3_fits, .selects RX3 yX3_fits yX3_fits, .code yX3_fits cX3_fits 13 (some .boolean), .fieldLink RX3 7 "LearnedLedgeModel" "bound" "I", .methodLink RX3 62 yX3_common, .static yX3_common, .code yX3_common cX3_common 10 (some .long)] ++ wsX30)
def wsX3_placeOf : List Cond := .code yX3_placeOf cX3_placeOf 3 (some .int) :: ([.fieldLink RX3 51 "LearnedLedgeModel" "rowMany" "I", .fieldLink RX3 16 "LearnedLedgeModel" "row" "[I"] ++ wsX30)
def wsX3_isInRow : List Cond := .code yX3_isInRow cX3_isInRow 3 (some .boolean) :: ([.fieldLink RX3 51 "LearnedLedgeModel" "rowMany" "I", .fieldLink RX3 16 "LearnedLedgeModel" "row" "[I", .methodLink RX3 66 yX3_placeOf, .instanceMethod yX3_placeOf, .selects RX3 yX3_placeOf yX3_placeOf, .initialized RX3, .code yX3_placeOf cX3_placeOf 3 (some .int)] ++ wsX30)
def wsX3_isBuffered : List Cond := .code yX3_isBuffered cX3_isBuffered 4 (some .boolean) :: ([.fieldLink RX3 69 "LearnedLedgeModel" "buffered" "I", .fieldLink RX3 27 "LearnedLedgeModel" "buffer" "[I"] ++ wsX30)
def wsX3_isThere : List Cond := .code yX3_isThere cX3_isThere 2 (some .boolean) :: ([.fieldLink RX3 20 "LearnedLedgeModel" "isMarked" "[Z", .methodLink RX3 72 yX3_isBuffered, .instanceMethod yX3_isBuffered, .selects RX3 yX3_isBuffered yX3_isBuffered, .initialized RX3, .code yX3_isBuffered cX3_isBuffered 4 (some .boolean), .fieldLink RX3 69 "LearnedLedgeModel" "buffered" "I", .fieldLink RX3 27 "LearnedLedgeModel" "buffer" "[I", .methodLink RX3 76 yX3_isInRow, .instanceMethod yX3_isInRow, .selects RX3 yX3_isInRow yX3_isInRow, .code yX3_isInRow cX3_isInRow 3 (some .boolean), .fieldLink RX3 51 "LearnedLedgeModel" "rowMany" "I", .fieldLink RX3 16 "LearnedLedgeModel" "row" "[I", .methodLink RX3 66 yX3_placeOf, .instanceMethod yX3_placeOf, .selects RX3 yX3_placeOf yX3_placeOf, .code yX3_placeOf cX3_placeOf 3 (some .int)] ++ wsX30)
def wsX3_pieceOf : List Cond := .code yX3_pieceOf cX3_pieceOf 4 (some .int) :: ([.fieldLink RX3 48 "LearnedLedgeModel" "pieces" "I", .fieldLink RX3 16 "LearnedLedgeModel" "row" "[I", .fieldLink RX3 24 "LearnedLedgeModel" "start" "[I"] ++ wsX30)
def wsX3_many : List Cond := .code yX3_many cX3_many 1 (some .int) :: ([.fieldLink RX3 51 "LearnedLedgeModel" "rowMany" "I", .fieldLink RX3 69 "LearnedLedgeModel" "buffered" "I"] ++ wsX30)
def wsX3_isAbove : List Cond := .code yX3_isAbove cX3_isAbove 3 (some .boolean) :: ([.fieldLink RX3 51 "LearnedLedgeModel" "rowMany" "I", .fieldLink RX3 16 "LearnedLedgeModel" "row" "[I", .fieldLink RX3 69 "LearnedLedgeModel" "buffered" "I", .fieldLink RX3 27 "LearnedLedgeModel" "buffer" "[I"] ++ wsX30)
def wsX3_ends : List Cond := .code yX3_ends cX3_ends 2 none :: ([.fieldLink RX3 16 "LearnedLedgeModel" "row" "[I", .fieldLink RX3 51 "LearnedLedgeModel" "rowMany" "I", .fieldLink RX3 20 "LearnedLedgeModel" "isMarked" "[Z", .fieldLink RX3 48 "LearnedLedgeModel" "pieces" "I", .fieldLink RX3 24 "LearnedLedgeModel" "start" "[I", .methodLink RX3 58 yX3_fits, .instanceMethod yX3_fits, .selects RX3 yX3_fits yX3_fits, .initialized RX3, .code yX3_fits cX3_fits 13 (some .boolean), .fieldLink RX3 41 "LearnedLedgeModel" "leastUp" "J", .fieldLink RX3 45 "LearnedLedgeModel" "leastUnder" "J", .fieldLink RX3 7 "LearnedLedgeModel" "bound" "I"] ++ wsX30)
def wsX3_append_r1 : List Cond := [Cond.fieldLink RX3 36 "LearnedLedgeModel" "thrown" "I", Cond.fieldLink RX3 48 "LearnedLedgeModel" "pieces" "I", Cond.methodLink RX3 79 yX3_isKey, Cond.static yX3_isKey, Cond.initialized RX3, Cond.code yX3_isKey cX3_isKey 1 (some .boolean), Cond.constant RX3 39 (-1000000), Cond.constant RX3 40 (1000000), Cond.methodLink RX3 82 yX3_many, Cond.instanceMethod yX3_many, Cond.selects RX3 yX3_many yX3_many, Cond.code yX3_many cX3_many 1 (some .int), Cond.fieldLink RX3 51 "LearnedLedgeModel" "rowMany" "I", Cond.fieldLink RX3 69 "LearnedLedgeModel" "buffered" "I", Cond.methodLink RX3 86 yX3_isAbove, Cond.instanceMethod yX3_isAbove, Cond.selects RX3 yX3_isAbove yX3_isAbove, Cond.code yX3_isAbove cX3_isAbove 3 (some .boolean), Cond.fieldLink RX3 16 "LearnedLedgeModel" "row" "[I", Cond.fieldLink RX3 27 "LearnedLedgeModel" "buffer" "[I", Cond.methodLink RX3 89 yX3_ends, Cond.instanceMethod yX3_ends, Cond.selects RX3 yX3_ends yX3_ends, Cond.code yX3_ends cX3_ends 2 none]
def wsX3_append_r2 : List Cond := [Cond.fieldLink RX3 20 "LearnedLedgeModel" "isMarked" "[Z", Cond.fieldLink RX3 24 "LearnedLedgeModel" "start" "[I", Cond.methodLink RX3 58 yX3_fits, Cond.instanceMethod yX3_fits, Cond.selects RX3 yX3_fits yX3_fits, Cond.code yX3_fits cX3_fits 13 (some .boolean), Cond.fieldLink RX3 41 "LearnedLedgeModel" "leastUp" "J", Cond.fieldLink RX3 45 "LearnedLedgeModel" "leastUnder" "J", Cond.fieldLink RX3 7 "LearnedLedgeModel" "bound" "I"]
def wsX3_append : List Cond := .code yX3_append cX3_append 2 (some .int) :: ((wsX3_append_r1 ++ wsX3_append_r2) ++ wsX30)
def wsX3_appendMany_r1 : List Cond := [Cond.fieldLink RX3 36 "LearnedLedgeModel" "thrown" "I", Cond.fieldLink RX3 48 "LearnedLedgeModel" "pieces" "I", Cond.methodLink RX3 79 yX3_isKey, Cond.static yX3_isKey, Cond.initialized RX3, Cond.code yX3_isKey cX3_isKey 1 (some .boolean), Cond.constant RX3 39 (-1000000), Cond.constant RX3 40 (1000000), Cond.methodLink RX3 82 yX3_many, Cond.instanceMethod yX3_many, Cond.selects RX3 yX3_many yX3_many, Cond.code yX3_many cX3_many 1 (some .int), Cond.fieldLink RX3 51 "LearnedLedgeModel" "rowMany" "I", Cond.fieldLink RX3 69 "LearnedLedgeModel" "buffered" "I", Cond.methodLink RX3 86 yX3_isAbove, Cond.instanceMethod yX3_isAbove, Cond.selects RX3 yX3_isAbove yX3_isAbove, Cond.code yX3_isAbove cX3_isAbove 3 (some .boolean), Cond.fieldLink RX3 16 "LearnedLedgeModel" "row" "[I", Cond.fieldLink RX3 27 "LearnedLedgeModel" "buffer" "[I", Cond.methodLink RX3 89 yX3_ends, Cond.instanceMethod yX3_ends, Cond.selects RX3 yX3_ends yX3_ends, Cond.code yX3_ends cX3_ends 2 none]
def wsX3_appendMany_r2 : List Cond := [Cond.fieldLink RX3 20 "LearnedLedgeModel" "isMarked" "[Z", Cond.fieldLink RX3 24 "LearnedLedgeModel" "start" "[I", Cond.methodLink RX3 58 yX3_fits, Cond.instanceMethod yX3_fits, Cond.selects RX3 yX3_fits yX3_fits, Cond.code yX3_fits cX3_fits 13 (some .boolean), Cond.fieldLink RX3 41 "LearnedLedgeModel" "leastUp" "J", Cond.fieldLink RX3 45 "LearnedLedgeModel" "leastUnder" "J", Cond.fieldLink RX3 7 "LearnedLedgeModel" "bound" "I"]
def wsX3_appendMany : List Cond := .code yX3_appendMany cX3_appendMany 6 (some .int) :: ((wsX3_appendMany_r1 ++ wsX3_appendMany_r2) ++ wsX30)
def wsX3_makes : List Cond := .code yX3_makes cX3_makes 3 none :: ([.fieldLink RX3 102 "LearnedLedgeModel" "madeMany" "I", .fieldLink RX3 30 "LearnedLedgeModel" "made" "[I"] ++ wsX30)
def wsX3_gathers : List Cond := .code yX3_gathers cX3_gathers 5 (some .boolean) :: ([.fieldLink RX3 24 "LearnedLedgeModel" "start" "[I", .fieldLink RX3 20 "LearnedLedgeModel" "isMarked" "[Z", .fieldLink RX3 16 "LearnedLedgeModel" "row" "[I", .fieldLink RX3 69 "LearnedLedgeModel" "buffered" "I", .fieldLink RX3 27 "LearnedLedgeModel" "buffer" "[I", .methodLink RX3 54 yX3_behind, .instanceMethod yX3_behind, .selects RX3 yX3_behind yX3_behind, .initialized RX3, .code yX3_behind cX3_behind 2 (some .int), .fieldLink RX3 48 "LearnedLedgeModel" "pieces" "I", .fieldLink RX3 51 "LearnedLedgeModel" "rowMany" "I", .methodLink RX3 105 yX3_makes, .instanceMethod yX3_makes, .selects RX3 yX3_makes yX3_makes, .code yX3_makes cX3_makes 3 none, .fieldLink RX3 102 "LearnedLedgeModel" "madeMany" "I", .fieldLink RX3 30 "LearnedLedgeModel" "made" "[I", .methodLink RX3 108 yX3_pieceOf, .instanceMethod yX3_pieceOf, .selects RX3 yX3_pieceOf yX3_pieceOf, .code yX3_pieceOf cX3_pieceOf 4 (some .int)] ++ wsX30)
def wsX3_cuts : List Cond := .code yX3_cuts cX3_cuts 5 (some .int) :: ([.fieldLink RX3 102 "LearnedLedgeModel" "madeMany" "I", .fieldLink RX3 30 "LearnedLedgeModel" "made" "[I", .fieldLink RX3 33 "LearnedLedgeModel" "begun" "[I", .methodLink RX3 58 yX3_fits, .instanceMethod yX3_fits, .selects RX3 yX3_fits yX3_fits, .initialized RX3, .code yX3_fits cX3_fits 13 (some .boolean), .fieldLink RX3 41 "LearnedLedgeModel" "leastUp" "J", .fieldLink RX3 45 "LearnedLedgeModel" "leastUnder" "J", .fieldLink RX3 7 "LearnedLedgeModel" "bound" "I"] ++ wsX30)
def wsX3_becomes : List Cond := .code yX3_becomes cX3_becomes 3 none :: ([.fieldLink RX3 102 "LearnedLedgeModel" "madeMany" "I", .fieldLink RX3 51 "LearnedLedgeModel" "rowMany" "I", .fieldLink RX3 48 "LearnedLedgeModel" "pieces" "I", .fieldLink RX3 69 "LearnedLedgeModel" "buffered" "I", .fieldLink RX3 16 "LearnedLedgeModel" "row" "[I", .fieldLink RX3 30 "LearnedLedgeModel" "made" "[I", .fieldLink RX3 20 "LearnedLedgeModel" "isMarked" "[Z", .fieldLink RX3 24 "LearnedLedgeModel" "start" "[I", .fieldLink RX3 33 "LearnedLedgeModel" "begun" "[I"] ++ wsX30)
def wsX3_joinsPieces : List Cond := .code yX3_joinsPieces cX3_joinsPieces 3 none :: ([.fieldLink RX3 48 "LearnedLedgeModel" "pieces" "I", .fieldLink RX3 16 "LearnedLedgeModel" "row" "[I", .fieldLink RX3 24 "LearnedLedgeModel" "start" "[I", .fieldLink RX3 111 "LearnedLedgeModel" "joins" "I", .methodLink RX3 54 yX3_behind, .instanceMethod yX3_behind, .selects RX3 yX3_behind yX3_behind, .initialized RX3, .code yX3_behind cX3_behind 2 (some .int), .fieldLink RX3 51 "LearnedLedgeModel" "rowMany" "I", .methodLink RX3 58 yX3_fits, .instanceMethod yX3_fits, .selects RX3 yX3_fits yX3_fits, .code yX3_fits cX3_fits 13 (some .boolean), .fieldLink RX3 41 "LearnedLedgeModel" "leastUp" "J", .fieldLink RX3 45 "LearnedLedgeModel" "leastUnder" "J", .fieldLink RX3 7 "LearnedLedgeModel" "bound" "I"] ++ wsX30)
def wsX3_mergesAll_r1 : List Cond := [Cond.fieldLink RX3 102 "LearnedLedgeModel" "madeMany" "I", Cond.fieldLink RX3 48 "LearnedLedgeModel" "pieces" "I", Cond.fieldLink RX3 33 "LearnedLedgeModel" "begun" "[I", Cond.fieldLink RX3 121 "LearnedLedgeModel" "splits" "I", Cond.fieldLink RX3 69 "LearnedLedgeModel" "buffered" "I", Cond.fieldLink RX3 27 "LearnedLedgeModel" "buffer" "[I", Cond.fieldLink RX3 130 "LearnedLedgeModel" "merges" "I", Cond.methodLink RX3 114 yX3_gathers, Cond.instanceMethod yX3_gathers, Cond.selects RX3 yX3_gathers yX3_gathers, Cond.initialized RX3, Cond.code yX3_gathers cX3_gathers 5 (some .boolean), Cond.fieldLink RX3 24 "LearnedLedgeModel" "start" "[I", Cond.fieldLink RX3 20 "LearnedLedgeModel" "isMarked" "[Z", Cond.fieldLink RX3 16 "LearnedLedgeModel" "row" "[I", Cond.methodLink RX3 54 yX3_behind, Cond.instanceMethod yX3_behind, Cond.selects RX3 yX3_behind yX3_behind, Cond.code yX3_behind cX3_behind 2 (some .int), Cond.fieldLink RX3 51 "LearnedLedgeModel" "rowMany" "I", Cond.methodLink RX3 105 yX3_makes, Cond.instanceMethod yX3_makes, Cond.selects RX3 yX3_makes yX3_makes, Cond.code yX3_makes cX3_makes 3 none]
def wsX3_mergesAll_r2 : List Cond := [Cond.fieldLink RX3 30 "LearnedLedgeModel" "made" "[I", Cond.methodLink RX3 108 yX3_pieceOf, Cond.instanceMethod yX3_pieceOf, Cond.selects RX3 yX3_pieceOf yX3_pieceOf, Cond.code yX3_pieceOf cX3_pieceOf 4 (some .int), Cond.methodLink RX3 117 yX3_cuts, Cond.instanceMethod yX3_cuts, Cond.selects RX3 yX3_cuts yX3_cuts, Cond.code yX3_cuts cX3_cuts 5 (some .int), Cond.methodLink RX3 58 yX3_fits, Cond.instanceMethod yX3_fits, Cond.selects RX3 yX3_fits yX3_fits, Cond.code yX3_fits cX3_fits 13 (some .boolean), Cond.fieldLink RX3 41 "LearnedLedgeModel" "leastUp" "J", Cond.fieldLink RX3 45 "LearnedLedgeModel" "leastUnder" "J", Cond.fieldLink RX3 7 "LearnedLedgeModel" "bound" "I", Cond.methodLink RX3 124 yX3_becomes, Cond.instanceMethod yX3_becomes, Cond.selects RX3 yX3_becomes yX3_becomes, Cond.code yX3_becomes cX3_becomes 3 none, Cond.methodLink RX3 127 yX3_joinsPieces, Cond.instanceMethod yX3_joinsPieces, Cond.selects RX3 yX3_joinsPieces yX3_joinsPieces, Cond.code yX3_joinsPieces cX3_joinsPieces 3 none]
def wsX3_mergesAll_r3 : List Cond := [Cond.fieldLink RX3 111 "LearnedLedgeModel" "joins" "I"]
def wsX3_mergesAll : List Cond := .code yX3_mergesAll cX3_mergesAll 6 none :: ((wsX3_mergesAll_r1 ++ (wsX3_mergesAll_r2 ++ wsX3_mergesAll_r3)) ++ wsX30)
def wsX3_insert_r1 : List Cond := [Cond.fieldLink RX3 36 "LearnedLedgeModel" "thrown" "I", Cond.fieldLink RX3 20 "LearnedLedgeModel" "isMarked" "[Z", Cond.fieldLink RX3 69 "LearnedLedgeModel" "buffered" "I", Cond.fieldLink RX3 27 "LearnedLedgeModel" "buffer" "[I", Cond.fieldLink RX3 13 "LearnedLedgeModel" "room" "I", Cond.methodLink RX3 76 yX3_isInRow, Cond.instanceMethod yX3_isInRow, Cond.selects RX3 yX3_isInRow yX3_isInRow, Cond.initialized RX3, Cond.code yX3_isInRow cX3_isInRow 3 (some .boolean), Cond.fieldLink RX3 51 "LearnedLedgeModel" "rowMany" "I", Cond.fieldLink RX3 16 "LearnedLedgeModel" "row" "[I", Cond.methodLink RX3 66 yX3_placeOf, Cond.instanceMethod yX3_placeOf, Cond.selects RX3 yX3_placeOf yX3_placeOf, Cond.code yX3_placeOf cX3_placeOf 3 (some .int), Cond.methodLink RX3 79 yX3_isKey, Cond.static yX3_isKey, Cond.code yX3_isKey cX3_isKey 1 (some .boolean), Cond.constant RX3 39 (-1000000), Cond.constant RX3 40 (1000000), Cond.methodLink RX3 93 yX3_isThere, Cond.instanceMethod yX3_isThere, Cond.selects RX3 yX3_isThere yX3_isThere]
def wsX3_insert_r2 : List Cond := [Cond.code yX3_isThere cX3_isThere 2 (some .boolean), Cond.methodLink RX3 72 yX3_isBuffered, Cond.instanceMethod yX3_isBuffered, Cond.selects RX3 yX3_isBuffered yX3_isBuffered, Cond.code yX3_isBuffered cX3_isBuffered 4 (some .boolean), Cond.methodLink RX3 82 yX3_many, Cond.instanceMethod yX3_many, Cond.selects RX3 yX3_many yX3_many, Cond.code yX3_many cX3_many 1 (some .int), Cond.methodLink RX3 96 yX3_mergesAll, Cond.instanceMethod yX3_mergesAll, Cond.selects RX3 yX3_mergesAll yX3_mergesAll, Cond.code yX3_mergesAll cX3_mergesAll 6 none, Cond.fieldLink RX3 102 "LearnedLedgeModel" "madeMany" "I", Cond.fieldLink RX3 48 "LearnedLedgeModel" "pieces" "I", Cond.fieldLink RX3 33 "LearnedLedgeModel" "begun" "[I", Cond.fieldLink RX3 121 "LearnedLedgeModel" "splits" "I", Cond.fieldLink RX3 130 "LearnedLedgeModel" "merges" "I", Cond.methodLink RX3 114 yX3_gathers, Cond.instanceMethod yX3_gathers, Cond.selects RX3 yX3_gathers yX3_gathers, Cond.code yX3_gathers cX3_gathers 5 (some .boolean), Cond.fieldLink RX3 24 "LearnedLedgeModel" "start" "[I", Cond.methodLink RX3 54 yX3_behind]
def wsX3_insert_r3 : List Cond := [Cond.instanceMethod yX3_behind, Cond.selects RX3 yX3_behind yX3_behind, Cond.code yX3_behind cX3_behind 2 (some .int), Cond.methodLink RX3 105 yX3_makes, Cond.instanceMethod yX3_makes, Cond.selects RX3 yX3_makes yX3_makes, Cond.code yX3_makes cX3_makes 3 none, Cond.fieldLink RX3 30 "LearnedLedgeModel" "made" "[I", Cond.methodLink RX3 108 yX3_pieceOf, Cond.instanceMethod yX3_pieceOf, Cond.selects RX3 yX3_pieceOf yX3_pieceOf, Cond.code yX3_pieceOf cX3_pieceOf 4 (some .int), Cond.methodLink RX3 117 yX3_cuts, Cond.instanceMethod yX3_cuts, Cond.selects RX3 yX3_cuts yX3_cuts, Cond.code yX3_cuts cX3_cuts 5 (some .int), Cond.methodLink RX3 58 yX3_fits, Cond.instanceMethod yX3_fits, Cond.selects RX3 yX3_fits yX3_fits, Cond.code yX3_fits cX3_fits 13 (some .boolean), Cond.fieldLink RX3 41 "LearnedLedgeModel" "leastUp" "J", Cond.fieldLink RX3 45 "LearnedLedgeModel" "leastUnder" "J", Cond.fieldLink RX3 7 "LearnedLedgeModel" "bound" "I", Cond.methodLink RX3 124 yX3_becomes]
def wsX3_insert_r4 : List Cond := [Cond.instanceMethod yX3_becomes, Cond.selects RX3 yX3_becomes yX3_becomes, Cond.code yX3_becomes cX3_becomes 3 none, Cond.methodLink RX3 127 yX3_joinsPieces, Cond.instanceMethod yX3_joinsPieces, Cond.selects RX3 yX3_joinsPieces yX3_joinsPieces, Cond.code yX3_joinsPieces cX3_joinsPieces 3 none, Cond.fieldLink RX3 111 "LearnedLedgeModel" "joins" "I"]
def wsX3_insert : List Cond := .code yX3_insert cX3_insert 4 (some .int) :: ((wsX3_insert_r1 ++ (wsX3_insert_r2 ++ (wsX3_insert_r3 ++ wsX3_insert_r4))) ++ wsX30)
def wsX3_below : List Cond := .code yX3_below cX3_below 5 (some .int) :: ([.fieldLink RX3 51 "LearnedLedgeModel" "rowMany" "I", .fieldLink RX3 20 "LearnedLedgeModel" "isMarked" "[Z", .fieldLink RX3 16 "LearnedLedgeModel" "row" "[I", .fieldLink RX3 69 "LearnedLedgeModel" "buffered" "I", .fieldLink RX3 27 "LearnedLedgeModel" "buffer" "[I"] ++ wsX30)
def wsX3_keys : List Cond := .code yX3_keys cX3_keys 1 (some .int) :: ([.constantLong RX3 133 (1000001), .methodLink RX3 135 yX3_below, .instanceMethod yX3_below, .selects RX3 yX3_below yX3_below, .initialized RX3, .code yX3_below cX3_below 5 (some .int), .fieldLink RX3 51 "LearnedLedgeModel" "rowMany" "I", .fieldLink RX3 20 "LearnedLedgeModel" "isMarked" "[Z", .fieldLink RX3 16 "LearnedLedgeModel" "row" "[I", .fieldLink RX3 69 "LearnedLedgeModel" "buffered" "I", .fieldLink RX3 27 "LearnedLedgeModel" "buffer" "[I"] ++ wsX30)
def wsX3_remove_r1 : List Cond := [Cond.fieldLink RX3 36 "LearnedLedgeModel" "thrown" "I", Cond.fieldLink RX3 20 "LearnedLedgeModel" "isMarked" "[Z", Cond.fieldLink RX3 69 "LearnedLedgeModel" "buffered" "I", Cond.fieldLink RX3 27 "LearnedLedgeModel" "buffer" "[I", Cond.methodLink RX3 93 yX3_isThere, Cond.instanceMethod yX3_isThere, Cond.selects RX3 yX3_isThere yX3_isThere, Cond.initialized RX3, Cond.code yX3_isThere cX3_isThere 2 (some .boolean), Cond.methodLink RX3 72 yX3_isBuffered, Cond.instanceMethod yX3_isBuffered, Cond.selects RX3 yX3_isBuffered yX3_isBuffered, Cond.code yX3_isBuffered cX3_isBuffered 4 (some .boolean), Cond.methodLink RX3 76 yX3_isInRow, Cond.instanceMethod yX3_isInRow, Cond.selects RX3 yX3_isInRow yX3_isInRow, Cond.code yX3_isInRow cX3_isInRow 3 (some .boolean), Cond.fieldLink RX3 51 "LearnedLedgeModel" "rowMany" "I", Cond.fieldLink RX3 16 "LearnedLedgeModel" "row" "[I", Cond.methodLink RX3 66 yX3_placeOf, Cond.instanceMethod yX3_placeOf, Cond.selects RX3 yX3_placeOf yX3_placeOf, Cond.code yX3_placeOf cX3_placeOf 3 (some .int), Cond.methodLink RX3 99 yX3_keys]
def wsX3_remove_r2 : List Cond := [Cond.instanceMethod yX3_keys, Cond.selects RX3 yX3_keys yX3_keys, Cond.code yX3_keys cX3_keys 1 (some .int), Cond.constantLong RX3 133 (1000001), Cond.methodLink RX3 135 yX3_below, Cond.instanceMethod yX3_below, Cond.selects RX3 yX3_below yX3_below, Cond.code yX3_below cX3_below 5 (some .int)]
def wsX3_remove : List Cond := .code yX3_remove cX3_remove 4 (some .int) :: ((wsX3_remove_r1 ++ wsX3_remove_r2) ++ wsX30)
def wsX3_merge_r1 : List Cond := [Cond.fieldLink RX3 36 "LearnedLedgeModel" "thrown" "I", Cond.fieldLink RX3 48 "LearnedLedgeModel" "pieces" "I", Cond.methodLink RX3 96 yX3_mergesAll, Cond.instanceMethod yX3_mergesAll, Cond.selects RX3 yX3_mergesAll yX3_mergesAll, Cond.initialized RX3, Cond.code yX3_mergesAll cX3_mergesAll 6 none, Cond.fieldLink RX3 102 "LearnedLedgeModel" "madeMany" "I", Cond.fieldLink RX3 33 "LearnedLedgeModel" "begun" "[I", Cond.fieldLink RX3 121 "LearnedLedgeModel" "splits" "I", Cond.fieldLink RX3 69 "LearnedLedgeModel" "buffered" "I", Cond.fieldLink RX3 27 "LearnedLedgeModel" "buffer" "[I", Cond.fieldLink RX3 130 "LearnedLedgeModel" "merges" "I", Cond.methodLink RX3 114 yX3_gathers, Cond.instanceMethod yX3_gathers, Cond.selects RX3 yX3_gathers yX3_gathers, Cond.code yX3_gathers cX3_gathers 5 (some .boolean), Cond.fieldLink RX3 24 "LearnedLedgeModel" "start" "[I", Cond.fieldLink RX3 20 "LearnedLedgeModel" "isMarked" "[Z", Cond.fieldLink RX3 16 "LearnedLedgeModel" "row" "[I", Cond.methodLink RX3 54 yX3_behind, Cond.instanceMethod yX3_behind, Cond.selects RX3 yX3_behind yX3_behind, Cond.code yX3_behind cX3_behind 2 (some .int)]
def wsX3_merge_r2 : List Cond := [Cond.fieldLink RX3 51 "LearnedLedgeModel" "rowMany" "I", Cond.methodLink RX3 105 yX3_makes, Cond.instanceMethod yX3_makes, Cond.selects RX3 yX3_makes yX3_makes, Cond.code yX3_makes cX3_makes 3 none, Cond.fieldLink RX3 30 "LearnedLedgeModel" "made" "[I", Cond.methodLink RX3 108 yX3_pieceOf, Cond.instanceMethod yX3_pieceOf, Cond.selects RX3 yX3_pieceOf yX3_pieceOf, Cond.code yX3_pieceOf cX3_pieceOf 4 (some .int), Cond.methodLink RX3 117 yX3_cuts, Cond.instanceMethod yX3_cuts, Cond.selects RX3 yX3_cuts yX3_cuts, Cond.code yX3_cuts cX3_cuts 5 (some .int), Cond.methodLink RX3 58 yX3_fits, Cond.instanceMethod yX3_fits, Cond.selects RX3 yX3_fits yX3_fits, Cond.code yX3_fits cX3_fits 13 (some .boolean), Cond.fieldLink RX3 41 "LearnedLedgeModel" "leastUp" "J", Cond.fieldLink RX3 45 "LearnedLedgeModel" "leastUnder" "J", Cond.fieldLink RX3 7 "LearnedLedgeModel" "bound" "I", Cond.methodLink RX3 124 yX3_becomes, Cond.instanceMethod yX3_becomes, Cond.selects RX3 yX3_becomes yX3_becomes]
def wsX3_merge_r3 : List Cond := [Cond.code yX3_becomes cX3_becomes 3 none, Cond.methodLink RX3 127 yX3_joinsPieces, Cond.instanceMethod yX3_joinsPieces, Cond.selects RX3 yX3_joinsPieces yX3_joinsPieces, Cond.code yX3_joinsPieces cX3_joinsPieces 3 none, Cond.fieldLink RX3 111 "LearnedLedgeModel" "joins" "I"]
def wsX3_merge : List Cond := .code yX3_merge cX3_merge 1 (some .int) :: ((wsX3_merge_r1 ++ (wsX3_merge_r2 ++ wsX3_merge_r3)) ++ wsX30)
def wsX3_rebuild_r1 : List Cond := [Cond.fieldLink RX3 36 "LearnedLedgeModel" "thrown" "I", Cond.fieldLink RX3 7 "LearnedLedgeModel" "bound" "I", Cond.fieldLink RX3 13 "LearnedLedgeModel" "room" "I", Cond.fieldLink RX3 102 "LearnedLedgeModel" "madeMany" "I", Cond.fieldLink RX3 51 "LearnedLedgeModel" "rowMany" "I", Cond.fieldLink RX3 20 "LearnedLedgeModel" "isMarked" "[Z", Cond.fieldLink RX3 16 "LearnedLedgeModel" "row" "[I", Cond.fieldLink RX3 69 "LearnedLedgeModel" "buffered" "I", Cond.fieldLink RX3 27 "LearnedLedgeModel" "buffer" "[I", Cond.fieldLink RX3 48 "LearnedLedgeModel" "pieces" "I", Cond.methodLink RX3 105 yX3_makes, Cond.instanceMethod yX3_makes, Cond.selects RX3 yX3_makes yX3_makes, Cond.initialized RX3, Cond.code yX3_makes cX3_makes 3 none, Cond.fieldLink RX3 30 "LearnedLedgeModel" "made" "[I", Cond.methodLink RX3 117 yX3_cuts, Cond.instanceMethod yX3_cuts, Cond.selects RX3 yX3_cuts yX3_cuts, Cond.code yX3_cuts cX3_cuts 5 (some .int), Cond.fieldLink RX3 33 "LearnedLedgeModel" "begun" "[I", Cond.methodLink RX3 58 yX3_fits, Cond.instanceMethod yX3_fits, Cond.selects RX3 yX3_fits yX3_fits]
def wsX3_rebuild_r2 : List Cond := [Cond.code yX3_fits cX3_fits 13 (some .boolean), Cond.fieldLink RX3 41 "LearnedLedgeModel" "leastUp" "J", Cond.fieldLink RX3 45 "LearnedLedgeModel" "leastUnder" "J", Cond.methodLink RX3 124 yX3_becomes, Cond.instanceMethod yX3_becomes, Cond.selects RX3 yX3_becomes yX3_becomes, Cond.code yX3_becomes cX3_becomes 3 none, Cond.fieldLink RX3 24 "LearnedLedgeModel" "start" "[I"]
def wsX3_rebuild : List Cond := .code yX3_rebuild cX3_rebuild 4 (some .int) :: ((wsX3_rebuild_r1 ++ wsX3_rebuild_r2) ++ wsX30)
def wsX3_size : List Cond := .code yX3_size cX3_size 1 (some .int) :: ([.fieldLink RX3 36 "LearnedLedgeModel" "thrown" "I", .methodLink RX3 99 yX3_keys, .instanceMethod yX3_keys, .selects RX3 yX3_keys yX3_keys, .initialized RX3, .code yX3_keys cX3_keys 1 (some .int), .constantLong RX3 133 (1000001), .methodLink RX3 135 yX3_below, .instanceMethod yX3_below, .selects RX3 yX3_below yX3_below, .code yX3_below cX3_below 5 (some .int), .fieldLink RX3 51 "LearnedLedgeModel" "rowMany" "I", .fieldLink RX3 20 "LearnedLedgeModel" "isMarked" "[Z", .fieldLink RX3 16 "LearnedLedgeModel" "row" "[I", .fieldLink RX3 69 "LearnedLedgeModel" "buffered" "I", .fieldLink RX3 27 "LearnedLedgeModel" "buffer" "[I"] ++ wsX30)
def wsX3_contains : List Cond := .code yX3_contains cX3_contains 2 (some .boolean) :: ([.fieldLink RX3 36 "LearnedLedgeModel" "thrown" "I", .methodLink RX3 93 yX3_isThere, .instanceMethod yX3_isThere, .selects RX3 yX3_isThere yX3_isThere, .initialized RX3, .code yX3_isThere cX3_isThere 2 (some .boolean), .fieldLink RX3 20 "LearnedLedgeModel" "isMarked" "[Z", .methodLink RX3 72 yX3_isBuffered, .instanceMethod yX3_isBuffered, .selects RX3 yX3_isBuffered yX3_isBuffered, .code yX3_isBuffered cX3_isBuffered 4 (some .boolean), .fieldLink RX3 69 "LearnedLedgeModel" "buffered" "I", .fieldLink RX3 27 "LearnedLedgeModel" "buffer" "[I", .methodLink RX3 76 yX3_isInRow, .instanceMethod yX3_isInRow, .selects RX3 yX3_isInRow yX3_isInRow, .code yX3_isInRow cX3_isInRow 3 (some .boolean), .fieldLink RX3 51 "LearnedLedgeModel" "rowMany" "I", .fieldLink RX3 16 "LearnedLedgeModel" "row" "[I", .methodLink RX3 66 yX3_placeOf, .instanceMethod yX3_placeOf, .selects RX3 yX3_placeOf yX3_placeOf, .code yX3_placeOf cX3_placeOf 3 (some .int)] ++ wsX30)
def wsX3_rank : List Cond := .code yX3_rank cX3_rank 2 (some .int) :: ([.fieldLink RX3 36 "LearnedLedgeModel" "thrown" "I", .methodLink RX3 135 yX3_below, .instanceMethod yX3_below, .selects RX3 yX3_below yX3_below, .initialized RX3, .code yX3_below cX3_below 5 (some .int), .fieldLink RX3 51 "LearnedLedgeModel" "rowMany" "I", .fieldLink RX3 20 "LearnedLedgeModel" "isMarked" "[Z", .fieldLink RX3 16 "LearnedLedgeModel" "row" "[I", .fieldLink RX3 69 "LearnedLedgeModel" "buffered" "I", .fieldLink RX3 27 "LearnedLedgeModel" "buffer" "[I"] ++ wsX30)
def wsX3_behindSo : List Cond := .code yX3_behindSo cX3_behindSo 4 (some .int) :: ([.fieldLink RX3 51 "LearnedLedgeModel" "rowMany" "I", .fieldLink RX3 20 "LearnedLedgeModel" "isMarked" "[Z", .fieldLink RX3 16 "LearnedLedgeModel" "row" "[I", .fieldLink RX3 69 "LearnedLedgeModel" "buffered" "I", .fieldLink RX3 27 "LearnedLedgeModel" "buffer" "[I", .methodLink RX3 135 yX3_below, .instanceMethod yX3_below, .selects RX3 yX3_below yX3_below, .initialized RX3, .code yX3_below cX3_below 5 (some .int)] ++ wsX30)
def wsX3_select : List Cond := .code yX3_select cX3_select 2 (some .int) :: ([.fieldLink RX3 36 "LearnedLedgeModel" "thrown" "I", .methodLink RX3 99 yX3_keys, .instanceMethod yX3_keys, .selects RX3 yX3_keys yX3_keys, .initialized RX3, .code yX3_keys cX3_keys 1 (some .int), .constantLong RX3 133 (1000001), .methodLink RX3 135 yX3_below, .instanceMethod yX3_below, .selects RX3 yX3_below yX3_below, .code yX3_below cX3_below 5 (some .int), .fieldLink RX3 51 "LearnedLedgeModel" "rowMany" "I", .fieldLink RX3 20 "LearnedLedgeModel" "isMarked" "[Z", .fieldLink RX3 16 "LearnedLedgeModel" "row" "[I", .fieldLink RX3 69 "LearnedLedgeModel" "buffered" "I", .fieldLink RX3 27 "LearnedLedgeModel" "buffer" "[I", .methodLink RX3 139 yX3_behindSo, .instanceMethod yX3_behindSo, .selects RX3 yX3_behindSo yX3_behindSo, .code yX3_behindSo cX3_behindSo 4 (some .int)] ++ wsX30)
def wsX3_ceiling : List Cond := .code yX3_ceiling cX3_ceiling 3 (some .int) :: ([.fieldLink RX3 36 "LearnedLedgeModel" "thrown" "I", .methodLink RX3 135 yX3_below, .instanceMethod yX3_below, .selects RX3 yX3_below yX3_below, .initialized RX3, .code yX3_below cX3_below 5 (some .int), .fieldLink RX3 51 "LearnedLedgeModel" "rowMany" "I", .fieldLink RX3 20 "LearnedLedgeModel" "isMarked" "[Z", .fieldLink RX3 16 "LearnedLedgeModel" "row" "[I", .fieldLink RX3 69 "LearnedLedgeModel" "buffered" "I", .fieldLink RX3 27 "LearnedLedgeModel" "buffer" "[I", .methodLink RX3 99 yX3_keys, .instanceMethod yX3_keys, .selects RX3 yX3_keys yX3_keys, .code yX3_keys cX3_keys 1 (some .int), .constantLong RX3 133 (1000001), .methodLink RX3 139 yX3_behindSo, .instanceMethod yX3_behindSo, .selects RX3 yX3_behindSo yX3_behindSo, .code yX3_behindSo cX3_behindSo 4 (some .int)] ++ wsX30)
def wsX3_count : List Cond := .code yX3_count cX3_count 3 (some .int) :: ([.fieldLink RX3 36 "LearnedLedgeModel" "thrown" "I", .methodLink RX3 135 yX3_below, .instanceMethod yX3_below, .selects RX3 yX3_below yX3_below, .initialized RX3, .code yX3_below cX3_below 5 (some .int), .fieldLink RX3 51 "LearnedLedgeModel" "rowMany" "I", .fieldLink RX3 20 "LearnedLedgeModel" "isMarked" "[Z", .fieldLink RX3 16 "LearnedLedgeModel" "row" "[I", .fieldLink RX3 69 "LearnedLedgeModel" "buffered" "I", .fieldLink RX3 27 "LearnedLedgeModel" "buffer" "[I"] ++ wsX30)
def wsX3_place : List Cond := .code yX3_place cX3_place 2 (some .int) :: ([.fieldLink RX3 36 "LearnedLedgeModel" "thrown" "I", .methodLink RX3 66 yX3_placeOf, .instanceMethod yX3_placeOf, .selects RX3 yX3_placeOf yX3_placeOf, .initialized RX3, .code yX3_placeOf cX3_placeOf 3 (some .int), .fieldLink RX3 51 "LearnedLedgeModel" "rowMany" "I", .fieldLink RX3 16 "LearnedLedgeModel" "row" "[I"] ++ wsX30)
def wsX3_guessOf : List Cond := .code yX3_guessOf cX3_guessOf 3 (some .long) :: ([.fieldLink RX3 24 "LearnedLedgeModel" "start" "[I", .fieldLink RX3 41 "LearnedLedgeModel" "leastUp" "J", .fieldLink RX3 16 "LearnedLedgeModel" "row" "[I", .fieldLink RX3 45 "LearnedLedgeModel" "leastUnder" "J", .methodLink RX3 142 yX3_lays, .instanceMethod yX3_lays, .selects RX3 yX3_lays yX3_lays, .initialized RX3, .code yX3_lays cX3_lays 4 none, .methodLink RX3 54 yX3_behind, .instanceMethod yX3_behind, .selects RX3 yX3_behind yX3_behind, .code yX3_behind cX3_behind 2 (some .int), .fieldLink RX3 48 "LearnedLedgeModel" "pieces" "I", .fieldLink RX3 51 "LearnedLedgeModel" "rowMany" "I", .methodLink RX3 58 yX3_fits, .instanceMethod yX3_fits, .selects RX3 yX3_fits yX3_fits, .code yX3_fits cX3_fits 13 (some .boolean), .fieldLink RX3 7 "LearnedLedgeModel" "bound" "I", .methodLink RX3 62 yX3_common, .static yX3_common, .code yX3_common cX3_common 10 (some .long)] ++ wsX30)
def wsX3_guess_r1 : List Cond := [Cond.fieldLink RX3 36 "LearnedLedgeModel" "thrown" "I", Cond.constantLong RX3 145 (-1), Cond.methodLink RX3 79 yX3_isKey, Cond.static yX3_isKey, Cond.initialized RX3, Cond.code yX3_isKey cX3_isKey 1 (some .boolean), Cond.constant RX3 39 (-1000000), Cond.constant RX3 40 (1000000), Cond.methodLink RX3 108 yX3_pieceOf, Cond.instanceMethod yX3_pieceOf, Cond.selects RX3 yX3_pieceOf yX3_pieceOf, Cond.code yX3_pieceOf cX3_pieceOf 4 (some .int), Cond.fieldLink RX3 48 "LearnedLedgeModel" "pieces" "I", Cond.fieldLink RX3 16 "LearnedLedgeModel" "row" "[I", Cond.fieldLink RX3 24 "LearnedLedgeModel" "start" "[I", Cond.methodLink RX3 147 yX3_guessOf, Cond.instanceMethod yX3_guessOf, Cond.selects RX3 yX3_guessOf yX3_guessOf, Cond.code yX3_guessOf cX3_guessOf 3 (some .long), Cond.fieldLink RX3 41 "LearnedLedgeModel" "leastUp" "J", Cond.fieldLink RX3 45 "LearnedLedgeModel" "leastUnder" "J", Cond.methodLink RX3 142 yX3_lays, Cond.instanceMethod yX3_lays, Cond.selects RX3 yX3_lays yX3_lays]
def wsX3_guess_r2 : List Cond := [Cond.code yX3_lays cX3_lays 4 none, Cond.methodLink RX3 54 yX3_behind, Cond.instanceMethod yX3_behind, Cond.selects RX3 yX3_behind yX3_behind, Cond.code yX3_behind cX3_behind 2 (some .int), Cond.fieldLink RX3 51 "LearnedLedgeModel" "rowMany" "I", Cond.methodLink RX3 58 yX3_fits, Cond.instanceMethod yX3_fits, Cond.selects RX3 yX3_fits yX3_fits, Cond.code yX3_fits cX3_fits 13 (some .boolean), Cond.fieldLink RX3 7 "LearnedLedgeModel" "bound" "I", Cond.methodLink RX3 62 yX3_common, Cond.static yX3_common, Cond.code yX3_common cX3_common 10 (some .long)]
def wsX3_guess : List Cond := .code yX3_guess cX3_guess 3 (some .long) :: ((wsX3_guess_r1 ++ wsX3_guess_r2) ++ wsX30)
def wsX3_looks_r1 : List Cond := [Cond.fieldLink RX3 36 "LearnedLedgeModel" "thrown" "I", Cond.fieldLink RX3 7 "LearnedLedgeModel" "bound" "I", Cond.fieldLink RX3 24 "LearnedLedgeModel" "start" "[I", Cond.constantLong RX3 151 (2), Cond.fieldLink RX3 16 "LearnedLedgeModel" "row" "[I", Cond.methodLink RX3 79 yX3_isKey, Cond.static yX3_isKey, Cond.initialized RX3, Cond.code yX3_isKey cX3_isKey 1 (some .boolean), Cond.constant RX3 39 (-1000000), Cond.constant RX3 40 (1000000), Cond.methodLink RX3 108 yX3_pieceOf, Cond.instanceMethod yX3_pieceOf, Cond.selects RX3 yX3_pieceOf yX3_pieceOf, Cond.code yX3_pieceOf cX3_pieceOf 4 (some .int), Cond.fieldLink RX3 48 "LearnedLedgeModel" "pieces" "I", Cond.methodLink RX3 147 yX3_guessOf, Cond.instanceMethod yX3_guessOf, Cond.selects RX3 yX3_guessOf yX3_guessOf, Cond.code yX3_guessOf cX3_guessOf 3 (some .long), Cond.fieldLink RX3 41 "LearnedLedgeModel" "leastUp" "J", Cond.fieldLink RX3 45 "LearnedLedgeModel" "leastUnder" "J", Cond.methodLink RX3 142 yX3_lays, Cond.instanceMethod yX3_lays]
def wsX3_looks_r2 : List Cond := [Cond.selects RX3 yX3_lays yX3_lays, Cond.code yX3_lays cX3_lays 4 none, Cond.methodLink RX3 54 yX3_behind, Cond.instanceMethod yX3_behind, Cond.selects RX3 yX3_behind yX3_behind, Cond.code yX3_behind cX3_behind 2 (some .int), Cond.fieldLink RX3 51 "LearnedLedgeModel" "rowMany" "I", Cond.methodLink RX3 58 yX3_fits, Cond.instanceMethod yX3_fits, Cond.selects RX3 yX3_fits yX3_fits, Cond.code yX3_fits cX3_fits 13 (some .boolean), Cond.methodLink RX3 62 yX3_common, Cond.static yX3_common, Cond.code yX3_common cX3_common 10 (some .long)]
def wsX3_looks : List Cond := .code yX3_looks cX3_looks 13 (some .int) :: ((wsX3_looks_r1 ++ wsX3_looks_r2) ++ wsX30)
def wsX3_worstError_r1 : List Cond := [Cond.fieldLink RX3 36 "LearnedLedgeModel" "thrown" "I", Cond.fieldLink RX3 51 "LearnedLedgeModel" "rowMany" "I", Cond.fieldLink RX3 16 "LearnedLedgeModel" "row" "[I", Cond.methodLink RX3 108 yX3_pieceOf, Cond.instanceMethod yX3_pieceOf, Cond.selects RX3 yX3_pieceOf yX3_pieceOf, Cond.initialized RX3, Cond.code yX3_pieceOf cX3_pieceOf 4 (some .int), Cond.fieldLink RX3 48 "LearnedLedgeModel" "pieces" "I", Cond.fieldLink RX3 24 "LearnedLedgeModel" "start" "[I", Cond.methodLink RX3 147 yX3_guessOf, Cond.instanceMethod yX3_guessOf, Cond.selects RX3 yX3_guessOf yX3_guessOf, Cond.code yX3_guessOf cX3_guessOf 3 (some .long), Cond.fieldLink RX3 41 "LearnedLedgeModel" "leastUp" "J", Cond.fieldLink RX3 45 "LearnedLedgeModel" "leastUnder" "J", Cond.methodLink RX3 142 yX3_lays, Cond.instanceMethod yX3_lays, Cond.selects RX3 yX3_lays yX3_lays, Cond.code yX3_lays cX3_lays 4 none, Cond.methodLink RX3 54 yX3_behind, Cond.instanceMethod yX3_behind, Cond.selects RX3 yX3_behind yX3_behind, Cond.code yX3_behind cX3_behind 2 (some .int)]
def wsX3_worstError_r2 : List Cond := [Cond.methodLink RX3 58 yX3_fits, Cond.instanceMethod yX3_fits, Cond.selects RX3 yX3_fits yX3_fits, Cond.code yX3_fits cX3_fits 13 (some .boolean), Cond.fieldLink RX3 7 "LearnedLedgeModel" "bound" "I", Cond.methodLink RX3 62 yX3_common, Cond.static yX3_common, Cond.code yX3_common cX3_common 10 (some .long)]
def wsX3_worstError : List Cond := .code yX3_worstError cX3_worstError 6 (some .int) :: ((wsX3_worstError_r1 ++ wsX3_worstError_r2) ++ wsX30)
def wsX3_pieces : List Cond := .code yX3_pieces cX3_pieces 1 (some .int) :: ([.fieldLink RX3 36 "LearnedLedgeModel" "thrown" "I", .fieldLink RX3 48 "LearnedLedgeModel" "pieces" "I"] ++ wsX30)
def wsX3_asks : List Cond := .code yX3_asks cX3_asks 2 (some .boolean) :: ([.fieldLink RX3 48 "LearnedLedgeModel" "pieces" "I", .fieldLink RX3 36 "LearnedLedgeModel" "thrown" "I"] ++ wsX30)
def wsX3_start : List Cond := .code yX3_start cX3_start 2 (some .int) :: ([.fieldLink RX3 24 "LearnedLedgeModel" "start" "[I", .methodLink RX3 153 yX3_asks, .instanceMethod yX3_asks, .selects RX3 yX3_asks yX3_asks, .initialized RX3, .code yX3_asks cX3_asks 2 (some .boolean), .fieldLink RX3 48 "LearnedLedgeModel" "pieces" "I", .fieldLink RX3 36 "LearnedLedgeModel" "thrown" "I"] ++ wsX30)
def wsX3_firstKey : List Cond := .code yX3_firstKey cX3_firstKey 2 (some .int) :: ([.fieldLink RX3 16 "LearnedLedgeModel" "row" "[I", .fieldLink RX3 24 "LearnedLedgeModel" "start" "[I", .methodLink RX3 153 yX3_asks, .instanceMethod yX3_asks, .selects RX3 yX3_asks yX3_asks, .initialized RX3, .code yX3_asks cX3_asks 2 (some .boolean), .fieldLink RX3 48 "LearnedLedgeModel" "pieces" "I", .fieldLink RX3 36 "LearnedLedgeModel" "thrown" "I"] ++ wsX30)
def wsX3_riseOf : List Cond := .code yX3_riseOf cX3_riseOf 2 (some .int) :: ([.fieldLink RX3 41 "LearnedLedgeModel" "leastUp" "J", .methodLink RX3 142 yX3_lays, .instanceMethod yX3_lays, .selects RX3 yX3_lays yX3_lays, .initialized RX3, .code yX3_lays cX3_lays 4 none, .fieldLink RX3 16 "LearnedLedgeModel" "row" "[I", .fieldLink RX3 24 "LearnedLedgeModel" "start" "[I", .fieldLink RX3 45 "LearnedLedgeModel" "leastUnder" "J", .methodLink RX3 54 yX3_behind, .instanceMethod yX3_behind, .selects RX3 yX3_behind yX3_behind, .code yX3_behind cX3_behind 2 (some .int), .fieldLink RX3 48 "LearnedLedgeModel" "pieces" "I", .fieldLink RX3 51 "LearnedLedgeModel" "rowMany" "I", .methodLink RX3 58 yX3_fits, .instanceMethod yX3_fits, .selects RX3 yX3_fits yX3_fits, .code yX3_fits cX3_fits 13 (some .boolean), .fieldLink RX3 7 "LearnedLedgeModel" "bound" "I", .methodLink RX3 62 yX3_common, .static yX3_common, .code yX3_common cX3_common 10 (some .long)] ++ wsX30)
def wsX3_runOf : List Cond := .code yX3_runOf cX3_runOf 2 (some .int) :: ([.fieldLink RX3 45 "LearnedLedgeModel" "leastUnder" "J", .methodLink RX3 142 yX3_lays, .instanceMethod yX3_lays, .selects RX3 yX3_lays yX3_lays, .initialized RX3, .code yX3_lays cX3_lays 4 none, .fieldLink RX3 16 "LearnedLedgeModel" "row" "[I", .fieldLink RX3 24 "LearnedLedgeModel" "start" "[I", .fieldLink RX3 41 "LearnedLedgeModel" "leastUp" "J", .methodLink RX3 54 yX3_behind, .instanceMethod yX3_behind, .selects RX3 yX3_behind yX3_behind, .code yX3_behind cX3_behind 2 (some .int), .fieldLink RX3 48 "LearnedLedgeModel" "pieces" "I", .fieldLink RX3 51 "LearnedLedgeModel" "rowMany" "I", .methodLink RX3 58 yX3_fits, .instanceMethod yX3_fits, .selects RX3 yX3_fits yX3_fits, .code yX3_fits cX3_fits 13 (some .boolean), .fieldLink RX3 7 "LearnedLedgeModel" "bound" "I", .methodLink RX3 62 yX3_common, .static yX3_common, .code yX3_common cX3_common 10 (some .long)] ++ wsX30)
def wsX3_rise_r1 : List Cond := [Cond.methodLink RX3 153 yX3_asks, Cond.instanceMethod yX3_asks, Cond.selects RX3 yX3_asks yX3_asks, Cond.initialized RX3, Cond.code yX3_asks cX3_asks 2 (some .boolean), Cond.fieldLink RX3 48 "LearnedLedgeModel" "pieces" "I", Cond.fieldLink RX3 36 "LearnedLedgeModel" "thrown" "I", Cond.methodLink RX3 156 yX3_riseOf, Cond.instanceMethod yX3_riseOf, Cond.selects RX3 yX3_riseOf yX3_riseOf, Cond.code yX3_riseOf cX3_riseOf 2 (some .int), Cond.fieldLink RX3 41 "LearnedLedgeModel" "leastUp" "J", Cond.methodLink RX3 142 yX3_lays, Cond.instanceMethod yX3_lays, Cond.selects RX3 yX3_lays yX3_lays, Cond.code yX3_lays cX3_lays 4 none, Cond.fieldLink RX3 16 "LearnedLedgeModel" "row" "[I", Cond.fieldLink RX3 24 "LearnedLedgeModel" "start" "[I", Cond.fieldLink RX3 45 "LearnedLedgeModel" "leastUnder" "J", Cond.methodLink RX3 54 yX3_behind, Cond.instanceMethod yX3_behind, Cond.selects RX3 yX3_behind yX3_behind, Cond.code yX3_behind cX3_behind 2 (some .int), Cond.fieldLink RX3 51 "LearnedLedgeModel" "rowMany" "I"]
def wsX3_rise_r2 : List Cond := [Cond.methodLink RX3 58 yX3_fits, Cond.instanceMethod yX3_fits, Cond.selects RX3 yX3_fits yX3_fits, Cond.code yX3_fits cX3_fits 13 (some .boolean), Cond.fieldLink RX3 7 "LearnedLedgeModel" "bound" "I", Cond.methodLink RX3 62 yX3_common, Cond.static yX3_common, Cond.code yX3_common cX3_common 10 (some .long)]
def wsX3_rise : List Cond := .code yX3_rise cX3_rise 2 (some .int) :: ((wsX3_rise_r1 ++ wsX3_rise_r2) ++ wsX30)
def wsX3_run_r1 : List Cond := [Cond.methodLink RX3 153 yX3_asks, Cond.instanceMethod yX3_asks, Cond.selects RX3 yX3_asks yX3_asks, Cond.initialized RX3, Cond.code yX3_asks cX3_asks 2 (some .boolean), Cond.fieldLink RX3 48 "LearnedLedgeModel" "pieces" "I", Cond.fieldLink RX3 36 "LearnedLedgeModel" "thrown" "I", Cond.methodLink RX3 159 yX3_runOf, Cond.instanceMethod yX3_runOf, Cond.selects RX3 yX3_runOf yX3_runOf, Cond.code yX3_runOf cX3_runOf 2 (some .int), Cond.fieldLink RX3 45 "LearnedLedgeModel" "leastUnder" "J", Cond.methodLink RX3 142 yX3_lays, Cond.instanceMethod yX3_lays, Cond.selects RX3 yX3_lays yX3_lays, Cond.code yX3_lays cX3_lays 4 none, Cond.fieldLink RX3 16 "LearnedLedgeModel" "row" "[I", Cond.fieldLink RX3 24 "LearnedLedgeModel" "start" "[I", Cond.fieldLink RX3 41 "LearnedLedgeModel" "leastUp" "J", Cond.methodLink RX3 54 yX3_behind, Cond.instanceMethod yX3_behind, Cond.selects RX3 yX3_behind yX3_behind, Cond.code yX3_behind cX3_behind 2 (some .int), Cond.fieldLink RX3 51 "LearnedLedgeModel" "rowMany" "I"]
def wsX3_run_r2 : List Cond := [Cond.methodLink RX3 58 yX3_fits, Cond.instanceMethod yX3_fits, Cond.selects RX3 yX3_fits yX3_fits, Cond.code yX3_fits cX3_fits 13 (some .boolean), Cond.fieldLink RX3 7 "LearnedLedgeModel" "bound" "I", Cond.methodLink RX3 62 yX3_common, Cond.static yX3_common, Cond.code yX3_common cX3_common 10 (some .long)]
def wsX3_run : List Cond := .code yX3_run cX3_run 2 (some .int) :: ((wsX3_run_r1 ++ wsX3_run_r2) ++ wsX30)
def wsX3_alike_r1 : List Cond := [Cond.fieldLink RX3 48 "LearnedLedgeModel" "pieces" "I", Cond.methodLink RX3 156 yX3_riseOf, Cond.instanceMethod yX3_riseOf, Cond.selects RX3 yX3_riseOf yX3_riseOf, Cond.initialized RX3, Cond.code yX3_riseOf cX3_riseOf 2 (some .int), Cond.fieldLink RX3 41 "LearnedLedgeModel" "leastUp" "J", Cond.methodLink RX3 142 yX3_lays, Cond.instanceMethod yX3_lays, Cond.selects RX3 yX3_lays yX3_lays, Cond.code yX3_lays cX3_lays 4 none, Cond.fieldLink RX3 16 "LearnedLedgeModel" "row" "[I", Cond.fieldLink RX3 24 "LearnedLedgeModel" "start" "[I", Cond.fieldLink RX3 45 "LearnedLedgeModel" "leastUnder" "J", Cond.methodLink RX3 54 yX3_behind, Cond.instanceMethod yX3_behind, Cond.selects RX3 yX3_behind yX3_behind, Cond.code yX3_behind cX3_behind 2 (some .int), Cond.fieldLink RX3 51 "LearnedLedgeModel" "rowMany" "I", Cond.methodLink RX3 58 yX3_fits, Cond.instanceMethod yX3_fits, Cond.selects RX3 yX3_fits yX3_fits, Cond.code yX3_fits cX3_fits 13 (some .boolean), Cond.fieldLink RX3 7 "LearnedLedgeModel" "bound" "I"]
def wsX3_alike_r2 : List Cond := [Cond.methodLink RX3 62 yX3_common, Cond.static yX3_common, Cond.code yX3_common cX3_common 10 (some .long), Cond.methodLink RX3 159 yX3_runOf, Cond.instanceMethod yX3_runOf, Cond.selects RX3 yX3_runOf yX3_runOf, Cond.code yX3_runOf cX3_runOf 2 (some .int)]
def wsX3_alike : List Cond := .code yX3_alike cX3_alike 7 (some .int) :: ((wsX3_alike_r1 ++ wsX3_alike_r2) ++ wsX30)
def wsX3_slopes_r1 : List Cond := [Cond.fieldLink RX3 36 "LearnedLedgeModel" "thrown" "I", Cond.fieldLink RX3 48 "LearnedLedgeModel" "pieces" "I", Cond.methodLink RX3 162 yX3_alike, Cond.instanceMethod yX3_alike, Cond.selects RX3 yX3_alike yX3_alike, Cond.initialized RX3, Cond.code yX3_alike cX3_alike 7 (some .int), Cond.methodLink RX3 156 yX3_riseOf, Cond.instanceMethod yX3_riseOf, Cond.selects RX3 yX3_riseOf yX3_riseOf, Cond.code yX3_riseOf cX3_riseOf 2 (some .int), Cond.fieldLink RX3 41 "LearnedLedgeModel" "leastUp" "J", Cond.methodLink RX3 142 yX3_lays, Cond.instanceMethod yX3_lays, Cond.selects RX3 yX3_lays yX3_lays, Cond.code yX3_lays cX3_lays 4 none, Cond.fieldLink RX3 16 "LearnedLedgeModel" "row" "[I", Cond.fieldLink RX3 24 "LearnedLedgeModel" "start" "[I", Cond.fieldLink RX3 45 "LearnedLedgeModel" "leastUnder" "J", Cond.methodLink RX3 54 yX3_behind, Cond.instanceMethod yX3_behind, Cond.selects RX3 yX3_behind yX3_behind, Cond.code yX3_behind cX3_behind 2 (some .int), Cond.fieldLink RX3 51 "LearnedLedgeModel" "rowMany" "I"]
def wsX3_slopes_r2 : List Cond := [Cond.methodLink RX3 58 yX3_fits, Cond.instanceMethod yX3_fits, Cond.selects RX3 yX3_fits yX3_fits, Cond.code yX3_fits cX3_fits 13 (some .boolean), Cond.fieldLink RX3 7 "LearnedLedgeModel" "bound" "I", Cond.methodLink RX3 62 yX3_common, Cond.static yX3_common, Cond.code yX3_common cX3_common 10 (some .long), Cond.methodLink RX3 159 yX3_runOf, Cond.instanceMethod yX3_runOf, Cond.selects RX3 yX3_runOf yX3_runOf, Cond.code yX3_runOf cX3_runOf 2 (some .int)]
def wsX3_slopes : List Cond := .code yX3_slopes cX3_slopes 3 (some .int) :: ((wsX3_slopes_r1 ++ wsX3_slopes_r2) ++ wsX30)
def wsX3_commonest_r1 : List Cond := [Cond.fieldLink RX3 36 "LearnedLedgeModel" "thrown" "I", Cond.fieldLink RX3 48 "LearnedLedgeModel" "pieces" "I", Cond.methodLink RX3 162 yX3_alike, Cond.instanceMethod yX3_alike, Cond.selects RX3 yX3_alike yX3_alike, Cond.initialized RX3, Cond.code yX3_alike cX3_alike 7 (some .int), Cond.methodLink RX3 156 yX3_riseOf, Cond.instanceMethod yX3_riseOf, Cond.selects RX3 yX3_riseOf yX3_riseOf, Cond.code yX3_riseOf cX3_riseOf 2 (some .int), Cond.fieldLink RX3 41 "LearnedLedgeModel" "leastUp" "J", Cond.methodLink RX3 142 yX3_lays, Cond.instanceMethod yX3_lays, Cond.selects RX3 yX3_lays yX3_lays, Cond.code yX3_lays cX3_lays 4 none, Cond.fieldLink RX3 16 "LearnedLedgeModel" "row" "[I", Cond.fieldLink RX3 24 "LearnedLedgeModel" "start" "[I", Cond.fieldLink RX3 45 "LearnedLedgeModel" "leastUnder" "J", Cond.methodLink RX3 54 yX3_behind, Cond.instanceMethod yX3_behind, Cond.selects RX3 yX3_behind yX3_behind, Cond.code yX3_behind cX3_behind 2 (some .int), Cond.fieldLink RX3 51 "LearnedLedgeModel" "rowMany" "I"]
def wsX3_commonest_r2 : List Cond := [Cond.methodLink RX3 58 yX3_fits, Cond.instanceMethod yX3_fits, Cond.selects RX3 yX3_fits yX3_fits, Cond.code yX3_fits cX3_fits 13 (some .boolean), Cond.fieldLink RX3 7 "LearnedLedgeModel" "bound" "I", Cond.methodLink RX3 62 yX3_common, Cond.static yX3_common, Cond.code yX3_common cX3_common 10 (some .long), Cond.methodLink RX3 159 yX3_runOf, Cond.instanceMethod yX3_runOf, Cond.selects RX3 yX3_runOf yX3_runOf, Cond.code yX3_runOf cX3_runOf 2 (some .int)]
def wsX3_commonest : List Cond := .code yX3_commonest cX3_commonest 5 (some .int) :: ((wsX3_commonest_r1 ++ wsX3_commonest_r2) ++ wsX30)
def wsX3_buffered : List Cond := .code yX3_buffered cX3_buffered 1 (some .int) :: ([.fieldLink RX3 36 "LearnedLedgeModel" "thrown" "I", .fieldLink RX3 69 "LearnedLedgeModel" "buffered" "I"] ++ wsX30)
def wsX3_marked : List Cond := .code yX3_marked cX3_marked 3 (some .int) :: ([.fieldLink RX3 36 "LearnedLedgeModel" "thrown" "I", .fieldLink RX3 51 "LearnedLedgeModel" "rowMany" "I", .fieldLink RX3 20 "LearnedLedgeModel" "isMarked" "[Z"] ++ wsX30)
def wsX3_rowSize : List Cond := .code yX3_rowSize cX3_rowSize 1 (some .int) :: ([.fieldLink RX3 36 "LearnedLedgeModel" "thrown" "I", .fieldLink RX3 51 "LearnedLedgeModel" "rowMany" "I"] ++ wsX30)
def wsX3_merges : List Cond := .code yX3_merges cX3_merges 1 (some .int) :: ([.fieldLink RX3 36 "LearnedLedgeModel" "thrown" "I", .fieldLink RX3 130 "LearnedLedgeModel" "merges" "I"] ++ wsX30)
def wsX3_splits : List Cond := .code yX3_splits cX3_splits 1 (some .int) :: ([.fieldLink RX3 36 "LearnedLedgeModel" "thrown" "I", .fieldLink RX3 121 "LearnedLedgeModel" "splits" "I"] ++ wsX30)
def wsX3_joins : List Cond := .code yX3_joins cX3_joins 1 (some .int) :: ([.fieldLink RX3 36 "LearnedLedgeModel" "thrown" "I", .fieldLink RX3 111 "LearnedLedgeModel" "joins" "I"] ++ wsX30)
def wsJ9_abs_067f4 : List Cond := .code yJ9_abs_067f4 cJ9_abs_067f4 2 (some .long) :: ([])
def wsJ9_max_7cf53 : List Cond := .code yJ9_max_7cf53 cJ9_max_7cf53 2 (some .int) :: ([])
def wsJ9_max_f86c9 : List Cond := .code yJ9_max_f86c9 cJ9_max_f86c9 4 (some .long) :: ([])
def wsJ9_min_f86c9 : List Cond := .code yJ9_min_f86c9 cJ9_min_f86c9 4 (some .long) :: ([])
def wsL_append_r1 : List Cond := [Cond.classLink RL 13 "java/lang/IllegalArgumentException", Cond.classLink RL 15 "java/lang/IllegalStateException", Cond.methodLink RL 7 yX2_append, Cond.instanceMethod yX2_append, Cond.selects RX2 yX2_append yX2_append, Cond.initialized RX2, Cond.code yX2_append cX2_append 2 (some .int), Cond.fieldLink RX2 24 "LearnedLedge" "starts" "LLearnedLedge$Numbers;", Cond.methodLink RX2 65 yX2_needKey, Cond.static yX2_needKey, Cond.code yX2_needKey cX2_needKey 2 none, Cond.classLink RX2 80 "java/lang/IllegalArgumentException", Cond.initialized "java/lang/IllegalArgumentException", Cond.constantLong RX2 186 (-1000000), Cond.constantLong RX2 188 (1000000), Cond.methodLink RX2 69 yX2_needToFollow, Cond.instanceMethod yX2_needToFollow, Cond.selects RX2 yX2_needToFollow yX2_needToFollow, Cond.code yX2_needToFollow cX2_needToFollow 4 none, Cond.classLink RX2 98 "java/lang/IllegalStateException", Cond.initialized "java/lang/IllegalStateException", Cond.fieldLink RX2 14 "LearnedLedge" "keys" "LLearnedLedge$Numbers;", Cond.fieldLink RX2 21 "LearnedLedge" "buffer" "LLearnedLedge$Numbers;", Cond.methodLink RX2 114 yX0_below]
def wsL_append_r2 : List Cond := [Cond.instanceMethod yX0_below, Cond.selects RX0 yX0_below yX0_below, Cond.initialized RX0, Cond.code yX0_below cX0_below 6 (some .int), Cond.fieldLink RX0 21 "LearnedLedge$Numbers" "length" "I", Cond.methodLink RX0 33 yX0_at, Cond.instanceMethod yX0_at, Cond.selects RX0 yX0_at yX0_at, Cond.code yX0_at cX0_at 2 (some .int), Cond.fieldLink RX0 15 "LearnedLedge$Numbers" "items" "[I", Cond.methodLink RX0 25 yX0_has, Cond.instanceMethod yX0_has, Cond.selects RX0 yX0_has yX0_has, Cond.code yX0_has cX0_has 2 (some .boolean), Cond.methodLink RX2 76 yX0_length, Cond.instanceMethod yX0_length, Cond.selects RX0 yX0_length yX0_length, Cond.code yX0_length cX0_length 1 (some .int), Cond.methodLink RX2 95 yX2_allKeys, Cond.instanceMethod yX2_allKeys, Cond.selects RX2 yX2_allKeys yX2_allKeys, Cond.code yX2_allKeys cX2_allKeys 1 (some .int), Cond.methodLink RX2 73 yX2_addLast, Cond.instanceMethod yX2_addLast]
def wsL_append_r3 : List Cond := [Cond.selects RX2 yX2_addLast yX2_addLast, Cond.code yX2_addLast cX2_addLast 3 none, Cond.fieldLink RX2 18 "LearnedLedge" "marks" "LLearnedLedge$Numbers;", Cond.fieldLink RX2 36 "LearnedLedge" "tail" "LLearnedLedge$SlopeRange;", Cond.methodLink RX2 199 yX0_push, Cond.instanceMethod yX0_push, Cond.selects RX0 yX0_push yX0_push, Cond.code yX0_push cX0_push 2 none, Cond.methodLink RX2 202 yX1_take, Cond.instanceMethod yX1_take, Cond.selects RX1 yX1_take yX1_take, Cond.initialized RX1, Cond.code yX1_take cX1_take 11 (some .boolean), Cond.fieldLink RX1 24 "LearnedLedge$SlopeRange" "originKey" "I", Cond.fieldLink RX1 28 "LearnedLedge$SlopeRange" "originPlace" "I", Cond.fieldLink RX1 31 "LearnedLedge$SlopeRange" "error" "I", Cond.constantLong RX1 34 (2), Cond.fieldLink RX1 15 "LearnedLedge$SlopeRange" "leastRun" "J", Cond.fieldLink RX1 9 "LearnedLedge$SlopeRange" "leastRise" "J", Cond.fieldLink RX1 21 "LearnedLedge$SlopeRange" "mostRun" "J", Cond.fieldLink RX1 18 "LearnedLedge$SlopeRange" "mostRise" "J", Cond.methodLink RX2 206 yX2_noteTailSlope, Cond.instanceMethod yX2_noteTailSlope, Cond.selects RX2 yX2_noteTailSlope yX2_noteTailSlope]
def wsL_append_r4 : List Cond := [Cond.code yX2_noteTailSlope cX2_noteTailSlope 2 none, Cond.fieldLink RX2 27 "LearnedLedge" "rises" "LLearnedLedge$Numbers;", Cond.fieldLink RX2 30 "LearnedLedge" "runs" "LLearnedLedge$Numbers;", Cond.methodLink RX2 225 yX1_leastRise, Cond.instanceMethod yX1_leastRise, Cond.selects RX1 yX1_leastRise yX1_leastRise, Cond.code yX1_leastRise cX1_leastRise 1 (some .int), Cond.methodLink RX1 36 yX1_divisor, Cond.instanceMethod yX1_divisor, Cond.selects RX1 yX1_divisor yX1_divisor, Cond.code yX1_divisor cX1_divisor 8 (some .long), Cond.methodLink RX2 106 yX0_put, Cond.instanceMethod yX0_put, Cond.selects RX0 yX0_put yX0_put, Cond.code yX0_put cX0_put 3 none, Cond.methodLink RX2 228 yX1_leastRun, Cond.instanceMethod yX1_leastRun, Cond.selects RX1 yX1_leastRun yX1_leastRun, Cond.code yX1_leastRun cX1_leastRun 1 (some .int), Cond.methodLink RX2 209 yX2_beginPiece, Cond.instanceMethod yX2_beginPiece, Cond.selects RX2 yX2_beginPiece yX2_beginPiece, Cond.code yX2_beginPiece cX2_beginPiece 3 none, Cond.fieldLink RX2 46 "LearnedLedge" "bound" "I"]
def wsL_append_r5 : List Cond := [Cond.methodLink RX2 221 yX1_begin, Cond.instanceMethod yX1_begin, Cond.selects RX1 yX1_begin yX1_begin, Cond.code yX1_begin cX1_begin 4 none]
def wsL_append : List Cond := .codeWith yL_append cL_append 4 (some .int) [(0, 9, 12, 13), (0, 9, 15, 15)] :: ((wsL_append_r1 ++ (wsL_append_r2 ++ (wsL_append_r3 ++ (wsL_append_r4 ++ wsL_append_r5)))) ++ wsX20 ++ wsX00 ++ wsX10 ++ (vx_atS RX2 84 "java/lang/IllegalArgumentException" ["java/lang/RuntimeException", "java/lang/Exception"]).filter goodWord ++ (vx_atS RX2 102 "java/lang/IllegalStateException" ["java/lang/RuntimeException", "java/lang/Exception"]).filter goodWord)
def wsL_appendMany_r1 : List Cond := [Cond.classLink RL 13 "java/lang/IllegalArgumentException", Cond.classLink RL 15 "java/lang/IllegalStateException", Cond.methodLink RL 17 yX2_appendMany, Cond.instanceMethod yX2_appendMany, Cond.selects RX2 yX2_appendMany yX2_appendMany, Cond.initialized RX2, Cond.code yX2_appendMany cX2_appendMany 7 (some .int), Cond.classLink RX2 80 "java/lang/IllegalArgumentException", Cond.initialized "java/lang/IllegalArgumentException", Cond.fieldLink RX2 24 "LearnedLedge" "starts" "LLearnedLedge$Numbers;", Cond.methodLink RX2 65 yX2_needKey, Cond.static yX2_needKey, Cond.code yX2_needKey cX2_needKey 2 none, Cond.constantLong RX2 186 (-1000000), Cond.constantLong RX2 188 (1000000), Cond.methodLink RX2 69 yX2_needToFollow, Cond.instanceMethod yX2_needToFollow, Cond.selects RX2 yX2_needToFollow yX2_needToFollow, Cond.code yX2_needToFollow cX2_needToFollow 4 none, Cond.classLink RX2 98 "java/lang/IllegalStateException", Cond.initialized "java/lang/IllegalStateException", Cond.fieldLink RX2 14 "LearnedLedge" "keys" "LLearnedLedge$Numbers;", Cond.fieldLink RX2 21 "LearnedLedge" "buffer" "LLearnedLedge$Numbers;", Cond.methodLink RX2 114 yX0_below]
def wsL_appendMany_r2 : List Cond := [Cond.instanceMethod yX0_below, Cond.selects RX0 yX0_below yX0_below, Cond.initialized RX0, Cond.code yX0_below cX0_below 6 (some .int), Cond.fieldLink RX0 21 "LearnedLedge$Numbers" "length" "I", Cond.methodLink RX0 33 yX0_at, Cond.instanceMethod yX0_at, Cond.selects RX0 yX0_at yX0_at, Cond.code yX0_at cX0_at 2 (some .int), Cond.fieldLink RX0 15 "LearnedLedge$Numbers" "items" "[I", Cond.methodLink RX0 25 yX0_has, Cond.instanceMethod yX0_has, Cond.selects RX0 yX0_has yX0_has, Cond.code yX0_has cX0_has 2 (some .boolean), Cond.methodLink RX2 76 yX0_length, Cond.instanceMethod yX0_length, Cond.selects RX0 yX0_length yX0_length, Cond.code yX0_length cX0_length 1 (some .int), Cond.methodLink RX2 95 yX2_allKeys, Cond.instanceMethod yX2_allKeys, Cond.selects RX2 yX2_allKeys yX2_allKeys, Cond.code yX2_allKeys cX2_allKeys 1 (some .int), Cond.methodLink RX2 73 yX2_addLast, Cond.instanceMethod yX2_addLast]
def wsL_appendMany_r3 : List Cond := [Cond.selects RX2 yX2_addLast yX2_addLast, Cond.code yX2_addLast cX2_addLast 3 none, Cond.fieldLink RX2 18 "LearnedLedge" "marks" "LLearnedLedge$Numbers;", Cond.fieldLink RX2 36 "LearnedLedge" "tail" "LLearnedLedge$SlopeRange;", Cond.methodLink RX2 199 yX0_push, Cond.instanceMethod yX0_push, Cond.selects RX0 yX0_push yX0_push, Cond.code yX0_push cX0_push 2 none, Cond.methodLink RX2 202 yX1_take, Cond.instanceMethod yX1_take, Cond.selects RX1 yX1_take yX1_take, Cond.initialized RX1, Cond.code yX1_take cX1_take 11 (some .boolean), Cond.fieldLink RX1 24 "LearnedLedge$SlopeRange" "originKey" "I", Cond.fieldLink RX1 28 "LearnedLedge$SlopeRange" "originPlace" "I", Cond.fieldLink RX1 31 "LearnedLedge$SlopeRange" "error" "I", Cond.constantLong RX1 34 (2), Cond.fieldLink RX1 15 "LearnedLedge$SlopeRange" "leastRun" "J", Cond.fieldLink RX1 9 "LearnedLedge$SlopeRange" "leastRise" "J", Cond.fieldLink RX1 21 "LearnedLedge$SlopeRange" "mostRun" "J", Cond.fieldLink RX1 18 "LearnedLedge$SlopeRange" "mostRise" "J", Cond.methodLink RX2 206 yX2_noteTailSlope, Cond.instanceMethod yX2_noteTailSlope, Cond.selects RX2 yX2_noteTailSlope yX2_noteTailSlope]
def wsL_appendMany_r4 : List Cond := [Cond.code yX2_noteTailSlope cX2_noteTailSlope 2 none, Cond.fieldLink RX2 27 "LearnedLedge" "rises" "LLearnedLedge$Numbers;", Cond.fieldLink RX2 30 "LearnedLedge" "runs" "LLearnedLedge$Numbers;", Cond.methodLink RX2 225 yX1_leastRise, Cond.instanceMethod yX1_leastRise, Cond.selects RX1 yX1_leastRise yX1_leastRise, Cond.code yX1_leastRise cX1_leastRise 1 (some .int), Cond.methodLink RX1 36 yX1_divisor, Cond.instanceMethod yX1_divisor, Cond.selects RX1 yX1_divisor yX1_divisor, Cond.code yX1_divisor cX1_divisor 8 (some .long), Cond.methodLink RX2 106 yX0_put, Cond.instanceMethod yX0_put, Cond.selects RX0 yX0_put yX0_put, Cond.code yX0_put cX0_put 3 none, Cond.methodLink RX2 228 yX1_leastRun, Cond.instanceMethod yX1_leastRun, Cond.selects RX1 yX1_leastRun yX1_leastRun, Cond.code yX1_leastRun cX1_leastRun 1 (some .int), Cond.methodLink RX2 209 yX2_beginPiece, Cond.instanceMethod yX2_beginPiece, Cond.selects RX2 yX2_beginPiece yX2_beginPiece, Cond.code yX2_beginPiece cX2_beginPiece 3 none, Cond.fieldLink RX2 46 "LearnedLedge" "bound" "I"]
def wsL_appendMany_r5 : List Cond := [Cond.methodLink RX2 221 yX1_begin, Cond.instanceMethod yX1_begin, Cond.selects RX1 yX1_begin yX1_begin, Cond.code yX1_begin cX1_begin 4 none]
def wsL_appendMany : List Cond := .codeWith yL_appendMany cL_appendMany 6 (some .int) [(0, 12, 15, 13), (0, 12, 19, 15)] :: ((wsL_appendMany_r1 ++ (wsL_appendMany_r2 ++ (wsL_appendMany_r3 ++ (wsL_appendMany_r4 ++ wsL_appendMany_r5)))) ++ wsX20 ++ wsX00 ++ wsX10 ++ (vx_atS RX2 84 "java/lang/IllegalArgumentException" ["java/lang/RuntimeException", "java/lang/Exception"]).filter goodWord ++ (vx_atS RX2 102 "java/lang/IllegalStateException" ["java/lang/RuntimeException", "java/lang/Exception"]).filter goodWord)
def wsL_insert_r1 : List Cond := [Cond.classLink RL 13 "java/lang/IllegalArgumentException", Cond.classLink RL 15 "java/lang/IllegalStateException", Cond.methodLink RL 21 yX2_insert, Cond.instanceMethod yX2_insert, Cond.selects RX2 yX2_insert yX2_insert, Cond.initialized RX2, Cond.code yX2_insert cX2_insert 3 (some .int), Cond.classLink RX2 98 "java/lang/IllegalStateException", Cond.initialized "java/lang/IllegalStateException", Cond.fieldLink RX2 14 "LearnedLedge" "keys" "LLearnedLedge$Numbers;", Cond.fieldLink RX2 18 "LearnedLedge" "marks" "LLearnedLedge$Numbers;", Cond.fieldLink RX2 53 "LearnedLedge" "markCount" "I", Cond.fieldLink RX2 21 "LearnedLedge" "buffer" "LLearnedLedge$Numbers;", Cond.methodLink RX2 65 yX2_needKey, Cond.static yX2_needKey, Cond.code yX2_needKey cX2_needKey 2 none, Cond.classLink RX2 80 "java/lang/IllegalArgumentException", Cond.initialized "java/lang/IllegalArgumentException", Cond.constantLong RX2 186 (-1000000), Cond.constantLong RX2 188 (1000000), Cond.methodLink RX2 87 yX0_indexOf, Cond.instanceMethod yX0_indexOf, Cond.selects RX0 yX0_indexOf yX0_indexOf, Cond.initialized RX0]
def wsL_insert_r2 : List Cond := [Cond.code yX0_indexOf cX0_indexOf 3 (some .int), Cond.fieldLink RX0 15 "LearnedLedge$Numbers" "items" "[I", Cond.methodLink RX0 41 yX0_below, Cond.instanceMethod yX0_below, Cond.selects RX0 yX0_below yX0_below, Cond.code yX0_below cX0_below 6 (some .int), Cond.fieldLink RX0 21 "LearnedLedge$Numbers" "length" "I", Cond.methodLink RX0 33 yX0_at, Cond.instanceMethod yX0_at, Cond.selects RX0 yX0_at yX0_at, Cond.code yX0_at cX0_at 2 (some .int), Cond.methodLink RX0 25 yX0_has, Cond.instanceMethod yX0_has, Cond.selects RX0 yX0_has yX0_has, Cond.code yX0_has cX0_has 2 (some .boolean), Cond.methodLink RX2 91 yX2_isThere, Cond.instanceMethod yX2_isThere, Cond.selects RX2 yX2_isThere yX2_isThere, Cond.code yX2_isThere cX2_isThere 3 (some .boolean), Cond.methodLink RX2 134 yX0_at, Cond.methodLink RX2 95 yX2_allKeys, Cond.instanceMethod yX2_allKeys, Cond.selects RX2 yX2_allKeys yX2_allKeys, Cond.code yX2_allKeys cX2_allKeys 1 (some .int)]
def wsL_insert_r3 : List Cond := [Cond.methodLink RX2 76 yX0_length, Cond.instanceMethod yX0_length, Cond.selects RX0 yX0_length yX0_length, Cond.code yX0_length cX0_length 1 (some .int), Cond.methodLink RX2 103 yX2_addLate, Cond.instanceMethod yX2_addLate, Cond.selects RX2 yX2_addLate yX2_addLate, Cond.code yX2_addLate cX2_addLate 2 none, Cond.fieldLink RX2 50 "LearnedLedge" "room" "I", Cond.methodLink RX2 114 yX0_below, Cond.methodLink RX2 212 yX0_squeezeIn, Cond.instanceMethod yX0_squeezeIn, Cond.selects RX0 yX0_squeezeIn yX0_squeezeIn, Cond.code yX0_squeezeIn cX0_squeezeIn 4 none, Cond.methodLink RX0 29 yX0_push, Cond.instanceMethod yX0_push, Cond.selects RX0 yX0_push yX0_push, Cond.code yX0_push cX0_push 2 none, Cond.methodLink RX0 37 yX0_put, Cond.instanceMethod yX0_put, Cond.selects RX0 yX0_put yX0_put, Cond.code yX0_put cX0_put 3 none, Cond.methodLink RX2 123 yX2_mergeAll, Cond.instanceMethod yX2_mergeAll]
def wsL_insert_r4 : List Cond := [Cond.selects RX2 yX2_mergeAll yX2_mergeAll, Cond.code yX2_mergeAll cX2_mergeAll 2 none, Cond.fieldLink RX2 40 "LearnedLedge" "freshKeys" "LLearnedLedge$Numbers;", Cond.fieldLink RX2 43 "LearnedLedge" "freshStarts" "LLearnedLedge$Numbers;", Cond.fieldLink RX2 24 "LearnedLedge" "starts" "LLearnedLedge$Numbers;", Cond.fieldLink RX2 56 "LearnedLedge" "mergeCount" "I", Cond.methodLink RX2 215 yX0_clear, Cond.instanceMethod yX0_clear, Cond.selects RX0 yX0_clear yX0_clear, Cond.code yX0_clear cX0_clear 1 none, Cond.methodLink RX2 242 yX2_gather, Cond.instanceMethod yX2_gather, Cond.selects RX2 yX2_gather yX2_gather, Cond.code yX2_gather cX2_gather 9 (some .boolean), Cond.methodLink RX2 199 yX0_push, Cond.methodLink RX2 246 yX2_cutFresh, Cond.instanceMethod yX2_cutFresh, Cond.selects RX2 yX2_cutFresh yX2_cutFresh, Cond.code yX2_cutFresh cX2_cutFresh 4 none, Cond.fieldLink RX2 36 "LearnedLedge" "tail" "LLearnedLedge$SlopeRange;", Cond.fieldLink RX2 46 "LearnedLedge" "bound" "I", Cond.fieldLink RX2 59 "LearnedLedge" "splitCount" "I", Cond.methodLink RX2 202 yX1_take, Cond.instanceMethod yX1_take]
def wsL_insert_r5 : List Cond := [Cond.selects RX1 yX1_take yX1_take, Cond.initialized RX1, Cond.code yX1_take cX1_take 11 (some .boolean), Cond.fieldLink RX1 24 "LearnedLedge$SlopeRange" "originKey" "I", Cond.fieldLink RX1 28 "LearnedLedge$SlopeRange" "originPlace" "I", Cond.fieldLink RX1 31 "LearnedLedge$SlopeRange" "error" "I", Cond.constantLong RX1 34 (2), Cond.fieldLink RX1 15 "LearnedLedge$SlopeRange" "leastRun" "J", Cond.fieldLink RX1 9 "LearnedLedge$SlopeRange" "leastRise" "J", Cond.fieldLink RX1 21 "LearnedLedge$SlopeRange" "mostRun" "J", Cond.fieldLink RX1 18 "LearnedLedge$SlopeRange" "mostRise" "J", Cond.methodLink RX2 221 yX1_begin, Cond.instanceMethod yX1_begin, Cond.selects RX1 yX1_begin yX1_begin, Cond.code yX1_begin cX1_begin 4 none, Cond.methodLink RX2 249 yX2_mergePiece, Cond.instanceMethod yX2_mergePiece, Cond.selects RX2 yX2_mergePiece yX2_mergePiece, Cond.code yX2_mergePiece cX2_mergePiece 6 none, Cond.methodLink RX2 177 yX2_firstOf, Cond.instanceMethod yX2_firstOf, Cond.selects RX2 yX2_firstOf yX2_firstOf, Cond.code yX2_firstOf cX2_firstOf 2 (some .int), Cond.methodLink RX2 192 yX0_has]
def wsL_insert_r6 : List Cond := [Cond.methodLink RX2 161 yX2_endOf, Cond.instanceMethod yX2_endOf, Cond.selects RX2 yX2_endOf yX2_endOf, Cond.code yX2_endOf cX2_endOf 2 (some .int), Cond.methodLink RX2 131 yX2_clearRow, Cond.instanceMethod yX2_clearRow, Cond.selects RX2 yX2_clearRow yX2_clearRow, Cond.code yX2_clearRow cX2_clearRow 1 none, Cond.methodLink RX2 218 yX2_clearPieces, Cond.instanceMethod yX2_clearPieces, Cond.selects RX2 yX2_clearPieces yX2_clearPieces, Cond.code yX2_clearPieces cX2_clearPieces 1 none, Cond.fieldLink RX2 27 "LearnedLedge" "rises" "LLearnedLedge$Numbers;", Cond.fieldLink RX2 30 "LearnedLedge" "runs" "LLearnedLedge$Numbers;", Cond.methodLink RX2 252 yX2_joinFresh, Cond.instanceMethod yX2_joinFresh, Cond.selects RX2 yX2_joinFresh yX2_joinFresh, Cond.code yX2_joinFresh cX2_joinFresh 4 none, Cond.fieldLink RX2 62 "LearnedLedge" "joinCount" "I", Cond.methodLink RX2 255 yX2_tailTakes, Cond.instanceMethod yX2_tailTakes, Cond.selects RX2 yX2_tailTakes yX2_tailTakes, Cond.code yX2_tailTakes cX2_tailTakes 4 (some .boolean), Cond.methodLink RX2 209 yX2_beginPiece]
def wsL_insert_r7 : List Cond := [Cond.instanceMethod yX2_beginPiece, Cond.selects RX2 yX2_beginPiece yX2_beginPiece, Cond.code yX2_beginPiece cX2_beginPiece 3 none, Cond.methodLink RX2 225 yX1_leastRise, Cond.instanceMethod yX1_leastRise, Cond.selects RX1 yX1_leastRise yX1_leastRise, Cond.code yX1_leastRise cX1_leastRise 1 (some .int), Cond.methodLink RX1 36 yX1_divisor, Cond.instanceMethod yX1_divisor, Cond.selects RX1 yX1_divisor yX1_divisor, Cond.code yX1_divisor cX1_divisor 8 (some .long), Cond.methodLink RX2 228 yX1_leastRun, Cond.instanceMethod yX1_leastRun, Cond.selects RX1 yX1_leastRun yX1_leastRun, Cond.code yX1_leastRun cX1_leastRun 1 (some .int), Cond.methodLink RX2 206 yX2_noteTailSlope, Cond.instanceMethod yX2_noteTailSlope, Cond.selects RX2 yX2_noteTailSlope yX2_noteTailSlope, Cond.code yX2_noteTailSlope cX2_noteTailSlope 2 none, Cond.methodLink RX2 106 yX0_put]
def wsL_insert : List Cond := .codeWith yL_insert cL_insert 4 (some .int) [(0, 9, 12, 13), (0, 9, 15, 15)] :: ((wsL_insert_r1 ++ (wsL_insert_r2 ++ (wsL_insert_r3 ++ (wsL_insert_r4 ++ (wsL_insert_r5 ++ (wsL_insert_r6 ++ wsL_insert_r7)))))) ++ wsX20 ++ wsX00 ++ wsX10 ++ (vx_atS RX2 102 "java/lang/IllegalStateException" ["java/lang/RuntimeException", "java/lang/Exception"]).filter goodWord ++ (vx_atS RX2 84 "java/lang/IllegalArgumentException" ["java/lang/RuntimeException", "java/lang/Exception"]).filter goodWord)
def wsL_remove_r1 : List Cond := [Cond.classLink RL 27 "java/util/NoSuchElementException", Cond.methodLink RL 24 yX2_remove, Cond.instanceMethod yX2_remove, Cond.selects RX2 yX2_remove yX2_remove, Cond.initialized RX2, Cond.code yX2_remove cX2_remove 3 (some .int), Cond.classLink RX2 109 "java/util/NoSuchElementException", Cond.initialized "java/util/NoSuchElementException", Cond.fieldLink RX2 14 "LearnedLedge" "keys" "LLearnedLedge$Numbers;", Cond.fieldLink RX2 21 "LearnedLedge" "buffer" "LLearnedLedge$Numbers;", Cond.fieldLink RX2 18 "LearnedLedge" "marks" "LLearnedLedge$Numbers;", Cond.fieldLink RX2 53 "LearnedLedge" "markCount" "I", Cond.methodLink RX2 91 yX2_isThere, Cond.instanceMethod yX2_isThere, Cond.selects RX2 yX2_isThere yX2_isThere, Cond.code yX2_isThere cX2_isThere 3 (some .boolean), Cond.methodLink RX2 87 yX0_indexOf, Cond.instanceMethod yX0_indexOf, Cond.selects RX0 yX0_indexOf yX0_indexOf, Cond.initialized RX0, Cond.code yX0_indexOf cX0_indexOf 3 (some .int), Cond.fieldLink RX0 15 "LearnedLedge$Numbers" "items" "[I", Cond.methodLink RX0 41 yX0_below, Cond.instanceMethod yX0_below]
def wsL_remove_r2 : List Cond := [Cond.selects RX0 yX0_below yX0_below, Cond.code yX0_below cX0_below 6 (some .int), Cond.fieldLink RX0 21 "LearnedLedge$Numbers" "length" "I", Cond.methodLink RX0 33 yX0_at, Cond.instanceMethod yX0_at, Cond.selects RX0 yX0_at yX0_at, Cond.code yX0_at cX0_at 2 (some .int), Cond.methodLink RX0 25 yX0_has, Cond.instanceMethod yX0_has, Cond.selects RX0 yX0_has yX0_has, Cond.code yX0_has cX0_has 2 (some .boolean), Cond.methodLink RX2 134 yX0_at, Cond.methodLink RX2 114 yX0_below, Cond.methodLink RX2 117 yX0_takeOut, Cond.instanceMethod yX0_takeOut, Cond.selects RX0 yX0_takeOut yX0_takeOut, Cond.code yX0_takeOut cX0_takeOut 3 none, Cond.methodLink RX0 37 yX0_put, Cond.instanceMethod yX0_put, Cond.selects RX0 yX0_put yX0_put, Cond.code yX0_put cX0_put 3 none, Cond.methodLink RX2 106 yX0_put, Cond.methodLink RX2 120 yX2_keysThere, Cond.instanceMethod yX2_keysThere]
def wsL_remove_r3 : List Cond := [Cond.selects RX2 yX2_keysThere yX2_keysThere, Cond.code yX2_keysThere cX2_keysThere 1 (some .int), Cond.methodLink RX2 95 yX2_allKeys, Cond.instanceMethod yX2_allKeys, Cond.selects RX2 yX2_allKeys yX2_allKeys, Cond.code yX2_allKeys cX2_allKeys 1 (some .int), Cond.methodLink RX2 76 yX0_length, Cond.instanceMethod yX0_length, Cond.selects RX0 yX0_length yX0_length, Cond.code yX0_length cX0_length 1 (some .int)]
def wsL_remove : List Cond := .codeWith yL_remove cL_remove 4 (some .int) [(0, 9, 12, 27)] :: ((wsL_remove_r1 ++ (wsL_remove_r2 ++ wsL_remove_r3)) ++ wsX20 ++ wsX00 ++ (ns_atS RX2 113).filter goodWord)
def wsL_rebuild_r1 : List Cond := [Cond.classLink RL 13 "java/lang/IllegalArgumentException", Cond.methodLink RL 29 yX2_rebuild, Cond.instanceMethod yX2_rebuild, Cond.selects RX2 yX2_rebuild yX2_rebuild, Cond.initialized RX2, Cond.code yX2_rebuild cX2_rebuild 4 (some .int), Cond.classLink RX2 80 "java/lang/IllegalArgumentException", Cond.initialized "java/lang/IllegalArgumentException", Cond.fieldLink RX2 46 "LearnedLedge" "bound" "I", Cond.fieldLink RX2 50 "LearnedLedge" "room" "I", Cond.fieldLink RX2 40 "LearnedLedge" "freshKeys" "LLearnedLedge$Numbers;", Cond.fieldLink RX2 24 "LearnedLedge" "starts" "LLearnedLedge$Numbers;", Cond.methodLink RX2 128 yX2_gatherAll, Cond.instanceMethod yX2_gatherAll, Cond.selects RX2 yX2_gatherAll yX2_gatherAll, Cond.code yX2_gatherAll cX2_gatherAll 1 none, Cond.fieldLink RX2 14 "LearnedLedge" "keys" "LLearnedLedge$Numbers;", Cond.fieldLink RX2 21 "LearnedLedge" "buffer" "LLearnedLedge$Numbers;", Cond.methodLink RX2 215 yX0_clear, Cond.instanceMethod yX0_clear, Cond.selects RX0 yX0_clear yX0_clear, Cond.initialized RX0, Cond.code yX0_clear cX0_clear 1 none, Cond.fieldLink RX0 21 "LearnedLedge$Numbers" "length" "I"]
def wsL_rebuild_r2 : List Cond := [Cond.methodLink RX2 76 yX0_length, Cond.instanceMethod yX0_length, Cond.selects RX0 yX0_length yX0_length, Cond.code yX0_length cX0_length 1 (some .int), Cond.methodLink RX2 242 yX2_gather, Cond.instanceMethod yX2_gather, Cond.selects RX2 yX2_gather yX2_gather, Cond.code yX2_gather cX2_gather 9 (some .boolean), Cond.fieldLink RX2 18 "LearnedLedge" "marks" "LLearnedLedge$Numbers;", Cond.methodLink RX2 134 yX0_at, Cond.instanceMethod yX0_at, Cond.selects RX0 yX0_at yX0_at, Cond.code yX0_at cX0_at 2 (some .int), Cond.fieldLink RX0 15 "LearnedLedge$Numbers" "items" "[I", Cond.methodLink RX0 25 yX0_has, Cond.instanceMethod yX0_has, Cond.selects RX0 yX0_has yX0_has, Cond.code yX0_has cX0_has 2 (some .boolean), Cond.methodLink RX2 199 yX0_push, Cond.instanceMethod yX0_push, Cond.selects RX0 yX0_push yX0_push, Cond.code yX0_push cX0_push 2 none, Cond.methodLink RX2 131 yX2_clearRow, Cond.instanceMethod yX2_clearRow]
def wsL_rebuild_r3 : List Cond := [Cond.selects RX2 yX2_clearRow yX2_clearRow, Cond.code yX2_clearRow cX2_clearRow 1 none, Cond.fieldLink RX2 53 "LearnedLedge" "markCount" "I", Cond.methodLink RX2 218 yX2_clearPieces, Cond.instanceMethod yX2_clearPieces, Cond.selects RX2 yX2_clearPieces yX2_clearPieces, Cond.code yX2_clearPieces cX2_clearPieces 1 none, Cond.fieldLink RX2 27 "LearnedLedge" "rises" "LLearnedLedge$Numbers;", Cond.fieldLink RX2 30 "LearnedLedge" "runs" "LLearnedLedge$Numbers;", Cond.methodLink RX2 73 yX2_addLast, Cond.instanceMethod yX2_addLast, Cond.selects RX2 yX2_addLast yX2_addLast, Cond.code yX2_addLast cX2_addLast 3 none, Cond.fieldLink RX2 36 "LearnedLedge" "tail" "LLearnedLedge$SlopeRange;", Cond.methodLink RX2 202 yX1_take, Cond.instanceMethod yX1_take, Cond.selects RX1 yX1_take yX1_take, Cond.initialized RX1, Cond.code yX1_take cX1_take 11 (some .boolean), Cond.fieldLink RX1 24 "LearnedLedge$SlopeRange" "originKey" "I", Cond.fieldLink RX1 28 "LearnedLedge$SlopeRange" "originPlace" "I", Cond.fieldLink RX1 31 "LearnedLedge$SlopeRange" "error" "I", Cond.constantLong RX1 34 (2), Cond.fieldLink RX1 15 "LearnedLedge$SlopeRange" "leastRun" "J"]
def wsL_rebuild_r4 : List Cond := [Cond.fieldLink RX1 9 "LearnedLedge$SlopeRange" "leastRise" "J", Cond.fieldLink RX1 21 "LearnedLedge$SlopeRange" "mostRun" "J", Cond.fieldLink RX1 18 "LearnedLedge$SlopeRange" "mostRise" "J", Cond.methodLink RX2 206 yX2_noteTailSlope, Cond.instanceMethod yX2_noteTailSlope, Cond.selects RX2 yX2_noteTailSlope yX2_noteTailSlope, Cond.code yX2_noteTailSlope cX2_noteTailSlope 2 none, Cond.methodLink RX2 225 yX1_leastRise, Cond.instanceMethod yX1_leastRise, Cond.selects RX1 yX1_leastRise yX1_leastRise, Cond.code yX1_leastRise cX1_leastRise 1 (some .int), Cond.methodLink RX1 36 yX1_divisor, Cond.instanceMethod yX1_divisor, Cond.selects RX1 yX1_divisor yX1_divisor, Cond.code yX1_divisor cX1_divisor 8 (some .long), Cond.methodLink RX2 106 yX0_put, Cond.instanceMethod yX0_put, Cond.selects RX0 yX0_put yX0_put, Cond.code yX0_put cX0_put 3 none, Cond.methodLink RX2 228 yX1_leastRun, Cond.instanceMethod yX1_leastRun, Cond.selects RX1 yX1_leastRun yX1_leastRun, Cond.code yX1_leastRun cX1_leastRun 1 (some .int), Cond.methodLink RX2 209 yX2_beginPiece]
def wsL_rebuild_r5 : List Cond := [Cond.instanceMethod yX2_beginPiece, Cond.selects RX2 yX2_beginPiece yX2_beginPiece, Cond.code yX2_beginPiece cX2_beginPiece 3 none, Cond.methodLink RX2 221 yX1_begin, Cond.instanceMethod yX1_begin, Cond.selects RX1 yX1_begin yX1_begin, Cond.code yX1_begin cX1_begin 4 none]
def wsL_rebuild : List Cond := .codeWith yL_rebuild cL_rebuild 5 (some .int) [(0, 10, 13, 13)] :: ((wsL_rebuild_r1 ++ (wsL_rebuild_r2 ++ (wsL_rebuild_r3 ++ (wsL_rebuild_r4 ++ wsL_rebuild_r5)))) ++ wsX20 ++ wsX00 ++ wsX10 ++ (vx_atS RX2 84 "java/lang/IllegalArgumentException" ["java/lang/RuntimeException", "java/lang/Exception"]).filter goodWord)
def wsL_select_r1 : List Cond := [Cond.classLink RL 36 "java/lang/IndexOutOfBoundsException", Cond.methodLink RL 33 yX2_select, Cond.instanceMethod yX2_select, Cond.selects RX2 yX2_select yX2_select, Cond.initialized RX2, Cond.code yX2_select cX2_select 2 (some .int), Cond.classLink RX2 140 "java/lang/IndexOutOfBoundsException", Cond.initialized "java/lang/IndexOutOfBoundsException", Cond.methodLink RX2 120 yX2_keysThere, Cond.instanceMethod yX2_keysThere, Cond.selects RX2 yX2_keysThere yX2_keysThere, Cond.code yX2_keysThere cX2_keysThere 1 (some .int), Cond.fieldLink RX2 53 "LearnedLedge" "markCount" "I", Cond.methodLink RX2 95 yX2_allKeys, Cond.instanceMethod yX2_allKeys, Cond.selects RX2 yX2_allKeys yX2_allKeys, Cond.code yX2_allKeys cX2_allKeys 1 (some .int), Cond.fieldLink RX2 14 "LearnedLedge" "keys" "LLearnedLedge$Numbers;", Cond.fieldLink RX2 21 "LearnedLedge" "buffer" "LLearnedLedge$Numbers;", Cond.methodLink RX2 76 yX0_length, Cond.instanceMethod yX0_length, Cond.selects RX0 yX0_length yX0_length, Cond.initialized RX0, Cond.code yX0_length cX0_length 1 (some .int)]
def wsL_select_r2 : List Cond := [Cond.fieldLink RX0 21 "LearnedLedge$Numbers" "length" "I", Cond.methodLink RX2 145 yX2_keyThere, Cond.instanceMethod yX2_keyThere, Cond.selects RX2 yX2_keyThere yX2_keyThere, Cond.code yX2_keyThere cX2_keyThere 2 (some .int), Cond.fieldLink RX2 40 "LearnedLedge" "freshKeys" "LLearnedLedge$Numbers;", Cond.methodLink RX2 128 yX2_gatherAll, Cond.instanceMethod yX2_gatherAll, Cond.selects RX2 yX2_gatherAll yX2_gatherAll, Cond.code yX2_gatherAll cX2_gatherAll 1 none, Cond.methodLink RX2 215 yX0_clear, Cond.instanceMethod yX0_clear, Cond.selects RX0 yX0_clear yX0_clear, Cond.code yX0_clear cX0_clear 1 none, Cond.methodLink RX2 242 yX2_gather, Cond.instanceMethod yX2_gather, Cond.selects RX2 yX2_gather yX2_gather, Cond.code yX2_gather cX2_gather 9 (some .boolean), Cond.fieldLink RX2 18 "LearnedLedge" "marks" "LLearnedLedge$Numbers;", Cond.methodLink RX2 134 yX0_at, Cond.instanceMethod yX0_at, Cond.selects RX0 yX0_at yX0_at, Cond.code yX0_at cX0_at 2 (some .int), Cond.fieldLink RX0 15 "LearnedLedge$Numbers" "items" "[I"]
def wsL_select_r3 : List Cond := [Cond.methodLink RX0 25 yX0_has, Cond.instanceMethod yX0_has, Cond.selects RX0 yX0_has yX0_has, Cond.code yX0_has cX0_has 2 (some .boolean), Cond.methodLink RX2 199 yX0_push, Cond.instanceMethod yX0_push, Cond.selects RX0 yX0_push yX0_push, Cond.code yX0_push cX0_push 2 none]
def wsL_select : List Cond := .codeWith yL_select cL_select 4 (some .int) [(0, 9, 12, 36)] :: ((wsL_select_r1 ++ (wsL_select_r2 ++ wsL_select_r3)) ++ wsX20 ++ wsX00 ++ (vx_atS RX2 144 "java/lang/IndexOutOfBoundsException" ["java/lang/RuntimeException", "java/lang/Exception"]).filter goodWord)
def wsL_ceiling_r1 : List Cond := [Cond.classLink RL 27 "java/util/NoSuchElementException", Cond.methodLink RL 38 yX2_ceiling, Cond.instanceMethod yX2_ceiling, Cond.selects RX2 yX2_ceiling yX2_ceiling, Cond.initialized RX2, Cond.code yX2_ceiling cX2_ceiling 3 (some .int), Cond.classLink RX2 109 "java/util/NoSuchElementException", Cond.initialized "java/util/NoSuchElementException", Cond.methodLink RX2 137 yX2_thereBelow, Cond.instanceMethod yX2_thereBelow, Cond.selects RX2 yX2_thereBelow yX2_thereBelow, Cond.code yX2_thereBelow cX2_thereBelow 5 (some .int), Cond.fieldLink RX2 14 "LearnedLedge" "keys" "LLearnedLedge$Numbers;", Cond.fieldLink RX2 21 "LearnedLedge" "buffer" "LLearnedLedge$Numbers;", Cond.fieldLink RX2 18 "LearnedLedge" "marks" "LLearnedLedge$Numbers;", Cond.methodLink RX2 114 yX0_below, Cond.instanceMethod yX0_below, Cond.selects RX0 yX0_below yX0_below, Cond.initialized RX0, Cond.code yX0_below cX0_below 6 (some .int), Cond.fieldLink RX0 21 "LearnedLedge$Numbers" "length" "I", Cond.methodLink RX0 33 yX0_at, Cond.instanceMethod yX0_at, Cond.selects RX0 yX0_at yX0_at]
def wsL_ceiling_r2 : List Cond := [Cond.code yX0_at cX0_at 2 (some .int), Cond.fieldLink RX0 15 "LearnedLedge$Numbers" "items" "[I", Cond.methodLink RX0 25 yX0_has, Cond.instanceMethod yX0_has, Cond.selects RX0 yX0_has yX0_has, Cond.code yX0_has cX0_has 2 (some .boolean), Cond.methodLink RX2 134 yX0_at, Cond.methodLink RX2 120 yX2_keysThere, Cond.instanceMethod yX2_keysThere, Cond.selects RX2 yX2_keysThere yX2_keysThere, Cond.code yX2_keysThere cX2_keysThere 1 (some .int), Cond.fieldLink RX2 53 "LearnedLedge" "markCount" "I", Cond.methodLink RX2 95 yX2_allKeys, Cond.instanceMethod yX2_allKeys, Cond.selects RX2 yX2_allKeys yX2_allKeys, Cond.code yX2_allKeys cX2_allKeys 1 (some .int), Cond.methodLink RX2 76 yX0_length, Cond.instanceMethod yX0_length, Cond.selects RX0 yX0_length yX0_length, Cond.code yX0_length cX0_length 1 (some .int), Cond.methodLink RX2 145 yX2_keyThere, Cond.instanceMethod yX2_keyThere, Cond.selects RX2 yX2_keyThere yX2_keyThere, Cond.code yX2_keyThere cX2_keyThere 2 (some .int)]
def wsL_ceiling_r3 : List Cond := [Cond.fieldLink RX2 40 "LearnedLedge" "freshKeys" "LLearnedLedge$Numbers;", Cond.methodLink RX2 128 yX2_gatherAll, Cond.instanceMethod yX2_gatherAll, Cond.selects RX2 yX2_gatherAll yX2_gatherAll, Cond.code yX2_gatherAll cX2_gatherAll 1 none, Cond.methodLink RX2 215 yX0_clear, Cond.instanceMethod yX0_clear, Cond.selects RX0 yX0_clear yX0_clear, Cond.code yX0_clear cX0_clear 1 none, Cond.methodLink RX2 242 yX2_gather, Cond.instanceMethod yX2_gather, Cond.selects RX2 yX2_gather yX2_gather, Cond.code yX2_gather cX2_gather 9 (some .boolean), Cond.methodLink RX2 199 yX0_push, Cond.instanceMethod yX0_push, Cond.selects RX0 yX0_push yX0_push, Cond.code yX0_push cX0_push 2 none]
def wsL_ceiling : List Cond := .codeWith yL_ceiling cL_ceiling 4 (some .int) [(0, 9, 12, 27)] :: ((wsL_ceiling_r1 ++ (wsL_ceiling_r2 ++ wsL_ceiling_r3)) ++ wsX20 ++ wsX00 ++ (ns_atS RX2 113).filter goodWord)
def wsL_guess_r1 : List Cond := [Cond.classLink RL 13 "java/lang/IllegalArgumentException", Cond.methodLink RL 41 yX2_guess, Cond.instanceMethod yX2_guess, Cond.selects RX2 yX2_guess yX2_guess, Cond.initialized RX2, Cond.code yX2_guess cX2_guess 2 (some .long), Cond.methodLink RX2 65 yX2_needKey, Cond.static yX2_needKey, Cond.code yX2_needKey cX2_needKey 2 none, Cond.classLink RX2 80 "java/lang/IllegalArgumentException", Cond.initialized "java/lang/IllegalArgumentException", Cond.constantLong RX2 186 (-1000000), Cond.constantLong RX2 188 (1000000), Cond.methodLink RX2 150 yX2_pieceOf, Cond.instanceMethod yX2_pieceOf, Cond.selects RX2 yX2_pieceOf yX2_pieceOf, Cond.code yX2_pieceOf cX2_pieceOf 3 (some .int), Cond.fieldLink RX2 14 "LearnedLedge" "keys" "LLearnedLedge$Numbers;", Cond.fieldLink RX2 24 "LearnedLedge" "starts" "LLearnedLedge$Numbers;", Cond.methodLink RX2 114 yX0_below, Cond.instanceMethod yX0_below, Cond.selects RX0 yX0_below yX0_below, Cond.initialized RX0, Cond.code yX0_below cX0_below 6 (some .int)]
def wsL_guess_r2 : List Cond := [Cond.fieldLink RX0 21 "LearnedLedge$Numbers" "length" "I", Cond.methodLink RX0 33 yX0_at, Cond.instanceMethod yX0_at, Cond.selects RX0 yX0_at yX0_at, Cond.code yX0_at cX0_at 2 (some .int), Cond.fieldLink RX0 15 "LearnedLedge$Numbers" "items" "[I", Cond.methodLink RX0 25 yX0_has, Cond.instanceMethod yX0_has, Cond.selects RX0 yX0_has yX0_has, Cond.code yX0_has cX0_has 2 (some .boolean), Cond.methodLink RX2 153 yX2_guessBy, Cond.instanceMethod yX2_guessBy, Cond.selects RX2 yX2_guessBy yX2_guessBy, Cond.code yX2_guessBy cX2_guessBy 7 (some .long), Cond.fieldLink RX2 30 "LearnedLedge" "runs" "LLearnedLedge$Numbers;", Cond.constantLong RX2 231 (-1), Cond.fieldLink RX2 27 "LearnedLedge" "rises" "LLearnedLedge$Numbers;", Cond.methodLink RX2 134 yX0_at, Cond.methodLink RX2 177 yX2_firstOf, Cond.instanceMethod yX2_firstOf, Cond.selects RX2 yX2_firstOf yX2_firstOf, Cond.code yX2_firstOf cX2_firstOf 2 (some .int), Cond.methodLink RX2 233 yJ9_floorDiv_f86c9, Cond.static yJ9_floorDiv_f86c9]
def wsL_guess_r3 : List Cond := [Cond.initialized RJ9, Cond.code yJ9_floorDiv_f86c9 cJ9_floorDiv_f86c9 6 (some .long)]
def wsL_guess : List Cond := .codeWith yL_guess cL_guess 4 (some .int) [(0, 8, 11, 13)] :: ((wsL_guess_r1 ++ (wsL_guess_r2 ++ wsL_guess_r3)) ++ wsX20 ++ wsX00 ++ (vx_atS RX2 84 "java/lang/IllegalArgumentException" ["java/lang/RuntimeException", "java/lang/Exception"]).filter goodWord)
def wsL_looks_r1 : List Cond := [Cond.classLink RL 13 "java/lang/IllegalArgumentException", Cond.methodLink RL 45 yX2_looks, Cond.instanceMethod yX2_looks, Cond.selects RX2 yX2_looks yX2_looks, Cond.initialized RX2, Cond.code yX2_looks cX2_looks 3 (some .int), Cond.methodLink RX2 65 yX2_needKey, Cond.static yX2_needKey, Cond.code yX2_needKey cX2_needKey 2 none, Cond.classLink RX2 80 "java/lang/IllegalArgumentException", Cond.initialized "java/lang/IllegalArgumentException", Cond.constantLong RX2 186 (-1000000), Cond.constantLong RX2 188 (1000000), Cond.methodLink RX2 150 yX2_pieceOf, Cond.instanceMethod yX2_pieceOf, Cond.selects RX2 yX2_pieceOf yX2_pieceOf, Cond.code yX2_pieceOf cX2_pieceOf 3 (some .int), Cond.fieldLink RX2 14 "LearnedLedge" "keys" "LLearnedLedge$Numbers;", Cond.fieldLink RX2 24 "LearnedLedge" "starts" "LLearnedLedge$Numbers;", Cond.methodLink RX2 114 yX0_below, Cond.instanceMethod yX0_below, Cond.selects RX0 yX0_below yX0_below, Cond.initialized RX0, Cond.code yX0_below cX0_below 6 (some .int)]
def wsL_looks_r2 : List Cond := [Cond.fieldLink RX0 21 "LearnedLedge$Numbers" "length" "I", Cond.methodLink RX0 33 yX0_at, Cond.instanceMethod yX0_at, Cond.selects RX0 yX0_at yX0_at, Cond.code yX0_at cX0_at 2 (some .int), Cond.fieldLink RX0 15 "LearnedLedge$Numbers" "items" "[I", Cond.methodLink RX0 25 yX0_has, Cond.instanceMethod yX0_has, Cond.selects RX0 yX0_has yX0_has, Cond.code yX0_has cX0_has 2 (some .boolean), Cond.methodLink RX2 157 yX2_looksBy, Cond.instanceMethod yX2_looksBy, Cond.selects RX2 yX2_looksBy yX2_looksBy, Cond.code yX2_looksBy cX2_looksBy 11 (some .int), Cond.fieldLink RX2 46 "LearnedLedge" "bound" "I", Cond.methodLink RX2 170 Lib.MathLoose.max_long.x, Cond.static Lib.MathLoose.max_long.x, Cond.initialized "java/lang/Math", Cond.code Lib.MathLoose.max_long.x Lib.MathLoose.max_long.code 4 (some .long), Cond.methodLink RX2 236 Lib.MathLoose.min_long.x, Cond.static Lib.MathLoose.min_long.x, Cond.code Lib.MathLoose.min_long.x Lib.MathLoose.min_long.code 4 (some .long), Cond.methodLink RX2 153 yX2_guessBy, Cond.instanceMethod yX2_guessBy]
def wsL_looks_r3 : List Cond := [Cond.selects RX2 yX2_guessBy yX2_guessBy, Cond.code yX2_guessBy cX2_guessBy 7 (some .long), Cond.fieldLink RX2 30 "LearnedLedge" "runs" "LLearnedLedge$Numbers;", Cond.constantLong RX2 231 (-1), Cond.fieldLink RX2 27 "LearnedLedge" "rises" "LLearnedLedge$Numbers;", Cond.methodLink RX2 134 yX0_at, Cond.methodLink RX2 177 yX2_firstOf, Cond.instanceMethod yX2_firstOf, Cond.selects RX2 yX2_firstOf yX2_firstOf, Cond.code yX2_firstOf cX2_firstOf 2 (some .int), Cond.methodLink RX2 233 yJ9_floorDiv_f86c9, Cond.static yJ9_floorDiv_f86c9, Cond.initialized RJ9, Cond.code yJ9_floorDiv_f86c9 cJ9_floorDiv_f86c9 6 (some .long), Cond.methodLink RX2 161 yX2_endOf, Cond.instanceMethod yX2_endOf, Cond.selects RX2 yX2_endOf yX2_endOf, Cond.code yX2_endOf cX2_endOf 2 (some .int), Cond.methodLink RX2 192 yX0_has, Cond.methodLink RX2 76 yX0_length, Cond.instanceMethod yX0_length, Cond.selects RX0 yX0_length yX0_length, Cond.code yX0_length cX0_length 1 (some .int)]
def wsL_looks : List Cond := .codeWith yL_looks cL_looks 4 (some .int) [(0, 9, 12, 13)] :: ((wsL_looks_r1 ++ (wsL_looks_r2 ++ wsL_looks_r3)) ++ wsX20 ++ wsX00 ++ (vx_atS RX2 84 "java/lang/IllegalArgumentException" ["java/lang/RuntimeException", "java/lang/Exception"]).filter goodWord)
def wsL_start_r1 : List Cond := [Cond.classLink RL 36 "java/lang/IndexOutOfBoundsException", Cond.methodLink RL 48 yX2_start, Cond.instanceMethod yX2_start, Cond.selects RX2 yX2_start yX2_start, Cond.initialized RX2, Cond.code yX2_start cX2_start 2 (some .int), Cond.fieldLink RX2 24 "LearnedLedge" "starts" "LLearnedLedge$Numbers;", Cond.methodLink RX2 174 yX2_needPiece, Cond.instanceMethod yX2_needPiece, Cond.selects RX2 yX2_needPiece yX2_needPiece, Cond.code yX2_needPiece cX2_needPiece 2 none, Cond.classLink RX2 140 "java/lang/IndexOutOfBoundsException", Cond.initialized "java/lang/IndexOutOfBoundsException", Cond.methodLink RX2 192 yX0_has, Cond.instanceMethod yX0_has, Cond.selects RX0 yX0_has yX0_has, Cond.initialized RX0, Cond.code yX0_has cX0_has 2 (some .boolean), Cond.fieldLink RX0 21 "LearnedLedge$Numbers" "length" "I", Cond.fieldLink RX0 15 "LearnedLedge$Numbers" "items" "[I", Cond.methodLink RX2 134 yX0_at, Cond.instanceMethod yX0_at, Cond.selects RX0 yX0_at yX0_at, Cond.code yX0_at cX0_at 2 (some .int)]
def wsL_start_r2 : List Cond := [Cond.methodLink RX0 25 yX0_has]
def wsL_start : List Cond := .codeWith yL_start cL_start 4 (some .int) [(0, 9, 12, 36)] :: ((wsL_start_r1 ++ wsL_start_r2) ++ wsX20 ++ wsX00 ++ (vx_atS RX2 144 "java/lang/IndexOutOfBoundsException" ["java/lang/RuntimeException", "java/lang/Exception"]).filter goodWord)
def wsL_firstKey_r1 : List Cond := [Cond.classLink RL 36 "java/lang/IndexOutOfBoundsException", Cond.methodLink RL 51 yX2_firstKey, Cond.instanceMethod yX2_firstKey, Cond.selects RX2 yX2_firstKey yX2_firstKey, Cond.initialized RX2, Cond.code yX2_firstKey cX2_firstKey 2 (some .int), Cond.methodLink RX2 174 yX2_needPiece, Cond.instanceMethod yX2_needPiece, Cond.selects RX2 yX2_needPiece yX2_needPiece, Cond.code yX2_needPiece cX2_needPiece 2 none, Cond.classLink RX2 140 "java/lang/IndexOutOfBoundsException", Cond.initialized "java/lang/IndexOutOfBoundsException", Cond.fieldLink RX2 24 "LearnedLedge" "starts" "LLearnedLedge$Numbers;", Cond.methodLink RX2 192 yX0_has, Cond.instanceMethod yX0_has, Cond.selects RX0 yX0_has yX0_has, Cond.initialized RX0, Cond.code yX0_has cX0_has 2 (some .boolean), Cond.fieldLink RX0 21 "LearnedLedge$Numbers" "length" "I", Cond.fieldLink RX0 15 "LearnedLedge$Numbers" "items" "[I", Cond.methodLink RX2 177 yX2_firstOf, Cond.instanceMethod yX2_firstOf, Cond.selects RX2 yX2_firstOf yX2_firstOf, Cond.code yX2_firstOf cX2_firstOf 2 (some .int)]
def wsL_firstKey_r2 : List Cond := [Cond.fieldLink RX2 14 "LearnedLedge" "keys" "LLearnedLedge$Numbers;", Cond.methodLink RX2 134 yX0_at, Cond.instanceMethod yX0_at, Cond.selects RX0 yX0_at yX0_at, Cond.code yX0_at cX0_at 2 (some .int), Cond.methodLink RX0 25 yX0_has]
def wsL_firstKey : List Cond := .codeWith yL_firstKey cL_firstKey 4 (some .int) [(0, 9, 12, 36)] :: ((wsL_firstKey_r1 ++ wsL_firstKey_r2) ++ wsX20 ++ wsX00 ++ (vx_atS RX2 144 "java/lang/IndexOutOfBoundsException" ["java/lang/RuntimeException", "java/lang/Exception"]).filter goodWord)
def wsL_rise_r1 : List Cond := [Cond.classLink RL 36 "java/lang/IndexOutOfBoundsException", Cond.methodLink RL 54 yX2_rise, Cond.instanceMethod yX2_rise, Cond.selects RX2 yX2_rise yX2_rise, Cond.initialized RX2, Cond.code yX2_rise cX2_rise 2 (some .int), Cond.fieldLink RX2 27 "LearnedLedge" "rises" "LLearnedLedge$Numbers;", Cond.methodLink RX2 174 yX2_needPiece, Cond.instanceMethod yX2_needPiece, Cond.selects RX2 yX2_needPiece yX2_needPiece, Cond.code yX2_needPiece cX2_needPiece 2 none, Cond.classLink RX2 140 "java/lang/IndexOutOfBoundsException", Cond.initialized "java/lang/IndexOutOfBoundsException", Cond.fieldLink RX2 24 "LearnedLedge" "starts" "LLearnedLedge$Numbers;", Cond.methodLink RX2 192 yX0_has, Cond.instanceMethod yX0_has, Cond.selects RX0 yX0_has yX0_has, Cond.initialized RX0, Cond.code yX0_has cX0_has 2 (some .boolean), Cond.fieldLink RX0 21 "LearnedLedge$Numbers" "length" "I", Cond.fieldLink RX0 15 "LearnedLedge$Numbers" "items" "[I", Cond.methodLink RX2 134 yX0_at, Cond.instanceMethod yX0_at, Cond.selects RX0 yX0_at yX0_at]
def wsL_rise_r2 : List Cond := [Cond.code yX0_at cX0_at 2 (some .int), Cond.methodLink RX0 25 yX0_has]
def wsL_rise : List Cond := .codeWith yL_rise cL_rise 4 (some .int) [(0, 9, 12, 36)] :: ((wsL_rise_r1 ++ wsL_rise_r2) ++ wsX20 ++ wsX00 ++ (vx_atS RX2 144 "java/lang/IndexOutOfBoundsException" ["java/lang/RuntimeException", "java/lang/Exception"]).filter goodWord)
def wsL_run_r1 : List Cond := [Cond.classLink RL 36 "java/lang/IndexOutOfBoundsException", Cond.methodLink RL 57 yX2_run, Cond.instanceMethod yX2_run, Cond.selects RX2 yX2_run yX2_run, Cond.initialized RX2, Cond.code yX2_run cX2_run 2 (some .int), Cond.fieldLink RX2 30 "LearnedLedge" "runs" "LLearnedLedge$Numbers;", Cond.methodLink RX2 174 yX2_needPiece, Cond.instanceMethod yX2_needPiece, Cond.selects RX2 yX2_needPiece yX2_needPiece, Cond.code yX2_needPiece cX2_needPiece 2 none, Cond.classLink RX2 140 "java/lang/IndexOutOfBoundsException", Cond.initialized "java/lang/IndexOutOfBoundsException", Cond.fieldLink RX2 24 "LearnedLedge" "starts" "LLearnedLedge$Numbers;", Cond.methodLink RX2 192 yX0_has, Cond.instanceMethod yX0_has, Cond.selects RX0 yX0_has yX0_has, Cond.initialized RX0, Cond.code yX0_has cX0_has 2 (some .boolean), Cond.fieldLink RX0 21 "LearnedLedge$Numbers" "length" "I", Cond.fieldLink RX0 15 "LearnedLedge$Numbers" "items" "[I", Cond.methodLink RX2 134 yX0_at, Cond.instanceMethod yX0_at, Cond.selects RX0 yX0_at yX0_at]
def wsL_run_r2 : List Cond := [Cond.code yX0_at cX0_at 2 (some .int), Cond.methodLink RX0 25 yX0_has]
def wsL_run : List Cond := .codeWith yL_run cL_run 4 (some .int) [(0, 9, 12, 36)] :: ((wsL_run_r1 ++ wsL_run_r2) ++ wsX20 ++ wsX00 ++ (vx_atS RX2 144 "java/lang/IndexOutOfBoundsException" ["java/lang/RuntimeException", "java/lang/Exception"]).filter goodWord)
def wsL_law0_r1 : List Cond := [Cond.classLink RL 8 RX2, Cond.instantiable RX2 15, Cond.initialized RX2, Cond.classLink RL 61 RX3, Cond.instantiable RX3 18, Cond.initialized RX3, Cond.arrayClass .long, Cond.methodLink RL 60 yX2_init, Cond.instanceMethod yX2_init, Cond.code yX2_init cX2_init 1 none, Cond.methodLink RX2 1 objectInit, Cond.instanceMethod objectInit, Cond.code objectInit ⟨#[0xb1]⟩ 1 none, Cond.classLink RX2 7 RX0, Cond.instantiable RX0 2, Cond.initialized RX0, Cond.fieldLink RX2 14 "LearnedLedge" "keys" "LLearnedLedge$Numbers;", Cond.fieldLink RX2 18 "LearnedLedge" "marks" "LLearnedLedge$Numbers;", Cond.fieldLink RX2 21 "LearnedLedge" "buffer" "LLearnedLedge$Numbers;", Cond.fieldLink RX2 24 "LearnedLedge" "starts" "LLearnedLedge$Numbers;", Cond.fieldLink RX2 27 "LearnedLedge" "rises" "LLearnedLedge$Numbers;", Cond.fieldLink RX2 30 "LearnedLedge" "runs" "LLearnedLedge$Numbers;", Cond.classLink RX2 33 RX1, Cond.instantiable RX1 7]
def wsL_law0_r2 : List Cond := [Cond.initialized RX1, Cond.fieldLink RX2 36 "LearnedLedge" "tail" "LLearnedLedge$SlopeRange;", Cond.fieldLink RX2 40 "LearnedLedge" "freshKeys" "LLearnedLedge$Numbers;", Cond.fieldLink RX2 43 "LearnedLedge" "freshStarts" "LLearnedLedge$Numbers;", Cond.fieldLink RX2 46 "LearnedLedge" "bound" "I", Cond.fieldLink RX2 50 "LearnedLedge" "room" "I", Cond.fieldLink RX2 53 "LearnedLedge" "markCount" "I", Cond.fieldLink RX2 56 "LearnedLedge" "mergeCount" "I", Cond.fieldLink RX2 59 "LearnedLedge" "splitCount" "I", Cond.fieldLink RX2 62 "LearnedLedge" "joinCount" "I", Cond.methodLink RX2 11 yX0_init, Cond.instanceMethod yX0_init, Cond.code yX0_init cX0_init 2 none, Cond.methodLink RX0 3 objectInit, Cond.methodLink RX0 9 Lib.Math.max.name, Cond.static Lib.Math.max.name, Cond.initialized "java/lang/Math", Cond.code Lib.Math.max.name Lib.Math.max.code 2 (some .int), Cond.arrayClass .int, Cond.fieldLink RX0 15 "LearnedLedge$Numbers" "items" "[I", Cond.fieldLink RX0 21 "LearnedLedge$Numbers" "length" "I", Cond.instanceMethod yX1_init, Cond.code yX1_init cX1_init 1 none, Cond.methodLink RX1 3 objectInit]
def wsL_law0_r3 : List Cond := [Cond.fieldLink RX1 9 "LearnedLedge$SlopeRange" "leastRise" "J", Cond.fieldLink RX1 15 "LearnedLedge$SlopeRange" "leastRun" "J", Cond.fieldLink RX1 18 "LearnedLedge$SlopeRange" "mostRise" "J", Cond.fieldLink RX1 21 "LearnedLedge$SlopeRange" "mostRun" "J", Cond.methodLink RL 63 yX3_init, Cond.instanceMethod yX3_init, Cond.code yX3_init cX3_init 1 none, Cond.methodLink RX3 1 objectInit, Cond.fieldLink RX3 7 "LearnedLedgeModel" "bound" "I", Cond.fieldLink RX3 13 "LearnedLedgeModel" "room" "I", Cond.fieldLink RX3 16 "LearnedLedgeModel" "row" "[I", Cond.arrayClass .boolean, Cond.fieldLink RX3 20 "LearnedLedgeModel" "isMarked" "[Z", Cond.fieldLink RX3 24 "LearnedLedgeModel" "start" "[I", Cond.fieldLink RX3 27 "LearnedLedgeModel" "buffer" "[I", Cond.fieldLink RX3 30 "LearnedLedgeModel" "made" "[I", Cond.fieldLink RX3 33 "LearnedLedgeModel" "begun" "[I", Cond.methodLink RL 64 yL_append, Cond.static yL_append, Cond.initialized RL, Cond.codeWith yL_append cL_append 4 (some .int) [(0, 9, 12, 13), (0, 9, 15, 15)], Cond.classLink RL 13 "java/lang/IllegalArgumentException", Cond.classLink RL 15 "java/lang/IllegalStateException", Cond.methodLink RL 7 yX2_append]
def wsL_law0_r4 : List Cond := [Cond.instanceMethod yX2_append, Cond.selects RX2 yX2_append yX2_append, Cond.code yX2_append cX2_append 2 (some .int), Cond.methodLink RX2 65 yX2_needKey, Cond.static yX2_needKey, Cond.code yX2_needKey cX2_needKey 2 none, Cond.classLink RX2 80 "java/lang/IllegalArgumentException", Cond.initialized "java/lang/IllegalArgumentException", Cond.constantLong RX2 186 (-1000000), Cond.constantLong RX2 188 (1000000), Cond.methodLink RX2 69 yX2_needToFollow, Cond.instanceMethod yX2_needToFollow, Cond.selects RX2 yX2_needToFollow yX2_needToFollow, Cond.code yX2_needToFollow cX2_needToFollow 4 none, Cond.classLink RX2 98 "java/lang/IllegalStateException", Cond.initialized "java/lang/IllegalStateException", Cond.methodLink RX2 114 yX0_below, Cond.instanceMethod yX0_below, Cond.selects RX0 yX0_below yX0_below, Cond.code yX0_below cX0_below 6 (some .int), Cond.methodLink RX0 33 yX0_at, Cond.instanceMethod yX0_at, Cond.selects RX0 yX0_at yX0_at, Cond.code yX0_at cX0_at 2 (some .int)]
def wsL_law0_r5 : List Cond := [Cond.methodLink RX0 25 yX0_has, Cond.instanceMethod yX0_has, Cond.selects RX0 yX0_has yX0_has, Cond.code yX0_has cX0_has 2 (some .boolean), Cond.methodLink RX2 76 yX0_length, Cond.instanceMethod yX0_length, Cond.selects RX0 yX0_length yX0_length, Cond.code yX0_length cX0_length 1 (some .int), Cond.methodLink RX2 95 yX2_allKeys, Cond.instanceMethod yX2_allKeys, Cond.selects RX2 yX2_allKeys yX2_allKeys, Cond.code yX2_allKeys cX2_allKeys 1 (some .int), Cond.methodLink RX2 73 yX2_addLast, Cond.instanceMethod yX2_addLast, Cond.selects RX2 yX2_addLast yX2_addLast, Cond.code yX2_addLast cX2_addLast 3 none, Cond.methodLink RX2 199 yX0_push, Cond.instanceMethod yX0_push, Cond.selects RX0 yX0_push yX0_push, Cond.code yX0_push cX0_push 2 none, Cond.methodLink RX2 202 yX1_take, Cond.instanceMethod yX1_take, Cond.selects RX1 yX1_take yX1_take, Cond.code yX1_take cX1_take 11 (some .boolean)]
def wsL_law0_r6 : List Cond := [Cond.fieldLink RX1 24 "LearnedLedge$SlopeRange" "originKey" "I", Cond.fieldLink RX1 28 "LearnedLedge$SlopeRange" "originPlace" "I", Cond.fieldLink RX1 31 "LearnedLedge$SlopeRange" "error" "I", Cond.constantLong RX1 34 (2), Cond.methodLink RX2 206 yX2_noteTailSlope, Cond.instanceMethod yX2_noteTailSlope, Cond.selects RX2 yX2_noteTailSlope yX2_noteTailSlope, Cond.code yX2_noteTailSlope cX2_noteTailSlope 2 none, Cond.methodLink RX2 225 yX1_leastRise, Cond.instanceMethod yX1_leastRise, Cond.selects RX1 yX1_leastRise yX1_leastRise, Cond.code yX1_leastRise cX1_leastRise 1 (some .int), Cond.methodLink RX1 36 yX1_divisor, Cond.instanceMethod yX1_divisor, Cond.selects RX1 yX1_divisor yX1_divisor, Cond.code yX1_divisor cX1_divisor 8 (some .long), Cond.methodLink RX2 106 yX0_put, Cond.instanceMethod yX0_put, Cond.selects RX0 yX0_put yX0_put, Cond.code yX0_put cX0_put 3 none, Cond.methodLink RX2 228 yX1_leastRun, Cond.instanceMethod yX1_leastRun, Cond.selects RX1 yX1_leastRun yX1_leastRun, Cond.code yX1_leastRun cX1_leastRun 1 (some .int)]
def wsL_law0_r7 : List Cond := [Cond.methodLink RX2 209 yX2_beginPiece, Cond.instanceMethod yX2_beginPiece, Cond.selects RX2 yX2_beginPiece yX2_beginPiece, Cond.code yX2_beginPiece cX2_beginPiece 3 none, Cond.methodLink RX2 221 yX1_begin, Cond.instanceMethod yX1_begin, Cond.selects RX1 yX1_begin yX1_begin, Cond.code yX1_begin cX1_begin 4 none, Cond.methodLink RL 69 yX3_append, Cond.instanceMethod yX3_append, Cond.selects RX3 yX3_append yX3_append, Cond.code yX3_append cX3_append 2 (some .int), Cond.fieldLink RX3 36 "LearnedLedgeModel" "thrown" "I", Cond.fieldLink RX3 48 "LearnedLedgeModel" "pieces" "I", Cond.methodLink RX3 79 yX3_isKey, Cond.static yX3_isKey, Cond.code yX3_isKey cX3_isKey 1 (some .boolean), Cond.constant RX3 39 (-1000000), Cond.constant RX3 40 (1000000), Cond.methodLink RX3 82 yX3_many, Cond.instanceMethod yX3_many, Cond.selects RX3 yX3_many yX3_many, Cond.code yX3_many cX3_many 1 (some .int), Cond.fieldLink RX3 51 "LearnedLedgeModel" "rowMany" "I"]
def wsL_law0_r8 : List Cond := [Cond.fieldLink RX3 69 "LearnedLedgeModel" "buffered" "I", Cond.methodLink RX3 86 yX3_isAbove, Cond.instanceMethod yX3_isAbove, Cond.selects RX3 yX3_isAbove yX3_isAbove, Cond.code yX3_isAbove cX3_isAbove 3 (some .boolean), Cond.methodLink RX3 89 yX3_ends, Cond.instanceMethod yX3_ends, Cond.selects RX3 yX3_ends yX3_ends, Cond.code yX3_ends cX3_ends 2 none, Cond.methodLink RX3 58 yX3_fits, Cond.instanceMethod yX3_fits, Cond.selects RX3 yX3_fits yX3_fits, Cond.code yX3_fits cX3_fits 13 (some .boolean), Cond.fieldLink RX3 41 "LearnedLedgeModel" "leastUp" "J", Cond.fieldLink RX3 45 "LearnedLedgeModel" "leastUnder" "J", Cond.methodLink RL 70 yX3_thrown, Cond.instanceMethod yX3_thrown, Cond.selects RX3 yX3_thrown yX3_thrown, Cond.code yX3_thrown cX3_thrown 1 (some .int), Cond.methodLink RL 74 yL_appendMany, Cond.static yL_appendMany, Cond.codeWith yL_appendMany cL_appendMany 6 (some .int) [(0, 12, 15, 13), (0, 12, 19, 15)], Cond.methodLink RL 17 yX2_appendMany, Cond.instanceMethod yX2_appendMany]
def wsL_law0_r9 : List Cond := [Cond.selects RX2 yX2_appendMany yX2_appendMany, Cond.code yX2_appendMany cX2_appendMany 7 (some .int), Cond.methodLink RL 77 yX3_appendMany, Cond.instanceMethod yX3_appendMany, Cond.selects RX3 yX3_appendMany yX3_appendMany, Cond.code yX3_appendMany cX3_appendMany 6 (some .int), Cond.methodLink RL 78 yL_insert, Cond.static yL_insert, Cond.codeWith yL_insert cL_insert 4 (some .int) [(0, 9, 12, 13), (0, 9, 15, 15)], Cond.methodLink RL 21 yX2_insert, Cond.instanceMethod yX2_insert, Cond.selects RX2 yX2_insert yX2_insert, Cond.code yX2_insert cX2_insert 3 (some .int), Cond.methodLink RX2 87 yX0_indexOf, Cond.instanceMethod yX0_indexOf, Cond.selects RX0 yX0_indexOf yX0_indexOf, Cond.code yX0_indexOf cX0_indexOf 3 (some .int), Cond.methodLink RX0 41 yX0_below, Cond.methodLink RX2 91 yX2_isThere, Cond.instanceMethod yX2_isThere, Cond.selects RX2 yX2_isThere yX2_isThere, Cond.code yX2_isThere cX2_isThere 3 (some .boolean), Cond.methodLink RX2 134 yX0_at, Cond.methodLink RX2 103 yX2_addLate]
def wsL_law0_r10 : List Cond := [Cond.instanceMethod yX2_addLate, Cond.selects RX2 yX2_addLate yX2_addLate, Cond.code yX2_addLate cX2_addLate 2 none, Cond.methodLink RX2 212 yX0_squeezeIn, Cond.instanceMethod yX0_squeezeIn, Cond.selects RX0 yX0_squeezeIn yX0_squeezeIn, Cond.code yX0_squeezeIn cX0_squeezeIn 4 none, Cond.methodLink RX0 29 yX0_push, Cond.methodLink RX0 37 yX0_put, Cond.methodLink RX2 123 yX2_mergeAll, Cond.instanceMethod yX2_mergeAll, Cond.selects RX2 yX2_mergeAll yX2_mergeAll, Cond.code yX2_mergeAll cX2_mergeAll 2 none, Cond.methodLink RX2 215 yX0_clear, Cond.instanceMethod yX0_clear, Cond.selects RX0 yX0_clear yX0_clear, Cond.code yX0_clear cX0_clear 1 none, Cond.methodLink RX2 242 yX2_gather, Cond.instanceMethod yX2_gather, Cond.selects RX2 yX2_gather yX2_gather, Cond.code yX2_gather cX2_gather 9 (some .boolean), Cond.methodLink RX2 246 yX2_cutFresh, Cond.instanceMethod yX2_cutFresh, Cond.selects RX2 yX2_cutFresh yX2_cutFresh]
def wsL_law0_r11 : List Cond := [Cond.code yX2_cutFresh cX2_cutFresh 4 none, Cond.methodLink RX2 249 yX2_mergePiece, Cond.instanceMethod yX2_mergePiece, Cond.selects RX2 yX2_mergePiece yX2_mergePiece, Cond.code yX2_mergePiece cX2_mergePiece 6 none, Cond.methodLink RX2 177 yX2_firstOf, Cond.instanceMethod yX2_firstOf, Cond.selects RX2 yX2_firstOf yX2_firstOf, Cond.code yX2_firstOf cX2_firstOf 2 (some .int), Cond.methodLink RX2 192 yX0_has, Cond.methodLink RX2 161 yX2_endOf, Cond.instanceMethod yX2_endOf, Cond.selects RX2 yX2_endOf yX2_endOf, Cond.code yX2_endOf cX2_endOf 2 (some .int), Cond.methodLink RX2 131 yX2_clearRow, Cond.instanceMethod yX2_clearRow, Cond.selects RX2 yX2_clearRow yX2_clearRow, Cond.code yX2_clearRow cX2_clearRow 1 none, Cond.methodLink RX2 218 yX2_clearPieces, Cond.instanceMethod yX2_clearPieces, Cond.selects RX2 yX2_clearPieces yX2_clearPieces, Cond.code yX2_clearPieces cX2_clearPieces 1 none, Cond.methodLink RX2 252 yX2_joinFresh, Cond.instanceMethod yX2_joinFresh]
def wsL_law0_r12 : List Cond := [Cond.selects RX2 yX2_joinFresh yX2_joinFresh, Cond.code yX2_joinFresh cX2_joinFresh 4 none, Cond.methodLink RX2 255 yX2_tailTakes, Cond.instanceMethod yX2_tailTakes, Cond.selects RX2 yX2_tailTakes yX2_tailTakes, Cond.code yX2_tailTakes cX2_tailTakes 4 (some .boolean), Cond.methodLink RL 80 yX3_insert, Cond.instanceMethod yX3_insert, Cond.selects RX3 yX3_insert yX3_insert, Cond.code yX3_insert cX3_insert 4 (some .int), Cond.methodLink RX3 76 yX3_isInRow, Cond.instanceMethod yX3_isInRow, Cond.selects RX3 yX3_isInRow yX3_isInRow, Cond.code yX3_isInRow cX3_isInRow 3 (some .boolean), Cond.methodLink RX3 66 yX3_placeOf, Cond.instanceMethod yX3_placeOf, Cond.selects RX3 yX3_placeOf yX3_placeOf, Cond.code yX3_placeOf cX3_placeOf 3 (some .int), Cond.methodLink RX3 93 yX3_isThere, Cond.instanceMethod yX3_isThere, Cond.selects RX3 yX3_isThere yX3_isThere, Cond.code yX3_isThere cX3_isThere 2 (some .boolean), Cond.methodLink RX3 72 yX3_isBuffered, Cond.instanceMethod yX3_isBuffered]
def wsL_law0_r13 : List Cond := [Cond.selects RX3 yX3_isBuffered yX3_isBuffered, Cond.code yX3_isBuffered cX3_isBuffered 4 (some .boolean), Cond.methodLink RX3 96 yX3_mergesAll, Cond.instanceMethod yX3_mergesAll, Cond.selects RX3 yX3_mergesAll yX3_mergesAll, Cond.code yX3_mergesAll cX3_mergesAll 6 none, Cond.fieldLink RX3 102 "LearnedLedgeModel" "madeMany" "I", Cond.fieldLink RX3 121 "LearnedLedgeModel" "splits" "I", Cond.fieldLink RX3 130 "LearnedLedgeModel" "merges" "I", Cond.methodLink RX3 114 yX3_gathers, Cond.instanceMethod yX3_gathers, Cond.selects RX3 yX3_gathers yX3_gathers, Cond.code yX3_gathers cX3_gathers 5 (some .boolean), Cond.methodLink RX3 54 yX3_behind, Cond.instanceMethod yX3_behind, Cond.selects RX3 yX3_behind yX3_behind, Cond.code yX3_behind cX3_behind 2 (some .int), Cond.methodLink RX3 105 yX3_makes, Cond.instanceMethod yX3_makes, Cond.selects RX3 yX3_makes yX3_makes, Cond.code yX3_makes cX3_makes 3 none, Cond.methodLink RX3 108 yX3_pieceOf, Cond.instanceMethod yX3_pieceOf, Cond.selects RX3 yX3_pieceOf yX3_pieceOf]
def wsL_law0_r14 : List Cond := [Cond.code yX3_pieceOf cX3_pieceOf 4 (some .int), Cond.methodLink RX3 117 yX3_cuts, Cond.instanceMethod yX3_cuts, Cond.selects RX3 yX3_cuts yX3_cuts, Cond.code yX3_cuts cX3_cuts 5 (some .int), Cond.methodLink RX3 124 yX3_becomes, Cond.instanceMethod yX3_becomes, Cond.selects RX3 yX3_becomes yX3_becomes, Cond.code yX3_becomes cX3_becomes 3 none, Cond.methodLink RX3 127 yX3_joinsPieces, Cond.instanceMethod yX3_joinsPieces, Cond.selects RX3 yX3_joinsPieces yX3_joinsPieces, Cond.code yX3_joinsPieces cX3_joinsPieces 3 none, Cond.fieldLink RX3 111 "LearnedLedgeModel" "joins" "I", Cond.methodLink RL 81 yL_remove, Cond.static yL_remove, Cond.codeWith yL_remove cL_remove 4 (some .int) [(0, 9, 12, 27)], Cond.classLink RL 27 "java/util/NoSuchElementException", Cond.methodLink RL 24 yX2_remove, Cond.instanceMethod yX2_remove, Cond.selects RX2 yX2_remove yX2_remove, Cond.code yX2_remove cX2_remove 3 (some .int), Cond.classLink RX2 109 "java/util/NoSuchElementException", Cond.initialized "java/util/NoSuchElementException"]
def wsL_law0_r15 : List Cond := [Cond.methodLink RX2 117 yX0_takeOut, Cond.instanceMethod yX0_takeOut, Cond.selects RX0 yX0_takeOut yX0_takeOut, Cond.code yX0_takeOut cX0_takeOut 3 none, Cond.methodLink RX2 120 yX2_keysThere, Cond.instanceMethod yX2_keysThere, Cond.selects RX2 yX2_keysThere yX2_keysThere, Cond.code yX2_keysThere cX2_keysThere 1 (some .int), Cond.methodLink RL 83 yX3_remove, Cond.instanceMethod yX3_remove, Cond.selects RX3 yX3_remove yX3_remove, Cond.code yX3_remove cX3_remove 4 (some .int), Cond.methodLink RX3 99 yX3_keys, Cond.instanceMethod yX3_keys, Cond.selects RX3 yX3_keys yX3_keys, Cond.code yX3_keys cX3_keys 1 (some .int), Cond.constantLong RX3 133 (1000001), Cond.methodLink RX3 135 yX3_below, Cond.instanceMethod yX3_below, Cond.selects RX3 yX3_below yX3_below, Cond.code yX3_below cX3_below 5 (some .int), Cond.methodLink RL 84 yX2_merge, Cond.instanceMethod yX2_merge, Cond.selects RX2 yX2_merge yX2_merge]
def wsL_law0_r16 : List Cond := [Cond.code yX2_merge cX2_merge 1 (some .int), Cond.methodLink RL 87 yX3_merge, Cond.instanceMethod yX3_merge, Cond.selects RX3 yX3_merge yX3_merge, Cond.code yX3_merge cX3_merge 1 (some .int), Cond.methodLink RL 88 yL_rebuild, Cond.static yL_rebuild, Cond.codeWith yL_rebuild cL_rebuild 5 (some .int) [(0, 10, 13, 13)], Cond.methodLink RL 29 yX2_rebuild, Cond.instanceMethod yX2_rebuild, Cond.selects RX2 yX2_rebuild yX2_rebuild, Cond.code yX2_rebuild cX2_rebuild 4 (some .int), Cond.methodLink RX2 128 yX2_gatherAll, Cond.instanceMethod yX2_gatherAll, Cond.selects RX2 yX2_gatherAll yX2_gatherAll, Cond.code yX2_gatherAll cX2_gatherAll 1 none, Cond.methodLink RL 91 yX3_rebuild, Cond.instanceMethod yX3_rebuild, Cond.selects RX3 yX3_rebuild yX3_rebuild, Cond.code yX3_rebuild cX3_rebuild 4 (some .int), Cond.methodLink RL 92 yX2_size, Cond.instanceMethod yX2_size, Cond.selects RX2 yX2_size yX2_size, Cond.code yX2_size cX2_size 1 (some .int)]
def wsL_law0_r17 : List Cond := [Cond.methodLink RL 95 yX3_size, Cond.instanceMethod yX3_size, Cond.selects RX3 yX3_size yX3_size, Cond.code yX3_size cX3_size 1 (some .int), Cond.methodLink RL 96 yX2_contains, Cond.instanceMethod yX2_contains, Cond.selects RX2 yX2_contains yX2_contains, Cond.code yX2_contains cX2_contains 2 (some .boolean), Cond.methodLink RL 100 yX3_contains, Cond.instanceMethod yX3_contains, Cond.selects RX3 yX3_contains yX3_contains, Cond.code yX3_contains cX3_contains 2 (some .boolean), Cond.methodLink RL 101 yX2_rank, Cond.instanceMethod yX2_rank, Cond.selects RX2 yX2_rank yX2_rank, Cond.code yX2_rank cX2_rank 2 (some .int), Cond.methodLink RX2 137 yX2_thereBelow, Cond.instanceMethod yX2_thereBelow, Cond.selects RX2 yX2_thereBelow yX2_thereBelow, Cond.code yX2_thereBelow cX2_thereBelow 5 (some .int), Cond.methodLink RL 104 yX3_rank, Cond.instanceMethod yX3_rank, Cond.selects RX3 yX3_rank yX3_rank, Cond.code yX3_rank cX3_rank 2 (some .int)]
def wsL_law0_r18 : List Cond := [Cond.methodLink RL 105 yL_select, Cond.static yL_select, Cond.codeWith yL_select cL_select 4 (some .int) [(0, 9, 12, 36)], Cond.classLink RL 36 "java/lang/IndexOutOfBoundsException", Cond.methodLink RL 33 yX2_select, Cond.instanceMethod yX2_select, Cond.selects RX2 yX2_select yX2_select, Cond.code yX2_select cX2_select 2 (some .int), Cond.classLink RX2 140 "java/lang/IndexOutOfBoundsException", Cond.initialized "java/lang/IndexOutOfBoundsException", Cond.methodLink RX2 145 yX2_keyThere, Cond.instanceMethod yX2_keyThere, Cond.selects RX2 yX2_keyThere yX2_keyThere, Cond.code yX2_keyThere cX2_keyThere 2 (some .int), Cond.methodLink RL 107 yX3_select, Cond.instanceMethod yX3_select, Cond.selects RX3 yX3_select yX3_select, Cond.code yX3_select cX3_select 2 (some .int), Cond.methodLink RX3 139 yX3_behindSo, Cond.instanceMethod yX3_behindSo, Cond.selects RX3 yX3_behindSo yX3_behindSo, Cond.code yX3_behindSo cX3_behindSo 4 (some .int), Cond.methodLink RL 108 yL_ceiling, Cond.static yL_ceiling]
def wsL_law0_r19 : List Cond := [Cond.codeWith yL_ceiling cL_ceiling 4 (some .int) [(0, 9, 12, 27)], Cond.methodLink RL 38 yX2_ceiling, Cond.instanceMethod yX2_ceiling, Cond.selects RX2 yX2_ceiling yX2_ceiling, Cond.code yX2_ceiling cX2_ceiling 3 (some .int), Cond.methodLink RL 110 yX3_ceiling, Cond.instanceMethod yX3_ceiling, Cond.selects RX3 yX3_ceiling yX3_ceiling, Cond.code yX3_ceiling cX3_ceiling 3 (some .int), Cond.methodLink RL 111 yX2_count, Cond.instanceMethod yX2_count, Cond.selects RX2 yX2_count yX2_count, Cond.code yX2_count cX2_count 3 (some .int), Cond.methodLink RL 114 yX3_count, Cond.instanceMethod yX3_count, Cond.selects RX3 yX3_count yX3_count, Cond.code yX3_count cX3_count 3 (some .int), Cond.methodLink RL 115 yX2_place, Cond.instanceMethod yX2_place, Cond.selects RX2 yX2_place yX2_place, Cond.code yX2_place cX2_place 2 (some .int), Cond.methodLink RL 118 yX3_place, Cond.instanceMethod yX3_place, Cond.selects RX3 yX3_place yX3_place]
def wsL_law0_r20 : List Cond := [Cond.code yX3_place cX3_place 2 (some .int), Cond.methodLink RL 119 yL_guess, Cond.static yL_guess, Cond.codeWith yL_guess cL_guess 4 (some .int) [(0, 8, 11, 13)], Cond.methodLink RL 41 yX2_guess, Cond.instanceMethod yX2_guess, Cond.selects RX2 yX2_guess yX2_guess, Cond.code yX2_guess cX2_guess 2 (some .long), Cond.methodLink RX2 150 yX2_pieceOf, Cond.instanceMethod yX2_pieceOf, Cond.selects RX2 yX2_pieceOf yX2_pieceOf, Cond.code yX2_pieceOf cX2_pieceOf 3 (some .int), Cond.methodLink RX2 153 yX2_guessBy, Cond.instanceMethod yX2_guessBy, Cond.selects RX2 yX2_guessBy yX2_guessBy, Cond.code yX2_guessBy cX2_guessBy 7 (some .long), Cond.constantLong RX2 231 (-1), Cond.methodLink RX2 233 yJ9_floorDiv_f86c9, Cond.static yJ9_floorDiv_f86c9, Cond.initialized RJ9, Cond.code yJ9_floorDiv_f86c9 cJ9_floorDiv_f86c9 6 (some .long), Cond.methodLink RL 121 yX3_guess, Cond.instanceMethod yX3_guess, Cond.selects RX3 yX3_guess yX3_guess]
def wsL_law0_r21 : List Cond := [Cond.code yX3_guess cX3_guess 3 (some .long), Cond.constantLong RX3 145 (-1), Cond.methodLink RX3 147 yX3_guessOf, Cond.instanceMethod yX3_guessOf, Cond.selects RX3 yX3_guessOf yX3_guessOf, Cond.code yX3_guessOf cX3_guessOf 3 (some .long), Cond.methodLink RX3 142 yX3_lays, Cond.instanceMethod yX3_lays, Cond.selects RX3 yX3_lays yX3_lays, Cond.code yX3_lays cX3_lays 4 none, Cond.methodLink RX3 62 yX3_common, Cond.static yX3_common, Cond.code yX3_common cX3_common 10 (some .long), Cond.methodLink RL 122 yL_looks, Cond.static yL_looks, Cond.codeWith yL_looks cL_looks 4 (some .int) [(0, 9, 12, 13)], Cond.methodLink RL 45 yX2_looks, Cond.instanceMethod yX2_looks, Cond.selects RX2 yX2_looks yX2_looks, Cond.code yX2_looks cX2_looks 3 (some .int), Cond.methodLink RX2 157 yX2_looksBy, Cond.instanceMethod yX2_looksBy, Cond.selects RX2 yX2_looksBy yX2_looksBy, Cond.code yX2_looksBy cX2_looksBy 11 (some .int)]
def wsL_law0_r22 : List Cond := [Cond.methodLink RX2 170 Lib.MathLoose.max_long.x, Cond.static Lib.MathLoose.max_long.x, Cond.code Lib.MathLoose.max_long.x Lib.MathLoose.max_long.code 4 (some .long), Cond.methodLink RX2 236 Lib.MathLoose.min_long.x, Cond.static Lib.MathLoose.min_long.x, Cond.code Lib.MathLoose.min_long.x Lib.MathLoose.min_long.code 4 (some .long), Cond.methodLink RL 124 yX3_looks, Cond.instanceMethod yX3_looks, Cond.selects RX3 yX3_looks yX3_looks, Cond.code yX3_looks cX3_looks 13 (some .int), Cond.constantLong RX3 151 (2), Cond.methodLink RL 125 yX2_worstError, Cond.instanceMethod yX2_worstError, Cond.selects RX2 yX2_worstError yX2_worstError, Cond.code yX2_worstError cX2_worstError 8 (some .int), Cond.methodLink RX2 164 Lib.MathLoose.abs_long.x, Cond.static Lib.MathLoose.abs_long.x, Cond.code Lib.MathLoose.abs_long.x Lib.MathLoose.abs_long.code 2 (some .long), Cond.methodLink RL 128 yX3_worstError, Cond.instanceMethod yX3_worstError, Cond.selects RX3 yX3_worstError yX3_worstError, Cond.code yX3_worstError cX3_worstError 6 (some .int), Cond.methodLink RL 129 yX2_pieces, Cond.instanceMethod yX2_pieces]
def wsL_law0_r23 : List Cond := [Cond.selects RX2 yX2_pieces yX2_pieces, Cond.code yX2_pieces cX2_pieces 1 (some .int), Cond.methodLink RL 132 yX3_pieces, Cond.instanceMethod yX3_pieces, Cond.selects RX3 yX3_pieces yX3_pieces, Cond.code yX3_pieces cX3_pieces 1 (some .int), Cond.methodLink RL 133 yL_start, Cond.static yL_start, Cond.codeWith yL_start cL_start 4 (some .int) [(0, 9, 12, 36)], Cond.methodLink RL 48 yX2_start, Cond.instanceMethod yX2_start, Cond.selects RX2 yX2_start yX2_start, Cond.code yX2_start cX2_start 2 (some .int), Cond.methodLink RX2 174 yX2_needPiece, Cond.instanceMethod yX2_needPiece, Cond.selects RX2 yX2_needPiece yX2_needPiece, Cond.code yX2_needPiece cX2_needPiece 2 none, Cond.methodLink RL 135 yX3_start, Cond.instanceMethod yX3_start, Cond.selects RX3 yX3_start yX3_start, Cond.code yX3_start cX3_start 2 (some .int), Cond.methodLink RX3 153 yX3_asks, Cond.instanceMethod yX3_asks, Cond.selects RX3 yX3_asks yX3_asks]
def wsL_law0_r24 : List Cond := [Cond.code yX3_asks cX3_asks 2 (some .boolean), Cond.methodLink RL 136 yL_firstKey, Cond.static yL_firstKey, Cond.codeWith yL_firstKey cL_firstKey 4 (some .int) [(0, 9, 12, 36)], Cond.methodLink RL 51 yX2_firstKey, Cond.instanceMethod yX2_firstKey, Cond.selects RX2 yX2_firstKey yX2_firstKey, Cond.code yX2_firstKey cX2_firstKey 2 (some .int), Cond.methodLink RL 138 yX3_firstKey, Cond.instanceMethod yX3_firstKey, Cond.selects RX3 yX3_firstKey yX3_firstKey, Cond.code yX3_firstKey cX3_firstKey 2 (some .int), Cond.methodLink RL 139 yL_rise, Cond.static yL_rise, Cond.codeWith yL_rise cL_rise 4 (some .int) [(0, 9, 12, 36)], Cond.methodLink RL 54 yX2_rise, Cond.instanceMethod yX2_rise, Cond.selects RX2 yX2_rise yX2_rise, Cond.code yX2_rise cX2_rise 2 (some .int), Cond.methodLink RL 141 yX3_rise, Cond.instanceMethod yX3_rise, Cond.selects RX3 yX3_rise yX3_rise, Cond.code yX3_rise cX3_rise 2 (some .int), Cond.methodLink RX3 156 yX3_riseOf]
def wsL_law0_r25 : List Cond := [Cond.instanceMethod yX3_riseOf, Cond.selects RX3 yX3_riseOf yX3_riseOf, Cond.code yX3_riseOf cX3_riseOf 2 (some .int), Cond.methodLink RL 142 yL_run, Cond.static yL_run, Cond.codeWith yL_run cL_run 4 (some .int) [(0, 9, 12, 36)], Cond.methodLink RL 57 yX2_run, Cond.instanceMethod yX2_run, Cond.selects RX2 yX2_run yX2_run, Cond.code yX2_run cX2_run 2 (some .int), Cond.methodLink RL 144 yX3_run, Cond.instanceMethod yX3_run, Cond.selects RX3 yX3_run yX3_run, Cond.code yX3_run cX3_run 2 (some .int), Cond.methodLink RX3 159 yX3_runOf, Cond.instanceMethod yX3_runOf, Cond.selects RX3 yX3_runOf yX3_runOf, Cond.code yX3_runOf cX3_runOf 2 (some .int), Cond.methodLink RL 145 yX2_slopes, Cond.instanceMethod yX2_slopes, Cond.selects RX2 yX2_slopes yX2_slopes, Cond.code yX2_slopes cX2_slopes 3 (some .int), Cond.methodLink RX2 180 yX2_firstAlike, Cond.instanceMethod yX2_firstAlike]
def wsL_law0_r26 : List Cond := [Cond.selects RX2 yX2_firstAlike yX2_firstAlike, Cond.code yX2_firstAlike cX2_firstAlike 3 (some .int), Cond.methodLink RX2 239 yX2_alike, Cond.instanceMethod yX2_alike, Cond.selects RX2 yX2_alike yX2_alike, Cond.code yX2_alike cX2_alike 3 (some .boolean), Cond.methodLink RL 148 yX3_slopes, Cond.instanceMethod yX3_slopes, Cond.selects RX3 yX3_slopes yX3_slopes, Cond.code yX3_slopes cX3_slopes 3 (some .int), Cond.methodLink RX3 162 yX3_alike, Cond.instanceMethod yX3_alike, Cond.selects RX3 yX3_alike yX3_alike, Cond.code yX3_alike cX3_alike 7 (some .int), Cond.methodLink RL 149 yX2_commonest, Cond.instanceMethod yX2_commonest, Cond.selects RX2 yX2_commonest yX2_commonest, Cond.code yX2_commonest cX2_commonest 5 (some .int), Cond.methodLink RX2 183 yX2_alikeFrom, Cond.instanceMethod yX2_alikeFrom, Cond.selects RX2 yX2_alikeFrom yX2_alikeFrom, Cond.code yX2_alikeFrom cX2_alikeFrom 4 (some .int), Cond.methodLink RL 152 yX3_commonest, Cond.instanceMethod yX3_commonest]
def wsL_law0_r27 : List Cond := [Cond.selects RX3 yX3_commonest yX3_commonest, Cond.code yX3_commonest cX3_commonest 5 (some .int), Cond.methodLink RL 153 yX2_buffered, Cond.instanceMethod yX2_buffered, Cond.selects RX2 yX2_buffered yX2_buffered, Cond.code yX2_buffered cX2_buffered 1 (some .int), Cond.methodLink RL 156 yX3_buffered, Cond.instanceMethod yX3_buffered, Cond.selects RX3 yX3_buffered yX3_buffered, Cond.code yX3_buffered cX3_buffered 1 (some .int), Cond.methodLink RL 157 yX2_marked, Cond.instanceMethod yX2_marked, Cond.selects RX2 yX2_marked yX2_marked, Cond.code yX2_marked cX2_marked 1 (some .int), Cond.methodLink RL 160 yX3_marked, Cond.instanceMethod yX3_marked, Cond.selects RX3 yX3_marked yX3_marked, Cond.code yX3_marked cX3_marked 3 (some .int), Cond.methodLink RL 161 yX2_rowSize, Cond.instanceMethod yX2_rowSize, Cond.selects RX2 yX2_rowSize yX2_rowSize, Cond.code yX2_rowSize cX2_rowSize 1 (some .int), Cond.methodLink RL 164 yX3_rowSize, Cond.instanceMethod yX3_rowSize]
def wsL_law0_r28 : List Cond := [Cond.selects RX3 yX3_rowSize yX3_rowSize, Cond.code yX3_rowSize cX3_rowSize 1 (some .int), Cond.methodLink RL 165 yX2_merges, Cond.instanceMethod yX2_merges, Cond.selects RX2 yX2_merges yX2_merges, Cond.code yX2_merges cX2_merges 1 (some .int), Cond.methodLink RL 168 yX3_merges, Cond.instanceMethod yX3_merges, Cond.selects RX3 yX3_merges yX3_merges, Cond.code yX3_merges cX3_merges 1 (some .int), Cond.methodLink RL 169 yX2_splits, Cond.instanceMethod yX2_splits, Cond.selects RX2 yX2_splits yX2_splits, Cond.code yX2_splits cX2_splits 1 (some .int), Cond.methodLink RL 172 yX3_splits, Cond.instanceMethod yX3_splits, Cond.selects RX3 yX3_splits yX3_splits, Cond.code yX3_splits cX3_splits 1 (some .int), Cond.methodLink RL 173 yX2_joins, Cond.instanceMethod yX2_joins, Cond.selects RX2 yX2_joins yX2_joins, Cond.code yX2_joins cX2_joins 1 (some .int), Cond.methodLink RL 176 yX3_joins, Cond.instanceMethod yX3_joins]
def wsL_law0_r29 : List Cond := [Cond.selects RX3 yX3_joins yX3_joins, Cond.code yX3_joins cX3_joins 1 (some .int)]
def wsL_law0 : List Cond := (wsL_law0_r1 ++ (wsL_law0_r2 ++ (wsL_law0_r3 ++ (wsL_law0_r4 ++ (wsL_law0_r5 ++ (wsL_law0_r6 ++ (wsL_law0_r7 ++ (wsL_law0_r8 ++ (wsL_law0_r9 ++ (wsL_law0_r10 ++ (wsL_law0_r11 ++ (wsL_law0_r12 ++ (wsL_law0_r13 ++ (wsL_law0_r14 ++ (wsL_law0_r15 ++ (wsL_law0_r16 ++ (wsL_law0_r17 ++ (wsL_law0_r18 ++ (wsL_law0_r19 ++ (wsL_law0_r20 ++ (wsL_law0_r21 ++ (wsL_law0_r22 ++ (wsL_law0_r23 ++ (wsL_law0_r24 ++ (wsL_law0_r25 ++ (wsL_law0_r26 ++ (wsL_law0_r27 ++ (wsL_law0_r28 ++ wsL_law0_r29)))))))))))))))))))))))))))) ++ wsX20 ++ wsX30 ++ wsX00 ++ wsX10 ++ ([] : List Cond)
def wsL_law : List Cond := wsL_law0 ++ (vx_atS RX2 84 "java/lang/IllegalArgumentException" ["java/lang/RuntimeException", "java/lang/Exception"]).filter goodWord ++ (vx_atS RX2 102 "java/lang/IllegalStateException" ["java/lang/RuntimeException", "java/lang/Exception"]).filter goodWord ++ (ns_atS RX2 113).filter goodWord ++ (vx_atS RX2 144 "java/lang/IndexOutOfBoundsException" ["java/lang/RuntimeException", "java/lang/Exception"]).filter goodWord
end
section
theorem zin_r {big : List Cond} (ws : List Cond) (ps : List Nat) (hp : ws = ps.filterMap (fun i => big[i]?)) : ∀ w ∈ ws, w ∈ big := by
  intro w hw
  rw [hp] at hw
  obtain ⟨i, -, hi⟩ := List.mem_filterMap.mp hw
  first | exact List.mem_of_getElem? hi | exact List.getElem?_mem hi
theorem zap {big a b : List Cond} (ha : ∀ w ∈ a, w ∈ big) (hb : ∀ w ∈ b, w ∈ big) : ∀ w ∈ a ++ b, w ∈ big := fun w h => (List.mem_append.mp h).elim (ha w) (hb w)
set_option maxRecDepth 20000 in
theorem zin_wsL_law0_r1 : ∀ w ∈ wsL_law0_r1, w ∈ lw_tbl := zin_r _ [68, 69, 56, 644, 645, 60, 937, 70, 71, 72, 73, 74, 75, 76, 77, 57, 121, 122, 123, 124, 125, 126, 93, 94] (by decide +kernel)
set_option maxRecDepth 20000 in
theorem zin_wsL_law0_r2 : ∀ w ∈ wsL_law0_r2, w ∈ lw_tbl := zin_r _ [59, 127, 128, 129, 130, 131, 132, 133, 134, 135, 78, 79, 80, 81, 82, 83, 58, 84, 92, 85, 86, 96, 97, 98] (by decide +kernel)
set_option maxRecDepth 20000 in
theorem zin_wsL_law0_r3 : ∀ w ∈ wsL_law0_r3, w ∈ lw_tbl := zin_r _ [102, 103, 104, 105, 646, 647, 648, 649, 651, 652, 653, 705, 654, 656, 658, 663, 664, 377, 378, 55, 379, 380, 381, 382] (by decide +kernel)
set_option maxRecDepth 20000 in
theorem zin_wsL_law0_r4 : ∀ w ∈ wsL_law0_r4, w ∈ lw_tbl := zin_r _ [383, 384, 385, 386, 387, 388, 391, 64, 389, 390, 460, 462, 22, 463, 464, 65, 220, 221, 222, 223, 224, 188, 189, 190] (by decide +kernel)
set_option maxRecDepth 20000 in
theorem zin_wsL_law0_r5 : ∀ w ∈ wsL_law0_r5, w ∈ lw_tbl := zin_r _ [191, 192, 193, 194, 179, 180, 181, 182, 278, 280, 14, 281, 480, 482, 23, 483, 195, 196, 197, 198, 203, 204, 205, 206] (by decide +kernel)
set_option maxRecDepth 20000 in
theorem zin_wsL_law0_r6 : ∀ w ∈ wsL_law0_r6, w ∈ lw_tbl := zin_r _ [99, 100, 101, 207, 262, 264, 12, 265, 250, 251, 252, 253, 254, 256, 11, 257, 266, 267, 268, 269, 258, 259, 260, 261] (by decide +kernel)
set_option maxRecDepth 20000 in
theorem zin_wsL_law0_r7 : ∀ w ∈ wsL_law0_r7, w ∈ lw_tbl := zin_r _ [246, 248, 10, 249, 208, 209, 210, 211, 710, 711, 712, 713, 650, 657, 714, 715, 716, 717, 718, 719, 721, 30, 722, 655] (by decide +kernel)
set_option maxRecDepth 20000 in
theorem zin_wsL_law0_r8 : ∀ w ∈ wsL_law0_r8, w ∈ lw_tbl := zin_r _ [659, 723, 725, 31, 726, 727, 729, 32, 730, 731, 733, 33, 734, 666, 667, 706, 707, 708, 709, 484, 485, 486, 487, 488] (by decide +kernel)
set_option maxRecDepth 20000 in
theorem zin_wsL_law0_r9 : ∀ w ∈ wsL_law0_r9, w ∈ lw_tbl := zin_r _ [489, 490, 735, 736, 737, 738, 492, 493, 494, 495, 496, 497, 498, 290, 291, 292, 293, 294, 286, 288, 15, 289, 187, 500] (by decide +kernel)
set_option maxRecDepth 20000 in
theorem zin_wsL_law0_r10 : ∀ w ∈ wsL_law0_r10, w ∈ lw_tbl := zin_r _ [502, 24, 503, 504, 505, 506, 507, 508, 509, 171, 173, 0, 174, 175, 176, 177, 178, 183, 185, 1, 186, 199, 201, 2] (by decide +kernel)
set_option maxRecDepth 20000 in
theorem zin_wsL_law0_r11 : ∀ w ∈ wsL_law0_r11, w ∈ lw_tbl := zin_r _ [202, 212, 214, 3, 215, 216, 218, 4, 219, 225, 226, 228, 5, 229, 230, 232, 6, 233, 234, 236, 7, 237, 238, 240] (by decide +kernel)
set_option maxRecDepth 20000 in
theorem zin_wsL_law0_r12 : ∀ w ∈ wsL_law0_r12, w ∈ lw_tbl := zin_r _ [8, 241, 242, 244, 9, 245, 739, 740, 741, 742, 743, 745, 34, 746, 747, 749, 35, 750, 751, 753, 36, 754, 755, 757] (by decide +kernel)
set_option maxRecDepth 20000 in
theorem zin_wsL_law0_r13 : ∀ w ∈ wsL_law0_r13, w ∈ lw_tbl := zin_r _ [37, 758, 759, 761, 38, 762, 665, 661, 660, 763, 765, 39, 766, 767, 769, 40, 770, 771, 773, 41, 774, 775, 777, 42] (by decide +kernel)
set_option maxRecDepth 20000 in
theorem zin_wsL_law0_r14 : ∀ w ∈ wsL_law0_r14, w ∈ lw_tbl := zin_r _ [778, 779, 781, 43, 782, 783, 785, 44, 786, 787, 789, 45, 790, 662, 510, 511, 512, 513, 514, 515, 516, 517, 518, 66] (by decide +kernel)
set_option maxRecDepth 20000 in
theorem zin_wsL_law0_r15 : ∀ w ∈ wsL_law0_r15, w ∈ lw_tbl := zin_r _ [534, 535, 536, 537, 274, 276, 13, 277, 791, 792, 793, 794, 795, 797, 46, 798, 799, 800, 802, 47, 803, 167, 168, 169] (by decide +kernel)
set_option maxRecDepth 20000 in
theorem zin_wsL_law0_r16 : ∀ w ∈ wsL_law0_r16, w ∈ lw_tbl := zin_r _ [170, 804, 805, 806, 807, 538, 539, 540, 541, 542, 543, 544, 546, 548, 25, 549, 808, 809, 810, 811, 270, 271, 272, 273] (by decide +kernel)
set_option maxRecDepth 20000 in
theorem zin_wsL_law0_r17 : ∀ w ∈ wsL_law0_r17, w ∈ lw_tbl := zin_r _ [812, 813, 814, 815, 282, 283, 284, 285, 816, 817, 818, 819, 295, 296, 297, 298, 299, 301, 16, 302, 820, 821, 822, 823] (by decide +kernel)
set_option maxRecDepth 20000 in
theorem zin_wsL_law0_r18 : ∀ w ∈ wsL_law0_r18, w ∈ lw_tbl := zin_r _ [550, 551, 552, 553, 554, 555, 556, 557, 558, 67, 574, 576, 26, 577, 824, 825, 826, 827, 828, 830, 48, 831, 578, 579] (by decide +kernel)
set_option maxRecDepth 20000 in
theorem zin_wsL_law0_r19 : ∀ w ∈ wsL_law0_r19, w ∈ lw_tbl := zin_r _ [580, 581, 582, 583, 584, 832, 833, 834, 835, 303, 304, 305, 306, 836, 837, 838, 839, 307, 308, 309, 310, 840, 841, 842] (by decide +kernel)
set_option maxRecDepth 20000 in
theorem zin_wsL_law0_r20 : ∀ w ∈ wsL_law0_r20, w ∈ lw_tbl := zin_r _ [843, 586, 587, 588, 589, 590, 591, 592, 593, 595, 27, 596, 315, 317, 17, 318, 319, 320, 321, 58, 322, 844, 845, 846] (by decide +kernel)
set_option maxRecDepth 20000 in
theorem zin_wsL_law0_r21 : ∀ w ∈ wsL_law0_r21, w ∈ lw_tbl := zin_r _ [847, 848, 849, 851, 49, 852, 853, 855, 50, 856, 857, 858, 859, 597, 598, 599, 600, 601, 602, 603, 604, 606, 28, 607] (by decide +kernel)
set_option maxRecDepth 20000 in
theorem zin_wsL_law0_r22 : ∀ w ∈ wsL_law0_r22, w ∈ lw_tbl := zin_r _ [326, 327, 328, 608, 609, 610, 860, 861, 862, 863, 864, 311, 312, 313, 314, 323, 324, 325, 865, 866, 867, 868, 329, 330] (by decide +kernel)
set_option maxRecDepth 20000 in
theorem zin_wsL_law0_r23 : ∀ w ∈ wsL_law0_r23, w ∈ lw_tbl := zin_r _ [331, 332, 869, 870, 871, 872, 611, 612, 613, 614, 615, 616, 617, 618, 620, 29, 621, 873, 874, 875, 876, 877, 879, 51] (by decide +kernel)
set_option maxRecDepth 20000 in
theorem zin_wsL_law0_r24 : ∀ w ∈ wsL_law0_r24, w ∈ lw_tbl := zin_r _ [880, 623, 624, 625, 626, 627, 628, 629, 881, 882, 883, 884, 630, 631, 632, 633, 634, 635, 636, 885, 886, 887, 888, 889] (by decide +kernel)
set_option maxRecDepth 20000 in
theorem zin_wsL_law0_r25 : ∀ w ∈ wsL_law0_r25, w ∈ lw_tbl := zin_r _ [891, 52, 892, 637, 638, 639, 640, 641, 642, 643, 893, 894, 895, 896, 897, 899, 53, 900, 333, 334, 335, 336, 337, 339] (by decide +kernel)
set_option maxRecDepth 20000 in
theorem zin_wsL_law0_r26 : ∀ w ∈ wsL_law0_r26, w ∈ lw_tbl := zin_r _ [18, 340, 341, 343, 19, 344, 901, 902, 903, 904, 905, 907, 54, 908, 345, 346, 347, 348, 349, 351, 20, 352, 909, 910] (by decide +kernel)
set_option maxRecDepth 20000 in
theorem zin_wsL_law0_r27 : ∀ w ∈ wsL_law0_r27, w ∈ lw_tbl := zin_r _ [911, 912, 353, 354, 355, 356, 913, 914, 915, 916, 357, 358, 359, 360, 917, 918, 919, 920, 361, 362, 363, 364, 921, 922] (by decide +kernel)
set_option maxRecDepth 20000 in
theorem zin_wsL_law0_r28 : ∀ w ∈ wsL_law0_r28, w ∈ lw_tbl := zin_r _ [923, 924, 365, 366, 367, 368, 925, 926, 927, 928, 369, 370, 371, 372, 929, 930, 931, 932, 373, 374, 375, 376, 933, 934] (by decide +kernel)
set_option maxRecDepth 20000 in
theorem zin_wsL_law0_r29 : ∀ w ∈ wsL_law0_r29, w ∈ lw_tbl := zin_r _ [935, 936] (by decide +kernel)
set_option maxRecDepth 20000 in
theorem zin_wsX20 : ∀ w ∈ wsX20, w ∈ lw_tbl := by decide +kernel
set_option maxRecDepth 20000 in
theorem zin_wsX30 : ∀ w ∈ wsX30, w ∈ lw_tbl := by decide +kernel
set_option maxRecDepth 20000 in
theorem zin_wsX00 : ∀ w ∈ wsX00, w ∈ lw_tbl := by decide +kernel
set_option maxRecDepth 20000 in
theorem zin_wsX10 : ∀ w ∈ wsX10, w ∈ lw_tbl := by decide +kernel
theorem wsL_law_in0 : ∀ w ∈ wsL_law0, w ∈ lw_tbl := (zap (zap (zap (zap (zap (zap (zin_wsL_law0_r1) (zap (zin_wsL_law0_r2) (zap (zin_wsL_law0_r3) (zap (zin_wsL_law0_r4) (zap (zin_wsL_law0_r5) (zap (zin_wsL_law0_r6) (zap (zin_wsL_law0_r7) (zap (zin_wsL_law0_r8) (zap (zin_wsL_law0_r9) (zap (zin_wsL_law0_r10) (zap (zin_wsL_law0_r11) (zap (zin_wsL_law0_r12) (zap (zin_wsL_law0_r13) (zap (zin_wsL_law0_r14) (zap (zin_wsL_law0_r15) (zap (zin_wsL_law0_r16) (zap (zin_wsL_law0_r17) (zap (zin_wsL_law0_r18) (zap (zin_wsL_law0_r19) (zap (zin_wsL_law0_r20) (zap (zin_wsL_law0_r21) (zap (zin_wsL_law0_r22) (zap (zin_wsL_law0_r23) (zap (zin_wsL_law0_r24) (zap (zin_wsL_law0_r25) (zap (zin_wsL_law0_r26) (zap (zin_wsL_law0_r27) (zap (zin_wsL_law0_r28) (zin_wsL_law0_r29))))))))))))))))))))))))))))) (zin_wsX20)) (zin_wsX30)) (zin_wsX00)) (zin_wsX10)) (fun _ h => absurd h List.not_mem_nil))
theorem wsL_law_x0 : ∀ w ∈ (vx_atS RX2 84 "java/lang/IllegalArgumentException" ["java/lang/RuntimeException", "java/lang/Exception"]).filter goodWord, w ∈ lw_tbl := by decide +kernel
theorem wsL_law_x1 : ∀ w ∈ (vx_atS RX2 102 "java/lang/IllegalStateException" ["java/lang/RuntimeException", "java/lang/Exception"]).filter goodWord, w ∈ lw_tbl := by decide +kernel
theorem wsL_law_x2 : ∀ w ∈ (ns_atS RX2 113).filter goodWord, w ∈ lw_tbl := by decide +kernel
theorem wsL_law_x3 : ∀ w ∈ (vx_atS RX2 144 "java/lang/IndexOutOfBoundsException" ["java/lang/RuntimeException", "java/lang/Exception"]).filter goodWord, w ∈ lw_tbl := by decide +kernel
theorem wsL_law_in : ∀ w ∈ wsL_law, w ∈ lw_tbl := fun w h => (List.mem_append.mp h).elim (fun h => (List.mem_append.mp h).elim (fun h => (List.mem_append.mp h).elim (fun h => (List.mem_append.mp h).elim (fun h => wsL_law_in0 w h) (fun h => wsL_law_x0 w h)) (fun h => wsL_law_x1 w h)) (fun h => wsL_law_x2 w h)) (fun h => wsL_law_x3 w h)
theorem inlX0 : ∀ w ∈ wsX00, w ∈ wsL_law := fun _ h => List.mem_append_left _ (List.mem_append_left _ (List.mem_append_left _ (List.mem_append_left _ (List.mem_append_left _ (List.mem_append_left _ (List.mem_append_right _ h))))))
theorem inX0 : ∀ w ∈ wsX00, w ∈ lw_tbl := fun w h => wsL_law_in w (inlX0 w h)
theorem inlX1 : ∀ w ∈ wsX10, w ∈ wsL_law := fun _ h => List.mem_append_left _ (List.mem_append_left _ (List.mem_append_left _ (List.mem_append_left _ (List.mem_append_left _ (List.mem_append_right _ h)))))
theorem inX1 : ∀ w ∈ wsX10, w ∈ lw_tbl := fun w h => wsL_law_in w (inlX1 w h)
theorem inlX2 : ∀ w ∈ wsX20, w ∈ wsL_law := fun _ h => List.mem_append_left _ (List.mem_append_left _ (List.mem_append_left _ (List.mem_append_left _ (List.mem_append_left _ (List.mem_append_left _ (List.mem_append_left _ (List.mem_append_left _ (List.mem_append_right _ h))))))))
theorem inX2 : ∀ w ∈ wsX20, w ∈ lw_tbl := fun w h => wsL_law_in w (inlX2 w h)
theorem inlX3 : ∀ w ∈ wsX30, w ∈ wsL_law := fun _ h => List.mem_append_left _ (List.mem_append_left _ (List.mem_append_left _ (List.mem_append_left _ (List.mem_append_left _ (List.mem_append_left _ (List.mem_append_left _ (List.mem_append_right _ h)))))))
theorem inX3 : ∀ w ∈ wsX30, w ∈ lw_tbl := fun w h => wsL_law_in w (inlX3 w h)
theorem inJx145de : ∀ w ∈ wsJx145de0, w ∈ lw_tbl := by decide +kernel
theorem inJ9 : ∀ w ∈ wsJ90, w ∈ lw_tbl := by decide +kernel
theorem inJ0 : ∀ w ∈ wsJ00, w ∈ lw_tbl := by decide +kernel
end
section
theorem dX0_init_0 : decode cX0_init 0 = .ok (.aload_n 0, 1) := by decide +kernel
theorem dX0_init_1 : decode cX0_init 1 = .ok (.invokespecial 3, 3) := by decide +kernel
theorem dX0_init_4 : decode cX0_init 4 = .ok (.aload_n 0, 1) := by decide +kernel
theorem dX0_init_5 : decode cX0_init 5 = .ok (.iconst 0, 1) := by decide +kernel
theorem dX0_init_6 : decode cX0_init 6 = .ok (.iload_n 1, 1) := by decide +kernel
theorem dX0_init_7 : decode cX0_init 7 = .ok (.invokestatic 9, 3) := by decide +kernel
theorem dX0_init_10 : decode cX0_init 10 = .ok (.newarray .int, 2) := by decide +kernel
theorem dX0_init_12 : decode cX0_init 12 = .ok (.putfield 15, 3) := by decide +kernel
theorem dX0_init_15 : decode cX0_init 15 = .ok (.aload_n 0, 1) := by decide +kernel
theorem dX0_init_16 : decode cX0_init 16 = .ok (.iconst 0, 1) := by decide +kernel
theorem dX0_init_17 : decode cX0_init 17 = .ok (.putfield 21, 3) := by decide +kernel
theorem dX0_init_20 : decode cX0_init 20 = .ok (.return_, 1) := by decide +kernel
theorem dX0_length_0 : decode cX0_length 0 = .ok (.aload_n 0, 1) := by decide +kernel
theorem dX0_length_1 : decode cX0_length 1 = .ok (.getfield 21, 3) := by decide +kernel
theorem dX0_length_4 : decode cX0_length 4 = .ok (.ireturn, 1) := by decide +kernel
theorem dX0_has_0 : decode cX0_has 0 = .ok (.iload_n 1, 1) := by decide +kernel
theorem dX0_has_1 : decode cX0_has 1 = .ok (.ifCond .lt 24, 3) := by decide +kernel
theorem dX0_has_4 : decode cX0_has 4 = .ok (.iload_n 1, 1) := by decide +kernel
theorem dX0_has_5 : decode cX0_has 5 = .ok (.aload_n 0, 1) := by decide +kernel
theorem dX0_has_6 : decode cX0_has 6 = .ok (.getfield 21, 3) := by decide +kernel
theorem dX0_has_9 : decode cX0_has 9 = .ok (.if_icmp .ge 16, 3) := by decide +kernel
theorem dX0_has_12 : decode cX0_has 12 = .ok (.iload_n 1, 1) := by decide +kernel
theorem dX0_has_13 : decode cX0_has 13 = .ok (.aload_n 0, 1) := by decide +kernel
theorem dX0_has_14 : decode cX0_has 14 = .ok (.getfield 15, 3) := by decide +kernel
theorem dX0_has_17 : decode cX0_has 17 = .ok (.arraylength, 1) := by decide +kernel
theorem dX0_has_18 : decode cX0_has 18 = .ok (.if_icmp .ge 7, 3) := by decide +kernel
theorem dX0_has_21 : decode cX0_has 21 = .ok (.iconst 1, 1) := by decide +kernel
theorem dX0_has_22 : decode cX0_has 22 = .ok (.goto 4, 3) := by decide +kernel
theorem dX0_has_25 : decode cX0_has 25 = .ok (.iconst 0, 1) := by decide +kernel
theorem dX0_has_26 : decode cX0_has 26 = .ok (.ireturn, 1) := by decide +kernel
set_option maxRecDepth 20000 in
theorem ggX0_at_X0_has : GoodIn wsX0_at wsX0_has := goodIn_r _ [6, 7, 1, 8, 9] (by decide +kernel) (by decide +kernel)
set_option maxRecDepth 20000 in
theorem gX0_at_X0_has : GoodIn wsX0_at (wsV RX0 25 RX0 yX0_has wsX0_has) := goodIn_app (goodIn_of _ (by decide +kernel)) ggX0_at_X0_has
theorem dX0_at_0 : decode cX0_at 0 = .ok (.aload_n 0, 1) := by decide +kernel
theorem dX0_at_1 : decode cX0_at 1 = .ok (.iload_n 1, 1) := by decide +kernel
theorem dX0_at_2 : decode cX0_at 2 = .ok (.invokevirtual 25, 3) := by decide +kernel
theorem dX0_at_5 : decode cX0_at 5 = .ok (.ifCond .eq 12, 3) := by decide +kernel
theorem dX0_at_8 : decode cX0_at 8 = .ok (.aload_n 0, 1) := by decide +kernel
theorem dX0_at_9 : decode cX0_at 9 = .ok (.getfield 15, 3) := by decide +kernel
theorem dX0_at_12 : decode cX0_at 12 = .ok (.iload_n 1, 1) := by decide +kernel
theorem dX0_at_13 : decode cX0_at 13 = .ok (.iaload, 1) := by decide +kernel
theorem dX0_at_14 : decode cX0_at 14 = .ok (.goto 4, 3) := by decide +kernel
theorem dX0_at_17 : decode cX0_at 17 = .ok (.iconst 0, 1) := by decide +kernel
theorem dX0_at_18 : decode cX0_at 18 = .ok (.ireturn, 1) := by decide +kernel
set_option maxRecDepth 20000 in
theorem ggX0_put_X0_has : GoodIn wsX0_put wsX0_has := goodIn_r _ [6, 7, 1, 8, 9] (by decide +kernel) (by decide +kernel)
set_option maxRecDepth 20000 in
theorem gX0_put_X0_has : GoodIn wsX0_put (wsV RX0 25 RX0 yX0_has wsX0_has) := goodIn_app (goodIn_of _ (by decide +kernel)) ggX0_put_X0_has
theorem dX0_put_0 : decode cX0_put 0 = .ok (.aload_n 0, 1) := by decide +kernel
theorem dX0_put_1 : decode cX0_put 1 = .ok (.iload_n 1, 1) := by decide +kernel
theorem dX0_put_2 : decode cX0_put 2 = .ok (.invokevirtual 25, 3) := by decide +kernel
theorem dX0_put_5 : decode cX0_put 5 = .ok (.ifCond .eq 10, 3) := by decide +kernel
theorem dX0_put_8 : decode cX0_put 8 = .ok (.aload_n 0, 1) := by decide +kernel
theorem dX0_put_9 : decode cX0_put 9 = .ok (.getfield 15, 3) := by decide +kernel
theorem dX0_put_12 : decode cX0_put 12 = .ok (.iload_n 1, 1) := by decide +kernel
theorem dX0_put_13 : decode cX0_put 13 = .ok (.iload_n 2, 1) := by decide +kernel
theorem dX0_put_14 : decode cX0_put 14 = .ok (.iastore, 1) := by decide +kernel
theorem dX0_put_15 : decode cX0_put 15 = .ok (.return_, 1) := by decide +kernel
theorem dX0_push_0 : decode cX0_push 0 = .ok (.aload_n 0, 1) := by decide +kernel
theorem dX0_push_1 : decode cX0_push 1 = .ok (.getfield 21, 3) := by decide +kernel
theorem dX0_push_4 : decode cX0_push 4 = .ok (.ifCond .lt 35, 3) := by decide +kernel
theorem dX0_push_7 : decode cX0_push 7 = .ok (.aload_n 0, 1) := by decide +kernel
theorem dX0_push_8 : decode cX0_push 8 = .ok (.getfield 21, 3) := by decide +kernel
theorem dX0_push_11 : decode cX0_push 11 = .ok (.aload_n 0, 1) := by decide +kernel
theorem dX0_push_12 : decode cX0_push 12 = .ok (.getfield 15, 3) := by decide +kernel
theorem dX0_push_15 : decode cX0_push 15 = .ok (.arraylength, 1) := by decide +kernel
theorem dX0_push_16 : decode cX0_push 16 = .ok (.if_icmp .ge 23, 3) := by decide +kernel
theorem dX0_push_19 : decode cX0_push 19 = .ok (.aload_n 0, 1) := by decide +kernel
theorem dX0_push_20 : decode cX0_push 20 = .ok (.getfield 15, 3) := by decide +kernel
theorem dX0_push_23 : decode cX0_push 23 = .ok (.aload_n 0, 1) := by decide +kernel
theorem dX0_push_24 : decode cX0_push 24 = .ok (.getfield 21, 3) := by decide +kernel
theorem dX0_push_27 : decode cX0_push 27 = .ok (.iload_n 1, 1) := by decide +kernel
theorem dX0_push_28 : decode cX0_push 28 = .ok (.iastore, 1) := by decide +kernel
theorem dX0_push_29 : decode cX0_push 29 = .ok (.aload_n 0, 1) := by decide +kernel
theorem dX0_push_30 : decode cX0_push 30 = .ok (.dup, 1) := by decide +kernel
theorem dX0_push_31 : decode cX0_push 31 = .ok (.getfield 21, 3) := by decide +kernel
theorem dX0_push_34 : decode cX0_push 34 = .ok (.iconst 1, 1) := by decide +kernel
theorem dX0_push_35 : decode cX0_push 35 = .ok (.iadd, 1) := by decide +kernel
theorem dX0_push_36 : decode cX0_push 36 = .ok (.putfield 21, 3) := by decide +kernel
theorem dX0_push_39 : decode cX0_push 39 = .ok (.return_, 1) := by decide +kernel
theorem dX0_clear_0 : decode cX0_clear 0 = .ok (.aload_n 0, 1) := by decide +kernel
theorem dX0_clear_1 : decode cX0_clear 1 = .ok (.iconst 0, 1) := by decide +kernel
theorem dX0_clear_2 : decode cX0_clear 2 = .ok (.putfield 21, 3) := by decide +kernel
theorem dX0_clear_5 : decode cX0_clear 5 = .ok (.return_, 1) := by decide +kernel
set_option maxRecDepth 20000 in
theorem ggX0_squeezeIn_X0_push : GoodIn wsX0_squeezeIn wsX0_push := goodIn_r _ [6, 1, 7, 20, 21] (by decide +kernel) (by decide +kernel)
set_option maxRecDepth 20000 in
theorem gX0_squeezeIn_X0_push : GoodIn wsX0_squeezeIn (wsV RX0 29 RX0 yX0_push wsX0_push) := goodIn_app (goodIn_of _ (by decide +kernel)) ggX0_squeezeIn_X0_push
set_option maxRecDepth 20000 in
theorem ggX0_squeezeIn_X0_at : GoodIn wsX0_squeezeIn wsX0_at := goodIn_r _ [11, 7, 12, 13, 14, 5, 15, 1, 20, 21] (by decide +kernel) (by decide +kernel)
set_option maxRecDepth 20000 in
theorem gX0_squeezeIn_X0_at : GoodIn wsX0_squeezeIn (wsV RX0 33 RX0 yX0_at wsX0_at) := goodIn_app (goodIn_of _ (by decide +kernel)) ggX0_squeezeIn_X0_at
set_option maxRecDepth 20000 in
theorem ggX0_squeezeIn_X0_put : GoodIn wsX0_squeezeIn wsX0_put := goodIn_r _ [19, 7, 12, 13, 14, 5, 15, 1, 20, 21] (by decide +kernel) (by decide +kernel)
set_option maxRecDepth 20000 in
theorem gX0_squeezeIn_X0_put : GoodIn wsX0_squeezeIn (wsV RX0 37 RX0 yX0_put wsX0_put) := goodIn_app (goodIn_of _ (by decide +kernel)) ggX0_squeezeIn_X0_put
theorem dX0_squeezeIn_0 : decode cX0_squeezeIn 0 = .ok (.aload_n 0, 1) := by decide +kernel
theorem dX0_squeezeIn_1 : decode cX0_squeezeIn 1 = .ok (.iload_n 2, 1) := by decide +kernel
theorem dX0_squeezeIn_2 : decode cX0_squeezeIn 2 = .ok (.invokevirtual 29, 3) := by decide +kernel
theorem dX0_squeezeIn_5 : decode cX0_squeezeIn 5 = .ok (.aload_n 0, 1) := by decide +kernel
theorem dX0_squeezeIn_6 : decode cX0_squeezeIn 6 = .ok (.getfield 21, 3) := by decide +kernel
theorem dX0_squeezeIn_9 : decode cX0_squeezeIn 9 = .ok (.iconst 1, 1) := by decide +kernel
theorem dX0_squeezeIn_10 : decode cX0_squeezeIn 10 = .ok (.isub, 1) := by decide +kernel
theorem dX0_squeezeIn_11 : decode cX0_squeezeIn 11 = .ok (.istore_n 3, 1) := by decide +kernel
theorem dX0_squeezeIn_12 : decode cX0_squeezeIn 12 = .ok (.iload_n 3, 1) := by decide +kernel
theorem dX0_squeezeIn_13 : decode cX0_squeezeIn 13 = .ok (.iload_n 1, 1) := by decide +kernel
theorem dX0_squeezeIn_14 : decode cX0_squeezeIn 14 = .ok (.if_icmp .le 21, 3) := by decide +kernel
theorem dX0_squeezeIn_17 : decode cX0_squeezeIn 17 = .ok (.aload_n 0, 1) := by decide +kernel
theorem dX0_squeezeIn_18 : decode cX0_squeezeIn 18 = .ok (.iload_n 3, 1) := by decide +kernel
theorem dX0_squeezeIn_19 : decode cX0_squeezeIn 19 = .ok (.aload_n 0, 1) := by decide +kernel
theorem dX0_squeezeIn_20 : decode cX0_squeezeIn 20 = .ok (.iload_n 3, 1) := by decide +kernel
theorem dX0_squeezeIn_21 : decode cX0_squeezeIn 21 = .ok (.iconst 1, 1) := by decide +kernel
theorem dX0_squeezeIn_22 : decode cX0_squeezeIn 22 = .ok (.isub, 1) := by decide +kernel
theorem dX0_squeezeIn_23 : decode cX0_squeezeIn 23 = .ok (.invokevirtual 33, 3) := by decide +kernel
theorem dX0_squeezeIn_26 : decode cX0_squeezeIn 26 = .ok (.invokevirtual 37, 3) := by decide +kernel
theorem dX0_squeezeIn_29 : decode cX0_squeezeIn 29 = .ok (.iinc 3 (-1), 3) := by decide +kernel
theorem dX0_squeezeIn_32 : decode cX0_squeezeIn 32 = .ok (.goto (-20), 3) := by decide +kernel
theorem dX0_squeezeIn_35 : decode cX0_squeezeIn 35 = .ok (.aload_n 0, 1) := by decide +kernel
theorem dX0_squeezeIn_36 : decode cX0_squeezeIn 36 = .ok (.iload_n 1, 1) := by decide +kernel
theorem dX0_squeezeIn_37 : decode cX0_squeezeIn 37 = .ok (.iload_n 2, 1) := by decide +kernel
theorem dX0_squeezeIn_38 : decode cX0_squeezeIn 38 = .ok (.invokevirtual 37, 3) := by decide +kernel
theorem dX0_squeezeIn_41 : decode cX0_squeezeIn 41 = .ok (.return_, 1) := by decide +kernel
set_option maxRecDepth 20000 in
theorem ggX0_takeOut_X0_has : GoodIn wsX0_takeOut wsX0_has := goodIn_r _ [6, 1, 7, 16, 17] (by decide +kernel) (by decide +kernel)
set_option maxRecDepth 20000 in
theorem gX0_takeOut_X0_has : GoodIn wsX0_takeOut (wsV RX0 25 RX0 yX0_has wsX0_has) := goodIn_app (goodIn_of _ (by decide +kernel)) ggX0_takeOut_X0_has
set_option maxRecDepth 20000 in
theorem ggX0_takeOut_X0_at : GoodIn wsX0_takeOut wsX0_at := goodIn_r _ [11, 7, 2, 3, 4, 5, 6, 1, 16, 17] (by decide +kernel) (by decide +kernel)
set_option maxRecDepth 20000 in
theorem gX0_takeOut_X0_at : GoodIn wsX0_takeOut (wsV RX0 33 RX0 yX0_at wsX0_at) := goodIn_app (goodIn_of _ (by decide +kernel)) ggX0_takeOut_X0_at
set_option maxRecDepth 20000 in
theorem ggX0_takeOut_X0_put : GoodIn wsX0_takeOut wsX0_put := goodIn_r _ [15, 7, 2, 3, 4, 5, 6, 1, 16, 17] (by decide +kernel) (by decide +kernel)
set_option maxRecDepth 20000 in
theorem gX0_takeOut_X0_put : GoodIn wsX0_takeOut (wsV RX0 37 RX0 yX0_put wsX0_put) := goodIn_app (goodIn_of _ (by decide +kernel)) ggX0_takeOut_X0_put
theorem dX0_takeOut_0 : decode cX0_takeOut 0 = .ok (.aload_n 0, 1) := by decide +kernel
theorem dX0_takeOut_1 : decode cX0_takeOut 1 = .ok (.iload_n 1, 1) := by decide +kernel
theorem dX0_takeOut_2 : decode cX0_takeOut 2 = .ok (.invokevirtual 25, 3) := by decide +kernel
theorem dX0_takeOut_5 : decode cX0_takeOut 5 = .ok (.ifCond .eq 43, 3) := by decide +kernel
theorem dX0_takeOut_8 : decode cX0_takeOut 8 = .ok (.iload_n 1, 1) := by decide +kernel
theorem dX0_takeOut_9 : decode cX0_takeOut 9 = .ok (.istore_n 2, 1) := by decide +kernel
theorem dX0_takeOut_10 : decode cX0_takeOut 10 = .ok (.iload_n 2, 1) := by decide +kernel
theorem dX0_takeOut_11 : decode cX0_takeOut 11 = .ok (.aload_n 0, 1) := by decide +kernel
theorem dX0_takeOut_12 : decode cX0_takeOut 12 = .ok (.getfield 21, 3) := by decide +kernel
theorem dX0_takeOut_15 : decode cX0_takeOut 15 = .ok (.iconst 1, 1) := by decide +kernel
theorem dX0_takeOut_16 : decode cX0_takeOut 16 = .ok (.isub, 1) := by decide +kernel
theorem dX0_takeOut_17 : decode cX0_takeOut 17 = .ok (.if_icmp .ge 21, 3) := by decide +kernel
theorem dX0_takeOut_20 : decode cX0_takeOut 20 = .ok (.aload_n 0, 1) := by decide +kernel
theorem dX0_takeOut_21 : decode cX0_takeOut 21 = .ok (.iload_n 2, 1) := by decide +kernel
theorem dX0_takeOut_22 : decode cX0_takeOut 22 = .ok (.aload_n 0, 1) := by decide +kernel
theorem dX0_takeOut_23 : decode cX0_takeOut 23 = .ok (.iload_n 2, 1) := by decide +kernel
theorem dX0_takeOut_24 : decode cX0_takeOut 24 = .ok (.iconst 1, 1) := by decide +kernel
theorem dX0_takeOut_25 : decode cX0_takeOut 25 = .ok (.iadd, 1) := by decide +kernel
theorem dX0_takeOut_26 : decode cX0_takeOut 26 = .ok (.invokevirtual 33, 3) := by decide +kernel
theorem dX0_takeOut_29 : decode cX0_takeOut 29 = .ok (.invokevirtual 37, 3) := by decide +kernel
theorem dX0_takeOut_32 : decode cX0_takeOut 32 = .ok (.iinc 2 1, 3) := by decide +kernel
theorem dX0_takeOut_35 : decode cX0_takeOut 35 = .ok (.goto (-25), 3) := by decide +kernel
theorem dX0_takeOut_38 : decode cX0_takeOut 38 = .ok (.aload_n 0, 1) := by decide +kernel
theorem dX0_takeOut_39 : decode cX0_takeOut 39 = .ok (.dup, 1) := by decide +kernel
theorem dX0_takeOut_40 : decode cX0_takeOut 40 = .ok (.getfield 21, 3) := by decide +kernel
theorem dX0_takeOut_43 : decode cX0_takeOut 43 = .ok (.iconst 1, 1) := by decide +kernel
theorem dX0_takeOut_44 : decode cX0_takeOut 44 = .ok (.isub, 1) := by decide +kernel
theorem dX0_takeOut_45 : decode cX0_takeOut 45 = .ok (.putfield 21, 3) := by decide +kernel
theorem dX0_takeOut_48 : decode cX0_takeOut 48 = .ok (.return_, 1) := by decide +kernel
set_option maxRecDepth 20000 in
theorem ggX0_below_X0_at : GoodIn wsX0_below wsX0_at := goodIn_r _ [6, 7, 8, 9, 10, 5, 11, 1, 12, 13] (by decide +kernel) (by decide +kernel)
set_option maxRecDepth 20000 in
theorem gX0_below_X0_at : GoodIn wsX0_below (wsV RX0 33 RX0 yX0_at wsX0_at) := goodIn_app (goodIn_of _ (by decide +kernel)) ggX0_below_X0_at
theorem dX0_below_0 : decode cX0_below 0 = .ok (.iconst 0, 1) := by decide +kernel
theorem dX0_below_1 : decode cX0_below 1 = .ok (.istore_n 2, 1) := by decide +kernel
theorem dX0_below_2 : decode cX0_below 2 = .ok (.aload_n 0, 1) := by decide +kernel
theorem dX0_below_3 : decode cX0_below 3 = .ok (.getfield 21, 3) := by decide +kernel
theorem dX0_below_6 : decode cX0_below 6 = .ok (.istore_n 3, 1) := by decide +kernel
theorem dX0_below_7 : decode cX0_below 7 = .ok (.iconst 0, 1) := by decide +kernel
theorem dX0_below_8 : decode cX0_below 8 = .ok (.istore 4, 2) := by decide +kernel
theorem dX0_below_10 : decode cX0_below 10 = .ok (.iload 4, 2) := by decide +kernel
theorem dX0_below_12 : decode cX0_below 12 = .ok (.bipush 64, 2) := by decide +kernel
theorem dX0_below_14 : decode cX0_below 14 = .ok (.if_icmp .ge 42, 3) := by decide +kernel
theorem dX0_below_17 : decode cX0_below 17 = .ok (.iload_n 2, 1) := by decide +kernel
theorem dX0_below_18 : decode cX0_below 18 = .ok (.iload_n 3, 1) := by decide +kernel
theorem dX0_below_19 : decode cX0_below 19 = .ok (.if_icmp .ge 37, 3) := by decide +kernel
theorem dX0_below_22 : decode cX0_below 22 = .ok (.iload_n 2, 1) := by decide +kernel
theorem dX0_below_23 : decode cX0_below 23 = .ok (.iload_n 3, 1) := by decide +kernel
theorem dX0_below_24 : decode cX0_below 24 = .ok (.iadd, 1) := by decide +kernel
theorem dX0_below_25 : decode cX0_below 25 = .ok (.iconst 2, 1) := by decide +kernel
theorem dX0_below_26 : decode cX0_below 26 = .ok (.idiv, 1) := by decide +kernel
theorem dX0_below_27 : decode cX0_below 27 = .ok (.istore 5, 2) := by decide +kernel
theorem dX0_below_29 : decode cX0_below 29 = .ok (.aload_n 0, 1) := by decide +kernel
theorem dX0_below_30 : decode cX0_below 30 = .ok (.iload 5, 2) := by decide +kernel
theorem dX0_below_32 : decode cX0_below 32 = .ok (.invokevirtual 33, 3) := by decide +kernel
theorem dX0_below_35 : decode cX0_below 35 = .ok (.iload_n 1, 1) := by decide +kernel
theorem dX0_below_36 : decode cX0_below 36 = .ok (.if_icmp .ge 11, 3) := by decide +kernel
theorem dX0_below_39 : decode cX0_below 39 = .ok (.iload 5, 2) := by decide +kernel
theorem dX0_below_41 : decode cX0_below 41 = .ok (.iconst 1, 1) := by decide +kernel
theorem dX0_below_42 : decode cX0_below 42 = .ok (.iadd, 1) := by decide +kernel
theorem dX0_below_43 : decode cX0_below 43 = .ok (.istore_n 2, 1) := by decide +kernel
theorem dX0_below_44 : decode cX0_below 44 = .ok (.goto 6, 3) := by decide +kernel
theorem dX0_below_47 : decode cX0_below 47 = .ok (.iload 5, 2) := by decide +kernel
theorem dX0_below_49 : decode cX0_below 49 = .ok (.istore_n 3, 1) := by decide +kernel
theorem dX0_below_50 : decode cX0_below 50 = .ok (.iinc 4 1, 3) := by decide +kernel
theorem dX0_below_53 : decode cX0_below 53 = .ok (.goto (-43), 3) := by decide +kernel
theorem dX0_below_56 : decode cX0_below 56 = .ok (.iload_n 2, 1) := by decide +kernel
theorem dX0_below_57 : decode cX0_below 57 = .ok (.ireturn, 1) := by decide +kernel
set_option maxRecDepth 20000 in
theorem ggX0_indexOf_X0_below : GoodIn wsX0_indexOf wsX0_below := goodIn_r _ [6, 7, 8, 9, 10, 5, 11, 1, 12, 13, 14, 15, 16, 17] (by decide +kernel) (by decide +kernel)
set_option maxRecDepth 20000 in
theorem gX0_indexOf_X0_below : GoodIn wsX0_indexOf (wsV RX0 41 RX0 yX0_below wsX0_below) := goodIn_app (goodIn_of _ (by decide +kernel)) ggX0_indexOf_X0_below
set_option maxRecDepth 20000 in
theorem ggX0_indexOf_X0_has : GoodIn wsX0_indexOf wsX0_has := goodIn_r _ [15, 7, 1, 16, 17] (by decide +kernel) (by decide +kernel)
set_option maxRecDepth 20000 in
theorem gX0_indexOf_X0_has : GoodIn wsX0_indexOf (wsV RX0 25 RX0 yX0_has wsX0_has) := goodIn_app (goodIn_of _ (by decide +kernel)) ggX0_indexOf_X0_has
theorem dX0_indexOf_0 : decode cX0_indexOf 0 = .ok (.aload_n 0, 1) := by decide +kernel
theorem dX0_indexOf_1 : decode cX0_indexOf 1 = .ok (.iload_n 1, 1) := by decide +kernel
theorem dX0_indexOf_2 : decode cX0_indexOf 2 = .ok (.invokevirtual 41, 3) := by decide +kernel
theorem dX0_indexOf_5 : decode cX0_indexOf 5 = .ok (.istore_n 2, 1) := by decide +kernel
theorem dX0_indexOf_6 : decode cX0_indexOf 6 = .ok (.aload_n 0, 1) := by decide +kernel
theorem dX0_indexOf_7 : decode cX0_indexOf 7 = .ok (.iload_n 2, 1) := by decide +kernel
theorem dX0_indexOf_8 : decode cX0_indexOf 8 = .ok (.invokevirtual 25, 3) := by decide +kernel
theorem dX0_indexOf_11 : decode cX0_indexOf 11 = .ok (.ifCond .eq 17, 3) := by decide +kernel
theorem dX0_indexOf_14 : decode cX0_indexOf 14 = .ok (.aload_n 0, 1) := by decide +kernel
theorem dX0_indexOf_15 : decode cX0_indexOf 15 = .ok (.getfield 15, 3) := by decide +kernel
theorem dX0_indexOf_18 : decode cX0_indexOf 18 = .ok (.iload_n 2, 1) := by decide +kernel
theorem dX0_indexOf_19 : decode cX0_indexOf 19 = .ok (.iaload, 1) := by decide +kernel
theorem dX0_indexOf_20 : decode cX0_indexOf 20 = .ok (.iload_n 1, 1) := by decide +kernel
theorem dX0_indexOf_21 : decode cX0_indexOf 21 = .ok (.if_icmp .ne 7, 3) := by decide +kernel
theorem dX0_indexOf_24 : decode cX0_indexOf 24 = .ok (.iload_n 2, 1) := by decide +kernel
theorem dX0_indexOf_25 : decode cX0_indexOf 25 = .ok (.goto 4, 3) := by decide +kernel
theorem dX0_indexOf_28 : decode cX0_indexOf 28 = .ok (.iconst (-1), 1) := by decide +kernel
theorem dX0_indexOf_29 : decode cX0_indexOf 29 = .ok (.ireturn, 1) := by decide +kernel
theorem dX1_init_0 : decode cX1_init 0 = .ok (.aload_n 0, 1) := by decide +kernel
theorem dX1_init_1 : decode cX1_init 1 = .ok (.invokespecial 3, 3) := by decide +kernel
theorem dX1_init_4 : decode cX1_init 4 = .ok (.aload_n 0, 1) := by decide +kernel
theorem dX1_init_5 : decode cX1_init 5 = .ok (.lconst 0, 1) := by decide +kernel
theorem dX1_init_6 : decode cX1_init 6 = .ok (.putfield 9, 3) := by decide +kernel
theorem dX1_init_9 : decode cX1_init 9 = .ok (.aload_n 0, 1) := by decide +kernel
theorem dX1_init_10 : decode cX1_init 10 = .ok (.lconst 1, 1) := by decide +kernel
theorem dX1_init_11 : decode cX1_init 11 = .ok (.putfield 15, 3) := by decide +kernel
theorem dX1_init_14 : decode cX1_init 14 = .ok (.aload_n 0, 1) := by decide +kernel
theorem dX1_init_15 : decode cX1_init 15 = .ok (.lconst 1, 1) := by decide +kernel
theorem dX1_init_16 : decode cX1_init 16 = .ok (.putfield 18, 3) := by decide +kernel
theorem dX1_init_19 : decode cX1_init 19 = .ok (.aload_n 0, 1) := by decide +kernel
theorem dX1_init_20 : decode cX1_init 20 = .ok (.lconst 0, 1) := by decide +kernel
theorem dX1_init_21 : decode cX1_init 21 = .ok (.putfield 21, 3) := by decide +kernel
theorem dX1_init_24 : decode cX1_init 24 = .ok (.return_, 1) := by decide +kernel
theorem dX1_begin_0 : decode cX1_begin 0 = .ok (.aload_n 0, 1) := by decide +kernel
theorem dX1_begin_1 : decode cX1_begin 1 = .ok (.iload_n 1, 1) := by decide +kernel
theorem dX1_begin_2 : decode cX1_begin 2 = .ok (.putfield 24, 3) := by decide +kernel
theorem dX1_begin_5 : decode cX1_begin 5 = .ok (.aload_n 0, 1) := by decide +kernel
theorem dX1_begin_6 : decode cX1_begin 6 = .ok (.iload_n 2, 1) := by decide +kernel
theorem dX1_begin_7 : decode cX1_begin 7 = .ok (.putfield 28, 3) := by decide +kernel
theorem dX1_begin_10 : decode cX1_begin 10 = .ok (.aload_n 0, 1) := by decide +kernel
theorem dX1_begin_11 : decode cX1_begin 11 = .ok (.iload_n 3, 1) := by decide +kernel
theorem dX1_begin_12 : decode cX1_begin 12 = .ok (.putfield 31, 3) := by decide +kernel
theorem dX1_begin_15 : decode cX1_begin 15 = .ok (.aload_n 0, 1) := by decide +kernel
theorem dX1_begin_16 : decode cX1_begin 16 = .ok (.lconst 0, 1) := by decide +kernel
theorem dX1_begin_17 : decode cX1_begin 17 = .ok (.putfield 9, 3) := by decide +kernel
theorem dX1_begin_20 : decode cX1_begin 20 = .ok (.aload_n 0, 1) := by decide +kernel
theorem dX1_begin_21 : decode cX1_begin 21 = .ok (.lconst 1, 1) := by decide +kernel
theorem dX1_begin_22 : decode cX1_begin 22 = .ok (.putfield 15, 3) := by decide +kernel
theorem dX1_begin_25 : decode cX1_begin 25 = .ok (.aload_n 0, 1) := by decide +kernel
theorem dX1_begin_26 : decode cX1_begin 26 = .ok (.lconst 1, 1) := by decide +kernel
theorem dX1_begin_27 : decode cX1_begin 27 = .ok (.putfield 18, 3) := by decide +kernel
theorem dX1_begin_30 : decode cX1_begin 30 = .ok (.aload_n 0, 1) := by decide +kernel
theorem dX1_begin_31 : decode cX1_begin 31 = .ok (.lconst 0, 1) := by decide +kernel
theorem dX1_begin_32 : decode cX1_begin 32 = .ok (.putfield 21, 3) := by decide +kernel
theorem dX1_begin_35 : decode cX1_begin 35 = .ok (.return_, 1) := by decide +kernel
theorem dX1_take_0 : decode cX1_take 0 = .ok (.iload_n 1, 1) := by decide +kernel
theorem dX1_take_1 : decode cX1_take 1 = .ok (.i2l, 1) := by decide +kernel
theorem dX1_take_2 : decode cX1_take 2 = .ok (.aload_n 0, 1) := by decide +kernel
theorem dX1_take_3 : decode cX1_take 3 = .ok (.getfield 24, 3) := by decide +kernel
theorem dX1_take_6 : decode cX1_take 6 = .ok (.i2l, 1) := by decide +kernel
theorem dX1_take_7 : decode cX1_take 7 = .ok (.lsub, 1) := by decide +kernel
theorem dX1_take_8 : decode cX1_take 8 = .ok (.lstore_n 3, 1) := by decide +kernel
theorem dX1_take_9 : decode cX1_take 9 = .ok (.iload_n 2, 1) := by decide +kernel
theorem dX1_take_10 : decode cX1_take 10 = .ok (.i2l, 1) := by decide +kernel
theorem dX1_take_11 : decode cX1_take 11 = .ok (.aload_n 0, 1) := by decide +kernel
theorem dX1_take_12 : decode cX1_take 12 = .ok (.getfield 28, 3) := by decide +kernel
theorem dX1_take_15 : decode cX1_take 15 = .ok (.i2l, 1) := by decide +kernel
theorem dX1_take_16 : decode cX1_take 16 = .ok (.lsub, 1) := by decide +kernel
theorem dX1_take_17 : decode cX1_take 17 = .ok (.aload_n 0, 1) := by decide +kernel
theorem dX1_take_18 : decode cX1_take 18 = .ok (.getfield 31, 3) := by decide +kernel
theorem dX1_take_21 : decode cX1_take 21 = .ok (.i2l, 1) := by decide +kernel
theorem dX1_take_22 : decode cX1_take 22 = .ok (.lsub, 1) := by decide +kernel
theorem dX1_take_23 : decode cX1_take 23 = .ok (.lstore 5, 2) := by decide +kernel
theorem dX1_take_25 : decode cX1_take 25 = .ok (.lload 5, 2) := by decide +kernel
theorem dX1_take_27 : decode cX1_take 27 = .ok (.ldc2_w 34, 3) := by decide +kernel
theorem dX1_take_30 : decode cX1_take 30 = .ok (.aload_n 0, 1) := by decide +kernel
theorem dX1_take_31 : decode cX1_take 31 = .ok (.getfield 31, 3) := by decide +kernel
theorem dX1_take_34 : decode cX1_take 34 = .ok (.i2l, 1) := by decide +kernel
theorem dX1_take_35 : decode cX1_take 35 = .ok (.lmul, 1) := by decide +kernel
theorem dX1_take_36 : decode cX1_take 36 = .ok (.ladd, 1) := by decide +kernel
theorem dX1_take_37 : decode cX1_take 37 = .ok (.lstore 7, 2) := by decide +kernel
theorem dX1_take_39 : decode cX1_take 39 = .ok (.lload 5, 2) := by decide +kernel
theorem dX1_take_41 : decode cX1_take 41 = .ok (.aload_n 0, 1) := by decide +kernel
theorem dX1_take_42 : decode cX1_take 42 = .ok (.getfield 15, 3) := by decide +kernel
theorem dX1_take_45 : decode cX1_take 45 = .ok (.lmul, 1) := by decide +kernel
theorem dX1_take_46 : decode cX1_take 46 = .ok (.aload_n 0, 1) := by decide +kernel
theorem dX1_take_47 : decode cX1_take 47 = .ok (.getfield 9, 3) := by decide +kernel
theorem dX1_take_50 : decode cX1_take 50 = .ok (.lload_n 3, 1) := by decide +kernel
theorem dX1_take_51 : decode cX1_take 51 = .ok (.lmul, 1) := by decide +kernel
theorem dX1_take_52 : decode cX1_take 52 = .ok (.lcmp, 1) := by decide +kernel
theorem dX1_take_53 : decode cX1_take 53 = .ok (.ifCond .le 7, 3) := by decide +kernel
theorem dX1_take_56 : decode cX1_take 56 = .ok (.iconst 1, 1) := by decide +kernel
theorem dX1_take_57 : decode cX1_take 57 = .ok (.goto 4, 3) := by decide +kernel
theorem dX1_take_60 : decode cX1_take 60 = .ok (.iconst 0, 1) := by decide +kernel
theorem dX1_take_61 : decode cX1_take 61 = .ok (.istore 9, 2) := by decide +kernel
theorem dX1_take_63 : decode cX1_take 63 = .ok (.lload 7, 2) := by decide +kernel
theorem dX1_take_65 : decode cX1_take 65 = .ok (.aload_n 0, 1) := by decide +kernel
theorem dX1_take_66 : decode cX1_take 66 = .ok (.getfield 21, 3) := by decide +kernel
theorem dX1_take_69 : decode cX1_take 69 = .ok (.lmul, 1) := by decide +kernel
theorem dX1_take_70 : decode cX1_take 70 = .ok (.aload_n 0, 1) := by decide +kernel
theorem dX1_take_71 : decode cX1_take 71 = .ok (.getfield 18, 3) := by decide +kernel
theorem dX1_take_74 : decode cX1_take 74 = .ok (.lload_n 3, 1) := by decide +kernel
theorem dX1_take_75 : decode cX1_take 75 = .ok (.lmul, 1) := by decide +kernel
theorem dX1_take_76 : decode cX1_take 76 = .ok (.lcmp, 1) := by decide +kernel
theorem dX1_take_77 : decode cX1_take 77 = .ok (.ifCond .ge 7, 3) := by decide +kernel
theorem dX1_take_80 : decode cX1_take 80 = .ok (.iconst 1, 1) := by decide +kernel
theorem dX1_take_81 : decode cX1_take 81 = .ok (.goto 4, 3) := by decide +kernel
theorem dX1_take_84 : decode cX1_take 84 = .ok (.iconst 0, 1) := by decide +kernel
theorem dX1_take_85 : decode cX1_take 85 = .ok (.istore 10, 2) := by decide +kernel
theorem dX1_take_87 : decode cX1_take 87 = .ok (.iload 9, 2) := by decide +kernel
theorem dX1_take_89 : decode cX1_take 89 = .ok (.ifCond .eq 20, 3) := by decide +kernel
theorem dX1_take_92 : decode cX1_take 92 = .ok (.lload 5, 2) := by decide +kernel
theorem dX1_take_94 : decode cX1_take 94 = .ok (.aload_n 0, 1) := by decide +kernel
theorem dX1_take_95 : decode cX1_take 95 = .ok (.getfield 21, 3) := by decide +kernel
theorem dX1_take_98 : decode cX1_take 98 = .ok (.lmul, 1) := by decide +kernel
theorem dX1_take_99 : decode cX1_take 99 = .ok (.aload_n 0, 1) := by decide +kernel
theorem dX1_take_100 : decode cX1_take 100 = .ok (.getfield 18, 3) := by decide +kernel
theorem dX1_take_103 : decode cX1_take 103 = .ok (.lload_n 3, 1) := by decide +kernel
theorem dX1_take_104 : decode cX1_take 104 = .ok (.lmul, 1) := by decide +kernel
theorem dX1_take_105 : decode cX1_take 105 = .ok (.lcmp, 1) := by decide +kernel
theorem dX1_take_106 : decode cX1_take 106 = .ok (.ifCond .gt 25, 3) := by decide +kernel
theorem dX1_take_109 : decode cX1_take 109 = .ok (.iload 10, 2) := by decide +kernel
theorem dX1_take_111 : decode cX1_take 111 = .ok (.ifCond .eq 22, 3) := by decide +kernel
theorem dX1_take_114 : decode cX1_take 114 = .ok (.lload 7, 2) := by decide +kernel
theorem dX1_take_116 : decode cX1_take 116 = .ok (.aload_n 0, 1) := by decide +kernel
theorem dX1_take_117 : decode cX1_take 117 = .ok (.getfield 15, 3) := by decide +kernel
theorem dX1_take_120 : decode cX1_take 120 = .ok (.lmul, 1) := by decide +kernel
theorem dX1_take_121 : decode cX1_take 121 = .ok (.aload_n 0, 1) := by decide +kernel
theorem dX1_take_122 : decode cX1_take 122 = .ok (.getfield 9, 3) := by decide +kernel
theorem dX1_take_125 : decode cX1_take 125 = .ok (.lload_n 3, 1) := by decide +kernel
theorem dX1_take_126 : decode cX1_take 126 = .ok (.lmul, 1) := by decide +kernel
theorem dX1_take_127 : decode cX1_take 127 = .ok (.lcmp, 1) := by decide +kernel
theorem dX1_take_128 : decode cX1_take 128 = .ok (.ifCond .ge 5, 3) := by decide +kernel
theorem dX1_take_131 : decode cX1_take 131 = .ok (.iconst 0, 1) := by decide +kernel
theorem dX1_take_132 : decode cX1_take 132 = .ok (.ireturn, 1) := by decide +kernel
theorem dX1_take_133 : decode cX1_take 133 = .ok (.iload 9, 2) := by decide +kernel
theorem dX1_take_135 : decode cX1_take 135 = .ok (.ifCond .eq 14, 3) := by decide +kernel
theorem dX1_take_138 : decode cX1_take 138 = .ok (.aload_n 0, 1) := by decide +kernel
theorem dX1_take_139 : decode cX1_take 139 = .ok (.lload 5, 2) := by decide +kernel
theorem dX1_take_141 : decode cX1_take 141 = .ok (.putfield 9, 3) := by decide +kernel
theorem dX1_take_144 : decode cX1_take 144 = .ok (.aload_n 0, 1) := by decide +kernel
theorem dX1_take_145 : decode cX1_take 145 = .ok (.lload_n 3, 1) := by decide +kernel
theorem dX1_take_146 : decode cX1_take 146 = .ok (.putfield 15, 3) := by decide +kernel
theorem dX1_take_149 : decode cX1_take 149 = .ok (.iload 10, 2) := by decide +kernel
theorem dX1_take_151 : decode cX1_take 151 = .ok (.ifCond .eq 14, 3) := by decide +kernel
theorem dX1_take_154 : decode cX1_take 154 = .ok (.aload_n 0, 1) := by decide +kernel
theorem dX1_take_155 : decode cX1_take 155 = .ok (.lload 7, 2) := by decide +kernel
theorem dX1_take_157 : decode cX1_take 157 = .ok (.putfield 18, 3) := by decide +kernel
theorem dX1_take_160 : decode cX1_take 160 = .ok (.aload_n 0, 1) := by decide +kernel
theorem dX1_take_161 : decode cX1_take 161 = .ok (.lload_n 3, 1) := by decide +kernel
theorem dX1_take_162 : decode cX1_take 162 = .ok (.putfield 21, 3) := by decide +kernel
theorem dX1_take_165 : decode cX1_take 165 = .ok (.iconst 1, 1) := by decide +kernel
theorem dX1_take_166 : decode cX1_take 166 = .ok (.ireturn, 1) := by decide +kernel
set_option maxRecDepth 20000 in
theorem ggX1_leastRise_X1_divisor : GoodIn wsX1_leastRise wsX1_divisor := goodIn_r _ [6, 7, 1, 8, 9, 10, 11, 12, 13, 14] (by decide +kernel) (by decide +kernel)
set_option maxRecDepth 20000 in
theorem gX1_leastRise_X1_divisor : GoodIn wsX1_leastRise (wsV RX1 36 RX1 yX1_divisor wsX1_divisor) := goodIn_app (goodIn_of _ (by decide +kernel)) ggX1_leastRise_X1_divisor
theorem dX1_leastRise_0 : decode cX1_leastRise 0 = .ok (.aload_n 0, 1) := by decide +kernel
theorem dX1_leastRise_1 : decode cX1_leastRise 1 = .ok (.getfield 9, 3) := by decide +kernel
theorem dX1_leastRise_4 : decode cX1_leastRise 4 = .ok (.aload_n 0, 1) := by decide +kernel
theorem dX1_leastRise_5 : decode cX1_leastRise 5 = .ok (.invokevirtual 36, 3) := by decide +kernel
theorem dX1_leastRise_8 : decode cX1_leastRise 8 = .ok (.ldiv, 1) := by decide +kernel
theorem dX1_leastRise_9 : decode cX1_leastRise 9 = .ok (.l2i, 1) := by decide +kernel
theorem dX1_leastRise_10 : decode cX1_leastRise 10 = .ok (.ireturn, 1) := by decide +kernel
set_option maxRecDepth 20000 in
theorem ggX1_leastRun_X1_divisor : GoodIn wsX1_leastRun wsX1_divisor := goodIn_r _ [6, 1, 7, 8, 9, 10, 11, 12, 13, 14] (by decide +kernel) (by decide +kernel)
set_option maxRecDepth 20000 in
theorem gX1_leastRun_X1_divisor : GoodIn wsX1_leastRun (wsV RX1 36 RX1 yX1_divisor wsX1_divisor) := goodIn_app (goodIn_of _ (by decide +kernel)) ggX1_leastRun_X1_divisor
theorem dX1_leastRun_0 : decode cX1_leastRun 0 = .ok (.aload_n 0, 1) := by decide +kernel
theorem dX1_leastRun_1 : decode cX1_leastRun 1 = .ok (.getfield 15, 3) := by decide +kernel
theorem dX1_leastRun_4 : decode cX1_leastRun 4 = .ok (.aload_n 0, 1) := by decide +kernel
theorem dX1_leastRun_5 : decode cX1_leastRun 5 = .ok (.invokevirtual 36, 3) := by decide +kernel
theorem dX1_leastRun_8 : decode cX1_leastRun 8 = .ok (.ldiv, 1) := by decide +kernel
theorem dX1_leastRun_9 : decode cX1_leastRun 9 = .ok (.l2i, 1) := by decide +kernel
theorem dX1_leastRun_10 : decode cX1_leastRun 10 = .ok (.ireturn, 1) := by decide +kernel
theorem dX1_divisor_0 : decode cX1_divisor 0 = .ok (.aload_n 0, 1) := by decide +kernel
theorem dX1_divisor_1 : decode cX1_divisor 1 = .ok (.getfield 15, 3) := by decide +kernel
theorem dX1_divisor_4 : decode cX1_divisor 4 = .ok (.lstore_n 1, 1) := by decide +kernel
theorem dX1_divisor_5 : decode cX1_divisor 5 = .ok (.aload_n 0, 1) := by decide +kernel
theorem dX1_divisor_6 : decode cX1_divisor 6 = .ok (.getfield 9, 3) := by decide +kernel
theorem dX1_divisor_9 : decode cX1_divisor 9 = .ok (.lstore_n 3, 1) := by decide +kernel
theorem dX1_divisor_10 : decode cX1_divisor 10 = .ok (.iconst 0, 1) := by decide +kernel
theorem dX1_divisor_11 : decode cX1_divisor 11 = .ok (.istore 5, 2) := by decide +kernel
theorem dX1_divisor_13 : decode cX1_divisor 13 = .ok (.iload 5, 2) := by decide +kernel
theorem dX1_divisor_15 : decode cX1_divisor 15 = .ok (.bipush 64, 2) := by decide +kernel
theorem dX1_divisor_17 : decode cX1_divisor 17 = .ok (.if_icmp .ge 25, 3) := by decide +kernel
theorem dX1_divisor_20 : decode cX1_divisor 20 = .ok (.lload_n 3, 1) := by decide +kernel
theorem dX1_divisor_21 : decode cX1_divisor 21 = .ok (.lconst 0, 1) := by decide +kernel
theorem dX1_divisor_22 : decode cX1_divisor 22 = .ok (.lcmp, 1) := by decide +kernel
theorem dX1_divisor_23 : decode cX1_divisor 23 = .ok (.ifCond .eq 19, 3) := by decide +kernel
theorem dX1_divisor_26 : decode cX1_divisor 26 = .ok (.lload_n 1, 1) := by decide +kernel
theorem dX1_divisor_27 : decode cX1_divisor 27 = .ok (.lload_n 3, 1) := by decide +kernel
theorem dX1_divisor_28 : decode cX1_divisor 28 = .ok (.lrem, 1) := by decide +kernel
theorem dX1_divisor_29 : decode cX1_divisor 29 = .ok (.lstore 6, 2) := by decide +kernel
theorem dX1_divisor_31 : decode cX1_divisor 31 = .ok (.lload_n 3, 1) := by decide +kernel
theorem dX1_divisor_32 : decode cX1_divisor 32 = .ok (.lstore_n 1, 1) := by decide +kernel
theorem dX1_divisor_33 : decode cX1_divisor 33 = .ok (.lload 6, 2) := by decide +kernel
theorem dX1_divisor_35 : decode cX1_divisor 35 = .ok (.lstore_n 3, 1) := by decide +kernel
theorem dX1_divisor_36 : decode cX1_divisor 36 = .ok (.iinc 5 1, 3) := by decide +kernel
theorem dX1_divisor_39 : decode cX1_divisor 39 = .ok (.goto (-26), 3) := by decide +kernel
theorem dX1_divisor_42 : decode cX1_divisor 42 = .ok (.lload_n 1, 1) := by decide +kernel
theorem dX1_divisor_43 : decode cX1_divisor 43 = .ok (.lconst 1, 1) := by decide +kernel
theorem dX1_divisor_44 : decode cX1_divisor 44 = .ok (.lcmp, 1) := by decide +kernel
theorem dX1_divisor_45 : decode cX1_divisor 45 = .ok (.ifCond .ge 7, 3) := by decide +kernel
theorem dX1_divisor_48 : decode cX1_divisor 48 = .ok (.lconst 1, 1) := by decide +kernel
theorem dX1_divisor_49 : decode cX1_divisor 49 = .ok (.goto 4, 3) := by decide +kernel
theorem dX1_divisor_52 : decode cX1_divisor 52 = .ok (.lload_n 1, 1) := by decide +kernel
theorem dX1_divisor_53 : decode cX1_divisor 53 = .ok (.lreturn, 1) := by decide +kernel
set_option maxRecDepth 20000 in
theorem ggX2_init_X0_init : GoodIn wsX2_init wsX0_init := goodIn_r _ [27, 28, 2, 3, 29, 30, 31, 32, 33, 34, 35, 43, 44] (by decide +kernel) (by decide +kernel)
set_option maxRecDepth 20000 in
theorem gX2_init_X0_init : GoodIn wsX2_init (wsX0_init) := ggX2_init_X0_init
set_option maxRecDepth 20000 in
theorem ggX2_init_X1_init : GoodIn wsX2_init wsX1_init := goodIn_r _ [37, 38, 2, 3, 39, 40, 41, 42, 60, 61, 62, 63, 64, 65, 66] (by decide +kernel) (by decide +kernel)
set_option maxRecDepth 20000 in
theorem gX2_init_X1_init_n35 : GoodIn wsX2_init (wsX1_init) := ggX2_init_X1_init
theorem dX2_init_0 : decode cX2_init 0 = .ok (.aload_n 0, 1) := by decide +kernel
theorem dX2_init_1 : decode cX2_init 1 = .ok (.invokespecial 1, 3) := by decide +kernel
theorem dX2_init_4 : decode cX2_init 4 = .ok (.aload_n 0, 1) := by decide +kernel
theorem dX2_init_5 : decode cX2_init 5 = .ok (.new 7, 3) := by decide +kernel
theorem dX2_init_8 : decode cX2_init 8 = .ok (.dup, 1) := by decide +kernel
theorem dX2_init_9 : decode cX2_init 9 = .ok (.sipush 256, 3) := by decide +kernel
theorem dX2_init_12 : decode cX2_init 12 = .ok (.invokespecial 11, 3) := by decide +kernel
theorem dX2_init_15 : decode cX2_init 15 = .ok (.putfield 14, 3) := by decide +kernel
theorem dX2_init_18 : decode cX2_init 18 = .ok (.aload_n 0, 1) := by decide +kernel
theorem dX2_init_19 : decode cX2_init 19 = .ok (.new 7, 3) := by decide +kernel
theorem dX2_init_22 : decode cX2_init 22 = .ok (.dup, 1) := by decide +kernel
theorem dX2_init_23 : decode cX2_init 23 = .ok (.sipush 256, 3) := by decide +kernel
theorem dX2_init_26 : decode cX2_init 26 = .ok (.invokespecial 11, 3) := by decide +kernel
theorem dX2_init_29 : decode cX2_init 29 = .ok (.putfield 18, 3) := by decide +kernel
theorem dX2_init_32 : decode cX2_init 32 = .ok (.aload_n 0, 1) := by decide +kernel
theorem dX2_init_33 : decode cX2_init 33 = .ok (.new 7, 3) := by decide +kernel
theorem dX2_init_36 : decode cX2_init 36 = .ok (.dup, 1) := by decide +kernel
theorem dX2_init_37 : decode cX2_init 37 = .ok (.bipush 16, 2) := by decide +kernel
theorem dX2_init_39 : decode cX2_init 39 = .ok (.invokespecial 11, 3) := by decide +kernel
theorem dX2_init_42 : decode cX2_init 42 = .ok (.putfield 21, 3) := by decide +kernel
theorem dX2_init_45 : decode cX2_init 45 = .ok (.aload_n 0, 1) := by decide +kernel
theorem dX2_init_46 : decode cX2_init 46 = .ok (.new 7, 3) := by decide +kernel
theorem dX2_init_49 : decode cX2_init 49 = .ok (.dup, 1) := by decide +kernel
theorem dX2_init_50 : decode cX2_init 50 = .ok (.sipush 256, 3) := by decide +kernel
theorem dX2_init_53 : decode cX2_init 53 = .ok (.invokespecial 11, 3) := by decide +kernel
theorem dX2_init_56 : decode cX2_init 56 = .ok (.putfield 24, 3) := by decide +kernel
theorem dX2_init_59 : decode cX2_init 59 = .ok (.aload_n 0, 1) := by decide +kernel
theorem dX2_init_60 : decode cX2_init 60 = .ok (.new 7, 3) := by decide +kernel
theorem dX2_init_63 : decode cX2_init 63 = .ok (.dup, 1) := by decide +kernel
theorem dX2_init_64 : decode cX2_init 64 = .ok (.sipush 256, 3) := by decide +kernel
theorem dX2_init_67 : decode cX2_init 67 = .ok (.invokespecial 11, 3) := by decide +kernel
theorem dX2_init_70 : decode cX2_init 70 = .ok (.putfield 27, 3) := by decide +kernel
theorem dX2_init_73 : decode cX2_init 73 = .ok (.aload_n 0, 1) := by decide +kernel
theorem dX2_init_74 : decode cX2_init 74 = .ok (.new 7, 3) := by decide +kernel
theorem dX2_init_77 : decode cX2_init 77 = .ok (.dup, 1) := by decide +kernel
theorem dX2_init_78 : decode cX2_init 78 = .ok (.sipush 256, 3) := by decide +kernel
theorem dX2_init_81 : decode cX2_init 81 = .ok (.invokespecial 11, 3) := by decide +kernel
theorem dX2_init_84 : decode cX2_init 84 = .ok (.putfield 30, 3) := by decide +kernel
theorem dX2_init_87 : decode cX2_init 87 = .ok (.aload_n 0, 1) := by decide +kernel
theorem dX2_init_88 : decode cX2_init 88 = .ok (.new 33, 3) := by decide +kernel
theorem dX2_init_91 : decode cX2_init 91 = .ok (.dup, 1) := by decide +kernel
theorem dX2_init_92 : decode cX2_init 92 = .ok (.invokespecial 35, 3) := by decide +kernel
theorem dX2_init_95 : decode cX2_init 95 = .ok (.putfield 36, 3) := by decide +kernel
theorem dX2_init_98 : decode cX2_init 98 = .ok (.aload_n 0, 1) := by decide +kernel
theorem dX2_init_99 : decode cX2_init 99 = .ok (.new 7, 3) := by decide +kernel
theorem dX2_init_102 : decode cX2_init 102 = .ok (.dup, 1) := by decide +kernel
theorem dX2_init_103 : decode cX2_init 103 = .ok (.sipush 256, 3) := by decide +kernel
theorem dX2_init_106 : decode cX2_init 106 = .ok (.invokespecial 11, 3) := by decide +kernel
theorem dX2_init_109 : decode cX2_init 109 = .ok (.putfield 40, 3) := by decide +kernel
theorem dX2_init_112 : decode cX2_init 112 = .ok (.aload_n 0, 1) := by decide +kernel
theorem dX2_init_113 : decode cX2_init 113 = .ok (.new 7, 3) := by decide +kernel
theorem dX2_init_116 : decode cX2_init 116 = .ok (.dup, 1) := by decide +kernel
theorem dX2_init_117 : decode cX2_init 117 = .ok (.sipush 256, 3) := by decide +kernel
theorem dX2_init_120 : decode cX2_init 120 = .ok (.invokespecial 11, 3) := by decide +kernel
theorem dX2_init_123 : decode cX2_init 123 = .ok (.putfield 43, 3) := by decide +kernel
theorem dX2_init_126 : decode cX2_init 126 = .ok (.aload_n 0, 1) := by decide +kernel
theorem dX2_init_127 : decode cX2_init 127 = .ok (.iconst 2, 1) := by decide +kernel
theorem dX2_init_128 : decode cX2_init 128 = .ok (.putfield 46, 3) := by decide +kernel
theorem dX2_init_131 : decode cX2_init 131 = .ok (.aload_n 0, 1) := by decide +kernel
theorem dX2_init_132 : decode cX2_init 132 = .ok (.iconst 4, 1) := by decide +kernel
theorem dX2_init_133 : decode cX2_init 133 = .ok (.putfield 50, 3) := by decide +kernel
theorem dX2_init_136 : decode cX2_init 136 = .ok (.aload_n 0, 1) := by decide +kernel
theorem dX2_init_137 : decode cX2_init 137 = .ok (.iconst 0, 1) := by decide +kernel
theorem dX2_init_138 : decode cX2_init 138 = .ok (.putfield 53, 3) := by decide +kernel
theorem dX2_init_141 : decode cX2_init 141 = .ok (.aload_n 0, 1) := by decide +kernel
theorem dX2_init_142 : decode cX2_init 142 = .ok (.iconst 0, 1) := by decide +kernel
theorem dX2_init_143 : decode cX2_init 143 = .ok (.putfield 56, 3) := by decide +kernel
theorem dX2_init_146 : decode cX2_init 146 = .ok (.aload_n 0, 1) := by decide +kernel
theorem dX2_init_147 : decode cX2_init 147 = .ok (.iconst 0, 1) := by decide +kernel
theorem dX2_init_148 : decode cX2_init 148 = .ok (.putfield 59, 3) := by decide +kernel
theorem dX2_init_151 : decode cX2_init 151 = .ok (.aload_n 0, 1) := by decide +kernel
theorem dX2_init_152 : decode cX2_init 152 = .ok (.iconst 0, 1) := by decide +kernel
theorem dX2_init_153 : decode cX2_init 153 = .ok (.putfield 62, 3) := by decide +kernel
theorem dX2_init_156 : decode cX2_init 156 = .ok (.return_, 1) := by decide +kernel
set_option maxRecDepth 20000 in
theorem ggX2_append_X2_needKey : GoodIn wsX2_append wsX2_needKey := goodIn_ca (goodIn_r _ [5, 6, 7, 8, 9] (by decide +kernel) (by decide +kernel)) (goodIn_sub (fun _ h => List.mem_cons_of_mem _ (List.mem_append_left _ (List.mem_append_right _ h))) (by decide +kernel))
set_option maxRecDepth 20000 in
theorem gX2_append_X2_needKey : GoodIn wsX2_append (va_wsS RX2 65 yX2_needKey wsX2_needKey) := goodIn_app (goodIn_of _ (by decide +kernel)) ggX2_append_X2_needKey
set_option maxRecDepth 20000 in
theorem ggX2_append_X2_needToFollow : GoodIn wsX2_append wsX2_needToFollow := goodIn_ca (goodIn_r _ [13, 14, 15, 16, 17, 18, 19, 20, 21, 22, 23, 24, 25, 26, 27, 28, 29, 30, 31, 32, 33, 34, 35, 36, 37, 38, 39, 4, 40, 95, 96, 97, 98, 99, 100, 101, 102, 103, 104, 105, 106, 107, 108, 109, 110, 111] (by decide +kernel) (by decide +kernel)) (goodIn_sub (fun _ h => List.mem_cons_of_mem _ (List.mem_append_right _ h)) (by decide +kernel))
set_option maxRecDepth 20000 in
theorem gX2_append_X2_needToFollow : GoodIn wsX2_append (wsV RX2 69 RX2 yX2_needToFollow wsX2_needToFollow) := goodIn_app (goodIn_of _ (by decide +kernel)) ggX2_append_X2_needToFollow
set_option maxRecDepth 20000 in
theorem ggX2_append_X2_addLast : GoodIn wsX2_append wsX2_addLast := goodIn_r _ [44, 16, 45, 1, 46, 33, 34, 35, 21, 36, 23, 47, 48, 49, 50, 28, 51, 52, 53, 54, 55, 56, 57, 58, 59, 60, 61, 62, 63, 64, 65, 66, 4, 67, 68, 69, 70, 71, 72, 73, 74, 75, 76, 77, 78, 79, 80, 81, 29, 30, 31, 32, 82, 83, 84, 85, 86, 87, 88, 89, 90, 91, 92, 93, 94, 95, 96, 97, 98, 99, 100, 101, 102, 103, 104, 105, 106, 107, 108, 109, 110, 111, 112, 113, 114, 115, 116, 117, 118] (by decide +kernel) (by decide +kernel)
set_option maxRecDepth 20000 in
theorem gX2_append_X2_addLast : GoodIn wsX2_append (wsV RX2 73 RX2 yX2_addLast wsX2_addLast) := goodIn_app (goodIn_of _ (by decide +kernel)) ggX2_append_X2_addLast
set_option maxRecDepth 20000 in
theorem ggX2_append_X0_length : GoodIn wsX2_append wsX0_length := goodIn_r _ [36, 23, 110, 111] (by decide +kernel) (by decide +kernel)
set_option maxRecDepth 20000 in
theorem gX2_append_X0_length : GoodIn wsX2_append (wsV RX2 76 RX0 yX0_length wsX0_length) := goodIn_app (goodIn_of _ (by decide +kernel)) ggX2_append_X0_length
theorem dX2_append_0 : decode cX2_append 0 = .ok (.iload_n 1, 1) := by decide +kernel
theorem dX2_append_1 : decode cX2_append 1 = .ok (.i2l, 1) := by decide +kernel
theorem dX2_append_2 : decode cX2_append 2 = .ok (.invokestatic 65, 3) := by decide +kernel
theorem dX2_append_5 : decode cX2_append 5 = .ok (.aload_n 0, 1) := by decide +kernel
theorem dX2_append_6 : decode cX2_append 6 = .ok (.iload_n 1, 1) := by decide +kernel
theorem dX2_append_7 : decode cX2_append 7 = .ok (.iconst 1, 1) := by decide +kernel
theorem dX2_append_8 : decode cX2_append 8 = .ok (.invokevirtual 69, 3) := by decide +kernel
theorem dX2_append_11 : decode cX2_append 11 = .ok (.aload_n 0, 1) := by decide +kernel
theorem dX2_append_12 : decode cX2_append 12 = .ok (.iload_n 1, 1) := by decide +kernel
theorem dX2_append_13 : decode cX2_append 13 = .ok (.invokevirtual 73, 3) := by decide +kernel
theorem dX2_append_16 : decode cX2_append 16 = .ok (.aload_n 0, 1) := by decide +kernel
theorem dX2_append_17 : decode cX2_append 17 = .ok (.getfield 24, 3) := by decide +kernel
theorem dX2_append_20 : decode cX2_append 20 = .ok (.invokevirtual 76, 3) := by decide +kernel
theorem dX2_append_23 : decode cX2_append 23 = .ok (.ireturn, 1) := by decide +kernel
set_option maxRecDepth 20000 in
theorem ggX2_appendMany_X2_needKey : GoodIn wsX2_appendMany wsX2_needKey := goodIn_ca (goodIn_r _ [7, 1, 2, 8, 9] (by decide +kernel) (by decide +kernel)) (goodIn_sub (fun _ h => List.mem_cons_of_mem _ (List.mem_append_left _ (List.mem_append_right _ h))) (by decide +kernel))
set_option maxRecDepth 20000 in
theorem gX2_appendMany_X2_needKey : GoodIn wsX2_appendMany (va_wsS RX2 65 yX2_needKey wsX2_needKey) := goodIn_app (goodIn_of _ (by decide +kernel)) ggX2_appendMany_X2_needKey
set_option maxRecDepth 20000 in
theorem ggX2_appendMany_X2_needToFollow : GoodIn wsX2_appendMany wsX2_needToFollow := goodIn_ca (goodIn_r _ [13, 14, 15, 16, 17, 18, 19, 20, 21, 22, 23, 24, 25, 26, 27, 28, 29, 30, 31, 32, 33, 34, 35, 36, 37, 38, 39, 6, 40, 95, 96, 97, 98, 99, 100, 101, 102, 103, 104, 105, 106, 107, 108, 109, 110, 111] (by decide +kernel) (by decide +kernel)) (goodIn_sub (fun _ h => List.mem_cons_of_mem _ (List.mem_append_right _ h)) (by decide +kernel))
set_option maxRecDepth 20000 in
theorem gX2_appendMany_X2_needToFollow : GoodIn wsX2_appendMany (wsV RX2 69 RX2 yX2_needToFollow wsX2_needToFollow) := goodIn_app (goodIn_of _ (by decide +kernel)) ggX2_appendMany_X2_needToFollow
set_option maxRecDepth 20000 in
theorem ggX2_appendMany_X2_addLast : GoodIn wsX2_appendMany wsX2_addLast := goodIn_r _ [44, 16, 45, 3, 46, 33, 34, 35, 21, 36, 23, 47, 48, 49, 50, 28, 51, 52, 53, 54, 55, 56, 57, 58, 59, 60, 61, 62, 63, 64, 65, 66, 6, 67, 68, 69, 70, 71, 72, 73, 74, 75, 76, 77, 78, 79, 80, 81, 29, 30, 31, 32, 82, 83, 84, 85, 86, 87, 88, 89, 90, 91, 92, 93, 94, 95, 96, 97, 98, 99, 100, 101, 102, 103, 104, 105, 106, 107, 108, 109, 110, 111, 112, 113, 114, 115, 116, 117, 118] (by decide +kernel) (by decide +kernel)
set_option maxRecDepth 20000 in
theorem gX2_appendMany_X2_addLast : GoodIn wsX2_appendMany (wsV RX2 73 RX2 yX2_addLast wsX2_addLast) := goodIn_app (goodIn_of _ (by decide +kernel)) ggX2_appendMany_X2_addLast
set_option maxRecDepth 20000 in
theorem ggX2_appendMany_X0_length : GoodIn wsX2_appendMany wsX0_length := goodIn_r _ [36, 23, 110, 111] (by decide +kernel) (by decide +kernel)
set_option maxRecDepth 20000 in
theorem gX2_appendMany_X0_length : GoodIn wsX2_appendMany (wsV RX2 76 RX0 yX0_length wsX0_length) := goodIn_app (goodIn_of _ (by decide +kernel)) ggX2_appendMany_X0_length
theorem dX2_appendMany_0 : decode cX2_appendMany 0 = .ok (.iload_n 2, 1) := by decide +kernel
theorem dX2_appendMany_1 : decode cX2_appendMany 1 = .ok (.iconst 1, 1) := by decide +kernel
theorem dX2_appendMany_2 : decode cX2_appendMany 2 = .ok (.if_icmp .lt 21, 3) := by decide +kernel
theorem dX2_appendMany_5 : decode cX2_appendMany 5 = .ok (.iload_n 2, 1) := by decide +kernel
theorem dX2_appendMany_6 : decode cX2_appendMany 6 = .ok (.sipush 10000, 3) := by decide +kernel
theorem dX2_appendMany_9 : decode cX2_appendMany 9 = .ok (.if_icmp .gt 14, 3) := by decide +kernel
theorem dX2_appendMany_12 : decode cX2_appendMany 12 = .ok (.iload_n 3, 1) := by decide +kernel
theorem dX2_appendMany_13 : decode cX2_appendMany 13 = .ok (.iconst 1, 1) := by decide +kernel
theorem dX2_appendMany_14 : decode cX2_appendMany 14 = .ok (.if_icmp .lt 9, 3) := by decide +kernel
theorem dX2_appendMany_17 : decode cX2_appendMany 17 = .ok (.iload_n 3, 1) := by decide +kernel
theorem dX2_appendMany_18 : decode cX2_appendMany 18 = .ok (.bipush 100, 2) := by decide +kernel
theorem dX2_appendMany_20 : decode cX2_appendMany 20 = .ok (.if_icmp .le 13, 3) := by decide +kernel
theorem dX2_appendMany_23 : decode cX2_appendMany 23 = .ok (.new 80, 3) := by decide +kernel
theorem dX2_appendMany_26 : decode cX2_appendMany 26 = .ok (.dup, 1) := by decide +kernel
theorem dX2_appendMany_27 : decode cX2_appendMany 27 = .ok (.ldc 82, 2) := by decide +kernel
theorem dX2_appendMany_29 : decode cX2_appendMany 29 = .ok (.invokespecial 84, 3) := by decide +kernel
theorem dX2_appendMany_32 : decode cX2_appendMany 32 = .ok (.athrow, 1) := by decide +kernel
theorem dX2_appendMany_33 : decode cX2_appendMany 33 = .ok (.iload_n 1, 1) := by decide +kernel
theorem dX2_appendMany_34 : decode cX2_appendMany 34 = .ok (.i2l, 1) := by decide +kernel
theorem dX2_appendMany_35 : decode cX2_appendMany 35 = .ok (.iload_n 2, 1) := by decide +kernel
theorem dX2_appendMany_36 : decode cX2_appendMany 36 = .ok (.i2l, 1) := by decide +kernel
theorem dX2_appendMany_37 : decode cX2_appendMany 37 = .ok (.iload_n 3, 1) := by decide +kernel
theorem dX2_appendMany_38 : decode cX2_appendMany 38 = .ok (.iconst 1, 1) := by decide +kernel
theorem dX2_appendMany_39 : decode cX2_appendMany 39 = .ok (.isub, 1) := by decide +kernel
theorem dX2_appendMany_40 : decode cX2_appendMany 40 = .ok (.i2l, 1) := by decide +kernel
theorem dX2_appendMany_41 : decode cX2_appendMany 41 = .ok (.lmul, 1) := by decide +kernel
theorem dX2_appendMany_42 : decode cX2_appendMany 42 = .ok (.ladd, 1) := by decide +kernel
theorem dX2_appendMany_43 : decode cX2_appendMany 43 = .ok (.lstore 4, 2) := by decide +kernel
theorem dX2_appendMany_45 : decode cX2_appendMany 45 = .ok (.iload_n 1, 1) := by decide +kernel
theorem dX2_appendMany_46 : decode cX2_appendMany 46 = .ok (.i2l, 1) := by decide +kernel
theorem dX2_appendMany_47 : decode cX2_appendMany 47 = .ok (.invokestatic 65, 3) := by decide +kernel
theorem dX2_appendMany_50 : decode cX2_appendMany 50 = .ok (.lload 4, 2) := by decide +kernel
theorem dX2_appendMany_52 : decode cX2_appendMany 52 = .ok (.invokestatic 65, 3) := by decide +kernel
theorem dX2_appendMany_55 : decode cX2_appendMany 55 = .ok (.aload_n 0, 1) := by decide +kernel
theorem dX2_appendMany_56 : decode cX2_appendMany 56 = .ok (.iload_n 1, 1) := by decide +kernel
theorem dX2_appendMany_57 : decode cX2_appendMany 57 = .ok (.iload_n 3, 1) := by decide +kernel
theorem dX2_appendMany_58 : decode cX2_appendMany 58 = .ok (.invokevirtual 69, 3) := by decide +kernel
theorem dX2_appendMany_61 : decode cX2_appendMany 61 = .ok (.iconst 0, 1) := by decide +kernel
theorem dX2_appendMany_62 : decode cX2_appendMany 62 = .ok (.istore 6, 2) := by decide +kernel
theorem dX2_appendMany_64 : decode cX2_appendMany 64 = .ok (.iload 6, 2) := by decide +kernel
theorem dX2_appendMany_66 : decode cX2_appendMany 66 = .ok (.iload_n 3, 1) := by decide +kernel
theorem dX2_appendMany_67 : decode cX2_appendMany 67 = .ok (.if_icmp .ge 19, 3) := by decide +kernel
theorem dX2_appendMany_70 : decode cX2_appendMany 70 = .ok (.aload_n 0, 1) := by decide +kernel
theorem dX2_appendMany_71 : decode cX2_appendMany 71 = .ok (.iload_n 1, 1) := by decide +kernel
theorem dX2_appendMany_72 : decode cX2_appendMany 72 = .ok (.iload_n 2, 1) := by decide +kernel
theorem dX2_appendMany_73 : decode cX2_appendMany 73 = .ok (.iload 6, 2) := by decide +kernel
theorem dX2_appendMany_75 : decode cX2_appendMany 75 = .ok (.imul, 1) := by decide +kernel
theorem dX2_appendMany_76 : decode cX2_appendMany 76 = .ok (.iadd, 1) := by decide +kernel
theorem dX2_appendMany_77 : decode cX2_appendMany 77 = .ok (.invokevirtual 73, 3) := by decide +kernel
theorem dX2_appendMany_80 : decode cX2_appendMany 80 = .ok (.iinc 6 1, 3) := by decide +kernel
theorem dX2_appendMany_83 : decode cX2_appendMany 83 = .ok (.goto (-19), 3) := by decide +kernel
theorem dX2_appendMany_86 : decode cX2_appendMany 86 = .ok (.aload_n 0, 1) := by decide +kernel
theorem dX2_appendMany_87 : decode cX2_appendMany 87 = .ok (.getfield 24, 3) := by decide +kernel
theorem dX2_appendMany_90 : decode cX2_appendMany 90 = .ok (.invokevirtual 76, 3) := by decide +kernel
theorem dX2_appendMany_93 : decode cX2_appendMany 93 = .ok (.ireturn, 1) := by decide +kernel
set_option maxRecDepth 20000 in
theorem ggX2_insert_X2_needKey : GoodIn wsX2_insert wsX2_needKey := goodIn_ca (goodIn_r _ [10, 11, 12, 13, 14] (by decide +kernel) (by decide +kernel)) (goodIn_sub (fun _ h => List.mem_cons_of_mem _ (List.mem_append_right _ h)) (by decide +kernel))
set_option maxRecDepth 20000 in
theorem gX2_insert_X2_needKey : GoodIn wsX2_insert (va_wsS RX2 65 yX2_needKey wsX2_needKey) := goodIn_app (goodIn_of _ (by decide +kernel)) ggX2_insert_X2_needKey
set_option maxRecDepth 20000 in
theorem ggX2_insert_X0_indexOf : GoodIn wsX2_insert wsX0_indexOf := goodIn_r _ [19, 20, 21, 22, 23, 18, 24, 25, 26, 27, 28, 29, 30, 31, 32, 33, 174, 175] (by decide +kernel) (by decide +kernel)
set_option maxRecDepth 20000 in
theorem gX2_insert_X0_indexOf : GoodIn wsX2_insert (wsV RX2 87 RX0 yX0_indexOf wsX0_indexOf) := goodIn_app (goodIn_of _ (by decide +kernel)) ggX2_insert_X0_indexOf
set_option maxRecDepth 20000 in
theorem ggX2_insert_X2_isThere : GoodIn wsX2_insert wsX2_isThere := goodIn_r _ [37, 3, 6, 4, 15, 16, 17, 18, 19, 20, 21, 22, 23, 24, 25, 26, 27, 28, 29, 30, 31, 32, 33, 38, 159, 160, 161, 162, 163, 164, 165, 166, 167, 168, 169, 170, 171, 172, 173, 174, 175] (by decide +kernel) (by decide +kernel)
set_option maxRecDepth 20000 in
theorem gX2_insert_X2_isThere : GoodIn wsX2_insert (wsV RX2 91 RX2 yX2_isThere wsX2_isThere) := goodIn_app (goodIn_of _ (by decide +kernel)) ggX2_insert_X2_isThere
set_option maxRecDepth 20000 in
theorem ggX2_insert_X2_allKeys : GoodIn wsX2_insert wsX2_allKeys := goodIn_r _ [42, 3, 6, 43, 44, 45, 18, 46, 25, 159, 160, 161, 162, 163, 164, 165, 166, 167, 168, 169, 170, 171, 172, 173, 174, 175] (by decide +kernel) (by decide +kernel)
set_option maxRecDepth 20000 in
theorem gX2_insert_X2_allKeys : GoodIn wsX2_insert (wsV RX2 95 RX2 yX2_allKeys wsX2_allKeys) := goodIn_app (goodIn_of _ (by decide +kernel)) ggX2_insert_X2_allKeys
set_option maxRecDepth 20000 in
theorem ggX2_insert_X2_addLate : GoodIn wsX2_insert wsX2_addLate := goodIn_r _ [50, 6, 51, 52, 22, 23, 18, 24, 25, 26, 27, 28, 29, 20, 30, 31, 32, 33, 53, 54, 55, 56, 57, 58, 59, 60, 61, 62, 63, 64, 43, 44, 45, 46, 65, 66, 67, 9, 68, 69, 70, 71, 3, 4, 72, 73, 74, 75, 76, 77, 78, 79, 80, 38, 81, 82, 83, 84, 85, 86, 87, 88, 89, 90, 91, 92, 93, 94, 95, 96, 97, 98, 99, 100, 101, 102, 103, 104, 105, 106, 107, 108, 109, 110, 111, 112, 113, 114, 115, 116, 117, 118, 119, 120, 121, 122, 5, 123, 124, 125, 126, 127, 128, 129, 130, 131, 132, 133, 134, 135, 136, 137, 138, 139, 140, 141, 142, 143, 144, 145, 146, 147, 148, 149, 150, 151, 152, 153, 154, 155, 156, 157, 158, 159, 160, 161, 162, 163, 164, 165, 166, 167, 168, 169, 170, 171, 172, 173, 174, 175, 176, 177, 178, 179, 180, 181, 182] (by decide +kernel) (by decide +kernel)
set_option maxRecDepth 20000 in
theorem gX2_insert_X2_addLate : GoodIn wsX2_insert (wsV RX2 103 RX2 yX2_addLate wsX2_addLate) := goodIn_app (goodIn_of _ (by decide +kernel)) ggX2_insert_X2_addLate
set_option maxRecDepth 20000 in
theorem ggX2_insert_X0_put : GoodIn wsX2_insert wsX0_put := goodIn_r _ [64, 20, 30, 31, 32, 18, 33, 25, 174, 175] (by decide +kernel) (by decide +kernel)
set_option maxRecDepth 20000 in
theorem gX2_insert_X0_put : GoodIn wsX2_insert (wsV RX2 106 RX0 yX0_put wsX0_put) := goodIn_app (goodIn_of _ (by decide +kernel)) ggX2_insert_X0_put
set_option maxRecDepth 20000 in
theorem ggX2_insert_X0_length : GoodIn wsX2_insert wsX0_length := goodIn_r _ [46, 25, 174, 175] (by decide +kernel) (by decide +kernel)
set_option maxRecDepth 20000 in
theorem gX2_insert_X0_length : GoodIn wsX2_insert (wsV RX2 76 RX0 yX0_length wsX0_length) := goodIn_app (goodIn_of _ (by decide +kernel)) ggX2_insert_X0_length
theorem dX2_insert_0 : decode cX2_insert 0 = .ok (.iload_n 1, 1) := by decide +kernel
theorem dX2_insert_1 : decode cX2_insert 1 = .ok (.i2l, 1) := by decide +kernel
theorem dX2_insert_2 : decode cX2_insert 2 = .ok (.invokestatic 65, 3) := by decide +kernel
theorem dX2_insert_5 : decode cX2_insert 5 = .ok (.aload_n 0, 1) := by decide +kernel
theorem dX2_insert_6 : decode cX2_insert 6 = .ok (.getfield 14, 3) := by decide +kernel
theorem dX2_insert_9 : decode cX2_insert 9 = .ok (.iload_n 1, 1) := by decide +kernel
theorem dX2_insert_10 : decode cX2_insert 10 = .ok (.invokevirtual 87, 3) := by decide +kernel
theorem dX2_insert_13 : decode cX2_insert 13 = .ok (.istore_n 2, 1) := by decide +kernel
theorem dX2_insert_14 : decode cX2_insert 14 = .ok (.aload_n 0, 1) := by decide +kernel
theorem dX2_insert_15 : decode cX2_insert 15 = .ok (.iload_n 1, 1) := by decide +kernel
theorem dX2_insert_16 : decode cX2_insert 16 = .ok (.invokevirtual 91, 3) := by decide +kernel
theorem dX2_insert_19 : decode cX2_insert 19 = .ok (.ifCond .ne 18, 3) := by decide +kernel
theorem dX2_insert_22 : decode cX2_insert 22 = .ok (.iload_n 2, 1) := by decide +kernel
theorem dX2_insert_23 : decode cX2_insert 23 = .ok (.iconst (-1), 1) := by decide +kernel
theorem dX2_insert_24 : decode cX2_insert 24 = .ok (.if_icmp .ne 23, 3) := by decide +kernel
theorem dX2_insert_27 : decode cX2_insert 27 = .ok (.aload_n 0, 1) := by decide +kernel
theorem dX2_insert_28 : decode cX2_insert 28 = .ok (.invokevirtual 95, 3) := by decide +kernel
theorem dX2_insert_31 : decode cX2_insert 31 = .ok (.sipush 256, 3) := by decide +kernel
theorem dX2_insert_34 : decode cX2_insert 34 = .ok (.if_icmp .lt 13, 3) := by decide +kernel
theorem dX2_insert_37 : decode cX2_insert 37 = .ok (.new 98, 3) := by decide +kernel
theorem dX2_insert_40 : decode cX2_insert 40 = .ok (.dup, 1) := by decide +kernel
theorem dX2_insert_41 : decode cX2_insert 41 = .ok (.ldc 100, 2) := by decide +kernel
theorem dX2_insert_43 : decode cX2_insert 43 = .ok (.invokespecial 102, 3) := by decide +kernel
theorem dX2_insert_46 : decode cX2_insert 46 = .ok (.athrow, 1) := by decide +kernel
theorem dX2_insert_47 : decode cX2_insert 47 = .ok (.iload_n 2, 1) := by decide +kernel
theorem dX2_insert_48 : decode cX2_insert 48 = .ok (.iconst (-1), 1) := by decide +kernel
theorem dX2_insert_49 : decode cX2_insert 49 = .ok (.if_icmp .ne 11, 3) := by decide +kernel
theorem dX2_insert_52 : decode cX2_insert 52 = .ok (.aload_n 0, 1) := by decide +kernel
theorem dX2_insert_53 : decode cX2_insert 53 = .ok (.iload_n 1, 1) := by decide +kernel
theorem dX2_insert_54 : decode cX2_insert 54 = .ok (.invokevirtual 103, 3) := by decide +kernel
theorem dX2_insert_57 : decode cX2_insert 57 = .ok (.goto 22, 3) := by decide +kernel
theorem dX2_insert_60 : decode cX2_insert 60 = .ok (.aload_n 0, 1) := by decide +kernel
theorem dX2_insert_61 : decode cX2_insert 61 = .ok (.getfield 18, 3) := by decide +kernel
theorem dX2_insert_64 : decode cX2_insert 64 = .ok (.iload_n 2, 1) := by decide +kernel
theorem dX2_insert_65 : decode cX2_insert 65 = .ok (.iconst 0, 1) := by decide +kernel
theorem dX2_insert_66 : decode cX2_insert 66 = .ok (.invokevirtual 106, 3) := by decide +kernel
theorem dX2_insert_69 : decode cX2_insert 69 = .ok (.aload_n 0, 1) := by decide +kernel
theorem dX2_insert_70 : decode cX2_insert 70 = .ok (.dup, 1) := by decide +kernel
theorem dX2_insert_71 : decode cX2_insert 71 = .ok (.getfield 53, 3) := by decide +kernel
theorem dX2_insert_74 : decode cX2_insert 74 = .ok (.iconst 1, 1) := by decide +kernel
theorem dX2_insert_75 : decode cX2_insert 75 = .ok (.isub, 1) := by decide +kernel
theorem dX2_insert_76 : decode cX2_insert 76 = .ok (.putfield 53, 3) := by decide +kernel
theorem dX2_insert_79 : decode cX2_insert 79 = .ok (.aload_n 0, 1) := by decide +kernel
theorem dX2_insert_80 : decode cX2_insert 80 = .ok (.getfield 21, 3) := by decide +kernel
theorem dX2_insert_83 : decode cX2_insert 83 = .ok (.invokevirtual 76, 3) := by decide +kernel
theorem dX2_insert_86 : decode cX2_insert 86 = .ok (.ireturn, 1) := by decide +kernel
set_option maxRecDepth 20000 in
theorem ggX2_remove_X2_isThere : GoodIn wsX2_remove wsX2_isThere := goodIn_r _ [11, 3, 4, 5, 12, 13, 14, 15, 16, 17, 18, 19, 20, 21, 22, 23, 24, 25, 26, 27, 28, 29, 30, 31, 54, 55, 56, 57, 58, 59, 60, 61, 62, 63, 64, 65, 66, 67, 68, 69, 70] (by decide +kernel) (by decide +kernel)
set_option maxRecDepth 20000 in
theorem gX2_remove_X2_isThere : GoodIn wsX2_remove (wsV RX2 91 RX2 yX2_isThere wsX2_isThere) := goodIn_app (goodIn_of _ (by decide +kernel)) ggX2_remove_X2_isThere
set_option maxRecDepth 20000 in
theorem ggX2_remove_X0_indexOf : GoodIn wsX2_remove wsX0_indexOf := goodIn_r _ [16, 17, 18, 19, 20, 15, 21, 22, 23, 24, 25, 26, 27, 28, 29, 30, 69, 70] (by decide +kernel) (by decide +kernel)
set_option maxRecDepth 20000 in
theorem gX2_remove_X0_indexOf : GoodIn wsX2_remove (wsV RX2 87 RX0 yX0_indexOf wsX0_indexOf) := goodIn_app (goodIn_of _ (by decide +kernel)) ggX2_remove_X0_indexOf
set_option maxRecDepth 20000 in
theorem ggX2_remove_X0_below : GoodIn wsX2_remove wsX0_below := goodIn_r _ [21, 22, 23, 24, 25, 15, 26, 17, 27, 28, 29, 30, 69, 70] (by decide +kernel) (by decide +kernel)
set_option maxRecDepth 20000 in
theorem gX2_remove_X0_below : GoodIn wsX2_remove (wsV RX2 114 RX0 yX0_below wsX0_below) := goodIn_app (goodIn_of _ (by decide +kernel)) ggX2_remove_X0_below
set_option maxRecDepth 20000 in
theorem ggX2_remove_X0_takeOut : GoodIn wsX2_remove wsX0_takeOut := goodIn_r _ [36, 22, 27, 28, 29, 15, 30, 17, 23, 24, 25, 26, 37, 38, 39, 40, 69, 70] (by decide +kernel) (by decide +kernel)
set_option maxRecDepth 20000 in
theorem gX2_remove_X0_takeOut : GoodIn wsX2_remove (wsV RX2 117 RX0 yX0_takeOut wsX0_takeOut) := goodIn_app (goodIn_of _ (by decide +kernel)) ggX2_remove_X0_takeOut
set_option maxRecDepth 20000 in
theorem ggX2_remove_X0_put : GoodIn wsX2_remove wsX0_put := goodIn_r _ [40, 17, 27, 28, 29, 15, 30, 22, 69, 70] (by decide +kernel) (by decide +kernel)
set_option maxRecDepth 20000 in
theorem gX2_remove_X0_put : GoodIn wsX2_remove (wsV RX2 106 RX0 yX0_put wsX0_put) := goodIn_app (goodIn_of _ (by decide +kernel)) ggX2_remove_X0_put
set_option maxRecDepth 20000 in
theorem ggX2_remove_X2_keysThere : GoodIn wsX2_remove wsX2_keysThere := goodIn_r _ [45, 6, 46, 47, 48, 10, 49, 3, 4, 50, 51, 52, 15, 53, 22, 54, 55, 56, 57, 58, 59, 60, 61, 62, 63, 64, 65, 66, 67, 68, 69, 70] (by decide +kernel) (by decide +kernel)
set_option maxRecDepth 20000 in
theorem gX2_remove_X2_keysThere : GoodIn wsX2_remove (wsV RX2 120 RX2 yX2_keysThere wsX2_keysThere) := goodIn_app (goodIn_of _ (by decide +kernel)) ggX2_remove_X2_keysThere
theorem dX2_remove_0 : decode cX2_remove 0 = .ok (.aload_n 0, 1) := by decide +kernel
theorem dX2_remove_1 : decode cX2_remove 1 = .ok (.iload_n 1, 1) := by decide +kernel
theorem dX2_remove_2 : decode cX2_remove 2 = .ok (.invokevirtual 91, 3) := by decide +kernel
theorem dX2_remove_5 : decode cX2_remove 5 = .ok (.ifCond .ne 13, 3) := by decide +kernel
theorem dX2_remove_8 : decode cX2_remove 8 = .ok (.new 109, 3) := by decide +kernel
theorem dX2_remove_11 : decode cX2_remove 11 = .ok (.dup, 1) := by decide +kernel
theorem dX2_remove_12 : decode cX2_remove 12 = .ok (.ldc 111, 2) := by decide +kernel
theorem dX2_remove_14 : decode cX2_remove 14 = .ok (.invokespecial 113, 3) := by decide +kernel
theorem dX2_remove_17 : decode cX2_remove 17 = .ok (.athrow, 1) := by decide +kernel
theorem dX2_remove_18 : decode cX2_remove 18 = .ok (.aload_n 0, 1) := by decide +kernel
theorem dX2_remove_19 : decode cX2_remove 19 = .ok (.getfield 14, 3) := by decide +kernel
theorem dX2_remove_22 : decode cX2_remove 22 = .ok (.iload_n 1, 1) := by decide +kernel
theorem dX2_remove_23 : decode cX2_remove 23 = .ok (.invokevirtual 87, 3) := by decide +kernel
theorem dX2_remove_26 : decode cX2_remove 26 = .ok (.istore_n 2, 1) := by decide +kernel
theorem dX2_remove_27 : decode cX2_remove 27 = .ok (.iload_n 2, 1) := by decide +kernel
theorem dX2_remove_28 : decode cX2_remove 28 = .ok (.iconst (-1), 1) := by decide +kernel
theorem dX2_remove_29 : decode cX2_remove 29 = .ok (.if_icmp .ne 21, 3) := by decide +kernel
theorem dX2_remove_32 : decode cX2_remove 32 = .ok (.aload_n 0, 1) := by decide +kernel
theorem dX2_remove_33 : decode cX2_remove 33 = .ok (.getfield 21, 3) := by decide +kernel
theorem dX2_remove_36 : decode cX2_remove 36 = .ok (.aload_n 0, 1) := by decide +kernel
theorem dX2_remove_37 : decode cX2_remove 37 = .ok (.getfield 21, 3) := by decide +kernel
theorem dX2_remove_40 : decode cX2_remove 40 = .ok (.iload_n 1, 1) := by decide +kernel
theorem dX2_remove_41 : decode cX2_remove 41 = .ok (.invokevirtual 114, 3) := by decide +kernel
theorem dX2_remove_44 : decode cX2_remove 44 = .ok (.invokevirtual 117, 3) := by decide +kernel
theorem dX2_remove_47 : decode cX2_remove 47 = .ok (.goto 22, 3) := by decide +kernel
theorem dX2_remove_50 : decode cX2_remove 50 = .ok (.aload_n 0, 1) := by decide +kernel
theorem dX2_remove_51 : decode cX2_remove 51 = .ok (.getfield 18, 3) := by decide +kernel
theorem dX2_remove_54 : decode cX2_remove 54 = .ok (.iload_n 2, 1) := by decide +kernel
theorem dX2_remove_55 : decode cX2_remove 55 = .ok (.iconst 1, 1) := by decide +kernel
theorem dX2_remove_56 : decode cX2_remove 56 = .ok (.invokevirtual 106, 3) := by decide +kernel
theorem dX2_remove_59 : decode cX2_remove 59 = .ok (.aload_n 0, 1) := by decide +kernel
theorem dX2_remove_60 : decode cX2_remove 60 = .ok (.dup, 1) := by decide +kernel
theorem dX2_remove_61 : decode cX2_remove 61 = .ok (.getfield 53, 3) := by decide +kernel
theorem dX2_remove_64 : decode cX2_remove 64 = .ok (.iconst 1, 1) := by decide +kernel
theorem dX2_remove_65 : decode cX2_remove 65 = .ok (.iadd, 1) := by decide +kernel
theorem dX2_remove_66 : decode cX2_remove 66 = .ok (.putfield 53, 3) := by decide +kernel
theorem dX2_remove_69 : decode cX2_remove 69 = .ok (.aload_n 0, 1) := by decide +kernel
theorem dX2_remove_70 : decode cX2_remove 70 = .ok (.invokevirtual 120, 3) := by decide +kernel
theorem dX2_remove_73 : decode cX2_remove 73 = .ok (.ireturn, 1) := by decide +kernel
set_option maxRecDepth 20000 in
theorem ggX2_merge_X2_mergeAll : GoodIn wsX2_merge wsX2_mergeAll := goodIn_r _ [6, 7, 8, 1, 9, 10, 11, 12, 13, 14, 15, 16, 17, 18, 19, 20, 21, 22, 23, 24, 25, 5, 26, 27, 28, 29, 30, 31, 32, 33, 34, 35, 36, 37, 38, 39, 40, 41, 42, 43, 44, 45, 46, 47, 48, 49, 50, 51, 52, 53, 54, 55, 56, 57, 58, 59, 60, 61, 62, 63, 64, 65, 66, 67, 68, 69, 70, 71, 72, 73, 74, 75, 76, 77, 78, 79, 80, 81, 82, 83, 84, 85, 86, 87, 88, 89, 90, 91, 92, 93, 94, 95, 96, 97, 98, 99, 100, 101, 102, 103, 104, 105, 106, 107, 108, 109, 110, 111, 112, 113, 114, 115, 116, 117, 118, 119, 120, 121, 122, 123, 124, 125, 126, 127, 128, 129, 130, 131, 132, 133, 134, 135, 136, 137, 138, 139, 140, 141, 142, 143, 144, 145, 146, 147, 148, 149] (by decide +kernel) (by decide +kernel)
set_option maxRecDepth 20000 in
theorem gX2_merge_X2_mergeAll : GoodIn wsX2_merge (wsV RX2 123 RX2 yX2_mergeAll wsX2_mergeAll) := goodIn_app (goodIn_of _ (by decide +kernel)) ggX2_merge_X2_mergeAll
set_option maxRecDepth 20000 in
theorem ggX2_merge_X0_length : GoodIn wsX2_merge wsX0_length := goodIn_r _ [22, 18, 141, 142] (by decide +kernel) (by decide +kernel)
set_option maxRecDepth 20000 in
theorem gX2_merge_X0_length : GoodIn wsX2_merge (wsV RX2 76 RX0 yX0_length wsX0_length) := goodIn_app (goodIn_of _ (by decide +kernel)) ggX2_merge_X0_length
theorem dX2_merge_0 : decode cX2_merge 0 = .ok (.aload_n 0, 1) := by decide +kernel
theorem dX2_merge_1 : decode cX2_merge 1 = .ok (.invokevirtual 123, 3) := by decide +kernel
theorem dX2_merge_4 : decode cX2_merge 4 = .ok (.aload_n 0, 1) := by decide +kernel
theorem dX2_merge_5 : decode cX2_merge 5 = .ok (.getfield 24, 3) := by decide +kernel
theorem dX2_merge_8 : decode cX2_merge 8 = .ok (.invokevirtual 76, 3) := by decide +kernel
theorem dX2_merge_11 : decode cX2_merge 11 = .ok (.ireturn, 1) := by decide +kernel
set_option maxRecDepth 20000 in
theorem ggX2_rebuild_X2_gatherAll : GoodIn wsX2_rebuild wsX2_gatherAll := goodIn_r _ [11, 5, 12, 13, 14, 15, 16, 17, 18, 19, 20, 21, 22, 23, 24, 25, 26, 10, 27, 28, 29, 30, 31, 32, 33, 34, 35, 36, 37, 38, 39, 40, 41, 99, 100, 101, 102, 103, 104, 105, 106, 107, 108, 109, 110, 111, 112, 113, 114, 115] (by decide +kernel) (by decide +kernel)
set_option maxRecDepth 20000 in
theorem gX2_rebuild_X2_gatherAll : GoodIn wsX2_rebuild (wsV RX2 128 RX2 yX2_gatherAll wsX2_gatherAll) := goodIn_app (goodIn_of _ (by decide +kernel)) ggX2_rebuild_X2_gatherAll
set_option maxRecDepth 20000 in
theorem ggX2_rebuild_X2_clearRow : GoodIn wsX2_rebuild wsX2_clearRow := goodIn_r _ [45, 12, 28, 46, 13, 14, 15, 16, 17, 18, 19, 47, 48, 49, 10, 50, 6, 51, 52, 99, 100, 101, 102, 103, 104, 105, 106, 107, 108, 109, 110, 111, 112, 113, 114, 115] (by decide +kernel) (by decide +kernel)
set_option maxRecDepth 20000 in
theorem gX2_rebuild_X2_clearRow : GoodIn wsX2_rebuild (wsV RX2 131 RX2 yX2_clearRow wsX2_clearRow) := goodIn_app (goodIn_of _ (by decide +kernel)) ggX2_rebuild_X2_clearRow
set_option maxRecDepth 20000 in
theorem ggX2_rebuild_X0_length : GoodIn wsX2_rebuild wsX0_length := goodIn_r _ [23, 19, 114, 115] (by decide +kernel) (by decide +kernel)
set_option maxRecDepth 20000 in
theorem gX2_rebuild_X0_length : GoodIn wsX2_rebuild (wsV RX2 76 RX0 yX0_length wsX0_length) := goodIn_app (goodIn_of _ (by decide +kernel)) ggX2_rebuild_X0_length
set_option maxRecDepth 20000 in
theorem ggX2_rebuild_X0_at : GoodIn wsX2_rebuild wsX0_at := goodIn_r _ [32, 33, 34, 35, 36, 17, 37, 19, 114, 115] (by decide +kernel) (by decide +kernel)
set_option maxRecDepth 20000 in
theorem gX2_rebuild_X0_at : GoodIn wsX2_rebuild (wsV RX2 134 RX0 yX0_at wsX0_at) := goodIn_app (goodIn_of _ (by decide +kernel)) ggX2_rebuild_X0_at
set_option maxRecDepth 20000 in
theorem ggX2_rebuild_X2_addLast : GoodIn wsX2_rebuild wsX2_addLast := goodIn_r _ [56, 12, 28, 6, 57, 20, 21, 22, 17, 23, 19, 38, 39, 40, 41, 33, 58, 59, 60, 61, 62, 63, 64, 65, 66, 67, 68, 69, 70, 71, 72, 73, 10, 74, 51, 52, 75, 76, 77, 78, 79, 80, 81, 82, 83, 84, 85, 86, 34, 35, 36, 37, 87, 88, 89, 90, 91, 92, 93, 94, 3, 95, 96, 97, 98, 99, 100, 101, 102, 103, 104, 105, 106, 107, 108, 109, 110, 111, 112, 113, 114, 115, 116, 117, 118, 119, 120, 121, 122] (by decide +kernel) (by decide +kernel)
set_option maxRecDepth 20000 in
theorem gX2_rebuild_X2_addLast : GoodIn wsX2_rebuild (wsV RX2 73 RX2 yX2_addLast wsX2_addLast) := goodIn_app (goodIn_of _ (by decide +kernel)) ggX2_rebuild_X2_addLast
theorem dX2_rebuild_0 : decode cX2_rebuild 0 = .ok (.iload_n 1, 1) := by decide +kernel
theorem dX2_rebuild_1 : decode cX2_rebuild 1 = .ok (.ifCond .lt 20, 3) := by decide +kernel
theorem dX2_rebuild_4 : decode cX2_rebuild 4 = .ok (.iload_n 1, 1) := by decide +kernel
theorem dX2_rebuild_5 : decode cX2_rebuild 5 = .ok (.bipush 20, 2) := by decide +kernel
theorem dX2_rebuild_7 : decode cX2_rebuild 7 = .ok (.if_icmp .gt 14, 3) := by decide +kernel
theorem dX2_rebuild_10 : decode cX2_rebuild 10 = .ok (.iload_n 2, 1) := by decide +kernel
theorem dX2_rebuild_11 : decode cX2_rebuild 11 = .ok (.iconst 1, 1) := by decide +kernel
theorem dX2_rebuild_12 : decode cX2_rebuild 12 = .ok (.if_icmp .lt 9, 3) := by decide +kernel
theorem dX2_rebuild_15 : decode cX2_rebuild 15 = .ok (.iload_n 2, 1) := by decide +kernel
theorem dX2_rebuild_16 : decode cX2_rebuild 16 = .ok (.bipush 16, 2) := by decide +kernel
theorem dX2_rebuild_18 : decode cX2_rebuild 18 = .ok (.if_icmp .le 13, 3) := by decide +kernel
theorem dX2_rebuild_21 : decode cX2_rebuild 21 = .ok (.new 80, 3) := by decide +kernel
theorem dX2_rebuild_24 : decode cX2_rebuild 24 = .ok (.dup, 1) := by decide +kernel
end
section
theorem dX2_rebuild_25 : decode cX2_rebuild 25 = .ok (.ldc 126, 2) := by decide +kernel
theorem dX2_rebuild_27 : decode cX2_rebuild 27 = .ok (.invokespecial 84, 3) := by decide +kernel
theorem dX2_rebuild_30 : decode cX2_rebuild 30 = .ok (.athrow, 1) := by decide +kernel
theorem dX2_rebuild_31 : decode cX2_rebuild 31 = .ok (.aload_n 0, 1) := by decide +kernel
theorem dX2_rebuild_32 : decode cX2_rebuild 32 = .ok (.iload_n 1, 1) := by decide +kernel
theorem dX2_rebuild_33 : decode cX2_rebuild 33 = .ok (.putfield 46, 3) := by decide +kernel
theorem dX2_rebuild_36 : decode cX2_rebuild 36 = .ok (.aload_n 0, 1) := by decide +kernel
theorem dX2_rebuild_37 : decode cX2_rebuild 37 = .ok (.iload_n 2, 1) := by decide +kernel
theorem dX2_rebuild_38 : decode cX2_rebuild 38 = .ok (.putfield 50, 3) := by decide +kernel
theorem dX2_rebuild_41 : decode cX2_rebuild 41 = .ok (.aload_n 0, 1) := by decide +kernel
theorem dX2_rebuild_42 : decode cX2_rebuild 42 = .ok (.invokevirtual 128, 3) := by decide +kernel
theorem dX2_rebuild_45 : decode cX2_rebuild 45 = .ok (.aload_n 0, 1) := by decide +kernel
theorem dX2_rebuild_46 : decode cX2_rebuild 46 = .ok (.invokevirtual 131, 3) := by decide +kernel
theorem dX2_rebuild_49 : decode cX2_rebuild 49 = .ok (.iconst 0, 1) := by decide +kernel
theorem dX2_rebuild_50 : decode cX2_rebuild 50 = .ok (.istore_n 3, 1) := by decide +kernel
theorem dX2_rebuild_51 : decode cX2_rebuild 51 = .ok (.iload_n 3, 1) := by decide +kernel
theorem dX2_rebuild_52 : decode cX2_rebuild 52 = .ok (.aload_n 0, 1) := by decide +kernel
theorem dX2_rebuild_53 : decode cX2_rebuild 53 = .ok (.getfield 40, 3) := by decide +kernel
theorem dX2_rebuild_56 : decode cX2_rebuild 56 = .ok (.invokevirtual 76, 3) := by decide +kernel
theorem dX2_rebuild_59 : decode cX2_rebuild 59 = .ok (.if_icmp .ge 21, 3) := by decide +kernel
theorem dX2_rebuild_62 : decode cX2_rebuild 62 = .ok (.aload_n 0, 1) := by decide +kernel
theorem dX2_rebuild_63 : decode cX2_rebuild 63 = .ok (.aload_n 0, 1) := by decide +kernel
theorem dX2_rebuild_64 : decode cX2_rebuild 64 = .ok (.getfield 40, 3) := by decide +kernel
theorem dX2_rebuild_67 : decode cX2_rebuild 67 = .ok (.iload_n 3, 1) := by decide +kernel
theorem dX2_rebuild_68 : decode cX2_rebuild 68 = .ok (.invokevirtual 134, 3) := by decide +kernel
theorem dX2_rebuild_71 : decode cX2_rebuild 71 = .ok (.invokevirtual 73, 3) := by decide +kernel
theorem dX2_rebuild_74 : decode cX2_rebuild 74 = .ok (.iinc 3 1, 3) := by decide +kernel
theorem dX2_rebuild_77 : decode cX2_rebuild 77 = .ok (.goto (-26), 3) := by decide +kernel
theorem dX2_rebuild_80 : decode cX2_rebuild 80 = .ok (.aload_n 0, 1) := by decide +kernel
theorem dX2_rebuild_81 : decode cX2_rebuild 81 = .ok (.getfield 24, 3) := by decide +kernel
theorem dX2_rebuild_84 : decode cX2_rebuild 84 = .ok (.invokevirtual 76, 3) := by decide +kernel
theorem dX2_rebuild_87 : decode cX2_rebuild 87 = .ok (.ireturn, 1) := by decide +kernel
set_option maxRecDepth 20000 in
theorem ggX2_size_X2_keysThere : GoodIn wsX2_size wsX2_keysThere := goodIn_r _ [5, 6, 7, 8, 9, 4, 10, 11, 12, 13, 14, 15, 16, 17, 18, 19, 20, 21, 22, 23, 24, 25, 26, 27, 28, 29, 30, 31, 32, 33, 34, 35] (by decide +kernel) (by decide +kernel)
set_option maxRecDepth 20000 in
theorem gX2_size_X2_keysThere : GoodIn wsX2_size (wsV RX2 120 RX2 yX2_keysThere wsX2_keysThere) := goodIn_app (goodIn_of _ (by decide +kernel)) ggX2_size_X2_keysThere
theorem dX2_size_0 : decode cX2_size 0 = .ok (.aload_n 0, 1) := by decide +kernel
theorem dX2_size_1 : decode cX2_size 1 = .ok (.invokevirtual 120, 3) := by decide +kernel
theorem dX2_size_4 : decode cX2_size 4 = .ok (.ireturn, 1) := by decide +kernel
set_option maxRecDepth 20000 in
theorem ggX2_contains_X2_isThere : GoodIn wsX2_contains wsX2_isThere := goodIn_r _ [5, 6, 7, 8, 9, 10, 11, 12, 13, 14, 15, 16, 17, 18, 19, 20, 21, 22, 23, 24, 25, 26, 27, 28, 29, 30, 31, 32, 33, 34, 35, 36, 37, 38, 39, 40, 41, 42, 43, 44, 45] (by decide +kernel) (by decide +kernel)
set_option maxRecDepth 20000 in
theorem gX2_contains_X2_isThere : GoodIn wsX2_contains (wsV RX2 91 RX2 yX2_isThere wsX2_isThere) := goodIn_app (goodIn_of _ (by decide +kernel)) ggX2_contains_X2_isThere
theorem dX2_contains_0 : decode cX2_contains 0 = .ok (.aload_n 0, 1) := by decide +kernel
theorem dX2_contains_1 : decode cX2_contains 1 = .ok (.iload_n 1, 1) := by decide +kernel
theorem dX2_contains_2 : decode cX2_contains 2 = .ok (.invokevirtual 91, 3) := by decide +kernel
theorem dX2_contains_5 : decode cX2_contains 5 = .ok (.ireturn, 1) := by decide +kernel
set_option maxRecDepth 20000 in
theorem ggX2_rank_X2_thereBelow : GoodIn wsX2_rank wsX2_thereBelow := goodIn_r _ [5, 6, 7, 8, 9, 10, 11, 12, 13, 14, 15, 16, 17, 18, 19, 20, 21, 22, 23, 24, 25, 26, 27, 28, 29, 30, 31, 32, 33, 34, 35, 36, 37, 38, 39, 40, 41] (by decide +kernel) (by decide +kernel)
set_option maxRecDepth 20000 in
theorem gX2_rank_X2_thereBelow : GoodIn wsX2_rank (wsV RX2 137 RX2 yX2_thereBelow wsX2_thereBelow) := goodIn_app (goodIn_of _ (by decide +kernel)) ggX2_rank_X2_thereBelow
theorem dX2_rank_0 : decode cX2_rank 0 = .ok (.aload_n 0, 1) := by decide +kernel
theorem dX2_rank_1 : decode cX2_rank 1 = .ok (.iload_n 1, 1) := by decide +kernel
theorem dX2_rank_2 : decode cX2_rank 2 = .ok (.invokevirtual 137, 3) := by decide +kernel
theorem dX2_rank_5 : decode cX2_rank 5 = .ok (.ireturn, 1) := by decide +kernel
set_option maxRecDepth 20000 in
theorem ggX2_select_X2_keysThere : GoodIn wsX2_select wsX2_keysThere := goodIn_r _ [7, 8, 9, 10, 11, 6, 12, 13, 14, 15, 16, 17, 18, 19, 20, 52, 53, 54, 55, 56, 57, 58, 59, 60, 61, 62, 63, 64, 65, 66, 67, 68] (by decide +kernel) (by decide +kernel)
set_option maxRecDepth 20000 in
theorem gX2_select_X2_keysThere : GoodIn wsX2_select (wsV RX2 120 RX2 yX2_keysThere wsX2_keysThere) := goodIn_app (goodIn_of _ (by decide +kernel)) ggX2_select_X2_keysThere
set_option maxRecDepth 20000 in
theorem ggX2_select_X2_keyThere : GoodIn wsX2_select wsX2_keyThere := goodIn_r _ [24, 25, 26, 27, 28, 6, 29, 13, 14, 30, 31, 32, 18, 33, 20, 15, 16, 17, 19, 34, 35, 36, 37, 38, 39, 40, 41, 42, 43, 44, 45, 46, 47, 48, 49, 50, 51, 52, 53, 54, 55, 56, 57, 58, 59, 60, 61, 62, 63, 64, 65, 66, 67, 68] (by decide +kernel) (by decide +kernel)
set_option maxRecDepth 20000 in
theorem gX2_select_X2_keyThere : GoodIn wsX2_select (wsV RX2 145 RX2 yX2_keyThere wsX2_keyThere) := goodIn_app (goodIn_of _ (by decide +kernel)) ggX2_select_X2_keyThere
theorem dX2_select_0 : decode cX2_select 0 = .ok (.iload_n 1, 1) := by decide +kernel
theorem dX2_select_1 : decode cX2_select 1 = .ok (.ifCond .lt 11, 3) := by decide +kernel
theorem dX2_select_4 : decode cX2_select 4 = .ok (.iload_n 1, 1) := by decide +kernel
theorem dX2_select_5 : decode cX2_select 5 = .ok (.aload_n 0, 1) := by decide +kernel
theorem dX2_select_6 : decode cX2_select 6 = .ok (.invokevirtual 120, 3) := by decide +kernel
theorem dX2_select_9 : decode cX2_select 9 = .ok (.if_icmp .lt 13, 3) := by decide +kernel
theorem dX2_select_12 : decode cX2_select 12 = .ok (.new 140, 3) := by decide +kernel
theorem dX2_select_15 : decode cX2_select 15 = .ok (.dup, 1) := by decide +kernel
theorem dX2_select_16 : decode cX2_select 16 = .ok (.ldc 142, 2) := by decide +kernel
theorem dX2_select_18 : decode cX2_select 18 = .ok (.invokespecial 144, 3) := by decide +kernel
theorem dX2_select_21 : decode cX2_select 21 = .ok (.athrow, 1) := by decide +kernel
theorem dX2_select_22 : decode cX2_select 22 = .ok (.aload_n 0, 1) := by decide +kernel
theorem dX2_select_23 : decode cX2_select 23 = .ok (.iload_n 1, 1) := by decide +kernel
theorem dX2_select_24 : decode cX2_select 24 = .ok (.invokevirtual 145, 3) := by decide +kernel
theorem dX2_select_27 : decode cX2_select 27 = .ok (.ireturn, 1) := by decide +kernel
set_option maxRecDepth 20000 in
theorem ggX2_ceiling_X2_thereBelow : GoodIn wsX2_ceiling wsX2_thereBelow := goodIn_r _ [7, 8, 9, 10, 11, 12, 13, 14, 15, 16, 17, 18, 19, 20, 21, 22, 23, 24, 25, 26, 61, 62, 63, 64, 65, 66, 67, 68, 69, 70, 71, 72, 73, 74, 75, 76, 77] (by decide +kernel) (by decide +kernel)
set_option maxRecDepth 20000 in
theorem gX2_ceiling_X2_thereBelow : GoodIn wsX2_ceiling (wsV RX2 137 RX2 yX2_thereBelow wsX2_thereBelow) := goodIn_app (goodIn_of _ (by decide +kernel)) ggX2_ceiling_X2_thereBelow
set_option maxRecDepth 20000 in
theorem ggX2_ceiling_X2_keysThere : GoodIn wsX2_ceiling wsX2_keysThere := goodIn_r _ [30, 31, 32, 33, 34, 6, 35, 8, 9, 36, 37, 38, 14, 39, 16, 61, 62, 63, 64, 65, 66, 67, 68, 69, 70, 71, 72, 73, 74, 75, 76, 77] (by decide +kernel) (by decide +kernel)
set_option maxRecDepth 20000 in
theorem gX2_ceiling_X2_keysThere : GoodIn wsX2_ceiling (wsV RX2 120 RX2 yX2_keysThere wsX2_keysThere) := goodIn_app (goodIn_of _ (by decide +kernel)) ggX2_ceiling_X2_keysThere
set_option maxRecDepth 20000 in
theorem ggX2_ceiling_X2_keyThere : GoodIn wsX2_ceiling wsX2_keyThere := goodIn_r _ [43, 44, 45, 46, 47, 6, 48, 8, 9, 49, 50, 51, 14, 52, 16, 36, 37, 38, 39, 53, 54, 55, 56, 10, 26, 18, 19, 20, 21, 22, 23, 24, 25, 57, 58, 59, 60, 61, 62, 63, 64, 65, 66, 67, 68, 69, 70, 71, 72, 73, 74, 75, 76, 77] (by decide +kernel) (by decide +kernel)
set_option maxRecDepth 20000 in
theorem gX2_ceiling_X2_keyThere : GoodIn wsX2_ceiling (wsV RX2 145 RX2 yX2_keyThere wsX2_keyThere) := goodIn_app (goodIn_of _ (by decide +kernel)) ggX2_ceiling_X2_keyThere
theorem dX2_ceiling_0 : decode cX2_ceiling 0 = .ok (.aload_n 0, 1) := by decide +kernel
theorem dX2_ceiling_1 : decode cX2_ceiling 1 = .ok (.iload_n 1, 1) := by decide +kernel
theorem dX2_ceiling_2 : decode cX2_ceiling 2 = .ok (.invokevirtual 137, 3) := by decide +kernel
theorem dX2_ceiling_5 : decode cX2_ceiling 5 = .ok (.istore_n 2, 1) := by decide +kernel
theorem dX2_ceiling_6 : decode cX2_ceiling 6 = .ok (.iload_n 2, 1) := by decide +kernel
theorem dX2_ceiling_7 : decode cX2_ceiling 7 = .ok (.aload_n 0, 1) := by decide +kernel
theorem dX2_ceiling_8 : decode cX2_ceiling 8 = .ok (.invokevirtual 120, 3) := by decide +kernel
theorem dX2_ceiling_11 : decode cX2_ceiling 11 = .ok (.if_icmp .lt 13, 3) := by decide +kernel
theorem dX2_ceiling_14 : decode cX2_ceiling 14 = .ok (.new 109, 3) := by decide +kernel
theorem dX2_ceiling_17 : decode cX2_ceiling 17 = .ok (.dup, 1) := by decide +kernel
theorem dX2_ceiling_18 : decode cX2_ceiling 18 = .ok (.ldc 148, 2) := by decide +kernel
theorem dX2_ceiling_20 : decode cX2_ceiling 20 = .ok (.invokespecial 113, 3) := by decide +kernel
theorem dX2_ceiling_23 : decode cX2_ceiling 23 = .ok (.athrow, 1) := by decide +kernel
theorem dX2_ceiling_24 : decode cX2_ceiling 24 = .ok (.aload_n 0, 1) := by decide +kernel
theorem dX2_ceiling_25 : decode cX2_ceiling 25 = .ok (.iload_n 2, 1) := by decide +kernel
theorem dX2_ceiling_26 : decode cX2_ceiling 26 = .ok (.invokevirtual 145, 3) := by decide +kernel
theorem dX2_ceiling_29 : decode cX2_ceiling 29 = .ok (.ireturn, 1) := by decide +kernel
set_option maxRecDepth 20000 in
theorem ggX2_count_X2_thereBelow : GoodIn wsX2_count wsX2_thereBelow := goodIn_r _ [5, 6, 7, 8, 9, 10, 11, 12, 13, 14, 15, 16, 17, 18, 19, 20, 21, 22, 23, 24, 34, 35, 36, 37, 38, 39, 40, 41, 42, 43, 44, 45, 46, 47, 48, 49, 50] (by decide +kernel) (by decide +kernel)
set_option maxRecDepth 20000 in
theorem gX2_count_X2_thereBelow : GoodIn wsX2_count (wsV RX2 137 RX2 yX2_thereBelow wsX2_thereBelow) := goodIn_app (goodIn_of _ (by decide +kernel)) ggX2_count_X2_thereBelow
set_option maxRecDepth 20000 in
theorem ggX2_count_X2_isThere : GoodIn wsX2_count wsX2_isThere := goodIn_r _ [28, 6, 7, 8, 29, 30, 31, 12, 32, 19, 33, 10, 11, 13, 14, 15, 16, 17, 18, 20, 21, 22, 23, 24, 34, 35, 36, 37, 38, 39, 40, 41, 42, 43, 44, 45, 46, 47, 48, 49, 50] (by decide +kernel) (by decide +kernel)
set_option maxRecDepth 20000 in
theorem gX2_count_X2_isThere : GoodIn wsX2_count (wsV RX2 91 RX2 yX2_isThere wsX2_isThere) := goodIn_app (goodIn_of _ (by decide +kernel)) ggX2_count_X2_isThere
theorem dX2_count_0 : decode cX2_count 0 = .ok (.iload_n 1, 1) := by decide +kernel
theorem dX2_count_1 : decode cX2_count 1 = .ok (.iload_n 2, 1) := by decide +kernel
theorem dX2_count_2 : decode cX2_count 2 = .ok (.if_icmp .le 5, 3) := by decide +kernel
theorem dX2_count_5 : decode cX2_count 5 = .ok (.iconst 0, 1) := by decide +kernel
theorem dX2_count_6 : decode cX2_count 6 = .ok (.ireturn, 1) := by decide +kernel
theorem dX2_count_7 : decode cX2_count 7 = .ok (.aload_n 0, 1) := by decide +kernel
theorem dX2_count_8 : decode cX2_count 8 = .ok (.iload_n 2, 1) := by decide +kernel
theorem dX2_count_9 : decode cX2_count 9 = .ok (.invokevirtual 137, 3) := by decide +kernel
theorem dX2_count_12 : decode cX2_count 12 = .ok (.aload_n 0, 1) := by decide +kernel
theorem dX2_count_13 : decode cX2_count 13 = .ok (.iload_n 1, 1) := by decide +kernel
theorem dX2_count_14 : decode cX2_count 14 = .ok (.invokevirtual 137, 3) := by decide +kernel
theorem dX2_count_17 : decode cX2_count 17 = .ok (.isub, 1) := by decide +kernel
theorem dX2_count_18 : decode cX2_count 18 = .ok (.aload_n 0, 1) := by decide +kernel
theorem dX2_count_19 : decode cX2_count 19 = .ok (.iload_n 2, 1) := by decide +kernel
theorem dX2_count_20 : decode cX2_count 20 = .ok (.invokevirtual 91, 3) := by decide +kernel
theorem dX2_count_23 : decode cX2_count 23 = .ok (.ifCond .eq 7, 3) := by decide +kernel
theorem dX2_count_26 : decode cX2_count 26 = .ok (.iconst 1, 1) := by decide +kernel
theorem dX2_count_27 : decode cX2_count 27 = .ok (.goto 4, 3) := by decide +kernel
theorem dX2_count_30 : decode cX2_count 30 = .ok (.iconst 0, 1) := by decide +kernel
theorem dX2_count_31 : decode cX2_count 31 = .ok (.iadd, 1) := by decide +kernel
theorem dX2_count_32 : decode cX2_count 32 = .ok (.ireturn, 1) := by decide +kernel
set_option maxRecDepth 20000 in
theorem ggX2_place_X0_below : GoodIn wsX2_place wsX0_below := goodIn_r _ [6, 7, 8, 9, 10, 5, 11, 12, 13, 14, 15, 16, 32, 33] (by decide +kernel) (by decide +kernel)
set_option maxRecDepth 20000 in
theorem gX2_place_X0_below : GoodIn wsX2_place (wsV RX2 114 RX0 yX0_below wsX0_below) := goodIn_app (goodIn_of _ (by decide +kernel)) ggX2_place_X0_below
theorem dX2_place_0 : decode cX2_place 0 = .ok (.aload_n 0, 1) := by decide +kernel
theorem dX2_place_1 : decode cX2_place 1 = .ok (.getfield 14, 3) := by decide +kernel
theorem dX2_place_4 : decode cX2_place 4 = .ok (.iload_n 1, 1) := by decide +kernel
theorem dX2_place_5 : decode cX2_place 5 = .ok (.invokevirtual 114, 3) := by decide +kernel
theorem dX2_place_8 : decode cX2_place 8 = .ok (.ireturn, 1) := by decide +kernel
set_option maxRecDepth 20000 in
theorem ggX2_guess_X2_needKey : GoodIn wsX2_guess wsX2_needKey := goodIn_ca (goodIn_r _ [4, 5, 6, 7, 8] (by decide +kernel) (by decide +kernel)) (goodIn_sub (fun _ h => List.mem_cons_of_mem _ (List.mem_append_right _ h)) (by decide +kernel))
set_option maxRecDepth 20000 in
theorem gX2_guess_X2_needKey : GoodIn wsX2_guess (va_wsS RX2 65 yX2_needKey wsX2_needKey) := goodIn_app (goodIn_of _ (by decide +kernel)) ggX2_guess_X2_needKey
set_option maxRecDepth 20000 in
theorem ggX2_guess_X2_pieceOf : GoodIn wsX2_guess wsX2_pieceOf := goodIn_r _ [12, 13, 14, 15, 16, 17, 18, 19, 20, 21, 22, 23, 24, 25, 26, 27, 28, 29, 46, 47, 48, 49, 50, 51, 52, 53, 54, 55, 56, 57, 58, 59, 60, 61, 62] (by decide +kernel) (by decide +kernel)
set_option maxRecDepth 20000 in
theorem gX2_guess_X2_pieceOf : GoodIn wsX2_guess (wsV RX2 150 RX2 yX2_pieceOf wsX2_pieceOf) := goodIn_app (goodIn_of _ (by decide +kernel)) ggX2_guess_X2_pieceOf
set_option maxRecDepth 20000 in
theorem ggX2_guess_X2_guessBy : GoodIn wsX2_guess wsX2_guessBy := goodIn_r _ [33, 34, 35, 14, 36, 37, 22, 23, 18, 24, 25, 26, 27, 28, 29, 20, 38, 39, 40, 3, 41, 13, 42, 43, 44, 45, 46, 47, 48, 49, 50, 51, 52, 53, 54, 55, 56, 57, 58, 59, 60, 61, 62] (by decide +kernel) (by decide +kernel)
set_option maxRecDepth 20000 in
theorem gX2_guess_X2_guessBy : GoodIn wsX2_guess (wsV RX2 153 RX2 yX2_guessBy wsX2_guessBy) := goodIn_app (goodIn_of _ (by decide +kernel)) ggX2_guess_X2_guessBy
theorem dX2_guess_0 : decode cX2_guess 0 = .ok (.iload_n 1, 1) := by decide +kernel
theorem dX2_guess_1 : decode cX2_guess 1 = .ok (.i2l, 1) := by decide +kernel
theorem dX2_guess_2 : decode cX2_guess 2 = .ok (.invokestatic 65, 3) := by decide +kernel
theorem dX2_guess_5 : decode cX2_guess 5 = .ok (.aload_n 0, 1) := by decide +kernel
theorem dX2_guess_6 : decode cX2_guess 6 = .ok (.aload_n 0, 1) := by decide +kernel
theorem dX2_guess_7 : decode cX2_guess 7 = .ok (.iload_n 1, 1) := by decide +kernel
theorem dX2_guess_8 : decode cX2_guess 8 = .ok (.invokevirtual 150, 3) := by decide +kernel
theorem dX2_guess_11 : decode cX2_guess 11 = .ok (.iload_n 1, 1) := by decide +kernel
theorem dX2_guess_12 : decode cX2_guess 12 = .ok (.invokevirtual 153, 3) := by decide +kernel
theorem dX2_guess_15 : decode cX2_guess 15 = .ok (.lreturn, 1) := by decide +kernel
set_option maxRecDepth 20000 in
theorem ggX2_looks_X2_needKey : GoodIn wsX2_looks wsX2_needKey := goodIn_ca (goodIn_r _ [4, 5, 6, 7, 8] (by decide +kernel) (by decide +kernel)) (goodIn_sub (fun _ h => List.mem_cons_of_mem _ (List.mem_append_right _ h)) (by decide +kernel))
set_option maxRecDepth 20000 in
theorem gX2_looks_X2_needKey : GoodIn wsX2_looks (va_wsS RX2 65 yX2_needKey wsX2_needKey) := goodIn_app (goodIn_of _ (by decide +kernel)) ggX2_looks_X2_needKey
set_option maxRecDepth 20000 in
theorem ggX2_looks_X2_pieceOf : GoodIn wsX2_looks wsX2_pieceOf := goodIn_r _ [12, 13, 14, 15, 16, 17, 18, 19, 20, 21, 22, 23, 24, 25, 26, 27, 28, 29, 67, 68, 69, 70, 71, 72, 73, 74, 75, 76, 77, 78, 79, 80, 81, 82, 83] (by decide +kernel) (by decide +kernel)
set_option maxRecDepth 20000 in
theorem gX2_looks_X2_pieceOf : GoodIn wsX2_looks (wsV RX2 150 RX2 yX2_pieceOf wsX2_pieceOf) := goodIn_app (goodIn_of _ (by decide +kernel)) ggX2_looks_X2_pieceOf
set_option maxRecDepth 20000 in
theorem ggX2_looks_X2_looksBy : GoodIn wsX2_looks wsX2_looksBy := goodIn_r _ [33, 14, 34, 35, 36, 37, 38, 39, 40, 41, 13, 42, 43, 44, 3, 45, 46, 47, 48, 49, 22, 23, 18, 24, 25, 26, 27, 28, 29, 20, 50, 51, 52, 53, 54, 55, 56, 57, 58, 59, 60, 61, 62, 63, 64, 65, 66, 67, 68, 69, 70, 71, 72, 73, 74, 75, 76, 77, 78, 79, 80, 81, 82, 83] (by decide +kernel) (by decide +kernel)
set_option maxRecDepth 20000 in
theorem gX2_looks_X2_looksBy : GoodIn wsX2_looks (wsV RX2 157 RX2 yX2_looksBy wsX2_looksBy) := goodIn_app (goodIn_of _ (by decide +kernel)) ggX2_looks_X2_looksBy
theorem dX2_looks_0 : decode cX2_looks 0 = .ok (.iload_n 1, 1) := by decide +kernel
theorem dX2_looks_1 : decode cX2_looks 1 = .ok (.i2l, 1) := by decide +kernel
theorem dX2_looks_2 : decode cX2_looks 2 = .ok (.invokestatic 65, 3) := by decide +kernel
theorem dX2_looks_5 : decode cX2_looks 5 = .ok (.aload_n 0, 1) := by decide +kernel
theorem dX2_looks_6 : decode cX2_looks 6 = .ok (.iload_n 1, 1) := by decide +kernel
theorem dX2_looks_7 : decode cX2_looks 7 = .ok (.invokevirtual 150, 3) := by decide +kernel
theorem dX2_looks_10 : decode cX2_looks 10 = .ok (.istore_n 2, 1) := by decide +kernel
theorem dX2_looks_11 : decode cX2_looks 11 = .ok (.iload_n 2, 1) := by decide +kernel
theorem dX2_looks_12 : decode cX2_looks 12 = .ok (.iconst (-1), 1) := by decide +kernel
theorem dX2_looks_13 : decode cX2_looks 13 = .ok (.if_icmp .ne 7, 3) := by decide +kernel
theorem dX2_looks_16 : decode cX2_looks 16 = .ok (.iconst 0, 1) := by decide +kernel
theorem dX2_looks_17 : decode cX2_looks 17 = .ok (.goto 9, 3) := by decide +kernel
theorem dX2_looks_20 : decode cX2_looks 20 = .ok (.aload_n 0, 1) := by decide +kernel
theorem dX2_looks_21 : decode cX2_looks 21 = .ok (.iload_n 2, 1) := by decide +kernel
theorem dX2_looks_22 : decode cX2_looks 22 = .ok (.iload_n 1, 1) := by decide +kernel
theorem dX2_looks_23 : decode cX2_looks 23 = .ok (.invokevirtual 157, 3) := by decide +kernel
theorem dX2_looks_26 : decode cX2_looks 26 = .ok (.ireturn, 1) := by decide +kernel
set_option maxRecDepth 20000 in
theorem ggX2_worstError_X0_length : GoodIn wsX2_worstError wsX0_length := goodIn_r _ [14, 15, 61, 62] (by decide +kernel) (by decide +kernel)
set_option maxRecDepth 20000 in
theorem gX2_worstError_X0_length : GoodIn wsX2_worstError (wsV RX2 76 RX0 yX0_length wsX0_length) := goodIn_app (goodIn_of _ (by decide +kernel)) ggX2_worstError_X0_length
set_option maxRecDepth 20000 in
theorem ggX2_worstError_X2_endOf : GoodIn wsX2_worstError wsX2_endOf := goodIn_r _ [20, 1, 2, 21, 22, 23, 13, 24, 15, 25, 26, 27, 28, 29, 30, 10, 11, 12, 14, 46, 47, 48, 49, 50, 51, 52, 53, 54, 55, 56, 57, 58, 59, 60, 61, 62] (by decide +kernel) (by decide +kernel)
set_option maxRecDepth 20000 in
theorem gX2_worstError_X2_endOf : GoodIn wsX2_worstError (wsV RX2 161 RX2 yX2_endOf wsX2_endOf) := goodIn_app (goodIn_of _ (by decide +kernel)) ggX2_worstError_X2_endOf
set_option maxRecDepth 20000 in
theorem ggX2_worstError_X0_at : GoodIn wsX2_worstError wsX0_at := goodIn_r _ [29, 25, 30, 22, 23, 13, 24, 15, 61, 62] (by decide +kernel) (by decide +kernel)
set_option maxRecDepth 20000 in
theorem gX2_worstError_X0_at : GoodIn wsX2_worstError (wsV RX2 134 RX0 yX0_at wsX0_at) := goodIn_app (goodIn_of _ (by decide +kernel)) ggX2_worstError_X0_at
set_option maxRecDepth 20000 in
theorem ggX2_worstError_X2_guessBy : GoodIn wsX2_worstError wsX2_guessBy := goodIn_r _ [34, 35, 36, 1, 37, 26, 27, 28, 13, 29, 25, 30, 22, 23, 24, 15, 38, 39, 40, 19, 41, 2, 42, 43, 44, 45, 46, 47, 48, 49, 50, 51, 52, 53, 54, 55, 56, 57, 58, 59, 60, 61, 62] (by decide +kernel) (by decide +kernel)
set_option maxRecDepth 20000 in
theorem gX2_worstError_X2_guessBy : GoodIn wsX2_worstError (wsV RX2 153 RX2 yX2_guessBy wsX2_guessBy) := goodIn_app (goodIn_of _ (by decide +kernel)) ggX2_worstError_X2_guessBy
theorem dX2_worstError_0 : decode cX2_worstError 0 = .ok (.lconst 0, 1) := by decide +kernel
theorem dX2_worstError_1 : decode cX2_worstError 1 = .ok (.lstore_n 1, 1) := by decide +kernel
theorem dX2_worstError_2 : decode cX2_worstError 2 = .ok (.iconst 0, 1) := by decide +kernel
theorem dX2_worstError_3 : decode cX2_worstError 3 = .ok (.istore_n 3, 1) := by decide +kernel
theorem dX2_worstError_4 : decode cX2_worstError 4 = .ok (.iload_n 3, 1) := by decide +kernel
theorem dX2_worstError_5 : decode cX2_worstError 5 = .ok (.aload_n 0, 1) := by decide +kernel
theorem dX2_worstError_6 : decode cX2_worstError 6 = .ok (.getfield 24, 3) := by decide +kernel
theorem dX2_worstError_9 : decode cX2_worstError 9 = .ok (.invokevirtual 76, 3) := by decide +kernel
theorem dX2_worstError_12 : decode cX2_worstError 12 = .ok (.if_icmp .ge 69, 3) := by decide +kernel
theorem dX2_worstError_15 : decode cX2_worstError 15 = .ok (.aload_n 0, 1) := by decide +kernel
theorem dX2_worstError_16 : decode cX2_worstError 16 = .ok (.iload_n 3, 1) := by decide +kernel
theorem dX2_worstError_17 : decode cX2_worstError 17 = .ok (.invokevirtual 161, 3) := by decide +kernel
theorem dX2_worstError_20 : decode cX2_worstError 20 = .ok (.istore 4, 2) := by decide +kernel
theorem dX2_worstError_22 : decode cX2_worstError 22 = .ok (.aload_n 0, 1) := by decide +kernel
theorem dX2_worstError_23 : decode cX2_worstError 23 = .ok (.getfield 24, 3) := by decide +kernel
theorem dX2_worstError_26 : decode cX2_worstError 26 = .ok (.iload_n 3, 1) := by decide +kernel
theorem dX2_worstError_27 : decode cX2_worstError 27 = .ok (.invokevirtual 134, 3) := by decide +kernel
theorem dX2_worstError_30 : decode cX2_worstError 30 = .ok (.istore 5, 2) := by decide +kernel
theorem dX2_worstError_32 : decode cX2_worstError 32 = .ok (.iload 5, 2) := by decide +kernel
theorem dX2_worstError_34 : decode cX2_worstError 34 = .ok (.iload 4, 2) := by decide +kernel
theorem dX2_worstError_36 : decode cX2_worstError 36 = .ok (.if_icmp .ge 39, 3) := by decide +kernel
theorem dX2_worstError_39 : decode cX2_worstError 39 = .ok (.iload 5, 2) := by decide +kernel
theorem dX2_worstError_41 : decode cX2_worstError 41 = .ok (.i2l, 1) := by decide +kernel
theorem dX2_worstError_42 : decode cX2_worstError 42 = .ok (.aload_n 0, 1) := by decide +kernel
theorem dX2_worstError_43 : decode cX2_worstError 43 = .ok (.iload_n 3, 1) := by decide +kernel
theorem dX2_worstError_44 : decode cX2_worstError 44 = .ok (.aload_n 0, 1) := by decide +kernel
theorem dX2_worstError_45 : decode cX2_worstError 45 = .ok (.getfield 14, 3) := by decide +kernel
theorem dX2_worstError_48 : decode cX2_worstError 48 = .ok (.iload 5, 2) := by decide +kernel
theorem dX2_worstError_50 : decode cX2_worstError 50 = .ok (.invokevirtual 134, 3) := by decide +kernel
theorem dX2_worstError_53 : decode cX2_worstError 53 = .ok (.invokevirtual 153, 3) := by decide +kernel
theorem dX2_worstError_56 : decode cX2_worstError 56 = .ok (.lsub, 1) := by decide +kernel
theorem dX2_worstError_57 : decode cX2_worstError 57 = .ok (.invokestatic 164, 3) := by decide +kernel
theorem dX2_worstError_60 : decode cX2_worstError 60 = .ok (.lstore 6, 2) := by decide +kernel
theorem dX2_worstError_62 : decode cX2_worstError 62 = .ok (.lload_n 1, 1) := by decide +kernel
theorem dX2_worstError_63 : decode cX2_worstError 63 = .ok (.lload 6, 2) := by decide +kernel
theorem dX2_worstError_65 : decode cX2_worstError 65 = .ok (.invokestatic 170, 3) := by decide +kernel
theorem dX2_worstError_68 : decode cX2_worstError 68 = .ok (.lstore_n 1, 1) := by decide +kernel
theorem dX2_worstError_69 : decode cX2_worstError 69 = .ok (.iinc 5 1, 3) := by decide +kernel
theorem dX2_worstError_72 : decode cX2_worstError 72 = .ok (.goto (-40), 3) := by decide +kernel
theorem dX2_worstError_75 : decode cX2_worstError 75 = .ok (.iinc 3 1, 3) := by decide +kernel
theorem dX2_worstError_78 : decode cX2_worstError 78 = .ok (.goto (-74), 3) := by decide +kernel
theorem dX2_worstError_81 : decode cX2_worstError 81 = .ok (.lload_n 1, 1) := by decide +kernel
theorem dX2_worstError_82 : decode cX2_worstError 82 = .ok (.l2i, 1) := by decide +kernel
theorem dX2_worstError_83 : decode cX2_worstError 83 = .ok (.ireturn, 1) := by decide +kernel
set_option maxRecDepth 20000 in
theorem ggX2_pieces_X0_length : GoodIn wsX2_pieces wsX0_length := goodIn_r _ [6, 7, 23, 24] (by decide +kernel) (by decide +kernel)
set_option maxRecDepth 20000 in
theorem gX2_pieces_X0_length : GoodIn wsX2_pieces (wsV RX2 76 RX0 yX0_length wsX0_length) := goodIn_app (goodIn_of _ (by decide +kernel)) ggX2_pieces_X0_length
theorem dX2_pieces_0 : decode cX2_pieces 0 = .ok (.aload_n 0, 1) := by decide +kernel
theorem dX2_pieces_1 : decode cX2_pieces 1 = .ok (.getfield 24, 3) := by decide +kernel
theorem dX2_pieces_4 : decode cX2_pieces 4 = .ok (.invokevirtual 76, 3) := by decide +kernel
theorem dX2_pieces_7 : decode cX2_pieces 7 = .ok (.ireturn, 1) := by decide +kernel
set_option maxRecDepth 20000 in
theorem ggX2_start_X2_needPiece : GoodIn wsX2_start wsX2_needPiece := goodIn_ca (goodIn_r _ [6, 7, 8, 1, 9, 10, 11, 12, 13, 14, 15, 21, 22, 23, 24, 25, 26, 27, 28, 29, 30, 31, 32, 33, 34, 35, 36, 37] (by decide +kernel) (by decide +kernel)) (goodIn_sub (fun _ h => List.mem_cons_of_mem _ (List.mem_append_right _ h)) (by decide +kernel))
set_option maxRecDepth 20000 in
theorem gX2_start_X2_needPiece : GoodIn wsX2_start (wsV RX2 174 RX2 yX2_needPiece wsX2_needPiece) := goodIn_app (goodIn_of _ (by decide +kernel)) ggX2_start_X2_needPiece
set_option maxRecDepth 20000 in
theorem ggX2_start_X0_at : GoodIn wsX2_start wsX0_at := goodIn_r _ [19, 15, 20, 10, 11, 12, 13, 14, 36, 37] (by decide +kernel) (by decide +kernel)
set_option maxRecDepth 20000 in
theorem gX2_start_X0_at : GoodIn wsX2_start (wsV RX2 134 RX0 yX0_at wsX0_at) := goodIn_app (goodIn_of _ (by decide +kernel)) ggX2_start_X0_at
theorem dX2_start_0 : decode cX2_start 0 = .ok (.aload_n 0, 1) := by decide +kernel
theorem dX2_start_1 : decode cX2_start 1 = .ok (.iload_n 1, 1) := by decide +kernel
theorem dX2_start_2 : decode cX2_start 2 = .ok (.invokevirtual 174, 3) := by decide +kernel
theorem dX2_start_5 : decode cX2_start 5 = .ok (.aload_n 0, 1) := by decide +kernel
theorem dX2_start_6 : decode cX2_start 6 = .ok (.getfield 24, 3) := by decide +kernel
theorem dX2_start_9 : decode cX2_start 9 = .ok (.iload_n 1, 1) := by decide +kernel
theorem dX2_start_10 : decode cX2_start 10 = .ok (.invokevirtual 134, 3) := by decide +kernel
theorem dX2_start_13 : decode cX2_start 13 = .ok (.ireturn, 1) := by decide +kernel
set_option maxRecDepth 20000 in
theorem ggX2_firstKey_X2_needPiece : GoodIn wsX2_firstKey wsX2_needPiece := goodIn_ca (goodIn_r _ [5, 6, 7, 8, 9, 10, 11, 12, 13, 14, 15, 26, 27, 28, 29, 30, 31, 32, 33, 34, 35, 36, 37, 38, 39, 40, 41, 42] (by decide +kernel) (by decide +kernel)) (goodIn_sub (fun _ h => List.mem_cons_of_mem _ (List.mem_append_right _ h)) (by decide +kernel))
set_option maxRecDepth 20000 in
theorem gX2_firstKey_X2_needPiece : GoodIn wsX2_firstKey (wsV RX2 174 RX2 yX2_needPiece wsX2_needPiece) := goodIn_app (goodIn_of _ (by decide +kernel)) ggX2_firstKey_X2_needPiece
set_option maxRecDepth 20000 in
theorem ggX2_firstKey_X2_firstOf : GoodIn wsX2_firstKey wsX2_firstOf := goodIn_r _ [19, 20, 8, 21, 22, 23, 12, 24, 15, 25, 10, 11, 13, 14, 26, 27, 28, 29, 30, 31, 32, 33, 34, 35, 36, 37, 38, 39, 40, 41, 42] (by decide +kernel) (by decide +kernel)
set_option maxRecDepth 20000 in
theorem gX2_firstKey_X2_firstOf : GoodIn wsX2_firstKey (wsV RX2 177 RX2 yX2_firstOf wsX2_firstOf) := goodIn_app (goodIn_of _ (by decide +kernel)) ggX2_firstKey_X2_firstOf
theorem dX2_firstKey_0 : decode cX2_firstKey 0 = .ok (.aload_n 0, 1) := by decide +kernel
theorem dX2_firstKey_1 : decode cX2_firstKey 1 = .ok (.iload_n 1, 1) := by decide +kernel
theorem dX2_firstKey_2 : decode cX2_firstKey 2 = .ok (.invokevirtual 174, 3) := by decide +kernel
theorem dX2_firstKey_5 : decode cX2_firstKey 5 = .ok (.aload_n 0, 1) := by decide +kernel
theorem dX2_firstKey_6 : decode cX2_firstKey 6 = .ok (.iload_n 1, 1) := by decide +kernel
theorem dX2_firstKey_7 : decode cX2_firstKey 7 = .ok (.invokevirtual 177, 3) := by decide +kernel
theorem dX2_firstKey_10 : decode cX2_firstKey 10 = .ok (.ireturn, 1) := by decide +kernel
set_option maxRecDepth 20000 in
theorem ggX2_rise_X2_needPiece : GoodIn wsX2_rise wsX2_needPiece := goodIn_ca (goodIn_r _ [6, 7, 8, 9, 10, 11, 12, 13, 14, 15, 16, 22, 23, 24, 25, 26, 27, 28, 29, 30, 31, 32, 33, 34, 35, 36, 37, 38] (by decide +kernel) (by decide +kernel)) (goodIn_sub (fun _ h => List.mem_cons_of_mem _ (List.mem_append_right _ h)) (by decide +kernel))
set_option maxRecDepth 20000 in
theorem gX2_rise_X2_needPiece : GoodIn wsX2_rise (wsV RX2 174 RX2 yX2_needPiece wsX2_needPiece) := goodIn_app (goodIn_of _ (by decide +kernel)) ggX2_rise_X2_needPiece
set_option maxRecDepth 20000 in
theorem ggX2_rise_X0_at : GoodIn wsX2_rise wsX0_at := goodIn_r _ [20, 16, 21, 11, 12, 13, 14, 15, 37, 38] (by decide +kernel) (by decide +kernel)
set_option maxRecDepth 20000 in
theorem gX2_rise_X0_at : GoodIn wsX2_rise (wsV RX2 134 RX0 yX0_at wsX0_at) := goodIn_app (goodIn_of _ (by decide +kernel)) ggX2_rise_X0_at
theorem dX2_rise_0 : decode cX2_rise 0 = .ok (.aload_n 0, 1) := by decide +kernel
theorem dX2_rise_1 : decode cX2_rise 1 = .ok (.iload_n 1, 1) := by decide +kernel
theorem dX2_rise_2 : decode cX2_rise 2 = .ok (.invokevirtual 174, 3) := by decide +kernel
theorem dX2_rise_5 : decode cX2_rise 5 = .ok (.aload_n 0, 1) := by decide +kernel
theorem dX2_rise_6 : decode cX2_rise 6 = .ok (.getfield 27, 3) := by decide +kernel
theorem dX2_rise_9 : decode cX2_rise 9 = .ok (.iload_n 1, 1) := by decide +kernel
theorem dX2_rise_10 : decode cX2_rise 10 = .ok (.invokevirtual 134, 3) := by decide +kernel
theorem dX2_rise_13 : decode cX2_rise 13 = .ok (.ireturn, 1) := by decide +kernel
set_option maxRecDepth 20000 in
theorem ggX2_run_X2_needPiece : GoodIn wsX2_run wsX2_needPiece := goodIn_ca (goodIn_r _ [6, 7, 8, 9, 10, 11, 12, 13, 14, 15, 16, 22, 23, 24, 25, 26, 27, 28, 29, 30, 31, 32, 33, 34, 35, 36, 37, 38] (by decide +kernel) (by decide +kernel)) (goodIn_sub (fun _ h => List.mem_cons_of_mem _ (List.mem_append_right _ h)) (by decide +kernel))
set_option maxRecDepth 20000 in
theorem gX2_run_X2_needPiece : GoodIn wsX2_run (wsV RX2 174 RX2 yX2_needPiece wsX2_needPiece) := goodIn_app (goodIn_of _ (by decide +kernel)) ggX2_run_X2_needPiece
set_option maxRecDepth 20000 in
theorem ggX2_run_X0_at : GoodIn wsX2_run wsX0_at := goodIn_r _ [20, 16, 21, 11, 12, 13, 14, 15, 37, 38] (by decide +kernel) (by decide +kernel)
set_option maxRecDepth 20000 in
theorem gX2_run_X0_at : GoodIn wsX2_run (wsV RX2 134 RX0 yX0_at wsX0_at) := goodIn_app (goodIn_of _ (by decide +kernel)) ggX2_run_X0_at
theorem dX2_run_0 : decode cX2_run 0 = .ok (.aload_n 0, 1) := by decide +kernel
theorem dX2_run_1 : decode cX2_run 1 = .ok (.iload_n 1, 1) := by decide +kernel
theorem dX2_run_2 : decode cX2_run 2 = .ok (.invokevirtual 174, 3) := by decide +kernel
theorem dX2_run_5 : decode cX2_run 5 = .ok (.aload_n 0, 1) := by decide +kernel
theorem dX2_run_6 : decode cX2_run 6 = .ok (.getfield 30, 3) := by decide +kernel
theorem dX2_run_9 : decode cX2_run 9 = .ok (.iload_n 1, 1) := by decide +kernel
theorem dX2_run_10 : decode cX2_run 10 = .ok (.invokevirtual 134, 3) := by decide +kernel
theorem dX2_run_13 : decode cX2_run 13 = .ok (.ireturn, 1) := by decide +kernel
set_option maxRecDepth 20000 in
theorem ggX2_slopes_X0_length : GoodIn wsX2_slopes wsX0_length := goodIn_r _ [6, 7, 43, 44] (by decide +kernel) (by decide +kernel)
set_option maxRecDepth 20000 in
theorem gX2_slopes_X0_length : GoodIn wsX2_slopes (wsV RX2 76 RX0 yX0_length wsX0_length) := goodIn_app (goodIn_of _ (by decide +kernel)) ggX2_slopes_X0_length
set_option maxRecDepth 20000 in
theorem ggX2_slopes_X2_firstAlike : GoodIn wsX2_slopes wsX2_firstAlike := goodIn_r _ [12, 13, 14, 15, 11, 16, 17, 18, 19, 20, 21, 5, 22, 23, 24, 25, 26, 27, 7, 28, 29, 30, 31, 32, 33, 34, 35, 36, 37, 38, 39, 40, 41, 42, 43, 44] (by decide +kernel) (by decide +kernel)
set_option maxRecDepth 20000 in
theorem gX2_slopes_X2_firstAlike : GoodIn wsX2_slopes (wsV RX2 180 RX2 yX2_firstAlike wsX2_firstAlike) := goodIn_app (goodIn_of _ (by decide +kernel)) ggX2_slopes_X2_firstAlike
theorem dX2_slopes_0 : decode cX2_slopes 0 = .ok (.iconst 0, 1) := by decide +kernel
theorem dX2_slopes_1 : decode cX2_slopes 1 = .ok (.istore_n 1, 1) := by decide +kernel
theorem dX2_slopes_2 : decode cX2_slopes 2 = .ok (.iconst 0, 1) := by decide +kernel
theorem dX2_slopes_3 : decode cX2_slopes 3 = .ok (.istore_n 2, 1) := by decide +kernel
theorem dX2_slopes_4 : decode cX2_slopes 4 = .ok (.iload_n 2, 1) := by decide +kernel
theorem dX2_slopes_5 : decode cX2_slopes 5 = .ok (.aload_n 0, 1) := by decide +kernel
theorem dX2_slopes_6 : decode cX2_slopes 6 = .ok (.getfield 24, 3) := by decide +kernel
theorem dX2_slopes_9 : decode cX2_slopes 9 = .ok (.invokevirtual 76, 3) := by decide +kernel
theorem dX2_slopes_12 : decode cX2_slopes 12 = .ok (.if_icmp .ge 21, 3) := by decide +kernel
theorem dX2_slopes_15 : decode cX2_slopes 15 = .ok (.aload_n 0, 1) := by decide +kernel
theorem dX2_slopes_16 : decode cX2_slopes 16 = .ok (.iload_n 2, 1) := by decide +kernel
theorem dX2_slopes_17 : decode cX2_slopes 17 = .ok (.invokevirtual 180, 3) := by decide +kernel
theorem dX2_slopes_20 : decode cX2_slopes 20 = .ok (.iload_n 2, 1) := by decide +kernel
theorem dX2_slopes_21 : decode cX2_slopes 21 = .ok (.if_icmp .ne 6, 3) := by decide +kernel
theorem dX2_slopes_24 : decode cX2_slopes 24 = .ok (.iinc 1 1, 3) := by decide +kernel
theorem dX2_slopes_27 : decode cX2_slopes 27 = .ok (.iinc 2 1, 3) := by decide +kernel
theorem dX2_slopes_30 : decode cX2_slopes 30 = .ok (.goto (-26), 3) := by decide +kernel
theorem dX2_slopes_33 : decode cX2_slopes 33 = .ok (.iload_n 1, 1) := by decide +kernel
theorem dX2_slopes_34 : decode cX2_slopes 34 = .ok (.ireturn, 1) := by decide +kernel
set_option maxRecDepth 20000 in
theorem ggX2_commonest_X0_length : GoodIn wsX2_commonest wsX0_length := goodIn_r _ [6, 7, 43, 44] (by decide +kernel) (by decide +kernel)
set_option maxRecDepth 20000 in
theorem gX2_commonest_X0_length : GoodIn wsX2_commonest (wsV RX2 76 RX0 yX0_length wsX0_length) := goodIn_app (goodIn_of _ (by decide +kernel)) ggX2_commonest_X0_length
set_option maxRecDepth 20000 in
theorem ggX2_commonest_X2_alikeFrom : GoodIn wsX2_commonest wsX2_alikeFrom := goodIn_r _ [12, 1, 2, 3, 4, 5, 6, 7, 13, 14, 15, 11, 16, 17, 18, 19, 20, 21, 22, 23, 24, 25, 26, 27, 28, 29, 30, 31, 32, 33, 34, 35, 36, 37, 38, 39, 40, 41, 42, 43, 44] (by decide +kernel) (by decide +kernel)
set_option maxRecDepth 20000 in
theorem gX2_commonest_X2_alikeFrom : GoodIn wsX2_commonest (wsV RX2 183 RX2 yX2_alikeFrom wsX2_alikeFrom) := goodIn_app (goodIn_of _ (by decide +kernel)) ggX2_commonest_X2_alikeFrom
theorem dX2_commonest_0 : decode cX2_commonest 0 = .ok (.iconst (-1), 1) := by decide +kernel
theorem dX2_commonest_1 : decode cX2_commonest 1 = .ok (.istore_n 1, 1) := by decide +kernel
theorem dX2_commonest_2 : decode cX2_commonest 2 = .ok (.iconst 0, 1) := by decide +kernel
theorem dX2_commonest_3 : decode cX2_commonest 3 = .ok (.istore_n 2, 1) := by decide +kernel
theorem dX2_commonest_4 : decode cX2_commonest 4 = .ok (.iconst 0, 1) := by decide +kernel
theorem dX2_commonest_5 : decode cX2_commonest 5 = .ok (.istore_n 3, 1) := by decide +kernel
theorem dX2_commonest_6 : decode cX2_commonest 6 = .ok (.iload_n 3, 1) := by decide +kernel
theorem dX2_commonest_7 : decode cX2_commonest 7 = .ok (.aload_n 0, 1) := by decide +kernel
theorem dX2_commonest_8 : decode cX2_commonest 8 = .ok (.getfield 24, 3) := by decide +kernel
theorem dX2_commonest_11 : decode cX2_commonest 11 = .ok (.invokevirtual 76, 3) := by decide +kernel
theorem dX2_commonest_14 : decode cX2_commonest 14 = .ok (.if_icmp .ge 27, 3) := by decide +kernel
theorem dX2_commonest_17 : decode cX2_commonest 17 = .ok (.aload_n 0, 1) := by decide +kernel
theorem dX2_commonest_18 : decode cX2_commonest 18 = .ok (.iload_n 3, 1) := by decide +kernel
theorem dX2_commonest_19 : decode cX2_commonest 19 = .ok (.invokevirtual 183, 3) := by decide +kernel
theorem dX2_commonest_22 : decode cX2_commonest 22 = .ok (.istore 4, 2) := by decide +kernel
theorem dX2_commonest_24 : decode cX2_commonest 24 = .ok (.iload 4, 2) := by decide +kernel
theorem dX2_commonest_26 : decode cX2_commonest 26 = .ok (.iload_n 2, 1) := by decide +kernel
theorem dX2_commonest_27 : decode cX2_commonest 27 = .ok (.if_icmp .le 8, 3) := by decide +kernel
theorem dX2_commonest_30 : decode cX2_commonest 30 = .ok (.iload 4, 2) := by decide +kernel
theorem dX2_commonest_32 : decode cX2_commonest 32 = .ok (.istore_n 2, 1) := by decide +kernel
theorem dX2_commonest_33 : decode cX2_commonest 33 = .ok (.iload_n 3, 1) := by decide +kernel
theorem dX2_commonest_34 : decode cX2_commonest 34 = .ok (.istore_n 1, 1) := by decide +kernel
theorem dX2_commonest_35 : decode cX2_commonest 35 = .ok (.iinc 3 1, 3) := by decide +kernel
theorem dX2_commonest_38 : decode cX2_commonest 38 = .ok (.goto (-32), 3) := by decide +kernel
theorem dX2_commonest_41 : decode cX2_commonest 41 = .ok (.iload_n 1, 1) := by decide +kernel
theorem dX2_commonest_42 : decode cX2_commonest 42 = .ok (.ireturn, 1) := by decide +kernel
set_option maxRecDepth 20000 in
theorem ggX2_buffered_X0_length : GoodIn wsX2_buffered wsX0_length := goodIn_r _ [6, 7, 23, 24] (by decide +kernel) (by decide +kernel)
set_option maxRecDepth 20000 in
theorem gX2_buffered_X0_length : GoodIn wsX2_buffered (wsV RX2 76 RX0 yX0_length wsX0_length) := goodIn_app (goodIn_of _ (by decide +kernel)) ggX2_buffered_X0_length
theorem dX2_buffered_0 : decode cX2_buffered 0 = .ok (.aload_n 0, 1) := by decide +kernel
theorem dX2_buffered_1 : decode cX2_buffered 1 = .ok (.getfield 21, 3) := by decide +kernel
theorem dX2_buffered_4 : decode cX2_buffered 4 = .ok (.invokevirtual 76, 3) := by decide +kernel
theorem dX2_buffered_7 : decode cX2_buffered 7 = .ok (.ireturn, 1) := by decide +kernel
theorem dX2_marked_0 : decode cX2_marked 0 = .ok (.aload_n 0, 1) := by decide +kernel
theorem dX2_marked_1 : decode cX2_marked 1 = .ok (.getfield 53, 3) := by decide +kernel
theorem dX2_marked_4 : decode cX2_marked 4 = .ok (.ireturn, 1) := by decide +kernel
set_option maxRecDepth 20000 in
theorem ggX2_rowSize_X0_length : GoodIn wsX2_rowSize wsX0_length := goodIn_r _ [6, 7, 23, 24] (by decide +kernel) (by decide +kernel)
set_option maxRecDepth 20000 in
theorem gX2_rowSize_X0_length : GoodIn wsX2_rowSize (wsV RX2 76 RX0 yX0_length wsX0_length) := goodIn_app (goodIn_of _ (by decide +kernel)) ggX2_rowSize_X0_length
theorem dX2_rowSize_0 : decode cX2_rowSize 0 = .ok (.aload_n 0, 1) := by decide +kernel
theorem dX2_rowSize_1 : decode cX2_rowSize 1 = .ok (.getfield 14, 3) := by decide +kernel
theorem dX2_rowSize_4 : decode cX2_rowSize 4 = .ok (.invokevirtual 76, 3) := by decide +kernel
theorem dX2_rowSize_7 : decode cX2_rowSize 7 = .ok (.ireturn, 1) := by decide +kernel
theorem dX2_merges_0 : decode cX2_merges 0 = .ok (.aload_n 0, 1) := by decide +kernel
theorem dX2_merges_1 : decode cX2_merges 1 = .ok (.getfield 56, 3) := by decide +kernel
theorem dX2_merges_4 : decode cX2_merges 4 = .ok (.ireturn, 1) := by decide +kernel
theorem dX2_splits_0 : decode cX2_splits 0 = .ok (.aload_n 0, 1) := by decide +kernel
theorem dX2_splits_1 : decode cX2_splits 1 = .ok (.getfield 59, 3) := by decide +kernel
theorem dX2_splits_4 : decode cX2_splits 4 = .ok (.ireturn, 1) := by decide +kernel
theorem dX2_joins_0 : decode cX2_joins 0 = .ok (.aload_n 0, 1) := by decide +kernel
theorem dX2_joins_1 : decode cX2_joins 1 = .ok (.getfield 62, 3) := by decide +kernel
theorem dX2_joins_4 : decode cX2_joins 4 = .ok (.ireturn, 1) := by decide +kernel
theorem dX2_needKey_0 : decode cX2_needKey 0 = .ok (.lload_n 0, 1) := by decide +kernel
theorem dX2_needKey_1 : decode cX2_needKey 1 = .ok (.ldc2_w 186, 3) := by decide +kernel
theorem dX2_needKey_4 : decode cX2_needKey 4 = .ok (.lcmp, 1) := by decide +kernel
theorem dX2_needKey_5 : decode cX2_needKey 5 = .ok (.ifCond .lt 11, 3) := by decide +kernel
theorem dX2_needKey_8 : decode cX2_needKey 8 = .ok (.lload_n 0, 1) := by decide +kernel
theorem dX2_needKey_9 : decode cX2_needKey 9 = .ok (.ldc2_w 188, 3) := by decide +kernel
theorem dX2_needKey_12 : decode cX2_needKey 12 = .ok (.lcmp, 1) := by decide +kernel
theorem dX2_needKey_13 : decode cX2_needKey 13 = .ok (.ifCond .le 13, 3) := by decide +kernel
theorem dX2_needKey_16 : decode cX2_needKey 16 = .ok (.new 80, 3) := by decide +kernel
theorem dX2_needKey_19 : decode cX2_needKey 19 = .ok (.dup, 1) := by decide +kernel
theorem dX2_needKey_20 : decode cX2_needKey 20 = .ok (.ldc 190, 2) := by decide +kernel
theorem dX2_needKey_22 : decode cX2_needKey 22 = .ok (.invokespecial 84, 3) := by decide +kernel
theorem dX2_needKey_25 : decode cX2_needKey 25 = .ok (.athrow, 1) := by decide +kernel
theorem dX2_needKey_26 : decode cX2_needKey 26 = .ok (.return_, 1) := by decide +kernel
set_option maxRecDepth 20000 in
theorem ggX2_needPiece_X0_has : GoodIn wsX2_needPiece wsX0_has := goodIn_r _ [8, 9, 10, 26, 27] (by decide +kernel) (by decide +kernel)
set_option maxRecDepth 20000 in
theorem gX2_needPiece_X0_has : GoodIn wsX2_needPiece (wsV RX2 192 RX0 yX0_has wsX0_has) := goodIn_app (goodIn_of _ (by decide +kernel)) ggX2_needPiece_X0_has
theorem dX2_needPiece_0 : decode cX2_needPiece 0 = .ok (.aload_n 0, 1) := by decide +kernel
theorem dX2_needPiece_1 : decode cX2_needPiece 1 = .ok (.getfield 24, 3) := by decide +kernel
theorem dX2_needPiece_4 : decode cX2_needPiece 4 = .ok (.iload_n 1, 1) := by decide +kernel
theorem dX2_needPiece_5 : decode cX2_needPiece 5 = .ok (.invokevirtual 192, 3) := by decide +kernel
theorem dX2_needPiece_8 : decode cX2_needPiece 8 = .ok (.ifCond .ne 13, 3) := by decide +kernel
theorem dX2_needPiece_11 : decode cX2_needPiece 11 = .ok (.new 140, 3) := by decide +kernel
theorem dX2_needPiece_14 : decode cX2_needPiece 14 = .ok (.dup, 1) := by decide +kernel
theorem dX2_needPiece_15 : decode cX2_needPiece 15 = .ok (.ldc 195, 2) := by decide +kernel
theorem dX2_needPiece_17 : decode cX2_needPiece 17 = .ok (.invokespecial 144, 3) := by decide +kernel
theorem dX2_needPiece_20 : decode cX2_needPiece 20 = .ok (.athrow, 1) := by decide +kernel
theorem dX2_needPiece_21 : decode cX2_needPiece 21 = .ok (.return_, 1) := by decide +kernel
set_option maxRecDepth 20000 in
theorem ggX2_needToFollow_X0_below : GoodIn wsX2_needToFollow wsX0_below := goodIn_r _ [9, 10, 11, 12, 13, 8, 14, 15, 16, 17, 18, 19, 44, 45] (by decide +kernel) (by decide +kernel)
set_option maxRecDepth 20000 in
theorem gX2_needToFollow_X0_below : GoodIn wsX2_needToFollow (wsV RX2 114 RX0 yX0_below wsX0_below) := goodIn_app (goodIn_of _ (by decide +kernel)) ggX2_needToFollow_X0_below
set_option maxRecDepth 20000 in
theorem ggX2_needToFollow_X0_length : GoodIn wsX2_needToFollow wsX0_length := goodIn_r _ [23, 10, 44, 45] (by decide +kernel) (by decide +kernel)
set_option maxRecDepth 20000 in
theorem gX2_needToFollow_X0_length : GoodIn wsX2_needToFollow (wsV RX2 76 RX0 yX0_length wsX0_length) := goodIn_app (goodIn_of _ (by decide +kernel)) ggX2_needToFollow_X0_length
set_option maxRecDepth 20000 in
theorem ggX2_needToFollow_X2_allKeys : GoodIn wsX2_needToFollow wsX2_allKeys := goodIn_r _ [28, 3, 4, 20, 21, 22, 8, 23, 10, 29, 30, 31, 32, 33, 34, 35, 36, 37, 38, 39, 40, 41, 42, 43, 44, 45] (by decide +kernel) (by decide +kernel)
set_option maxRecDepth 20000 in
theorem gX2_needToFollow_X2_allKeys : GoodIn wsX2_needToFollow (wsV RX2 95 RX2 yX2_allKeys wsX2_allKeys) := goodIn_app (goodIn_of _ (by decide +kernel)) ggX2_needToFollow_X2_allKeys
theorem dX2_needToFollow_0 : decode cX2_needToFollow 0 = .ok (.aload_n 0, 1) := by decide +kernel
theorem dX2_needToFollow_1 : decode cX2_needToFollow 1 = .ok (.getfield 14, 3) := by decide +kernel
theorem dX2_needToFollow_4 : decode cX2_needToFollow 4 = .ok (.iload_n 1, 1) := by decide +kernel
theorem dX2_needToFollow_5 : decode cX2_needToFollow 5 = .ok (.invokevirtual 114, 3) := by decide +kernel
theorem dX2_needToFollow_8 : decode cX2_needToFollow 8 = .ok (.aload_n 0, 1) := by decide +kernel
theorem dX2_needToFollow_9 : decode cX2_needToFollow 9 = .ok (.getfield 14, 3) := by decide +kernel
theorem dX2_needToFollow_12 : decode cX2_needToFollow 12 = .ok (.invokevirtual 76, 3) := by decide +kernel
theorem dX2_needToFollow_15 : decode cX2_needToFollow 15 = .ok (.if_icmp .ne 25, 3) := by decide +kernel
theorem dX2_needToFollow_18 : decode cX2_needToFollow 18 = .ok (.aload_n 0, 1) := by decide +kernel
theorem dX2_needToFollow_19 : decode cX2_needToFollow 19 = .ok (.getfield 21, 3) := by decide +kernel
theorem dX2_needToFollow_22 : decode cX2_needToFollow 22 = .ok (.iload_n 1, 1) := by decide +kernel
theorem dX2_needToFollow_23 : decode cX2_needToFollow 23 = .ok (.invokevirtual 114, 3) := by decide +kernel
theorem dX2_needToFollow_26 : decode cX2_needToFollow 26 = .ok (.aload_n 0, 1) := by decide +kernel
theorem dX2_needToFollow_27 : decode cX2_needToFollow 27 = .ok (.getfield 21, 3) := by decide +kernel
theorem dX2_needToFollow_30 : decode cX2_needToFollow 30 = .ok (.invokevirtual 76, 3) := by decide +kernel
theorem dX2_needToFollow_33 : decode cX2_needToFollow 33 = .ok (.if_icmp .ne 7, 3) := by decide +kernel
theorem dX2_needToFollow_36 : decode cX2_needToFollow 36 = .ok (.iconst 1, 1) := by decide +kernel
theorem dX2_needToFollow_37 : decode cX2_needToFollow 37 = .ok (.goto 4, 3) := by decide +kernel
theorem dX2_needToFollow_40 : decode cX2_needToFollow 40 = .ok (.iconst 0, 1) := by decide +kernel
theorem dX2_needToFollow_41 : decode cX2_needToFollow 41 = .ok (.istore_n 3, 1) := by decide +kernel
theorem dX2_needToFollow_42 : decode cX2_needToFollow 42 = .ok (.aload_n 0, 1) := by decide +kernel
theorem dX2_needToFollow_43 : decode cX2_needToFollow 43 = .ok (.invokevirtual 95, 3) := by decide +kernel
theorem dX2_needToFollow_46 : decode cX2_needToFollow 46 = .ok (.iload_n 2, 1) := by decide +kernel
theorem dX2_needToFollow_47 : decode cX2_needToFollow 47 = .ok (.iadd, 1) := by decide +kernel
theorem dX2_needToFollow_48 : decode cX2_needToFollow 48 = .ok (.sipush 256, 3) := by decide +kernel
theorem dX2_needToFollow_51 : decode cX2_needToFollow 51 = .ok (.if_icmp .gt 7, 3) := by decide +kernel
theorem dX2_needToFollow_54 : decode cX2_needToFollow 54 = .ok (.iload_n 3, 1) := by decide +kernel
theorem dX2_needToFollow_55 : decode cX2_needToFollow 55 = .ok (.ifCond .ne 13, 3) := by decide +kernel
theorem dX2_needToFollow_58 : decode cX2_needToFollow 58 = .ok (.new 98, 3) := by decide +kernel
theorem dX2_needToFollow_61 : decode cX2_needToFollow 61 = .ok (.dup, 1) := by decide +kernel
theorem dX2_needToFollow_62 : decode cX2_needToFollow 62 = .ok (.ldc 197, 2) := by decide +kernel
theorem dX2_needToFollow_64 : decode cX2_needToFollow 64 = .ok (.invokespecial 102, 3) := by decide +kernel
theorem dX2_needToFollow_67 : decode cX2_needToFollow 67 = .ok (.athrow, 1) := by decide +kernel
theorem dX2_needToFollow_68 : decode cX2_needToFollow 68 = .ok (.return_, 1) := by decide +kernel
set_option maxRecDepth 20000 in
theorem ggX2_allKeys_X0_length : GoodIn wsX2_allKeys wsX0_length := goodIn_r _ [7, 8, 24, 25] (by decide +kernel) (by decide +kernel)
set_option maxRecDepth 20000 in
theorem gX2_allKeys_X0_length : GoodIn wsX2_allKeys (wsV RX2 76 RX0 yX0_length wsX0_length) := goodIn_app (goodIn_of _ (by decide +kernel)) ggX2_allKeys_X0_length
theorem dX2_allKeys_0 : decode cX2_allKeys 0 = .ok (.aload_n 0, 1) := by decide +kernel
theorem dX2_allKeys_1 : decode cX2_allKeys 1 = .ok (.getfield 14, 3) := by decide +kernel
theorem dX2_allKeys_4 : decode cX2_allKeys 4 = .ok (.invokevirtual 76, 3) := by decide +kernel
theorem dX2_allKeys_7 : decode cX2_allKeys 7 = .ok (.aload_n 0, 1) := by decide +kernel
theorem dX2_allKeys_8 : decode cX2_allKeys 8 = .ok (.getfield 21, 3) := by decide +kernel
theorem dX2_allKeys_11 : decode cX2_allKeys 11 = .ok (.invokevirtual 76, 3) := by decide +kernel
theorem dX2_allKeys_14 : decode cX2_allKeys 14 = .ok (.iadd, 1) := by decide +kernel
theorem dX2_allKeys_15 : decode cX2_allKeys 15 = .ok (.ireturn, 1) := by decide +kernel
set_option maxRecDepth 20000 in
theorem ggX2_keysThere_X2_allKeys : GoodIn wsX2_keysThere wsX2_allKeys := goodIn_r _ [6, 7, 8, 9, 10, 11, 12, 13, 14, 15, 16, 17, 18, 19, 20, 21, 22, 23, 24, 25, 26, 27, 28, 29, 30, 31] (by decide +kernel) (by decide +kernel)
set_option maxRecDepth 20000 in
theorem gX2_keysThere_X2_allKeys : GoodIn wsX2_keysThere (wsV RX2 95 RX2 yX2_allKeys wsX2_allKeys) := goodIn_app (goodIn_of _ (by decide +kernel)) ggX2_keysThere_X2_allKeys
theorem dX2_keysThere_0 : decode cX2_keysThere 0 = .ok (.aload_n 0, 1) := by decide +kernel
theorem dX2_keysThere_1 : decode cX2_keysThere 1 = .ok (.invokevirtual 95, 3) := by decide +kernel
theorem dX2_keysThere_4 : decode cX2_keysThere 4 = .ok (.aload_n 0, 1) := by decide +kernel
theorem dX2_keysThere_5 : decode cX2_keysThere 5 = .ok (.getfield 53, 3) := by decide +kernel
theorem dX2_keysThere_8 : decode cX2_keysThere 8 = .ok (.isub, 1) := by decide +kernel
theorem dX2_keysThere_9 : decode cX2_keysThere 9 = .ok (.ireturn, 1) := by decide +kernel
set_option maxRecDepth 20000 in
theorem ggX2_isThere_X0_indexOf : GoodIn wsX2_isThere wsX0_indexOf := goodIn_r _ [8, 9, 10, 11, 12, 7, 13, 14, 15, 16, 17, 18, 19, 20, 21, 22, 39, 40] (by decide +kernel) (by decide +kernel)
set_option maxRecDepth 20000 in
theorem gX2_isThere_X0_indexOf : GoodIn wsX2_isThere (wsV RX2 87 RX0 yX0_indexOf wsX0_indexOf) := goodIn_app (goodIn_of _ (by decide +kernel)) ggX2_isThere_X0_indexOf
set_option maxRecDepth 20000 in
theorem ggX2_isThere_X0_at : GoodIn wsX2_isThere wsX0_at := goodIn_r _ [18, 9, 19, 20, 21, 7, 22, 14, 39, 40] (by decide +kernel) (by decide +kernel)
set_option maxRecDepth 20000 in
theorem gX2_isThere_X0_at : GoodIn wsX2_isThere (wsV RX2 134 RX0 yX0_at wsX0_at) := goodIn_app (goodIn_of _ (by decide +kernel)) ggX2_isThere_X0_at
theorem dX2_isThere_0 : decode cX2_isThere 0 = .ok (.aload_n 0, 1) := by decide +kernel
theorem dX2_isThere_1 : decode cX2_isThere 1 = .ok (.getfield 14, 3) := by decide +kernel
theorem dX2_isThere_4 : decode cX2_isThere 4 = .ok (.iload_n 1, 1) := by decide +kernel
theorem dX2_isThere_5 : decode cX2_isThere 5 = .ok (.invokevirtual 87, 3) := by decide +kernel
theorem dX2_isThere_8 : decode cX2_isThere 8 = .ok (.istore_n 2, 1) := by decide +kernel
theorem dX2_isThere_9 : decode cX2_isThere 9 = .ok (.iload_n 2, 1) := by decide +kernel
theorem dX2_isThere_10 : decode cX2_isThere 10 = .ok (.iconst (-1), 1) := by decide +kernel
theorem dX2_isThere_11 : decode cX2_isThere 11 = .ok (.if_icmp .ne 23, 3) := by decide +kernel
theorem dX2_isThere_14 : decode cX2_isThere 14 = .ok (.aload_n 0, 1) := by decide +kernel
theorem dX2_isThere_15 : decode cX2_isThere 15 = .ok (.getfield 21, 3) := by decide +kernel
theorem dX2_isThere_18 : decode cX2_isThere 18 = .ok (.iload_n 1, 1) := by decide +kernel
theorem dX2_isThere_19 : decode cX2_isThere 19 = .ok (.invokevirtual 87, 3) := by decide +kernel
theorem dX2_isThere_22 : decode cX2_isThere 22 = .ok (.iconst (-1), 1) := by decide +kernel
theorem dX2_isThere_23 : decode cX2_isThere 23 = .ok (.if_icmp .eq 7, 3) := by decide +kernel
theorem dX2_isThere_26 : decode cX2_isThere 26 = .ok (.iconst 1, 1) := by decide +kernel
theorem dX2_isThere_27 : decode cX2_isThere 27 = .ok (.goto 23, 3) := by decide +kernel
theorem dX2_isThere_30 : decode cX2_isThere 30 = .ok (.iconst 0, 1) := by decide +kernel
theorem dX2_isThere_31 : decode cX2_isThere 31 = .ok (.goto 19, 3) := by decide +kernel
theorem dX2_isThere_34 : decode cX2_isThere 34 = .ok (.aload_n 0, 1) := by decide +kernel
theorem dX2_isThere_35 : decode cX2_isThere 35 = .ok (.getfield 18, 3) := by decide +kernel
theorem dX2_isThere_38 : decode cX2_isThere 38 = .ok (.iload_n 2, 1) := by decide +kernel
theorem dX2_isThere_39 : decode cX2_isThere 39 = .ok (.invokevirtual 134, 3) := by decide +kernel
theorem dX2_isThere_42 : decode cX2_isThere 42 = .ok (.ifCond .ne 7, 3) := by decide +kernel
theorem dX2_isThere_45 : decode cX2_isThere 45 = .ok (.iconst 1, 1) := by decide +kernel
theorem dX2_isThere_46 : decode cX2_isThere 46 = .ok (.goto 4, 3) := by decide +kernel
theorem dX2_isThere_49 : decode cX2_isThere 49 = .ok (.iconst 0, 1) := by decide +kernel
theorem dX2_isThere_50 : decode cX2_isThere 50 = .ok (.ireturn, 1) := by decide +kernel
set_option maxRecDepth 20000 in
theorem ggX2_thereBelow_X0_below : GoodIn wsX2_thereBelow wsX0_below := goodIn_r _ [8, 9, 10, 11, 12, 7, 13, 14, 15, 16, 17, 18, 35, 36] (by decide +kernel) (by decide +kernel)
set_option maxRecDepth 20000 in
theorem gX2_thereBelow_X0_below : GoodIn wsX2_thereBelow (wsV RX2 114 RX0 yX0_below wsX0_below) := goodIn_app (goodIn_of _ (by decide +kernel)) ggX2_thereBelow_X0_below
set_option maxRecDepth 20000 in
theorem ggX2_thereBelow_X0_at : GoodIn wsX2_thereBelow wsX0_at := goodIn_r _ [13, 14, 15, 16, 17, 7, 18, 9, 35, 36] (by decide +kernel) (by decide +kernel)
set_option maxRecDepth 20000 in
theorem gX2_thereBelow_X0_at : GoodIn wsX2_thereBelow (wsV RX2 134 RX0 yX0_at wsX0_at) := goodIn_app (goodIn_of _ (by decide +kernel)) ggX2_thereBelow_X0_at
theorem dX2_thereBelow_0 : decode cX2_thereBelow 0 = .ok (.aload_n 0, 1) := by decide +kernel
theorem dX2_thereBelow_1 : decode cX2_thereBelow 1 = .ok (.getfield 14, 3) := by decide +kernel
theorem dX2_thereBelow_4 : decode cX2_thereBelow 4 = .ok (.iload_n 1, 1) := by decide +kernel
theorem dX2_thereBelow_5 : decode cX2_thereBelow 5 = .ok (.invokevirtual 114, 3) := by decide +kernel
theorem dX2_thereBelow_8 : decode cX2_thereBelow 8 = .ok (.istore_n 2, 1) := by decide +kernel
theorem dX2_thereBelow_9 : decode cX2_thereBelow 9 = .ok (.aload_n 0, 1) := by decide +kernel
theorem dX2_thereBelow_10 : decode cX2_thereBelow 10 = .ok (.getfield 21, 3) := by decide +kernel
theorem dX2_thereBelow_13 : decode cX2_thereBelow 13 = .ok (.iload_n 1, 1) := by decide +kernel
theorem dX2_thereBelow_14 : decode cX2_thereBelow 14 = .ok (.invokevirtual 114, 3) := by decide +kernel
theorem dX2_thereBelow_17 : decode cX2_thereBelow 17 = .ok (.istore_n 3, 1) := by decide +kernel
theorem dX2_thereBelow_18 : decode cX2_thereBelow 18 = .ok (.iconst 0, 1) := by decide +kernel
theorem dX2_thereBelow_19 : decode cX2_thereBelow 19 = .ok (.istore 4, 2) := by decide +kernel
theorem dX2_thereBelow_21 : decode cX2_thereBelow 21 = .ok (.iload 4, 2) := by decide +kernel
theorem dX2_thereBelow_23 : decode cX2_thereBelow 23 = .ok (.iload_n 2, 1) := by decide +kernel
theorem dX2_thereBelow_24 : decode cX2_thereBelow 24 = .ok (.if_icmp .ge 23, 3) := by decide +kernel
theorem dX2_thereBelow_27 : decode cX2_thereBelow 27 = .ok (.iload_n 3, 1) := by decide +kernel
theorem dX2_thereBelow_28 : decode cX2_thereBelow 28 = .ok (.iconst 1, 1) := by decide +kernel
theorem dX2_thereBelow_29 : decode cX2_thereBelow 29 = .ok (.aload_n 0, 1) := by decide +kernel
theorem dX2_thereBelow_30 : decode cX2_thereBelow 30 = .ok (.getfield 18, 3) := by decide +kernel
theorem dX2_thereBelow_33 : decode cX2_thereBelow 33 = .ok (.iload 4, 2) := by decide +kernel
theorem dX2_thereBelow_35 : decode cX2_thereBelow 35 = .ok (.invokevirtual 134, 3) := by decide +kernel
theorem dX2_thereBelow_38 : decode cX2_thereBelow 38 = .ok (.isub, 1) := by decide +kernel
theorem dX2_thereBelow_39 : decode cX2_thereBelow 39 = .ok (.iadd, 1) := by decide +kernel
theorem dX2_thereBelow_40 : decode cX2_thereBelow 40 = .ok (.istore_n 3, 1) := by decide +kernel
theorem dX2_thereBelow_41 : decode cX2_thereBelow 41 = .ok (.iinc 4 1, 3) := by decide +kernel
theorem dX2_thereBelow_44 : decode cX2_thereBelow 44 = .ok (.goto (-23), 3) := by decide +kernel
theorem dX2_thereBelow_47 : decode cX2_thereBelow 47 = .ok (.iload_n 3, 1) := by decide +kernel
theorem dX2_thereBelow_48 : decode cX2_thereBelow 48 = .ok (.ireturn, 1) := by decide +kernel
set_option maxRecDepth 20000 in
theorem ggX2_keyThere_X2_gatherAll : GoodIn wsX2_keyThere wsX2_gatherAll := goodIn_r _ [6, 1, 7, 8, 9, 10, 11, 12, 13, 14, 15, 16, 17, 18, 19, 20, 21, 5, 22, 23, 24, 25, 26, 27, 28, 29, 30, 31, 32, 33, 34, 35, 36, 37, 38, 39, 40, 41, 42, 43, 44, 45, 46, 47, 48, 49, 50, 51, 52, 53] (by decide +kernel) (by decide +kernel)
set_option maxRecDepth 20000 in
theorem gX2_keyThere_X2_gatherAll : GoodIn wsX2_keyThere (wsV RX2 128 RX2 yX2_gatherAll wsX2_gatherAll) := goodIn_app (goodIn_of _ (by decide +kernel)) ggX2_keyThere_X2_gatherAll
set_option maxRecDepth 20000 in
theorem ggX2_keyThere_X0_at : GoodIn wsX2_keyThere wsX0_at := goodIn_r _ [27, 28, 29, 30, 31, 12, 32, 14, 52, 53] (by decide +kernel) (by decide +kernel)
set_option maxRecDepth 20000 in
theorem gX2_keyThere_X0_at : GoodIn wsX2_keyThere (wsV RX2 134 RX0 yX0_at wsX0_at) := goodIn_app (goodIn_of _ (by decide +kernel)) ggX2_keyThere_X0_at
theorem dX2_keyThere_0 : decode cX2_keyThere 0 = .ok (.aload_n 0, 1) := by decide +kernel
theorem dX2_keyThere_1 : decode cX2_keyThere 1 = .ok (.invokevirtual 128, 3) := by decide +kernel
theorem dX2_keyThere_4 : decode cX2_keyThere 4 = .ok (.aload_n 0, 1) := by decide +kernel
theorem dX2_keyThere_5 : decode cX2_keyThere 5 = .ok (.getfield 40, 3) := by decide +kernel
theorem dX2_keyThere_8 : decode cX2_keyThere 8 = .ok (.iload_n 1, 1) := by decide +kernel
theorem dX2_keyThere_9 : decode cX2_keyThere 9 = .ok (.invokevirtual 134, 3) := by decide +kernel
theorem dX2_keyThere_12 : decode cX2_keyThere 12 = .ok (.ireturn, 1) := by decide +kernel
set_option maxRecDepth 20000 in
theorem ggX2_addLast_X0_length : GoodIn wsX2_addLast wsX0_length := goodIn_r _ [9, 10, 80, 81] (by decide +kernel) (by decide +kernel)
set_option maxRecDepth 20000 in
theorem gX2_addLast_X0_length : GoodIn wsX2_addLast (wsV RX2 76 RX0 yX0_length wsX0_length) := goodIn_app (goodIn_of _ (by decide +kernel)) ggX2_addLast_X0_length
set_option maxRecDepth 20000 in
theorem ggX2_addLast_X0_push : GoodIn wsX2_addLast wsX0_push := goodIn_r _ [14, 10, 15, 80, 81] (by decide +kernel) (by decide +kernel)
set_option maxRecDepth 20000 in
theorem gX2_addLast_X0_push : GoodIn wsX2_addLast (wsV RX2 199 RX0 yX0_push wsX0_push) := goodIn_app (goodIn_of _ (by decide +kernel)) ggX2_addLast_X0_push
set_option maxRecDepth 20000 in
theorem ggX2_addLast_X1_take : GoodIn wsX2_addLast wsX1_take := goodIn_r _ [20, 21, 22, 23, 24, 25, 26, 27, 28, 82, 83, 84, 85, 86, 87, 88] (by decide +kernel) (by decide +kernel)
set_option maxRecDepth 20000 in
theorem gX2_addLast_X1_take : GoodIn wsX2_addLast (wsV RX2 202 RX1 yX1_take wsX1_take) := goodIn_app (goodIn_of _ (by decide +kernel)) ggX2_addLast_X1_take
set_option maxRecDepth 20000 in
theorem ggX2_addLast_X2_noteTailSlope : GoodIn wsX2_addLast wsX2_noteTailSlope := goodIn_r _ [33, 3, 34, 4, 35, 5, 6, 7, 8, 9, 10, 36, 37, 38, 19, 39, 26, 40, 41, 42, 43, 25, 44, 45, 46, 47, 15, 48, 49, 50, 51, 52, 53, 54, 55, 65, 66, 67, 68, 69, 70, 71, 72, 73, 74, 75, 76, 77, 78, 79, 80, 81, 82, 83, 84, 85, 86, 87, 88] (by decide +kernel) (by decide +kernel)
set_option maxRecDepth 20000 in
theorem gX2_addLast_X2_noteTailSlope : GoodIn wsX2_addLast (wsV RX2 206 RX2 yX2_noteTailSlope wsX2_noteTailSlope) := goodIn_app (goodIn_of _ (by decide +kernel)) ggX2_addLast_X2_noteTailSlope
set_option maxRecDepth 20000 in
theorem ggX2_addLast_X2_beginPiece : GoodIn wsX2_addLast wsX2_beginPiece := goodIn_r _ [59, 4, 60, 3, 34, 35, 61, 62, 63, 19, 64, 21, 22, 23, 26, 25, 28, 27, 11, 12, 13, 8, 14, 10, 15, 36, 37, 38, 39, 40, 41, 42, 43, 52, 53, 54, 55, 65, 66, 67, 68, 69, 70, 71, 72, 73, 74, 75, 76, 77, 78, 79, 82, 83, 84, 85, 86, 87, 88, 80, 81] (by decide +kernel) (by decide +kernel)
set_option maxRecDepth 20000 in
theorem gX2_addLast_X2_beginPiece : GoodIn wsX2_addLast (wsV RX2 209 RX2 yX2_beginPiece wsX2_beginPiece) := goodIn_app (goodIn_of _ (by decide +kernel)) ggX2_addLast_X2_beginPiece
theorem dX2_addLast_0 : decode cX2_addLast 0 = .ok (.aload_n 0, 1) := by decide +kernel
theorem dX2_addLast_1 : decode cX2_addLast 1 = .ok (.getfield 14, 3) := by decide +kernel
theorem dX2_addLast_4 : decode cX2_addLast 4 = .ok (.invokevirtual 76, 3) := by decide +kernel
theorem dX2_addLast_7 : decode cX2_addLast 7 = .ok (.istore_n 2, 1) := by decide +kernel
theorem dX2_addLast_8 : decode cX2_addLast 8 = .ok (.aload_n 0, 1) := by decide +kernel
theorem dX2_addLast_9 : decode cX2_addLast 9 = .ok (.getfield 14, 3) := by decide +kernel
theorem dX2_addLast_12 : decode cX2_addLast 12 = .ok (.iload_n 1, 1) := by decide +kernel
theorem dX2_addLast_13 : decode cX2_addLast 13 = .ok (.invokevirtual 199, 3) := by decide +kernel
theorem dX2_addLast_16 : decode cX2_addLast 16 = .ok (.aload_n 0, 1) := by decide +kernel
theorem dX2_addLast_17 : decode cX2_addLast 17 = .ok (.getfield 18, 3) := by decide +kernel
theorem dX2_addLast_20 : decode cX2_addLast 20 = .ok (.iconst 0, 1) := by decide +kernel
theorem dX2_addLast_21 : decode cX2_addLast 21 = .ok (.invokevirtual 199, 3) := by decide +kernel
theorem dX2_addLast_24 : decode cX2_addLast 24 = .ok (.aload_n 0, 1) := by decide +kernel
theorem dX2_addLast_25 : decode cX2_addLast 25 = .ok (.getfield 24, 3) := by decide +kernel
theorem dX2_addLast_28 : decode cX2_addLast 28 = .ok (.invokevirtual 76, 3) := by decide +kernel
theorem dX2_addLast_31 : decode cX2_addLast 31 = .ok (.ifCond .le 22, 3) := by decide +kernel
theorem dX2_addLast_34 : decode cX2_addLast 34 = .ok (.aload_n 0, 1) := by decide +kernel
theorem dX2_addLast_35 : decode cX2_addLast 35 = .ok (.getfield 36, 3) := by decide +kernel
theorem dX2_addLast_38 : decode cX2_addLast 38 = .ok (.iload_n 1, 1) := by decide +kernel
theorem dX2_addLast_39 : decode cX2_addLast 39 = .ok (.iload_n 2, 1) := by decide +kernel
theorem dX2_addLast_40 : decode cX2_addLast 40 = .ok (.invokevirtual 202, 3) := by decide +kernel
theorem dX2_addLast_43 : decode cX2_addLast 43 = .ok (.ifCond .eq 10, 3) := by decide +kernel
theorem dX2_addLast_46 : decode cX2_addLast 46 = .ok (.aload_n 0, 1) := by decide +kernel
theorem dX2_addLast_47 : decode cX2_addLast 47 = .ok (.invokevirtual 206, 3) := by decide +kernel
theorem dX2_addLast_50 : decode cX2_addLast 50 = .ok (.goto 9, 3) := by decide +kernel
theorem dX2_addLast_53 : decode cX2_addLast 53 = .ok (.aload_n 0, 1) := by decide +kernel
theorem dX2_addLast_54 : decode cX2_addLast 54 = .ok (.iload_n 1, 1) := by decide +kernel
theorem dX2_addLast_55 : decode cX2_addLast 55 = .ok (.iload_n 2, 1) := by decide +kernel
theorem dX2_addLast_56 : decode cX2_addLast 56 = .ok (.invokevirtual 209, 3) := by decide +kernel
theorem dX2_addLast_59 : decode cX2_addLast 59 = .ok (.return_, 1) := by decide +kernel
set_option maxRecDepth 20000 in
theorem ggX2_addLate_X0_below : GoodIn wsX2_addLate wsX0_below := goodIn_r _ [7, 8, 9, 10, 11, 6, 12, 13, 14, 15, 16, 17, 148, 149] (by decide +kernel) (by decide +kernel)
set_option maxRecDepth 20000 in
theorem gX2_addLate_X0_below : GoodIn wsX2_addLate (wsV RX2 114 RX0 yX0_below wsX0_below) := goodIn_app (goodIn_of _ (by decide +kernel)) ggX2_addLate_X0_below
set_option maxRecDepth 20000 in
theorem ggX2_addLate_X0_squeezeIn : GoodIn wsX2_addLate wsX0_squeezeIn := goodIn_r _ [21, 8, 22, 23, 24, 6, 25, 13, 9, 10, 11, 12, 14, 15, 16, 17, 26, 27, 28, 29, 148, 149] (by decide +kernel) (by decide +kernel)
set_option maxRecDepth 20000 in
theorem gX2_addLate_X0_squeezeIn : GoodIn wsX2_addLate (wsV RX2 212 RX0 yX0_squeezeIn wsX0_squeezeIn) := goodIn_app (goodIn_of _ (by decide +kernel)) ggX2_addLate_X0_squeezeIn
set_option maxRecDepth 20000 in
theorem ggX2_addLate_X0_length : GoodIn wsX2_addLate wsX0_length := goodIn_r _ [33, 8, 148, 149] (by decide +kernel) (by decide +kernel)
set_option maxRecDepth 20000 in
theorem gX2_addLate_X0_length : GoodIn wsX2_addLate (wsV RX2 76 RX0 yX0_length wsX0_length) := goodIn_app (goodIn_of _ (by decide +kernel)) ggX2_addLate_X0_length
set_option maxRecDepth 20000 in
theorem ggX2_addLate_X2_mergeAll : GoodIn wsX2_addLate wsX2_mergeAll := goodIn_r _ [38, 39, 40, 41, 1, 42, 43, 44, 45, 46, 47, 6, 48, 8, 30, 31, 32, 33, 49, 50, 51, 37, 52, 53, 10, 11, 12, 13, 14, 15, 16, 17, 54, 23, 24, 25, 55, 56, 57, 58, 59, 60, 61, 62, 63, 64, 65, 66, 67, 68, 69, 70, 71, 72, 73, 74, 75, 76, 77, 78, 79, 80, 81, 82, 83, 84, 85, 86, 3, 4, 5, 7, 9, 87, 88, 89, 90, 91, 92, 93, 94, 95, 96, 97, 98, 99, 100, 101, 102, 103, 104, 105, 106, 107, 108, 109, 110, 111, 112, 113, 114, 115, 116, 117, 118, 119, 120, 121, 122, 123, 124, 125, 126, 127, 128, 129, 130, 131, 132, 27, 28, 29, 133, 134, 135, 136, 137, 138, 139, 140, 141, 142, 143, 144, 145, 146, 147, 148, 149, 150, 151, 152, 153, 154, 155, 156] (by decide +kernel) (by decide +kernel)
set_option maxRecDepth 20000 in
theorem gX2_addLate_X2_mergeAll : GoodIn wsX2_addLate (wsV RX2 123 RX2 yX2_mergeAll wsX2_mergeAll) := goodIn_app (goodIn_of _ (by decide +kernel)) ggX2_addLate_X2_mergeAll
theorem dX2_addLate_0 : decode cX2_addLate 0 = .ok (.aload_n 0, 1) := by decide +kernel
theorem dX2_addLate_1 : decode cX2_addLate 1 = .ok (.getfield 21, 3) := by decide +kernel
theorem dX2_addLate_4 : decode cX2_addLate 4 = .ok (.aload_n 0, 1) := by decide +kernel
theorem dX2_addLate_5 : decode cX2_addLate 5 = .ok (.getfield 21, 3) := by decide +kernel
theorem dX2_addLate_8 : decode cX2_addLate 8 = .ok (.iload_n 1, 1) := by decide +kernel
theorem dX2_addLate_9 : decode cX2_addLate 9 = .ok (.invokevirtual 114, 3) := by decide +kernel
theorem dX2_addLate_12 : decode cX2_addLate 12 = .ok (.iload_n 1, 1) := by decide +kernel
theorem dX2_addLate_13 : decode cX2_addLate 13 = .ok (.invokevirtual 212, 3) := by decide +kernel
theorem dX2_addLate_16 : decode cX2_addLate 16 = .ok (.aload_n 0, 1) := by decide +kernel
theorem dX2_addLate_17 : decode cX2_addLate 17 = .ok (.getfield 21, 3) := by decide +kernel
theorem dX2_addLate_20 : decode cX2_addLate 20 = .ok (.invokevirtual 76, 3) := by decide +kernel
theorem dX2_addLate_23 : decode cX2_addLate 23 = .ok (.aload_n 0, 1) := by decide +kernel
theorem dX2_addLate_24 : decode cX2_addLate 24 = .ok (.getfield 50, 3) := by decide +kernel
theorem dX2_addLate_27 : decode cX2_addLate 27 = .ok (.if_icmp .lt 7, 3) := by decide +kernel
theorem dX2_addLate_30 : decode cX2_addLate 30 = .ok (.aload_n 0, 1) := by decide +kernel
theorem dX2_addLate_31 : decode cX2_addLate 31 = .ok (.invokevirtual 123, 3) := by decide +kernel
theorem dX2_addLate_34 : decode cX2_addLate 34 = .ok (.return_, 1) := by decide +kernel
set_option maxRecDepth 20000 in
theorem ggX2_clearRow_X0_clear : GoodIn wsX2_clearRow wsX0_clear := goodIn_r _ [9, 10, 34, 35] (by decide +kernel) (by decide +kernel)
set_option maxRecDepth 20000 in
theorem gX2_clearRow_X0_clear : GoodIn wsX2_clearRow (wsV RX2 215 RX0 yX0_clear wsX0_clear) := goodIn_app (goodIn_of _ (by decide +kernel)) ggX2_clearRow_X0_clear
set_option maxRecDepth 20000 in
theorem ggX2_clearRow_X2_clearPieces : GoodIn wsX2_clearRow wsX2_clearPieces := goodIn_r _ [15, 16, 17, 18, 5, 6, 7, 8, 9, 10, 19, 20, 21, 22, 23, 24, 25, 26, 27, 28, 29, 30, 31, 32, 33, 34, 35] (by decide +kernel) (by decide +kernel)
set_option maxRecDepth 20000 in
theorem gX2_clearRow_X2_clearPieces : GoodIn wsX2_clearRow (wsV RX2 218 RX2 yX2_clearPieces wsX2_clearPieces) := goodIn_app (goodIn_of _ (by decide +kernel)) ggX2_clearRow_X2_clearPieces
theorem dX2_clearRow_0 : decode cX2_clearRow 0 = .ok (.aload_n 0, 1) := by decide +kernel
theorem dX2_clearRow_1 : decode cX2_clearRow 1 = .ok (.getfield 14, 3) := by decide +kernel
theorem dX2_clearRow_4 : decode cX2_clearRow 4 = .ok (.invokevirtual 215, 3) := by decide +kernel
theorem dX2_clearRow_7 : decode cX2_clearRow 7 = .ok (.aload_n 0, 1) := by decide +kernel
theorem dX2_clearRow_8 : decode cX2_clearRow 8 = .ok (.getfield 18, 3) := by decide +kernel
theorem dX2_clearRow_11 : decode cX2_clearRow 11 = .ok (.invokevirtual 215, 3) := by decide +kernel
theorem dX2_clearRow_14 : decode cX2_clearRow 14 = .ok (.aload_n 0, 1) := by decide +kernel
theorem dX2_clearRow_15 : decode cX2_clearRow 15 = .ok (.iconst 0, 1) := by decide +kernel
theorem dX2_clearRow_16 : decode cX2_clearRow 16 = .ok (.putfield 53, 3) := by decide +kernel
theorem dX2_clearRow_19 : decode cX2_clearRow 19 = .ok (.aload_n 0, 1) := by decide +kernel
theorem dX2_clearRow_20 : decode cX2_clearRow 20 = .ok (.getfield 21, 3) := by decide +kernel
theorem dX2_clearRow_23 : decode cX2_clearRow 23 = .ok (.invokevirtual 215, 3) := by decide +kernel
theorem dX2_clearRow_26 : decode cX2_clearRow 26 = .ok (.aload_n 0, 1) := by decide +kernel
theorem dX2_clearRow_27 : decode cX2_clearRow 27 = .ok (.invokevirtual 218, 3) := by decide +kernel
theorem dX2_clearRow_30 : decode cX2_clearRow 30 = .ok (.return_, 1) := by decide +kernel
set_option maxRecDepth 20000 in
theorem ggX2_clearPieces_X0_clear : GoodIn wsX2_clearPieces wsX0_clear := goodIn_r _ [8, 9, 25, 26] (by decide +kernel) (by decide +kernel)
set_option maxRecDepth 20000 in
theorem gX2_clearPieces_X0_clear : GoodIn wsX2_clearPieces (wsV RX2 215 RX0 yX0_clear wsX0_clear) := goodIn_app (goodIn_of _ (by decide +kernel)) ggX2_clearPieces_X0_clear
theorem dX2_clearPieces_0 : decode cX2_clearPieces 0 = .ok (.aload_n 0, 1) := by decide +kernel
theorem dX2_clearPieces_1 : decode cX2_clearPieces 1 = .ok (.getfield 24, 3) := by decide +kernel
theorem dX2_clearPieces_4 : decode cX2_clearPieces 4 = .ok (.invokevirtual 215, 3) := by decide +kernel
theorem dX2_clearPieces_7 : decode cX2_clearPieces 7 = .ok (.aload_n 0, 1) := by decide +kernel
theorem dX2_clearPieces_8 : decode cX2_clearPieces 8 = .ok (.getfield 27, 3) := by decide +kernel
theorem dX2_clearPieces_11 : decode cX2_clearPieces 11 = .ok (.invokevirtual 215, 3) := by decide +kernel
theorem dX2_clearPieces_14 : decode cX2_clearPieces 14 = .ok (.aload_n 0, 1) := by decide +kernel
theorem dX2_clearPieces_15 : decode cX2_clearPieces 15 = .ok (.getfield 30, 3) := by decide +kernel
theorem dX2_clearPieces_18 : decode cX2_clearPieces 18 = .ok (.invokevirtual 215, 3) := by decide +kernel
theorem dX2_clearPieces_21 : decode cX2_clearPieces 21 = .ok (.return_, 1) := by decide +kernel
set_option maxRecDepth 20000 in
theorem ggX2_beginPiece_X1_begin : GoodIn wsX2_beginPiece wsX1_begin := goodIn_r _ [10, 11, 12, 13, 14, 15, 16, 17, 52, 53, 54, 55, 56, 57, 58] (by decide +kernel) (by decide +kernel)
set_option maxRecDepth 20000 in
theorem gX2_beginPiece_X1_begin : GoodIn wsX2_beginPiece (wsV RX2 221 RX1 yX1_begin wsX1_begin) := goodIn_app (goodIn_of _ (by decide +kernel)) ggX2_beginPiece_X1_begin
set_option maxRecDepth 20000 in
theorem ggX2_beginPiece_X0_push : GoodIn wsX2_beginPiece wsX0_push := goodIn_r _ [22, 23, 24, 59, 60] (by decide +kernel) (by decide +kernel)
set_option maxRecDepth 20000 in
theorem gX2_beginPiece_X0_push : GoodIn wsX2_beginPiece (wsV RX2 199 RX0 yX0_push wsX0_push) := goodIn_app (goodIn_of _ (by decide +kernel)) ggX2_beginPiece_X0_push
set_option maxRecDepth 20000 in
theorem ggX2_beginPiece_X1_leastRise : GoodIn wsX2_beginPiece wsX1_leastRise := goodIn_r _ [28, 14, 29, 30, 31, 9, 32, 15, 52, 53, 54, 55, 56, 57, 58] (by decide +kernel) (by decide +kernel)
set_option maxRecDepth 20000 in
theorem gX2_beginPiece_X1_leastRise : GoodIn wsX2_beginPiece (wsV RX2 225 RX1 yX1_leastRise wsX1_leastRise) := goodIn_app (goodIn_of _ (by decide +kernel)) ggX2_beginPiece_X1_leastRise
set_option maxRecDepth 20000 in
theorem ggX2_beginPiece_X1_leastRun : GoodIn wsX2_beginPiece wsX1_leastRun := goodIn_r _ [36, 15, 29, 30, 31, 9, 32, 14, 52, 53, 54, 55, 56, 57, 58] (by decide +kernel) (by decide +kernel)
set_option maxRecDepth 20000 in
theorem gX2_beginPiece_X1_leastRun : GoodIn wsX2_beginPiece (wsV RX2 228 RX1 yX1_leastRun wsX1_leastRun) := goodIn_app (goodIn_of _ (by decide +kernel)) ggX2_beginPiece_X1_leastRun
theorem dX2_beginPiece_0 : decode cX2_beginPiece 0 = .ok (.aload_n 0, 1) := by decide +kernel
theorem dX2_beginPiece_1 : decode cX2_beginPiece 1 = .ok (.getfield 36, 3) := by decide +kernel
theorem dX2_beginPiece_4 : decode cX2_beginPiece 4 = .ok (.iload_n 1, 1) := by decide +kernel
theorem dX2_beginPiece_5 : decode cX2_beginPiece 5 = .ok (.iload_n 2, 1) := by decide +kernel
theorem dX2_beginPiece_6 : decode cX2_beginPiece 6 = .ok (.aload_n 0, 1) := by decide +kernel
theorem dX2_beginPiece_7 : decode cX2_beginPiece 7 = .ok (.getfield 46, 3) := by decide +kernel
theorem dX2_beginPiece_10 : decode cX2_beginPiece 10 = .ok (.invokevirtual 221, 3) := by decide +kernel
theorem dX2_beginPiece_13 : decode cX2_beginPiece 13 = .ok (.aload_n 0, 1) := by decide +kernel
theorem dX2_beginPiece_14 : decode cX2_beginPiece 14 = .ok (.getfield 24, 3) := by decide +kernel
theorem dX2_beginPiece_17 : decode cX2_beginPiece 17 = .ok (.iload_n 2, 1) := by decide +kernel
theorem dX2_beginPiece_18 : decode cX2_beginPiece 18 = .ok (.invokevirtual 199, 3) := by decide +kernel
theorem dX2_beginPiece_21 : decode cX2_beginPiece 21 = .ok (.aload_n 0, 1) := by decide +kernel
theorem dX2_beginPiece_22 : decode cX2_beginPiece 22 = .ok (.getfield 27, 3) := by decide +kernel
theorem dX2_beginPiece_25 : decode cX2_beginPiece 25 = .ok (.aload_n 0, 1) := by decide +kernel
theorem dX2_beginPiece_26 : decode cX2_beginPiece 26 = .ok (.getfield 36, 3) := by decide +kernel
theorem dX2_beginPiece_29 : decode cX2_beginPiece 29 = .ok (.invokevirtual 225, 3) := by decide +kernel
theorem dX2_beginPiece_32 : decode cX2_beginPiece 32 = .ok (.invokevirtual 199, 3) := by decide +kernel
theorem dX2_beginPiece_35 : decode cX2_beginPiece 35 = .ok (.aload_n 0, 1) := by decide +kernel
theorem dX2_beginPiece_36 : decode cX2_beginPiece 36 = .ok (.getfield 30, 3) := by decide +kernel
theorem dX2_beginPiece_39 : decode cX2_beginPiece 39 = .ok (.aload_n 0, 1) := by decide +kernel
theorem dX2_beginPiece_40 : decode cX2_beginPiece 40 = .ok (.getfield 36, 3) := by decide +kernel
theorem dX2_beginPiece_43 : decode cX2_beginPiece 43 = .ok (.invokevirtual 228, 3) := by decide +kernel
theorem dX2_beginPiece_46 : decode cX2_beginPiece 46 = .ok (.invokevirtual 199, 3) := by decide +kernel
theorem dX2_beginPiece_49 : decode cX2_beginPiece 49 = .ok (.return_, 1) := by decide +kernel
set_option maxRecDepth 20000 in
theorem ggX2_noteTailSlope_X0_length : GoodIn wsX2_noteTailSlope wsX0_length := goodIn_r _ [9, 10, 50, 51] (by decide +kernel) (by decide +kernel)
set_option maxRecDepth 20000 in
theorem gX2_noteTailSlope_X0_length : GoodIn wsX2_noteTailSlope (wsV RX2 76 RX0 yX0_length wsX0_length) := goodIn_app (goodIn_of _ (by decide +kernel)) ggX2_noteTailSlope_X0_length
set_option maxRecDepth 20000 in
theorem ggX2_noteTailSlope_X1_leastRise : GoodIn wsX2_noteTailSlope wsX1_leastRise := goodIn_r _ [15, 16, 17, 18, 19, 14, 20, 21, 52, 53, 54, 55, 56, 57, 58] (by decide +kernel) (by decide +kernel)
set_option maxRecDepth 20000 in
theorem gX2_noteTailSlope_X1_leastRise : GoodIn wsX2_noteTailSlope (wsV RX2 225 RX1 yX1_leastRise wsX1_leastRise) := goodIn_app (goodIn_of _ (by decide +kernel)) ggX2_noteTailSlope_X1_leastRise
set_option maxRecDepth 20000 in
theorem ggX2_noteTailSlope_X0_put : GoodIn wsX2_noteTailSlope wsX0_put := goodIn_r _ [25, 26, 27, 28, 29, 8, 30, 10, 50, 51] (by decide +kernel) (by decide +kernel)
set_option maxRecDepth 20000 in
theorem gX2_noteTailSlope_X0_put : GoodIn wsX2_noteTailSlope (wsV RX2 106 RX0 yX0_put wsX0_put) := goodIn_app (goodIn_of _ (by decide +kernel)) ggX2_noteTailSlope_X0_put
set_option maxRecDepth 20000 in
theorem ggX2_noteTailSlope_X1_leastRun : GoodIn wsX2_noteTailSlope wsX1_leastRun := goodIn_r _ [34, 21, 17, 18, 19, 14, 20, 16, 52, 53, 54, 55, 56, 57, 58] (by decide +kernel) (by decide +kernel)
set_option maxRecDepth 20000 in
theorem gX2_noteTailSlope_X1_leastRun : GoodIn wsX2_noteTailSlope (wsV RX2 228 RX1 yX1_leastRun wsX1_leastRun) := goodIn_app (goodIn_of _ (by decide +kernel)) ggX2_noteTailSlope_X1_leastRun
theorem dX2_noteTailSlope_0 : decode cX2_noteTailSlope 0 = .ok (.aload_n 0, 1) := by decide +kernel
theorem dX2_noteTailSlope_1 : decode cX2_noteTailSlope 1 = .ok (.getfield 24, 3) := by decide +kernel
theorem dX2_noteTailSlope_4 : decode cX2_noteTailSlope 4 = .ok (.invokevirtual 76, 3) := by decide +kernel
theorem dX2_noteTailSlope_7 : decode cX2_noteTailSlope 7 = .ok (.iconst 1, 1) := by decide +kernel
theorem dX2_noteTailSlope_8 : decode cX2_noteTailSlope 8 = .ok (.isub, 1) := by decide +kernel
theorem dX2_noteTailSlope_9 : decode cX2_noteTailSlope 9 = .ok (.istore_n 1, 1) := by decide +kernel
theorem dX2_noteTailSlope_10 : decode cX2_noteTailSlope 10 = .ok (.aload_n 0, 1) := by decide +kernel
theorem dX2_noteTailSlope_11 : decode cX2_noteTailSlope 11 = .ok (.getfield 27, 3) := by decide +kernel
theorem dX2_noteTailSlope_14 : decode cX2_noteTailSlope 14 = .ok (.iload_n 1, 1) := by decide +kernel
theorem dX2_noteTailSlope_15 : decode cX2_noteTailSlope 15 = .ok (.aload_n 0, 1) := by decide +kernel
theorem dX2_noteTailSlope_16 : decode cX2_noteTailSlope 16 = .ok (.getfield 36, 3) := by decide +kernel
theorem dX2_noteTailSlope_19 : decode cX2_noteTailSlope 19 = .ok (.invokevirtual 225, 3) := by decide +kernel
theorem dX2_noteTailSlope_22 : decode cX2_noteTailSlope 22 = .ok (.invokevirtual 106, 3) := by decide +kernel
theorem dX2_noteTailSlope_25 : decode cX2_noteTailSlope 25 = .ok (.aload_n 0, 1) := by decide +kernel
theorem dX2_noteTailSlope_26 : decode cX2_noteTailSlope 26 = .ok (.getfield 30, 3) := by decide +kernel
theorem dX2_noteTailSlope_29 : decode cX2_noteTailSlope 29 = .ok (.iload_n 1, 1) := by decide +kernel
theorem dX2_noteTailSlope_30 : decode cX2_noteTailSlope 30 = .ok (.aload_n 0, 1) := by decide +kernel
theorem dX2_noteTailSlope_31 : decode cX2_noteTailSlope 31 = .ok (.getfield 36, 3) := by decide +kernel
theorem dX2_noteTailSlope_34 : decode cX2_noteTailSlope 34 = .ok (.invokevirtual 228, 3) := by decide +kernel
theorem dX2_noteTailSlope_37 : decode cX2_noteTailSlope 37 = .ok (.invokevirtual 106, 3) := by decide +kernel
theorem dX2_noteTailSlope_40 : decode cX2_noteTailSlope 40 = .ok (.return_, 1) := by decide +kernel
set_option maxRecDepth 20000 in
theorem ggX2_firstOf_X0_at : GoodIn wsX2_firstOf wsX0_at := goodIn_r _ [7, 8, 9, 10, 11, 6, 12, 13, 29, 30] (by decide +kernel) (by decide +kernel)
set_option maxRecDepth 20000 in
theorem gX2_firstOf_X0_at : GoodIn wsX2_firstOf (wsV RX2 134 RX0 yX0_at wsX0_at) := goodIn_app (goodIn_of _ (by decide +kernel)) ggX2_firstOf_X0_at
theorem dX2_firstOf_0 : decode cX2_firstOf 0 = .ok (.aload_n 0, 1) := by decide +kernel
theorem dX2_firstOf_1 : decode cX2_firstOf 1 = .ok (.getfield 14, 3) := by decide +kernel
theorem dX2_firstOf_4 : decode cX2_firstOf 4 = .ok (.aload_n 0, 1) := by decide +kernel
theorem dX2_firstOf_5 : decode cX2_firstOf 5 = .ok (.getfield 24, 3) := by decide +kernel
theorem dX2_firstOf_8 : decode cX2_firstOf 8 = .ok (.iload_n 1, 1) := by decide +kernel
theorem dX2_firstOf_9 : decode cX2_firstOf 9 = .ok (.invokevirtual 134, 3) := by decide +kernel
theorem dX2_firstOf_12 : decode cX2_firstOf 12 = .ok (.invokevirtual 134, 3) := by decide +kernel
theorem dX2_firstOf_15 : decode cX2_firstOf 15 = .ok (.ireturn, 1) := by decide +kernel
set_option maxRecDepth 20000 in
theorem ggX2_endOf_X0_has : GoodIn wsX2_endOf wsX0_has := goodIn_r _ [7, 8, 9, 34, 35] (by decide +kernel) (by decide +kernel)
set_option maxRecDepth 20000 in
theorem gX2_endOf_X0_has : GoodIn wsX2_endOf (wsV RX2 192 RX0 yX0_has wsX0_has) := goodIn_app (goodIn_of _ (by decide +kernel)) ggX2_endOf_X0_has
set_option maxRecDepth 20000 in
theorem ggX2_endOf_X0_at : GoodIn wsX2_endOf wsX0_at := goodIn_r _ [13, 9, 14, 4, 5, 6, 7, 8, 34, 35] (by decide +kernel) (by decide +kernel)
set_option maxRecDepth 20000 in
theorem gX2_endOf_X0_at : GoodIn wsX2_endOf (wsV RX2 134 RX0 yX0_at wsX0_at) := goodIn_app (goodIn_of _ (by decide +kernel)) ggX2_endOf_X0_at
set_option maxRecDepth 20000 in
theorem ggX2_endOf_X0_length : GoodIn wsX2_endOf wsX0_length := goodIn_r _ [18, 8, 34, 35] (by decide +kernel) (by decide +kernel)
set_option maxRecDepth 20000 in
theorem gX2_endOf_X0_length : GoodIn wsX2_endOf (wsV RX2 76 RX0 yX0_length wsX0_length) := goodIn_app (goodIn_of _ (by decide +kernel)) ggX2_endOf_X0_length
theorem dX2_endOf_0 : decode cX2_endOf 0 = .ok (.aload_n 0, 1) := by decide +kernel
theorem dX2_endOf_1 : decode cX2_endOf 1 = .ok (.getfield 24, 3) := by decide +kernel
theorem dX2_endOf_4 : decode cX2_endOf 4 = .ok (.iload_n 1, 1) := by decide +kernel
theorem dX2_endOf_5 : decode cX2_endOf 5 = .ok (.iconst 1, 1) := by decide +kernel
theorem dX2_endOf_6 : decode cX2_endOf 6 = .ok (.iadd, 1) := by decide +kernel
theorem dX2_endOf_7 : decode cX2_endOf 7 = .ok (.invokevirtual 192, 3) := by decide +kernel
theorem dX2_endOf_10 : decode cX2_endOf 10 = .ok (.ifCond .eq 16, 3) := by decide +kernel
theorem dX2_endOf_13 : decode cX2_endOf 13 = .ok (.aload_n 0, 1) := by decide +kernel
theorem dX2_endOf_14 : decode cX2_endOf 14 = .ok (.getfield 24, 3) := by decide +kernel
theorem dX2_endOf_17 : decode cX2_endOf 17 = .ok (.iload_n 1, 1) := by decide +kernel
theorem dX2_endOf_18 : decode cX2_endOf 18 = .ok (.iconst 1, 1) := by decide +kernel
theorem dX2_endOf_19 : decode cX2_endOf 19 = .ok (.iadd, 1) := by decide +kernel
theorem dX2_endOf_20 : decode cX2_endOf 20 = .ok (.invokevirtual 134, 3) := by decide +kernel
theorem dX2_endOf_23 : decode cX2_endOf 23 = .ok (.goto 10, 3) := by decide +kernel
theorem dX2_endOf_26 : decode cX2_endOf 26 = .ok (.aload_n 0, 1) := by decide +kernel
theorem dX2_endOf_27 : decode cX2_endOf 27 = .ok (.getfield 14, 3) := by decide +kernel
theorem dX2_endOf_30 : decode cX2_endOf 30 = .ok (.invokevirtual 76, 3) := by decide +kernel
theorem dX2_endOf_33 : decode cX2_endOf 33 = .ok (.ireturn, 1) := by decide +kernel
set_option maxRecDepth 20000 in
theorem ggX2_pieceOf_X0_below : GoodIn wsX2_pieceOf wsX0_below := goodIn_r _ [7, 8, 9, 10, 11, 6, 12, 13, 14, 15, 16, 17, 33, 34] (by decide +kernel) (by decide +kernel)
set_option maxRecDepth 20000 in
theorem gX2_pieceOf_X0_below : GoodIn wsX2_pieceOf (wsV RX2 114 RX0 yX0_below wsX0_below) := goodIn_app (goodIn_of _ (by decide +kernel)) ggX2_pieceOf_X0_below
theorem dX2_pieceOf_0 : decode cX2_pieceOf 0 = .ok (.aload_n 0, 1) := by decide +kernel
theorem dX2_pieceOf_1 : decode cX2_pieceOf 1 = .ok (.getfield 14, 3) := by decide +kernel
theorem dX2_pieceOf_4 : decode cX2_pieceOf 4 = .ok (.iload_n 1, 1) := by decide +kernel
theorem dX2_pieceOf_5 : decode cX2_pieceOf 5 = .ok (.iconst 1, 1) := by decide +kernel
end
section
theorem dX2_pieceOf_6 : decode cX2_pieceOf 6 = .ok (.iadd, 1) := by decide +kernel
theorem dX2_pieceOf_7 : decode cX2_pieceOf 7 = .ok (.invokevirtual 114, 3) := by decide +kernel
theorem dX2_pieceOf_10 : decode cX2_pieceOf 10 = .ok (.istore_n 2, 1) := by decide +kernel
theorem dX2_pieceOf_11 : decode cX2_pieceOf 11 = .ok (.aload_n 0, 1) := by decide +kernel
theorem dX2_pieceOf_12 : decode cX2_pieceOf 12 = .ok (.getfield 24, 3) := by decide +kernel
theorem dX2_pieceOf_15 : decode cX2_pieceOf 15 = .ok (.iload_n 2, 1) := by decide +kernel
theorem dX2_pieceOf_16 : decode cX2_pieceOf 16 = .ok (.invokevirtual 114, 3) := by decide +kernel
theorem dX2_pieceOf_19 : decode cX2_pieceOf 19 = .ok (.iconst 1, 1) := by decide +kernel
theorem dX2_pieceOf_20 : decode cX2_pieceOf 20 = .ok (.isub, 1) := by decide +kernel
theorem dX2_pieceOf_21 : decode cX2_pieceOf 21 = .ok (.ireturn, 1) := by decide +kernel
set_option maxRecDepth 20000 in
theorem ggX2_guessBy_X0_at : GoodIn wsX2_guessBy wsX0_at := goodIn_r _ [9, 10, 11, 12, 13, 8, 14, 15, 41, 42] (by decide +kernel) (by decide +kernel)
set_option maxRecDepth 20000 in
theorem gX2_guessBy_X0_at : GoodIn wsX2_guessBy (wsV RX2 134 RX0 yX0_at wsX0_at) := goodIn_app (goodIn_of _ (by decide +kernel)) ggX2_guessBy_X0_at
set_option maxRecDepth 20000 in
theorem ggX2_guessBy_X2_firstOf : GoodIn wsX2_guessBy wsX2_firstOf := goodIn_r _ [20, 21, 3, 5, 6, 7, 8, 9, 10, 11, 12, 13, 14, 15, 26, 27, 28, 29, 30, 31, 32, 33, 34, 35, 36, 37, 38, 39, 40, 41, 42] (by decide +kernel) (by decide +kernel)
set_option maxRecDepth 20000 in
theorem gX2_guessBy_X2_firstOf : GoodIn wsX2_guessBy (wsV RX2 177 RX2 yX2_firstOf wsX2_firstOf) := goodIn_app (goodIn_of _ (by decide +kernel)) ggX2_guessBy_X2_firstOf
set_option maxRecDepth 20000 in
theorem ggX2_guessBy_J9_floorDiv_f86c9 : GoodIn wsX2_guessBy wsJ9_floorDiv_f86c9 := goodIn_r _ [25] (by decide +kernel) (by decide +kernel)
set_option maxRecDepth 20000 in
theorem gX2_guessBy_J9_floorDiv_f86c9 : GoodIn wsX2_guessBy (va_wsS RX2 233 yJ9_floorDiv_f86c9 wsJ9_floorDiv_f86c9) := goodIn_app (goodIn_of _ (by decide +kernel)) ggX2_guessBy_J9_floorDiv_f86c9
theorem dX2_guessBy_0 : decode cX2_guessBy 0 = .ok (.aload_n 0, 1) := by decide +kernel
theorem dX2_guessBy_1 : decode cX2_guessBy 1 = .ok (.getfield 30, 3) := by decide +kernel
theorem dX2_guessBy_4 : decode cX2_guessBy 4 = .ok (.iload_n 1, 1) := by decide +kernel
theorem dX2_guessBy_5 : decode cX2_guessBy 5 = .ok (.invokevirtual 134, 3) := by decide +kernel
theorem dX2_guessBy_8 : decode cX2_guessBy 8 = .ok (.i2l, 1) := by decide +kernel
theorem dX2_guessBy_9 : decode cX2_guessBy 9 = .ok (.lstore_n 3, 1) := by decide +kernel
theorem dX2_guessBy_10 : decode cX2_guessBy 10 = .ok (.lload_n 3, 1) := by decide +kernel
theorem dX2_guessBy_11 : decode cX2_guessBy 11 = .ok (.lconst 1, 1) := by decide +kernel
theorem dX2_guessBy_12 : decode cX2_guessBy 12 = .ok (.lcmp, 1) := by decide +kernel
theorem dX2_guessBy_13 : decode cX2_guessBy 13 = .ok (.ifCond .ge 7, 3) := by decide +kernel
theorem dX2_guessBy_16 : decode cX2_guessBy 16 = .ok (.ldc2_w 231, 3) := by decide +kernel
theorem dX2_guessBy_19 : decode cX2_guessBy 19 = .ok (.lreturn, 1) := by decide +kernel
theorem dX2_guessBy_20 : decode cX2_guessBy 20 = .ok (.iload_n 2, 1) := by decide +kernel
theorem dX2_guessBy_21 : decode cX2_guessBy 21 = .ok (.i2l, 1) := by decide +kernel
theorem dX2_guessBy_22 : decode cX2_guessBy 22 = .ok (.aload_n 0, 1) := by decide +kernel
theorem dX2_guessBy_23 : decode cX2_guessBy 23 = .ok (.iload_n 1, 1) := by decide +kernel
theorem dX2_guessBy_24 : decode cX2_guessBy 24 = .ok (.invokevirtual 177, 3) := by decide +kernel
theorem dX2_guessBy_27 : decode cX2_guessBy 27 = .ok (.i2l, 1) := by decide +kernel
theorem dX2_guessBy_28 : decode cX2_guessBy 28 = .ok (.lsub, 1) := by decide +kernel
theorem dX2_guessBy_29 : decode cX2_guessBy 29 = .ok (.lstore 5, 2) := by decide +kernel
theorem dX2_guessBy_31 : decode cX2_guessBy 31 = .ok (.aload_n 0, 1) := by decide +kernel
theorem dX2_guessBy_32 : decode cX2_guessBy 32 = .ok (.getfield 24, 3) := by decide +kernel
theorem dX2_guessBy_35 : decode cX2_guessBy 35 = .ok (.iload_n 1, 1) := by decide +kernel
theorem dX2_guessBy_36 : decode cX2_guessBy 36 = .ok (.invokevirtual 134, 3) := by decide +kernel
theorem dX2_guessBy_39 : decode cX2_guessBy 39 = .ok (.i2l, 1) := by decide +kernel
theorem dX2_guessBy_40 : decode cX2_guessBy 40 = .ok (.aload_n 0, 1) := by decide +kernel
theorem dX2_guessBy_41 : decode cX2_guessBy 41 = .ok (.getfield 27, 3) := by decide +kernel
theorem dX2_guessBy_44 : decode cX2_guessBy 44 = .ok (.iload_n 1, 1) := by decide +kernel
theorem dX2_guessBy_45 : decode cX2_guessBy 45 = .ok (.invokevirtual 134, 3) := by decide +kernel
theorem dX2_guessBy_48 : decode cX2_guessBy 48 = .ok (.i2l, 1) := by decide +kernel
theorem dX2_guessBy_49 : decode cX2_guessBy 49 = .ok (.lload 5, 2) := by decide +kernel
theorem dX2_guessBy_51 : decode cX2_guessBy 51 = .ok (.lmul, 1) := by decide +kernel
theorem dX2_guessBy_52 : decode cX2_guessBy 52 = .ok (.lload_n 3, 1) := by decide +kernel
theorem dX2_guessBy_53 : decode cX2_guessBy 53 = .ok (.invokestatic 233, 3) := by decide +kernel
theorem dX2_guessBy_56 : decode cX2_guessBy 56 = .ok (.ladd, 1) := by decide +kernel
theorem dX2_guessBy_57 : decode cX2_guessBy 57 = .ok (.lreturn, 1) := by decide +kernel
set_option maxRecDepth 20000 in
theorem ggX2_looksBy_X2_guessBy : GoodIn wsX2_looksBy wsX2_guessBy := goodIn_r _ [15, 16, 17, 1, 18, 19, 20, 21, 22, 23, 24, 25, 26, 27, 28, 29, 30, 31, 32, 14, 33, 10, 34, 35, 36, 37, 47, 48, 49, 50, 51, 52, 53, 54, 55, 56, 57, 58, 59, 60, 61, 62, 63] (by decide +kernel) (by decide +kernel)
set_option maxRecDepth 20000 in
theorem gX2_looksBy_X2_guessBy : GoodIn wsX2_looksBy (wsV RX2 153 RX2 yX2_guessBy wsX2_guessBy) := goodIn_app (goodIn_of _ (by decide +kernel)) ggX2_looksBy_X2_guessBy
set_option maxRecDepth 20000 in
theorem ggX2_looksBy_X0_at : GoodIn wsX2_looksBy wsX0_at := goodIn_r _ [23, 24, 25, 26, 27, 22, 28, 29, 62, 63] (by decide +kernel) (by decide +kernel)
set_option maxRecDepth 20000 in
theorem gX2_looksBy_X0_at : GoodIn wsX2_looksBy (wsV RX2 134 RX0 yX0_at wsX0_at) := goodIn_app (goodIn_of _ (by decide +kernel)) ggX2_looksBy_X0_at
set_option maxRecDepth 20000 in
theorem ggX2_looksBy_X2_endOf : GoodIn wsX2_looksBy wsX2_endOf := goodIn_r _ [41, 1, 10, 42, 26, 27, 22, 28, 29, 24, 19, 20, 21, 23, 25, 43, 44, 45, 46, 47, 48, 49, 50, 51, 52, 53, 54, 55, 56, 57, 58, 59, 60, 61, 62, 63] (by decide +kernel) (by decide +kernel)
set_option maxRecDepth 20000 in
theorem gX2_looksBy_X2_endOf : GoodIn wsX2_looksBy (wsV RX2 161 RX2 yX2_endOf wsX2_endOf) := goodIn_app (goodIn_of _ (by decide +kernel)) ggX2_looksBy_X2_endOf
theorem dX2_looksBy_0 : decode cX2_looksBy 0 = .ok (.aload_n 0, 1) := by decide +kernel
theorem dX2_looksBy_1 : decode cX2_looksBy 1 = .ok (.iload_n 1, 1) := by decide +kernel
theorem dX2_looksBy_2 : decode cX2_looksBy 2 = .ok (.iload_n 2, 1) := by decide +kernel
theorem dX2_looksBy_3 : decode cX2_looksBy 3 = .ok (.invokevirtual 153, 3) := by decide +kernel
theorem dX2_looksBy_6 : decode cX2_looksBy 6 = .ok (.lstore_n 3, 1) := by decide +kernel
theorem dX2_looksBy_7 : decode cX2_looksBy 7 = .ok (.aload_n 0, 1) := by decide +kernel
theorem dX2_looksBy_8 : decode cX2_looksBy 8 = .ok (.getfield 24, 3) := by decide +kernel
theorem dX2_looksBy_11 : decode cX2_looksBy 11 = .ok (.iload_n 1, 1) := by decide +kernel
theorem dX2_looksBy_12 : decode cX2_looksBy 12 = .ok (.invokevirtual 134, 3) := by decide +kernel
theorem dX2_looksBy_15 : decode cX2_looksBy 15 = .ok (.istore 5, 2) := by decide +kernel
theorem dX2_looksBy_17 : decode cX2_looksBy 17 = .ok (.aload_n 0, 1) := by decide +kernel
theorem dX2_looksBy_18 : decode cX2_looksBy 18 = .ok (.iload_n 1, 1) := by decide +kernel
theorem dX2_looksBy_19 : decode cX2_looksBy 19 = .ok (.invokevirtual 161, 3) := by decide +kernel
theorem dX2_looksBy_22 : decode cX2_looksBy 22 = .ok (.istore 6, 2) := by decide +kernel
theorem dX2_looksBy_24 : decode cX2_looksBy 24 = .ok (.iload 6, 2) := by decide +kernel
theorem dX2_looksBy_26 : decode cX2_looksBy 26 = .ok (.i2l, 1) := by decide +kernel
theorem dX2_looksBy_27 : decode cX2_looksBy 27 = .ok (.iload 5, 2) := by decide +kernel
theorem dX2_looksBy_29 : decode cX2_looksBy 29 = .ok (.i2l, 1) := by decide +kernel
theorem dX2_looksBy_30 : decode cX2_looksBy 30 = .ok (.lload_n 3, 1) := by decide +kernel
theorem dX2_looksBy_31 : decode cX2_looksBy 31 = .ok (.aload_n 0, 1) := by decide +kernel
theorem dX2_looksBy_32 : decode cX2_looksBy 32 = .ok (.getfield 46, 3) := by decide +kernel
theorem dX2_looksBy_35 : decode cX2_looksBy 35 = .ok (.i2l, 1) := by decide +kernel
theorem dX2_looksBy_36 : decode cX2_looksBy 36 = .ok (.lsub, 1) := by decide +kernel
theorem dX2_looksBy_37 : decode cX2_looksBy 37 = .ok (.invokestatic 170, 3) := by decide +kernel
theorem dX2_looksBy_40 : decode cX2_looksBy 40 = .ok (.invokestatic 236, 3) := by decide +kernel
theorem dX2_looksBy_43 : decode cX2_looksBy 43 = .ok (.l2i, 1) := by decide +kernel
theorem dX2_looksBy_44 : decode cX2_looksBy 44 = .ok (.istore 7, 2) := by decide +kernel
theorem dX2_looksBy_46 : decode cX2_looksBy 46 = .ok (.iload 6, 2) := by decide +kernel
theorem dX2_looksBy_48 : decode cX2_looksBy 48 = .ok (.i2l, 1) := by decide +kernel
theorem dX2_looksBy_49 : decode cX2_looksBy 49 = .ok (.lload_n 3, 1) := by decide +kernel
theorem dX2_looksBy_50 : decode cX2_looksBy 50 = .ok (.aload_n 0, 1) := by decide +kernel
theorem dX2_looksBy_51 : decode cX2_looksBy 51 = .ok (.getfield 46, 3) := by decide +kernel
theorem dX2_looksBy_54 : decode cX2_looksBy 54 = .ok (.i2l, 1) := by decide +kernel
theorem dX2_looksBy_55 : decode cX2_looksBy 55 = .ok (.ladd, 1) := by decide +kernel
theorem dX2_looksBy_56 : decode cX2_looksBy 56 = .ok (.lconst 1, 1) := by decide +kernel
theorem dX2_looksBy_57 : decode cX2_looksBy 57 = .ok (.ladd, 1) := by decide +kernel
theorem dX2_looksBy_58 : decode cX2_looksBy 58 = .ok (.invokestatic 236, 3) := by decide +kernel
theorem dX2_looksBy_61 : decode cX2_looksBy 61 = .ok (.l2i, 1) := by decide +kernel
theorem dX2_looksBy_62 : decode cX2_looksBy 62 = .ok (.istore 8, 2) := by decide +kernel
theorem dX2_looksBy_64 : decode cX2_looksBy 64 = .ok (.iconst 0, 1) := by decide +kernel
theorem dX2_looksBy_65 : decode cX2_looksBy 65 = .ok (.istore 9, 2) := by decide +kernel
theorem dX2_looksBy_67 : decode cX2_looksBy 67 = .ok (.iload 9, 2) := by decide +kernel
theorem dX2_looksBy_69 : decode cX2_looksBy 69 = .ok (.bipush 64, 2) := by decide +kernel
theorem dX2_looksBy_71 : decode cX2_looksBy 71 = .ok (.if_icmp .ge 51, 3) := by decide +kernel
theorem dX2_looksBy_74 : decode cX2_looksBy 74 = .ok (.iload 7, 2) := by decide +kernel
theorem dX2_looksBy_76 : decode cX2_looksBy 76 = .ok (.iload 8, 2) := by decide +kernel
theorem dX2_looksBy_78 : decode cX2_looksBy 78 = .ok (.if_icmp .ge 44, 3) := by decide +kernel
theorem dX2_looksBy_81 : decode cX2_looksBy 81 = .ok (.iload 7, 2) := by decide +kernel
theorem dX2_looksBy_83 : decode cX2_looksBy 83 = .ok (.iload 8, 2) := by decide +kernel
theorem dX2_looksBy_85 : decode cX2_looksBy 85 = .ok (.iadd, 1) := by decide +kernel
theorem dX2_looksBy_86 : decode cX2_looksBy 86 = .ok (.iconst 2, 1) := by decide +kernel
theorem dX2_looksBy_87 : decode cX2_looksBy 87 = .ok (.idiv, 1) := by decide +kernel
theorem dX2_looksBy_88 : decode cX2_looksBy 88 = .ok (.istore 10, 2) := by decide +kernel
theorem dX2_looksBy_90 : decode cX2_looksBy 90 = .ok (.aload_n 0, 1) := by decide +kernel
theorem dX2_looksBy_91 : decode cX2_looksBy 91 = .ok (.getfield 14, 3) := by decide +kernel
theorem dX2_looksBy_94 : decode cX2_looksBy 94 = .ok (.iload 10, 2) := by decide +kernel
theorem dX2_looksBy_96 : decode cX2_looksBy 96 = .ok (.invokevirtual 134, 3) := by decide +kernel
theorem dX2_looksBy_99 : decode cX2_looksBy 99 = .ok (.iload_n 2, 1) := by decide +kernel
theorem dX2_looksBy_100 : decode cX2_looksBy 100 = .ok (.if_icmp .ge 12, 3) := by decide +kernel
theorem dX2_looksBy_103 : decode cX2_looksBy 103 = .ok (.iload 10, 2) := by decide +kernel
theorem dX2_looksBy_105 : decode cX2_looksBy 105 = .ok (.iconst 1, 1) := by decide +kernel
theorem dX2_looksBy_106 : decode cX2_looksBy 106 = .ok (.iadd, 1) := by decide +kernel
theorem dX2_looksBy_107 : decode cX2_looksBy 107 = .ok (.istore 7, 2) := by decide +kernel
theorem dX2_looksBy_109 : decode cX2_looksBy 109 = .ok (.goto 7, 3) := by decide +kernel
theorem dX2_looksBy_112 : decode cX2_looksBy 112 = .ok (.iload 10, 2) := by decide +kernel
theorem dX2_looksBy_114 : decode cX2_looksBy 114 = .ok (.istore 8, 2) := by decide +kernel
theorem dX2_looksBy_116 : decode cX2_looksBy 116 = .ok (.iinc 9 1, 3) := by decide +kernel
theorem dX2_looksBy_119 : decode cX2_looksBy 119 = .ok (.goto (-52), 3) := by decide +kernel
theorem dX2_looksBy_122 : decode cX2_looksBy 122 = .ok (.iload 9, 2) := by decide +kernel
theorem dX2_looksBy_124 : decode cX2_looksBy 124 = .ok (.ireturn, 1) := by decide +kernel
set_option maxRecDepth 20000 in
theorem ggX2_alike_X0_at : GoodIn wsX2_alike wsX0_at := goodIn_r _ [7, 8, 9, 10, 11, 6, 12, 13, 29, 30] (by decide +kernel) (by decide +kernel)
set_option maxRecDepth 20000 in
theorem gX2_alike_X0_at : GoodIn wsX2_alike (wsV RX2 134 RX0 yX0_at wsX0_at) := goodIn_app (goodIn_of _ (by decide +kernel)) ggX2_alike_X0_at
theorem dX2_alike_0 : decode cX2_alike 0 = .ok (.aload_n 0, 1) := by decide +kernel
theorem dX2_alike_1 : decode cX2_alike 1 = .ok (.getfield 27, 3) := by decide +kernel
theorem dX2_alike_4 : decode cX2_alike 4 = .ok (.iload_n 1, 1) := by decide +kernel
theorem dX2_alike_5 : decode cX2_alike 5 = .ok (.invokevirtual 134, 3) := by decide +kernel
theorem dX2_alike_8 : decode cX2_alike 8 = .ok (.aload_n 0, 1) := by decide +kernel
theorem dX2_alike_9 : decode cX2_alike 9 = .ok (.getfield 27, 3) := by decide +kernel
theorem dX2_alike_12 : decode cX2_alike 12 = .ok (.iload_n 2, 1) := by decide +kernel
theorem dX2_alike_13 : decode cX2_alike 13 = .ok (.invokevirtual 134, 3) := by decide +kernel
theorem dX2_alike_16 : decode cX2_alike 16 = .ok (.if_icmp .ne 26, 3) := by decide +kernel
theorem dX2_alike_19 : decode cX2_alike 19 = .ok (.aload_n 0, 1) := by decide +kernel
theorem dX2_alike_20 : decode cX2_alike 20 = .ok (.getfield 30, 3) := by decide +kernel
theorem dX2_alike_23 : decode cX2_alike 23 = .ok (.iload_n 1, 1) := by decide +kernel
theorem dX2_alike_24 : decode cX2_alike 24 = .ok (.invokevirtual 134, 3) := by decide +kernel
theorem dX2_alike_27 : decode cX2_alike 27 = .ok (.aload_n 0, 1) := by decide +kernel
theorem dX2_alike_28 : decode cX2_alike 28 = .ok (.getfield 30, 3) := by decide +kernel
theorem dX2_alike_31 : decode cX2_alike 31 = .ok (.iload_n 2, 1) := by decide +kernel
theorem dX2_alike_32 : decode cX2_alike 32 = .ok (.invokevirtual 134, 3) := by decide +kernel
theorem dX2_alike_35 : decode cX2_alike 35 = .ok (.if_icmp .ne 7, 3) := by decide +kernel
theorem dX2_alike_38 : decode cX2_alike 38 = .ok (.iconst 1, 1) := by decide +kernel
theorem dX2_alike_39 : decode cX2_alike 39 = .ok (.goto 4, 3) := by decide +kernel
theorem dX2_alike_42 : decode cX2_alike 42 = .ok (.iconst 0, 1) := by decide +kernel
theorem dX2_alike_43 : decode cX2_alike 43 = .ok (.ireturn, 1) := by decide +kernel
set_option maxRecDepth 20000 in
theorem ggX2_firstAlike_X2_alike : GoodIn wsX2_firstAlike wsX2_alike := goodIn_r _ [5, 6, 7, 8, 9, 10, 11, 12, 13, 14, 15, 16, 17, 18, 19, 20, 21, 22, 23, 24, 25, 26, 27, 28, 29, 30, 31, 32, 33, 34, 35] (by decide +kernel) (by decide +kernel)
set_option maxRecDepth 20000 in
theorem gX2_firstAlike_X2_alike : GoodIn wsX2_firstAlike (wsV RX2 239 RX2 yX2_alike wsX2_alike) := goodIn_app (goodIn_of _ (by decide +kernel)) ggX2_firstAlike_X2_alike
theorem dX2_firstAlike_0 : decode cX2_firstAlike 0 = .ok (.iconst 0, 1) := by decide +kernel
theorem dX2_firstAlike_1 : decode cX2_firstAlike 1 = .ok (.istore_n 2, 1) := by decide +kernel
theorem dX2_firstAlike_2 : decode cX2_firstAlike 2 = .ok (.iload_n 2, 1) := by decide +kernel
theorem dX2_firstAlike_3 : decode cX2_firstAlike 3 = .ok (.iload_n 1, 1) := by decide +kernel
theorem dX2_firstAlike_4 : decode cX2_firstAlike 4 = .ok (.if_icmp .ge 20, 3) := by decide +kernel
theorem dX2_firstAlike_7 : decode cX2_firstAlike 7 = .ok (.aload_n 0, 1) := by decide +kernel
theorem dX2_firstAlike_8 : decode cX2_firstAlike 8 = .ok (.iload_n 1, 1) := by decide +kernel
theorem dX2_firstAlike_9 : decode cX2_firstAlike 9 = .ok (.iload_n 2, 1) := by decide +kernel
theorem dX2_firstAlike_10 : decode cX2_firstAlike 10 = .ok (.invokevirtual 239, 3) := by decide +kernel
theorem dX2_firstAlike_13 : decode cX2_firstAlike 13 = .ok (.ifCond .eq 5, 3) := by decide +kernel
theorem dX2_firstAlike_16 : decode cX2_firstAlike 16 = .ok (.iload_n 2, 1) := by decide +kernel
theorem dX2_firstAlike_17 : decode cX2_firstAlike 17 = .ok (.ireturn, 1) := by decide +kernel
theorem dX2_firstAlike_18 : decode cX2_firstAlike 18 = .ok (.iinc 2 1, 3) := by decide +kernel
theorem dX2_firstAlike_21 : decode cX2_firstAlike 21 = .ok (.goto (-19), 3) := by decide +kernel
theorem dX2_firstAlike_24 : decode cX2_firstAlike 24 = .ok (.iload_n 1, 1) := by decide +kernel
theorem dX2_firstAlike_25 : decode cX2_firstAlike 25 = .ok (.ireturn, 1) := by decide +kernel
set_option maxRecDepth 20000 in
theorem ggX2_alikeFrom_X0_length : GoodIn wsX2_alikeFrom wsX0_length := goodIn_r _ [6, 7, 39, 40] (by decide +kernel) (by decide +kernel)
set_option maxRecDepth 20000 in
theorem gX2_alikeFrom_X0_length : GoodIn wsX2_alikeFrom (wsV RX2 76 RX0 yX0_length wsX0_length) := goodIn_app (goodIn_of _ (by decide +kernel)) ggX2_alikeFrom_X0_length
set_option maxRecDepth 20000 in
theorem ggX2_alikeFrom_X2_alike : GoodIn wsX2_alikeFrom wsX2_alike := goodIn_r _ [12, 13, 14, 15, 16, 17, 5, 18, 19, 20, 21, 22, 23, 7, 24, 25, 26, 27, 28, 29, 30, 31, 32, 33, 34, 35, 36, 37, 38, 39, 40] (by decide +kernel) (by decide +kernel)
set_option maxRecDepth 20000 in
theorem gX2_alikeFrom_X2_alike : GoodIn wsX2_alikeFrom (wsV RX2 239 RX2 yX2_alike wsX2_alike) := goodIn_app (goodIn_of _ (by decide +kernel)) ggX2_alikeFrom_X2_alike
theorem dX2_alikeFrom_0 : decode cX2_alikeFrom 0 = .ok (.iconst 0, 1) := by decide +kernel
theorem dX2_alikeFrom_1 : decode cX2_alikeFrom 1 = .ok (.istore_n 2, 1) := by decide +kernel
theorem dX2_alikeFrom_2 : decode cX2_alikeFrom 2 = .ok (.iload_n 1, 1) := by decide +kernel
theorem dX2_alikeFrom_3 : decode cX2_alikeFrom 3 = .ok (.istore_n 3, 1) := by decide +kernel
theorem dX2_alikeFrom_4 : decode cX2_alikeFrom 4 = .ok (.iload_n 3, 1) := by decide +kernel
theorem dX2_alikeFrom_5 : decode cX2_alikeFrom 5 = .ok (.aload_n 0, 1) := by decide +kernel
theorem dX2_alikeFrom_6 : decode cX2_alikeFrom 6 = .ok (.getfield 24, 3) := by decide +kernel
theorem dX2_alikeFrom_9 : decode cX2_alikeFrom 9 = .ok (.invokevirtual 76, 3) := by decide +kernel
theorem dX2_alikeFrom_12 : decode cX2_alikeFrom 12 = .ok (.if_icmp .ge 21, 3) := by decide +kernel
theorem dX2_alikeFrom_15 : decode cX2_alikeFrom 15 = .ok (.aload_n 0, 1) := by decide +kernel
theorem dX2_alikeFrom_16 : decode cX2_alikeFrom 16 = .ok (.iload_n 1, 1) := by decide +kernel
theorem dX2_alikeFrom_17 : decode cX2_alikeFrom 17 = .ok (.iload_n 3, 1) := by decide +kernel
theorem dX2_alikeFrom_18 : decode cX2_alikeFrom 18 = .ok (.invokevirtual 239, 3) := by decide +kernel
theorem dX2_alikeFrom_21 : decode cX2_alikeFrom 21 = .ok (.ifCond .eq 6, 3) := by decide +kernel
theorem dX2_alikeFrom_24 : decode cX2_alikeFrom 24 = .ok (.iinc 2 1, 3) := by decide +kernel
theorem dX2_alikeFrom_27 : decode cX2_alikeFrom 27 = .ok (.iinc 3 1, 3) := by decide +kernel
theorem dX2_alikeFrom_30 : decode cX2_alikeFrom 30 = .ok (.goto (-26), 3) := by decide +kernel
theorem dX2_alikeFrom_33 : decode cX2_alikeFrom 33 = .ok (.iload_n 2, 1) := by decide +kernel
theorem dX2_alikeFrom_34 : decode cX2_alikeFrom 34 = .ok (.ireturn, 1) := by decide +kernel
set_option maxRecDepth 20000 in
theorem ggX2_mergeAll_X0_clear : GoodIn wsX2_mergeAll wsX0_clear := goodIn_r _ [12, 13, 137, 138] (by decide +kernel) (by decide +kernel)
set_option maxRecDepth 20000 in
theorem gX2_mergeAll_X0_clear : GoodIn wsX2_mergeAll (wsV RX2 215 RX0 yX0_clear wsX0_clear) := goodIn_app (goodIn_of _ (by decide +kernel)) ggX2_mergeAll_X0_clear
set_option maxRecDepth 20000 in
theorem ggX2_mergeAll_X0_length : GoodIn wsX2_mergeAll wsX0_length := goodIn_r _ [17, 13, 137, 138] (by decide +kernel) (by decide +kernel)
set_option maxRecDepth 20000 in
theorem gX2_mergeAll_X0_length : GoodIn wsX2_mergeAll (wsV RX2 76 RX0 yX0_length wsX0_length) := goodIn_app (goodIn_of _ (by decide +kernel)) ggX2_mergeAll_X0_length
set_option maxRecDepth 20000 in
theorem ggX2_mergeAll_X2_gather : GoodIn wsX2_mergeAll wsX2_gather := goodIn_r _ [22, 5, 4, 1, 6, 23, 24, 25, 11, 26, 27, 28, 29, 30, 31, 13, 32, 33, 34, 35, 122, 123, 124, 125, 126, 127, 128, 129, 130, 131, 132, 133, 134, 135, 136, 137, 138] (by decide +kernel) (by decide +kernel)
set_option maxRecDepth 20000 in
theorem gX2_mergeAll_X2_gather : GoodIn wsX2_mergeAll (wsV RX2 242 RX2 yX2_gather wsX2_gather) := goodIn_app (goodIn_of _ (by decide +kernel)) ggX2_mergeAll_X2_gather
set_option maxRecDepth 20000 in
theorem ggX2_mergeAll_X2_cutFresh : GoodIn wsX2_mergeAll wsX2_cutFresh := goodIn_r _ [39, 1, 40, 41, 2, 42, 14, 15, 16, 11, 17, 13, 23, 24, 25, 26, 27, 28, 29, 30, 31, 43, 44, 45, 46, 47, 48, 49, 50, 51, 52, 53, 54, 55, 56, 57, 58, 59, 32, 33, 34, 35, 122, 123, 124, 125, 126, 127, 128, 129, 130, 131, 132, 133, 134, 135, 136, 137, 138, 139, 140, 141, 142, 143, 144, 145] (by decide +kernel) (by decide +kernel)
set_option maxRecDepth 20000 in
theorem gX2_mergeAll_X2_cutFresh : GoodIn wsX2_mergeAll (wsV RX2 246 RX2 yX2_cutFresh wsX2_cutFresh) := goodIn_app (goodIn_of _ (by decide +kernel)) ggX2_mergeAll_X2_cutFresh
set_option maxRecDepth 20000 in
theorem ggX2_mergeAll_X2_mergePiece : GoodIn wsX2_mergeAll wsX2_mergePiece := goodIn_r _ [63, 4, 3, 1, 2, 64, 65, 66, 21, 67, 5, 23, 24, 25, 11, 26, 27, 28, 29, 30, 31, 13, 68, 69, 70, 71, 72, 73, 14, 15, 16, 17, 74, 75, 76, 77, 18, 19, 20, 22, 6, 32, 33, 34, 35, 36, 37, 38, 39, 40, 41, 42, 43, 44, 45, 46, 47, 48, 49, 50, 51, 52, 53, 54, 55, 56, 57, 58, 59, 122, 123, 124, 125, 126, 127, 128, 129, 130, 131, 132, 133, 134, 135, 136, 137, 138, 139, 140, 141, 142, 143, 144, 145] (by decide +kernel) (by decide +kernel)
set_option maxRecDepth 20000 in
theorem gX2_mergeAll_X2_mergePiece : GoodIn wsX2_mergeAll (wsV RX2 249 RX2 yX2_mergePiece wsX2_mergePiece) := goodIn_app (goodIn_of _ (by decide +kernel)) ggX2_mergeAll_X2_mergePiece
set_option maxRecDepth 20000 in
theorem ggX2_mergeAll_X2_clearRow : GoodIn wsX2_mergeAll wsX2_clearRow := goodIn_r _ [81, 5, 6, 82, 4, 8, 9, 10, 11, 12, 13, 83, 84, 85, 21, 86, 3, 87, 88, 122, 123, 124, 125, 126, 127, 128, 129, 130, 131, 132, 133, 134, 135, 136, 137, 138] (by decide +kernel) (by decide +kernel)
set_option maxRecDepth 20000 in
theorem gX2_mergeAll_X2_clearRow : GoodIn wsX2_mergeAll (wsV RX2 131 RX2 yX2_clearRow wsX2_clearRow) := goodIn_app (goodIn_of _ (by decide +kernel)) ggX2_mergeAll_X2_clearRow
set_option maxRecDepth 20000 in
theorem ggX2_mergeAll_X0_at : GoodIn wsX2_mergeAll wsX0_at := goodIn_r _ [26, 27, 28, 29, 30, 11, 31, 13, 137, 138] (by decide +kernel) (by decide +kernel)
set_option maxRecDepth 20000 in
theorem gX2_mergeAll_X0_at : GoodIn wsX2_mergeAll (wsV RX2 134 RX0 yX0_at wsX0_at) := goodIn_app (goodIn_of _ (by decide +kernel)) ggX2_mergeAll_X0_at
set_option maxRecDepth 20000 in
theorem ggX2_mergeAll_X0_push : GoodIn wsX2_mergeAll wsX0_push := goodIn_r _ [35, 13, 27, 137, 138] (by decide +kernel) (by decide +kernel)
set_option maxRecDepth 20000 in
theorem gX2_mergeAll_X0_push : GoodIn wsX2_mergeAll (wsV RX2 199 RX0 yX0_push wsX0_push) := goodIn_app (goodIn_of _ (by decide +kernel)) ggX2_mergeAll_X0_push
set_option maxRecDepth 20000 in
theorem ggX2_mergeAll_X2_joinFresh : GoodIn wsX2_mergeAll wsX2_joinFresh := goodIn_r _ [92, 2, 5, 93, 14, 15, 16, 11, 17, 13, 23, 24, 25, 26, 27, 28, 29, 30, 31, 73, 94, 95, 96, 21, 97, 40, 43, 44, 45, 46, 47, 48, 49, 50, 51, 52, 53, 54, 55, 98, 99, 100, 101, 41, 3, 87, 88, 56, 57, 58, 59, 32, 33, 34, 35, 102, 103, 104, 105, 106, 107, 108, 109, 110, 111, 112, 113, 114, 115, 116, 117, 118, 119, 120, 121, 122, 123, 124, 125, 126, 127, 128, 129, 130, 131, 132, 133, 134, 135, 136, 137, 138, 139, 140, 141, 142, 143, 144, 145] (by decide +kernel) (by decide +kernel)
set_option maxRecDepth 20000 in
theorem gX2_mergeAll_X2_joinFresh : GoodIn wsX2_mergeAll (wsV RX2 252 RX2 yX2_joinFresh wsX2_joinFresh) := goodIn_app (goodIn_of _ (by decide +kernel)) ggX2_mergeAll_X2_joinFresh
theorem dX2_mergeAll_0 : decode cX2_mergeAll 0 = .ok (.aload_n 0, 1) := by decide +kernel
theorem dX2_mergeAll_1 : decode cX2_mergeAll 1 = .ok (.getfield 40, 3) := by decide +kernel
theorem dX2_mergeAll_4 : decode cX2_mergeAll 4 = .ok (.invokevirtual 215, 3) := by decide +kernel
theorem dX2_mergeAll_7 : decode cX2_mergeAll 7 = .ok (.aload_n 0, 1) := by decide +kernel
theorem dX2_mergeAll_8 : decode cX2_mergeAll 8 = .ok (.getfield 43, 3) := by decide +kernel
theorem dX2_mergeAll_11 : decode cX2_mergeAll 11 = .ok (.invokevirtual 215, 3) := by decide +kernel
theorem dX2_mergeAll_14 : decode cX2_mergeAll 14 = .ok (.aload_n 0, 1) := by decide +kernel
theorem dX2_mergeAll_15 : decode cX2_mergeAll 15 = .ok (.getfield 24, 3) := by decide +kernel
theorem dX2_mergeAll_18 : decode cX2_mergeAll 18 = .ok (.invokevirtual 76, 3) := by decide +kernel
theorem dX2_mergeAll_21 : decode cX2_mergeAll 21 = .ok (.ifCond .ne 23, 3) := by decide +kernel
theorem dX2_mergeAll_24 : decode cX2_mergeAll 24 = .ok (.aload_n 0, 1) := by decide +kernel
theorem dX2_mergeAll_25 : decode cX2_mergeAll 25 = .ok (.iconst 0, 1) := by decide +kernel
theorem dX2_mergeAll_26 : decode cX2_mergeAll 26 = .ok (.iconst 0, 1) := by decide +kernel
theorem dX2_mergeAll_27 : decode cX2_mergeAll 27 = .ok (.iconst 0, 1) := by decide +kernel
theorem dX2_mergeAll_28 : decode cX2_mergeAll 28 = .ok (.aload_n 0, 1) := by decide +kernel
theorem dX2_mergeAll_29 : decode cX2_mergeAll 29 = .ok (.getfield 21, 3) := by decide +kernel
theorem dX2_mergeAll_32 : decode cX2_mergeAll 32 = .ok (.invokevirtual 76, 3) := by decide +kernel
theorem dX2_mergeAll_35 : decode cX2_mergeAll 35 = .ok (.invokevirtual 242, 3) := by decide +kernel
theorem dX2_mergeAll_38 : decode cX2_mergeAll 38 = .ok (.pop, 1) := by decide +kernel
theorem dX2_mergeAll_39 : decode cX2_mergeAll 39 = .ok (.aload_n 0, 1) := by decide +kernel
theorem dX2_mergeAll_40 : decode cX2_mergeAll 40 = .ok (.iconst 0, 1) := by decide +kernel
theorem dX2_mergeAll_41 : decode cX2_mergeAll 41 = .ok (.invokevirtual 246, 3) := by decide +kernel
theorem dX2_mergeAll_44 : decode cX2_mergeAll 44 = .ok (.iconst 0, 1) := by decide +kernel
theorem dX2_mergeAll_45 : decode cX2_mergeAll 45 = .ok (.istore_n 1, 1) := by decide +kernel
theorem dX2_mergeAll_46 : decode cX2_mergeAll 46 = .ok (.iload_n 1, 1) := by decide +kernel
theorem dX2_mergeAll_47 : decode cX2_mergeAll 47 = .ok (.aload_n 0, 1) := by decide +kernel
theorem dX2_mergeAll_48 : decode cX2_mergeAll 48 = .ok (.getfield 24, 3) := by decide +kernel
theorem dX2_mergeAll_51 : decode cX2_mergeAll 51 = .ok (.invokevirtual 76, 3) := by decide +kernel
theorem dX2_mergeAll_54 : decode cX2_mergeAll 54 = .ok (.if_icmp .ge 14, 3) := by decide +kernel
theorem dX2_mergeAll_57 : decode cX2_mergeAll 57 = .ok (.aload_n 0, 1) := by decide +kernel
theorem dX2_mergeAll_58 : decode cX2_mergeAll 58 = .ok (.iload_n 1, 1) := by decide +kernel
theorem dX2_mergeAll_59 : decode cX2_mergeAll 59 = .ok (.invokevirtual 249, 3) := by decide +kernel
theorem dX2_mergeAll_62 : decode cX2_mergeAll 62 = .ok (.iinc 1 1, 3) := by decide +kernel
theorem dX2_mergeAll_65 : decode cX2_mergeAll 65 = .ok (.goto (-19), 3) := by decide +kernel
theorem dX2_mergeAll_68 : decode cX2_mergeAll 68 = .ok (.aload_n 0, 1) := by decide +kernel
theorem dX2_mergeAll_69 : decode cX2_mergeAll 69 = .ok (.invokevirtual 131, 3) := by decide +kernel
theorem dX2_mergeAll_72 : decode cX2_mergeAll 72 = .ok (.iconst 0, 1) := by decide +kernel
theorem dX2_mergeAll_73 : decode cX2_mergeAll 73 = .ok (.istore_n 1, 1) := by decide +kernel
theorem dX2_mergeAll_74 : decode cX2_mergeAll 74 = .ok (.iload_n 1, 1) := by decide +kernel
theorem dX2_mergeAll_75 : decode cX2_mergeAll 75 = .ok (.aload_n 0, 1) := by decide +kernel
theorem dX2_mergeAll_76 : decode cX2_mergeAll 76 = .ok (.getfield 40, 3) := by decide +kernel
theorem dX2_mergeAll_79 : decode cX2_mergeAll 79 = .ok (.invokevirtual 76, 3) := by decide +kernel
theorem dX2_mergeAll_82 : decode cX2_mergeAll 82 = .ok (.if_icmp .ge 32, 3) := by decide +kernel
theorem dX2_mergeAll_85 : decode cX2_mergeAll 85 = .ok (.aload_n 0, 1) := by decide +kernel
theorem dX2_mergeAll_86 : decode cX2_mergeAll 86 = .ok (.getfield 14, 3) := by decide +kernel
theorem dX2_mergeAll_89 : decode cX2_mergeAll 89 = .ok (.aload_n 0, 1) := by decide +kernel
theorem dX2_mergeAll_90 : decode cX2_mergeAll 90 = .ok (.getfield 40, 3) := by decide +kernel
theorem dX2_mergeAll_93 : decode cX2_mergeAll 93 = .ok (.iload_n 1, 1) := by decide +kernel
theorem dX2_mergeAll_94 : decode cX2_mergeAll 94 = .ok (.invokevirtual 134, 3) := by decide +kernel
theorem dX2_mergeAll_97 : decode cX2_mergeAll 97 = .ok (.invokevirtual 199, 3) := by decide +kernel
theorem dX2_mergeAll_100 : decode cX2_mergeAll 100 = .ok (.aload_n 0, 1) := by decide +kernel
theorem dX2_mergeAll_101 : decode cX2_mergeAll 101 = .ok (.getfield 18, 3) := by decide +kernel
theorem dX2_mergeAll_104 : decode cX2_mergeAll 104 = .ok (.iconst 0, 1) := by decide +kernel
theorem dX2_mergeAll_105 : decode cX2_mergeAll 105 = .ok (.invokevirtual 199, 3) := by decide +kernel
theorem dX2_mergeAll_108 : decode cX2_mergeAll 108 = .ok (.iinc 1 1, 3) := by decide +kernel
theorem dX2_mergeAll_111 : decode cX2_mergeAll 111 = .ok (.goto (-37), 3) := by decide +kernel
theorem dX2_mergeAll_114 : decode cX2_mergeAll 114 = .ok (.aload_n 0, 1) := by decide +kernel
theorem dX2_mergeAll_115 : decode cX2_mergeAll 115 = .ok (.invokevirtual 252, 3) := by decide +kernel
theorem dX2_mergeAll_118 : decode cX2_mergeAll 118 = .ok (.aload_n 0, 1) := by decide +kernel
theorem dX2_mergeAll_119 : decode cX2_mergeAll 119 = .ok (.dup, 1) := by decide +kernel
theorem dX2_mergeAll_120 : decode cX2_mergeAll 120 = .ok (.getfield 56, 3) := by decide +kernel
theorem dX2_mergeAll_123 : decode cX2_mergeAll 123 = .ok (.iconst 1, 1) := by decide +kernel
theorem dX2_mergeAll_124 : decode cX2_mergeAll 124 = .ok (.iadd, 1) := by decide +kernel
theorem dX2_mergeAll_125 : decode cX2_mergeAll 125 = .ok (.putfield 56, 3) := by decide +kernel
theorem dX2_mergeAll_128 : decode cX2_mergeAll 128 = .ok (.return_, 1) := by decide +kernel
set_option maxRecDepth 20000 in
theorem ggX2_mergePiece_X2_firstOf : GoodIn wsX2_mergePiece wsX2_firstOf := goodIn_r _ [9, 10, 2, 11, 12, 13, 14, 15, 16, 17, 18, 19, 20, 21, 69, 70, 71, 72, 73, 74, 75, 76, 77, 78, 79, 80, 81, 82, 83, 84, 85] (by decide +kernel) (by decide +kernel)
set_option maxRecDepth 20000 in
theorem gX2_mergePiece_X2_firstOf : GoodIn wsX2_mergePiece (wsV RX2 177 RX2 yX2_firstOf wsX2_firstOf) := goodIn_app (goodIn_of _ (by decide +kernel)) ggX2_mergePiece_X2_firstOf
set_option maxRecDepth 20000 in
theorem ggX2_mergePiece_X0_below : GoodIn wsX2_mergePiece wsX0_below := goodIn_r _ [25, 21, 26, 12, 13, 14, 15, 16, 17, 18, 19, 20, 84, 85] (by decide +kernel) (by decide +kernel)
set_option maxRecDepth 20000 in
theorem gX2_mergePiece_X0_below : GoodIn wsX2_mergePiece (wsV RX2 114 RX0 yX0_below wsX0_below) := goodIn_app (goodIn_of _ (by decide +kernel)) ggX2_mergePiece_X0_below
set_option maxRecDepth 20000 in
theorem ggX2_mergePiece_X0_has : GoodIn wsX2_mergePiece wsX0_has := goodIn_r _ [20, 21, 16, 84, 85] (by decide +kernel) (by decide +kernel)
set_option maxRecDepth 20000 in
theorem gX2_mergePiece_X0_has : GoodIn wsX2_mergePiece (wsV RX2 192 RX0 yX0_has wsX0_has) := goodIn_app (goodIn_of _ (by decide +kernel)) ggX2_mergePiece_X0_has
set_option maxRecDepth 20000 in
theorem ggX2_mergePiece_X0_length : GoodIn wsX2_mergePiece wsX0_length := goodIn_r _ [31, 21, 84, 85] (by decide +kernel) (by decide +kernel)
set_option maxRecDepth 20000 in
theorem gX2_mergePiece_X0_length : GoodIn wsX2_mergePiece (wsV RX2 76 RX0 yX0_length wsX0_length) := goodIn_app (goodIn_of _ (by decide +kernel)) ggX2_mergePiece_X0_length
set_option maxRecDepth 20000 in
theorem ggX2_mergePiece_X0_at : GoodIn wsX2_mergePiece wsX0_at := goodIn_r _ [15, 16, 17, 18, 19, 14, 20, 21, 84, 85] (by decide +kernel) (by decide +kernel)
set_option maxRecDepth 20000 in
theorem gX2_mergePiece_X0_at : GoodIn wsX2_mergePiece (wsV RX2 134 RX0 yX0_at wsX0_at) := goodIn_app (goodIn_of _ (by decide +kernel)) ggX2_mergePiece_X0_at
set_option maxRecDepth 20000 in
theorem ggX2_mergePiece_X2_endOf : GoodIn wsX2_mergePiece wsX2_endOf := goodIn_r _ [35, 2, 10, 27, 18, 19, 14, 20, 21, 16, 11, 12, 13, 15, 17, 28, 29, 30, 31, 69, 70, 71, 72, 73, 74, 75, 76, 77, 78, 79, 80, 81, 82, 83, 84, 85] (by decide +kernel) (by decide +kernel)
set_option maxRecDepth 20000 in
theorem gX2_mergePiece_X2_endOf : GoodIn wsX2_mergePiece (wsV RX2 161 RX2 yX2_endOf wsX2_endOf) := goodIn_app (goodIn_of _ (by decide +kernel)) ggX2_mergePiece_X2_endOf
set_option maxRecDepth 20000 in
theorem ggX2_mergePiece_X2_gather : GoodIn wsX2_mergePiece wsX2_gather := goodIn_r _ [39, 10, 1, 3, 40, 11, 12, 13, 14, 15, 16, 17, 18, 19, 20, 21, 41, 42, 43, 44, 69, 70, 71, 72, 73, 74, 75, 76, 77, 78, 79, 80, 81, 82, 83, 84, 85] (by decide +kernel) (by decide +kernel)
set_option maxRecDepth 20000 in
theorem gX2_mergePiece_X2_gather : GoodIn wsX2_mergePiece (wsV RX2 242 RX2 yX2_gather wsX2_gather) := goodIn_app (goodIn_of _ (by decide +kernel)) ggX2_mergePiece_X2_gather
set_option maxRecDepth 20000 in
theorem ggX2_mergePiece_X2_cutFresh : GoodIn wsX2_mergePiece wsX2_cutFresh := goodIn_r _ [48, 3, 49, 50, 4, 51, 28, 29, 30, 14, 31, 21, 11, 12, 13, 15, 16, 17, 18, 19, 20, 52, 53, 54, 55, 56, 57, 58, 59, 60, 61, 62, 63, 64, 65, 66, 67, 68, 41, 42, 43, 44, 69, 70, 71, 72, 73, 74, 75, 76, 77, 78, 79, 80, 81, 82, 83, 84, 85, 86, 87, 88, 89, 90, 91, 92] (by decide +kernel) (by decide +kernel)
set_option maxRecDepth 20000 in
theorem gX2_mergePiece_X2_cutFresh : GoodIn wsX2_mergePiece (wsV RX2 246 RX2 yX2_cutFresh wsX2_cutFresh) := goodIn_app (goodIn_of _ (by decide +kernel)) ggX2_mergePiece_X2_cutFresh
set_option maxRecDepth 20000 in
theorem ggX2_mergePiece_X0_push : GoodIn wsX2_mergePiece wsX0_push := goodIn_r _ [44, 21, 16, 84, 85] (by decide +kernel) (by decide +kernel)
set_option maxRecDepth 20000 in
theorem gX2_mergePiece_X0_push : GoodIn wsX2_mergePiece (wsV RX2 199 RX0 yX0_push wsX0_push) := goodIn_app (goodIn_of _ (by decide +kernel)) ggX2_mergePiece_X0_push
theorem dX2_mergePiece_0 : decode cX2_mergePiece 0 = .ok (.iload_n 1, 1) := by decide +kernel
theorem dX2_mergePiece_1 : decode cX2_mergePiece 1 = .ok (.ifCond .ne 7, 3) := by decide +kernel
theorem dX2_mergePiece_4 : decode cX2_mergePiece 4 = .ok (.iconst 0, 1) := by decide +kernel
theorem dX2_mergePiece_5 : decode cX2_mergePiece 5 = .ok (.goto 15, 3) := by decide +kernel
theorem dX2_mergePiece_8 : decode cX2_mergePiece 8 = .ok (.aload_n 0, 1) := by decide +kernel
theorem dX2_mergePiece_9 : decode cX2_mergePiece 9 = .ok (.getfield 21, 3) := by decide +kernel
theorem dX2_mergePiece_12 : decode cX2_mergePiece 12 = .ok (.aload_n 0, 1) := by decide +kernel
theorem dX2_mergePiece_13 : decode cX2_mergePiece 13 = .ok (.iload_n 1, 1) := by decide +kernel
theorem dX2_mergePiece_14 : decode cX2_mergePiece 14 = .ok (.invokevirtual 177, 3) := by decide +kernel
theorem dX2_mergePiece_17 : decode cX2_mergePiece 17 = .ok (.invokevirtual 114, 3) := by decide +kernel
theorem dX2_mergePiece_20 : decode cX2_mergePiece 20 = .ok (.istore_n 2, 1) := by decide +kernel
theorem dX2_mergePiece_21 : decode cX2_mergePiece 21 = .ok (.aload_n 0, 1) := by decide +kernel
theorem dX2_mergePiece_22 : decode cX2_mergePiece 22 = .ok (.getfield 24, 3) := by decide +kernel
theorem dX2_mergePiece_25 : decode cX2_mergePiece 25 = .ok (.iload_n 1, 1) := by decide +kernel
theorem dX2_mergePiece_26 : decode cX2_mergePiece 26 = .ok (.iconst 1, 1) := by decide +kernel
theorem dX2_mergePiece_27 : decode cX2_mergePiece 27 = .ok (.iadd, 1) := by decide +kernel
theorem dX2_mergePiece_28 : decode cX2_mergePiece 28 = .ok (.invokevirtual 192, 3) := by decide +kernel
theorem dX2_mergePiece_31 : decode cX2_mergePiece 31 = .ok (.ifCond .eq 20, 3) := by decide +kernel
theorem dX2_mergePiece_34 : decode cX2_mergePiece 34 = .ok (.aload_n 0, 1) := by decide +kernel
theorem dX2_mergePiece_35 : decode cX2_mergePiece 35 = .ok (.getfield 21, 3) := by decide +kernel
theorem dX2_mergePiece_38 : decode cX2_mergePiece 38 = .ok (.aload_n 0, 1) := by decide +kernel
theorem dX2_mergePiece_39 : decode cX2_mergePiece 39 = .ok (.iload_n 1, 1) := by decide +kernel
theorem dX2_mergePiece_40 : decode cX2_mergePiece 40 = .ok (.iconst 1, 1) := by decide +kernel
theorem dX2_mergePiece_41 : decode cX2_mergePiece 41 = .ok (.iadd, 1) := by decide +kernel
theorem dX2_mergePiece_42 : decode cX2_mergePiece 42 = .ok (.invokevirtual 177, 3) := by decide +kernel
theorem dX2_mergePiece_45 : decode cX2_mergePiece 45 = .ok (.invokevirtual 114, 3) := by decide +kernel
theorem dX2_mergePiece_48 : decode cX2_mergePiece 48 = .ok (.goto 10, 3) := by decide +kernel
theorem dX2_mergePiece_51 : decode cX2_mergePiece 51 = .ok (.aload_n 0, 1) := by decide +kernel
theorem dX2_mergePiece_52 : decode cX2_mergePiece 52 = .ok (.getfield 21, 3) := by decide +kernel
theorem dX2_mergePiece_55 : decode cX2_mergePiece 55 = .ok (.invokevirtual 76, 3) := by decide +kernel
theorem dX2_mergePiece_58 : decode cX2_mergePiece 58 = .ok (.istore_n 3, 1) := by decide +kernel
theorem dX2_mergePiece_59 : decode cX2_mergePiece 59 = .ok (.aload_n 0, 1) := by decide +kernel
theorem dX2_mergePiece_60 : decode cX2_mergePiece 60 = .ok (.getfield 40, 3) := by decide +kernel
theorem dX2_mergePiece_63 : decode cX2_mergePiece 63 = .ok (.invokevirtual 76, 3) := by decide +kernel
theorem dX2_mergePiece_66 : decode cX2_mergePiece 66 = .ok (.istore 4, 2) := by decide +kernel
theorem dX2_mergePiece_68 : decode cX2_mergePiece 68 = .ok (.aload_n 0, 1) := by decide +kernel
theorem dX2_mergePiece_69 : decode cX2_mergePiece 69 = .ok (.aload_n 0, 1) := by decide +kernel
theorem dX2_mergePiece_70 : decode cX2_mergePiece 70 = .ok (.getfield 24, 3) := by decide +kernel
theorem dX2_mergePiece_73 : decode cX2_mergePiece 73 = .ok (.iload_n 1, 1) := by decide +kernel
theorem dX2_mergePiece_74 : decode cX2_mergePiece 74 = .ok (.invokevirtual 134, 3) := by decide +kernel
theorem dX2_mergePiece_77 : decode cX2_mergePiece 77 = .ok (.aload_n 0, 1) := by decide +kernel
theorem dX2_mergePiece_78 : decode cX2_mergePiece 78 = .ok (.iload_n 1, 1) := by decide +kernel
theorem dX2_mergePiece_79 : decode cX2_mergePiece 79 = .ok (.invokevirtual 161, 3) := by decide +kernel
theorem dX2_mergePiece_82 : decode cX2_mergePiece 82 = .ok (.iload_n 2, 1) := by decide +kernel
theorem dX2_mergePiece_83 : decode cX2_mergePiece 83 = .ok (.iload_n 3, 1) := by decide +kernel
theorem dX2_mergePiece_84 : decode cX2_mergePiece 84 = .ok (.invokevirtual 242, 3) := by decide +kernel
theorem dX2_mergePiece_87 : decode cX2_mergePiece 87 = .ok (.istore 5, 2) := by decide +kernel
theorem dX2_mergePiece_89 : decode cX2_mergePiece 89 = .ok (.iload 5, 2) := by decide +kernel
theorem dX2_mergePiece_91 : decode cX2_mergePiece 91 = .ok (.ifCond .ne 8, 3) := by decide +kernel
theorem dX2_mergePiece_94 : decode cX2_mergePiece 94 = .ok (.iload_n 2, 1) := by decide +kernel
theorem dX2_mergePiece_95 : decode cX2_mergePiece 95 = .ok (.iload_n 3, 1) := by decide +kernel
theorem dX2_mergePiece_96 : decode cX2_mergePiece 96 = .ok (.if_icmp .ge 12, 3) := by decide +kernel
theorem dX2_mergePiece_99 : decode cX2_mergePiece 99 = .ok (.aload_n 0, 1) := by decide +kernel
theorem dX2_mergePiece_100 : decode cX2_mergePiece 100 = .ok (.iload 4, 2) := by decide +kernel
theorem dX2_mergePiece_102 : decode cX2_mergePiece 102 = .ok (.invokevirtual 246, 3) := by decide +kernel
theorem dX2_mergePiece_105 : decode cX2_mergePiece 105 = .ok (.goto 12, 3) := by decide +kernel
theorem dX2_mergePiece_108 : decode cX2_mergePiece 108 = .ok (.aload_n 0, 1) := by decide +kernel
theorem dX2_mergePiece_109 : decode cX2_mergePiece 109 = .ok (.getfield 43, 3) := by decide +kernel
theorem dX2_mergePiece_112 : decode cX2_mergePiece 112 = .ok (.iload 4, 2) := by decide +kernel
theorem dX2_mergePiece_114 : decode cX2_mergePiece 114 = .ok (.invokevirtual 199, 3) := by decide +kernel
theorem dX2_mergePiece_117 : decode cX2_mergePiece 117 = .ok (.return_, 1) := by decide +kernel
set_option maxRecDepth 20000 in
theorem ggX2_gatherAll_X0_clear : GoodIn wsX2_gatherAll wsX0_clear := goodIn_r _ [8, 9, 48, 49] (by decide +kernel) (by decide +kernel)
set_option maxRecDepth 20000 in
theorem gX2_gatherAll_X0_clear : GoodIn wsX2_gatherAll (wsV RX2 215 RX0 yX0_clear wsX0_clear) := goodIn_app (goodIn_of _ (by decide +kernel)) ggX2_gatherAll_X0_clear
set_option maxRecDepth 20000 in
theorem ggX2_gatherAll_X0_length : GoodIn wsX2_gatherAll wsX0_length := goodIn_r _ [13, 9, 48, 49] (by decide +kernel) (by decide +kernel)
set_option maxRecDepth 20000 in
theorem gX2_gatherAll_X0_length : GoodIn wsX2_gatherAll (wsV RX2 76 RX0 yX0_length wsX0_length) := goodIn_app (goodIn_of _ (by decide +kernel)) ggX2_gatherAll_X0_length
set_option maxRecDepth 20000 in
theorem ggX2_gatherAll_X2_gather : GoodIn wsX2_gatherAll wsX2_gather := goodIn_r _ [18, 2, 3, 1, 19, 20, 21, 22, 7, 23, 24, 25, 26, 27, 28, 9, 29, 30, 31, 32, 33, 34, 35, 36, 37, 38, 39, 40, 41, 42, 43, 44, 45, 46, 47, 48, 49] (by decide +kernel) (by decide +kernel)
set_option maxRecDepth 20000 in
theorem gX2_gatherAll_X2_gather : GoodIn wsX2_gatherAll (wsV RX2 242 RX2 yX2_gather wsX2_gather) := goodIn_app (goodIn_of _ (by decide +kernel)) ggX2_gatherAll_X2_gather
theorem dX2_gatherAll_0 : decode cX2_gatherAll 0 = .ok (.aload_n 0, 1) := by decide +kernel
theorem dX2_gatherAll_1 : decode cX2_gatherAll 1 = .ok (.getfield 40, 3) := by decide +kernel
theorem dX2_gatherAll_4 : decode cX2_gatherAll 4 = .ok (.invokevirtual 215, 3) := by decide +kernel
theorem dX2_gatherAll_7 : decode cX2_gatherAll 7 = .ok (.aload_n 0, 1) := by decide +kernel
theorem dX2_gatherAll_8 : decode cX2_gatherAll 8 = .ok (.iconst 0, 1) := by decide +kernel
theorem dX2_gatherAll_9 : decode cX2_gatherAll 9 = .ok (.aload_n 0, 1) := by decide +kernel
theorem dX2_gatherAll_10 : decode cX2_gatherAll 10 = .ok (.getfield 14, 3) := by decide +kernel
theorem dX2_gatherAll_13 : decode cX2_gatherAll 13 = .ok (.invokevirtual 76, 3) := by decide +kernel
theorem dX2_gatherAll_16 : decode cX2_gatherAll 16 = .ok (.iconst 0, 1) := by decide +kernel
theorem dX2_gatherAll_17 : decode cX2_gatherAll 17 = .ok (.aload_n 0, 1) := by decide +kernel
theorem dX2_gatherAll_18 : decode cX2_gatherAll 18 = .ok (.getfield 21, 3) := by decide +kernel
theorem dX2_gatherAll_21 : decode cX2_gatherAll 21 = .ok (.invokevirtual 76, 3) := by decide +kernel
theorem dX2_gatherAll_24 : decode cX2_gatherAll 24 = .ok (.invokevirtual 242, 3) := by decide +kernel
theorem dX2_gatherAll_27 : decode cX2_gatherAll 27 = .ok (.pop, 1) := by decide +kernel
theorem dX2_gatherAll_28 : decode cX2_gatherAll 28 = .ok (.return_, 1) := by decide +kernel
set_option maxRecDepth 20000 in
theorem ggX2_gather_X0_at : GoodIn wsX2_gather wsX0_at := goodIn_r _ [9, 10, 11, 12, 13, 8, 14, 15, 35, 36] (by decide +kernel) (by decide +kernel)
set_option maxRecDepth 20000 in
theorem gX2_gather_X0_at : GoodIn wsX2_gather (wsV RX2 134 RX0 yX0_at wsX0_at) := goodIn_app (goodIn_of _ (by decide +kernel)) ggX2_gather_X0_at
set_option maxRecDepth 20000 in
theorem ggX2_gather_X0_push : GoodIn wsX2_gather wsX0_push := goodIn_r _ [19, 15, 10, 35, 36] (by decide +kernel) (by decide +kernel)
set_option maxRecDepth 20000 in
theorem gX2_gather_X0_push : GoodIn wsX2_gather (wsV RX2 199 RX0 yX0_push wsX0_push) := goodIn_app (goodIn_of _ (by decide +kernel)) ggX2_gather_X0_push
theorem dX2_gather_0 : decode cX2_gather 0 = .ok (.iconst 0, 1) := by decide +kernel
theorem dX2_gather_1 : decode cX2_gather 1 = .ok (.istore 5, 2) := by decide +kernel
theorem dX2_gather_3 : decode cX2_gather 3 = .ok (.iload_n 3, 1) := by decide +kernel
theorem dX2_gather_4 : decode cX2_gather 4 = .ok (.istore 6, 2) := by decide +kernel
theorem dX2_gather_6 : decode cX2_gather 6 = .ok (.iload_n 1, 1) := by decide +kernel
theorem dX2_gather_7 : decode cX2_gather 7 = .ok (.istore 7, 2) := by decide +kernel
theorem dX2_gather_9 : decode cX2_gather 9 = .ok (.iload 7, 2) := by decide +kernel
theorem dX2_gather_11 : decode cX2_gather 11 = .ok (.iload_n 2, 1) := by decide +kernel
theorem dX2_gather_12 : decode cX2_gather 12 = .ok (.if_icmp .ge 90, 3) := by decide +kernel
theorem dX2_gather_15 : decode cX2_gather 15 = .ok (.aload_n 0, 1) := by decide +kernel
theorem dX2_gather_16 : decode cX2_gather 16 = .ok (.getfield 14, 3) := by decide +kernel
theorem dX2_gather_19 : decode cX2_gather 19 = .ok (.iload 7, 2) := by decide +kernel
theorem dX2_gather_21 : decode cX2_gather 21 = .ok (.invokevirtual 134, 3) := by decide +kernel
theorem dX2_gather_24 : decode cX2_gather 24 = .ok (.istore 8, 2) := by decide +kernel
theorem dX2_gather_26 : decode cX2_gather 26 = .ok (.iload 6, 2) := by decide +kernel
theorem dX2_gather_28 : decode cX2_gather 28 = .ok (.iload 4, 2) := by decide +kernel
theorem dX2_gather_30 : decode cX2_gather 30 = .ok (.if_icmp .ge 39, 3) := by decide +kernel
theorem dX2_gather_33 : decode cX2_gather 33 = .ok (.aload_n 0, 1) := by decide +kernel
theorem dX2_gather_34 : decode cX2_gather 34 = .ok (.getfield 21, 3) := by decide +kernel
theorem dX2_gather_37 : decode cX2_gather 37 = .ok (.iload 6, 2) := by decide +kernel
theorem dX2_gather_39 : decode cX2_gather 39 = .ok (.invokevirtual 134, 3) := by decide +kernel
theorem dX2_gather_42 : decode cX2_gather 42 = .ok (.iload 8, 2) := by decide +kernel
theorem dX2_gather_44 : decode cX2_gather 44 = .ok (.if_icmp .ge 25, 3) := by decide +kernel
theorem dX2_gather_47 : decode cX2_gather 47 = .ok (.aload_n 0, 1) := by decide +kernel
theorem dX2_gather_48 : decode cX2_gather 48 = .ok (.getfield 40, 3) := by decide +kernel
theorem dX2_gather_51 : decode cX2_gather 51 = .ok (.aload_n 0, 1) := by decide +kernel
theorem dX2_gather_52 : decode cX2_gather 52 = .ok (.getfield 21, 3) := by decide +kernel
theorem dX2_gather_55 : decode cX2_gather 55 = .ok (.iload 6, 2) := by decide +kernel
theorem dX2_gather_57 : decode cX2_gather 57 = .ok (.invokevirtual 134, 3) := by decide +kernel
theorem dX2_gather_60 : decode cX2_gather 60 = .ok (.invokevirtual 199, 3) := by decide +kernel
theorem dX2_gather_63 : decode cX2_gather 63 = .ok (.iinc 6 1, 3) := by decide +kernel
theorem dX2_gather_66 : decode cX2_gather 66 = .ok (.goto (-40), 3) := by decide +kernel
theorem dX2_gather_69 : decode cX2_gather 69 = .ok (.aload_n 0, 1) := by decide +kernel
theorem dX2_gather_70 : decode cX2_gather 70 = .ok (.getfield 18, 3) := by decide +kernel
theorem dX2_gather_73 : decode cX2_gather 73 = .ok (.iload 7, 2) := by decide +kernel
theorem dX2_gather_75 : decode cX2_gather 75 = .ok (.invokevirtual 134, 3) := by decide +kernel
theorem dX2_gather_78 : decode cX2_gather 78 = .ok (.ifCond .ne 15, 3) := by decide +kernel
theorem dX2_gather_81 : decode cX2_gather 81 = .ok (.aload_n 0, 1) := by decide +kernel
theorem dX2_gather_82 : decode cX2_gather 82 = .ok (.getfield 40, 3) := by decide +kernel
theorem dX2_gather_85 : decode cX2_gather 85 = .ok (.iload 8, 2) := by decide +kernel
theorem dX2_gather_87 : decode cX2_gather 87 = .ok (.invokevirtual 199, 3) := by decide +kernel
theorem dX2_gather_90 : decode cX2_gather 90 = .ok (.goto 6, 3) := by decide +kernel
theorem dX2_gather_93 : decode cX2_gather 93 = .ok (.iconst 1, 1) := by decide +kernel
theorem dX2_gather_94 : decode cX2_gather 94 = .ok (.istore 5, 2) := by decide +kernel
theorem dX2_gather_96 : decode cX2_gather 96 = .ok (.iinc 7 1, 3) := by decide +kernel
theorem dX2_gather_99 : decode cX2_gather 99 = .ok (.goto (-90), 3) := by decide +kernel
theorem dX2_gather_102 : decode cX2_gather 102 = .ok (.iload 6, 2) := by decide +kernel
theorem dX2_gather_104 : decode cX2_gather 104 = .ok (.iload 4, 2) := by decide +kernel
theorem dX2_gather_106 : decode cX2_gather 106 = .ok (.if_icmp .ge 25, 3) := by decide +kernel
theorem dX2_gather_109 : decode cX2_gather 109 = .ok (.aload_n 0, 1) := by decide +kernel
theorem dX2_gather_110 : decode cX2_gather 110 = .ok (.getfield 40, 3) := by decide +kernel
theorem dX2_gather_113 : decode cX2_gather 113 = .ok (.aload_n 0, 1) := by decide +kernel
theorem dX2_gather_114 : decode cX2_gather 114 = .ok (.getfield 21, 3) := by decide +kernel
theorem dX2_gather_117 : decode cX2_gather 117 = .ok (.iload 6, 2) := by decide +kernel
theorem dX2_gather_119 : decode cX2_gather 119 = .ok (.invokevirtual 134, 3) := by decide +kernel
theorem dX2_gather_122 : decode cX2_gather 122 = .ok (.invokevirtual 199, 3) := by decide +kernel
theorem dX2_gather_125 : decode cX2_gather 125 = .ok (.iinc 6 1, 3) := by decide +kernel
theorem dX2_gather_128 : decode cX2_gather 128 = .ok (.goto (-26), 3) := by decide +kernel
theorem dX2_gather_131 : decode cX2_gather 131 = .ok (.iload 5, 2) := by decide +kernel
theorem dX2_gather_133 : decode cX2_gather 133 = .ok (.ireturn, 1) := by decide +kernel
set_option maxRecDepth 20000 in
theorem ggX2_cutFresh_X0_length : GoodIn wsX2_cutFresh wsX0_length := goodIn_r _ [10, 11, 57, 58] (by decide +kernel) (by decide +kernel)
set_option maxRecDepth 20000 in
theorem gX2_cutFresh_X0_length : GoodIn wsX2_cutFresh (wsV RX2 76 RX0 yX0_length wsX0_length) := goodIn_app (goodIn_of _ (by decide +kernel)) ggX2_cutFresh_X0_length
set_option maxRecDepth 20000 in
theorem ggX2_cutFresh_X0_at : GoodIn wsX2_cutFresh wsX0_at := goodIn_r _ [15, 16, 17, 18, 19, 9, 20, 11, 57, 58] (by decide +kernel) (by decide +kernel)
set_option maxRecDepth 20000 in
theorem gX2_cutFresh_X0_at : GoodIn wsX2_cutFresh (wsV RX2 134 RX0 yX0_at wsX0_at) := goodIn_app (goodIn_of _ (by decide +kernel)) ggX2_cutFresh_X0_at
set_option maxRecDepth 20000 in
theorem ggX2_cutFresh_X1_take : GoodIn wsX2_cutFresh wsX1_take := goodIn_r _ [25, 26, 27, 28, 29, 30, 31, 32, 33, 59, 60, 61, 62, 63, 64, 65] (by decide +kernel) (by decide +kernel)
set_option maxRecDepth 20000 in
theorem gX2_cutFresh_X1_take : GoodIn wsX2_cutFresh (wsV RX2 202 RX1 yX1_take wsX1_take) := goodIn_app (goodIn_of _ (by decide +kernel)) ggX2_cutFresh_X1_take
set_option maxRecDepth 20000 in
theorem ggX2_cutFresh_X1_begin : GoodIn wsX2_cutFresh wsX1_begin := goodIn_r _ [37, 26, 27, 28, 31, 30, 33, 32, 59, 60, 61, 62, 63, 64, 65] (by decide +kernel) (by decide +kernel)
set_option maxRecDepth 20000 in
theorem gX2_cutFresh_X1_begin : GoodIn wsX2_cutFresh (wsV RX2 221 RX1 yX1_begin wsX1_begin) := goodIn_app (goodIn_of _ (by decide +kernel)) ggX2_cutFresh_X1_begin
set_option maxRecDepth 20000 in
theorem ggX2_cutFresh_X0_push : GoodIn wsX2_cutFresh wsX0_push := goodIn_r _ [41, 11, 16, 57, 58] (by decide +kernel) (by decide +kernel)
set_option maxRecDepth 20000 in
theorem gX2_cutFresh_X0_push : GoodIn wsX2_cutFresh (wsV RX2 199 RX0 yX0_push wsX0_push) := goodIn_app (goodIn_of _ (by decide +kernel)) ggX2_cutFresh_X0_push
theorem dX2_cutFresh_0 : decode cX2_cutFresh 0 = .ok (.iload_n 1, 1) := by decide +kernel
theorem dX2_cutFresh_1 : decode cX2_cutFresh 1 = .ok (.istore_n 2, 1) := by decide +kernel
theorem dX2_cutFresh_2 : decode cX2_cutFresh 2 = .ok (.iload_n 2, 1) := by decide +kernel
theorem dX2_cutFresh_3 : decode cX2_cutFresh 3 = .ok (.aload_n 0, 1) := by decide +kernel
theorem dX2_cutFresh_4 : decode cX2_cutFresh 4 = .ok (.getfield 40, 3) := by decide +kernel
theorem dX2_cutFresh_7 : decode cX2_cutFresh 7 = .ok (.invokevirtual 76, 3) := by decide +kernel
theorem dX2_cutFresh_10 : decode cX2_cutFresh 10 = .ok (.if_icmp .ge 75, 3) := by decide +kernel
theorem dX2_cutFresh_13 : decode cX2_cutFresh 13 = .ok (.aload_n 0, 1) := by decide +kernel
theorem dX2_cutFresh_14 : decode cX2_cutFresh 14 = .ok (.getfield 40, 3) := by decide +kernel
theorem dX2_cutFresh_17 : decode cX2_cutFresh 17 = .ok (.iload_n 2, 1) := by decide +kernel
theorem dX2_cutFresh_18 : decode cX2_cutFresh 18 = .ok (.invokevirtual 134, 3) := by decide +kernel
theorem dX2_cutFresh_21 : decode cX2_cutFresh 21 = .ok (.istore_n 3, 1) := by decide +kernel
theorem dX2_cutFresh_22 : decode cX2_cutFresh 22 = .ok (.iload_n 2, 1) := by decide +kernel
theorem dX2_cutFresh_23 : decode cX2_cutFresh 23 = .ok (.iload_n 1, 1) := by decide +kernel
theorem dX2_cutFresh_24 : decode cX2_cutFresh 24 = .ok (.if_icmp .eq 15, 3) := by decide +kernel
theorem dX2_cutFresh_27 : decode cX2_cutFresh 27 = .ok (.aload_n 0, 1) := by decide +kernel
theorem dX2_cutFresh_28 : decode cX2_cutFresh 28 = .ok (.getfield 36, 3) := by decide +kernel
theorem dX2_cutFresh_31 : decode cX2_cutFresh 31 = .ok (.iload_n 3, 1) := by decide +kernel
theorem dX2_cutFresh_32 : decode cX2_cutFresh 32 = .ok (.iload_n 2, 1) := by decide +kernel
theorem dX2_cutFresh_33 : decode cX2_cutFresh 33 = .ok (.invokevirtual 202, 3) := by decide +kernel
theorem dX2_cutFresh_36 : decode cX2_cutFresh 36 = .ok (.ifCond .ne 43, 3) := by decide +kernel
theorem dX2_cutFresh_39 : decode cX2_cutFresh 39 = .ok (.aload_n 0, 1) := by decide +kernel
theorem dX2_cutFresh_40 : decode cX2_cutFresh 40 = .ok (.getfield 36, 3) := by decide +kernel
theorem dX2_cutFresh_43 : decode cX2_cutFresh 43 = .ok (.iload_n 3, 1) := by decide +kernel
theorem dX2_cutFresh_44 : decode cX2_cutFresh 44 = .ok (.iload_n 2, 1) := by decide +kernel
theorem dX2_cutFresh_45 : decode cX2_cutFresh 45 = .ok (.aload_n 0, 1) := by decide +kernel
theorem dX2_cutFresh_46 : decode cX2_cutFresh 46 = .ok (.getfield 46, 3) := by decide +kernel
theorem dX2_cutFresh_49 : decode cX2_cutFresh 49 = .ok (.invokevirtual 221, 3) := by decide +kernel
theorem dX2_cutFresh_52 : decode cX2_cutFresh 52 = .ok (.aload_n 0, 1) := by decide +kernel
theorem dX2_cutFresh_53 : decode cX2_cutFresh 53 = .ok (.getfield 43, 3) := by decide +kernel
theorem dX2_cutFresh_56 : decode cX2_cutFresh 56 = .ok (.iload_n 2, 1) := by decide +kernel
theorem dX2_cutFresh_57 : decode cX2_cutFresh 57 = .ok (.invokevirtual 199, 3) := by decide +kernel
theorem dX2_cutFresh_60 : decode cX2_cutFresh 60 = .ok (.aload_n 0, 1) := by decide +kernel
theorem dX2_cutFresh_61 : decode cX2_cutFresh 61 = .ok (.dup, 1) := by decide +kernel
theorem dX2_cutFresh_62 : decode cX2_cutFresh 62 = .ok (.getfield 59, 3) := by decide +kernel
theorem dX2_cutFresh_65 : decode cX2_cutFresh 65 = .ok (.iload_n 2, 1) := by decide +kernel
theorem dX2_cutFresh_66 : decode cX2_cutFresh 66 = .ok (.iload_n 1, 1) := by decide +kernel
theorem dX2_cutFresh_67 : decode cX2_cutFresh 67 = .ok (.if_icmp .ne 7, 3) := by decide +kernel
theorem dX2_cutFresh_70 : decode cX2_cutFresh 70 = .ok (.iconst 0, 1) := by decide +kernel
theorem dX2_cutFresh_71 : decode cX2_cutFresh 71 = .ok (.goto 4, 3) := by decide +kernel
theorem dX2_cutFresh_74 : decode cX2_cutFresh 74 = .ok (.iconst 1, 1) := by decide +kernel
theorem dX2_cutFresh_75 : decode cX2_cutFresh 75 = .ok (.iadd, 1) := by decide +kernel
theorem dX2_cutFresh_76 : decode cX2_cutFresh 76 = .ok (.putfield 59, 3) := by decide +kernel
theorem dX2_cutFresh_79 : decode cX2_cutFresh 79 = .ok (.iinc 2 1, 3) := by decide +kernel
theorem dX2_cutFresh_82 : decode cX2_cutFresh 82 = .ok (.goto (-80), 3) := by decide +kernel
theorem dX2_cutFresh_85 : decode cX2_cutFresh 85 = .ok (.return_, 1) := by decide +kernel
set_option maxRecDepth 20000 in
theorem ggX2_joinFresh_X0_length : GoodIn wsX2_joinFresh wsX0_length := goodIn_r _ [8, 9, 90, 91] (by decide +kernel) (by decide +kernel)
set_option maxRecDepth 20000 in
theorem gX2_joinFresh_X0_length : GoodIn wsX2_joinFresh (wsV RX2 76 RX0 yX0_length wsX0_length) := goodIn_app (goodIn_of _ (by decide +kernel)) ggX2_joinFresh_X0_length
set_option maxRecDepth 20000 in
theorem ggX2_joinFresh_X0_at : GoodIn wsX2_joinFresh wsX0_at := goodIn_r _ [13, 14, 15, 16, 17, 7, 18, 9, 90, 91] (by decide +kernel) (by decide +kernel)
set_option maxRecDepth 20000 in
theorem gX2_joinFresh_X0_at : GoodIn wsX2_joinFresh (wsV RX2 134 RX0 yX0_at wsX0_at) := goodIn_app (goodIn_of _ (by decide +kernel)) ggX2_joinFresh_X0_at
set_option maxRecDepth 20000 in
theorem ggX2_joinFresh_X0_has : GoodIn wsX2_joinFresh wsX0_has := goodIn_r _ [18, 9, 14, 90, 91] (by decide +kernel) (by decide +kernel)
set_option maxRecDepth 20000 in
theorem gX2_joinFresh_X0_has : GoodIn wsX2_joinFresh (wsV RX2 192 RX0 yX0_has wsX0_has) := goodIn_app (goodIn_of _ (by decide +kernel)) ggX2_joinFresh_X0_has
set_option maxRecDepth 20000 in
theorem ggX2_joinFresh_X2_tailTakes : GoodIn wsX2_joinFresh wsX2_tailTakes := goodIn_r _ [24, 25, 2, 10, 11, 12, 7, 13, 14, 15, 16, 17, 18, 9, 26, 27, 28, 29, 30, 31, 32, 33, 34, 35, 36, 37, 38, 75, 76, 77, 78, 79, 80, 81, 82, 83, 84, 85, 86, 87, 88, 89, 90, 91, 92, 93, 94, 95, 96, 97, 98] (by decide +kernel) (by decide +kernel)
set_option maxRecDepth 20000 in
theorem gX2_joinFresh_X2_tailTakes : GoodIn wsX2_joinFresh (wsV RX2 255 RX2 yX2_tailTakes wsX2_tailTakes) := goodIn_app (goodIn_of _ (by decide +kernel)) ggX2_joinFresh_X2_tailTakes
set_option maxRecDepth 20000 in
theorem ggX2_joinFresh_X2_beginPiece : GoodIn wsX2_joinFresh wsX2_beginPiece := goodIn_r _ [42, 25, 43, 44, 45, 46, 47, 48, 49, 29, 50, 31, 32, 33, 36, 35, 38, 37, 51, 52, 53, 7, 54, 9, 14, 55, 56, 57, 58, 59, 60, 61, 62, 63, 64, 65, 66, 75, 76, 77, 78, 79, 80, 81, 82, 83, 84, 85, 86, 87, 88, 89, 92, 93, 94, 95, 96, 97, 98, 90, 91] (by decide +kernel) (by decide +kernel)
set_option maxRecDepth 20000 in
theorem gX2_joinFresh_X2_beginPiece : GoodIn wsX2_joinFresh (wsV RX2 209 RX2 yX2_beginPiece wsX2_beginPiece) := goodIn_app (goodIn_of _ (by decide +kernel)) ggX2_joinFresh_X2_beginPiece
set_option maxRecDepth 20000 in
theorem ggX2_joinFresh_X2_noteTailSlope : GoodIn wsX2_joinFresh wsX2_noteTailSlope := goodIn_r _ [70, 44, 45, 25, 46, 4, 5, 6, 7, 8, 9, 55, 56, 57, 29, 58, 36, 59, 60, 61, 62, 35, 71, 72, 73, 74, 14, 15, 16, 17, 18, 63, 64, 65, 66, 75, 76, 77, 78, 79, 80, 81, 82, 83, 84, 85, 86, 87, 88, 89, 90, 91, 92, 93, 94, 95, 96, 97, 98] (by decide +kernel) (by decide +kernel)
set_option maxRecDepth 20000 in
theorem gX2_joinFresh_X2_noteTailSlope : GoodIn wsX2_joinFresh (wsV RX2 206 RX2 yX2_noteTailSlope wsX2_noteTailSlope) := goodIn_app (goodIn_of _ (by decide +kernel)) ggX2_joinFresh_X2_noteTailSlope
theorem dX2_joinFresh_0 : decode cX2_joinFresh 0 = .ok (.iconst 0, 1) := by decide +kernel
theorem dX2_joinFresh_1 : decode cX2_joinFresh 1 = .ok (.istore_n 1, 1) := by decide +kernel
theorem dX2_joinFresh_2 : decode cX2_joinFresh 2 = .ok (.iload_n 1, 1) := by decide +kernel
theorem dX2_joinFresh_3 : decode cX2_joinFresh 3 = .ok (.aload_n 0, 1) := by decide +kernel
theorem dX2_joinFresh_4 : decode cX2_joinFresh 4 = .ok (.getfield 43, 3) := by decide +kernel
theorem dX2_joinFresh_7 : decode cX2_joinFresh 7 = .ok (.invokevirtual 76, 3) := by decide +kernel
theorem dX2_joinFresh_10 : decode cX2_joinFresh 10 = .ok (.if_icmp .ge 104, 3) := by decide +kernel
theorem dX2_joinFresh_13 : decode cX2_joinFresh 13 = .ok (.aload_n 0, 1) := by decide +kernel
theorem dX2_joinFresh_14 : decode cX2_joinFresh 14 = .ok (.getfield 43, 3) := by decide +kernel
theorem dX2_joinFresh_17 : decode cX2_joinFresh 17 = .ok (.iload_n 1, 1) := by decide +kernel
theorem dX2_joinFresh_18 : decode cX2_joinFresh 18 = .ok (.invokevirtual 134, 3) := by decide +kernel
theorem dX2_joinFresh_21 : decode cX2_joinFresh 21 = .ok (.istore_n 2, 1) := by decide +kernel
theorem dX2_joinFresh_22 : decode cX2_joinFresh 22 = .ok (.aload_n 0, 1) := by decide +kernel
theorem dX2_joinFresh_23 : decode cX2_joinFresh 23 = .ok (.getfield 43, 3) := by decide +kernel
theorem dX2_joinFresh_26 : decode cX2_joinFresh 26 = .ok (.iload_n 1, 1) := by decide +kernel
theorem dX2_joinFresh_27 : decode cX2_joinFresh 27 = .ok (.iconst 1, 1) := by decide +kernel
theorem dX2_joinFresh_28 : decode cX2_joinFresh 28 = .ok (.iadd, 1) := by decide +kernel
theorem dX2_joinFresh_29 : decode cX2_joinFresh 29 = .ok (.invokevirtual 192, 3) := by decide +kernel
theorem dX2_joinFresh_32 : decode cX2_joinFresh 32 = .ok (.ifCond .eq 16, 3) := by decide +kernel
theorem dX2_joinFresh_35 : decode cX2_joinFresh 35 = .ok (.aload_n 0, 1) := by decide +kernel
theorem dX2_joinFresh_36 : decode cX2_joinFresh 36 = .ok (.getfield 43, 3) := by decide +kernel
theorem dX2_joinFresh_39 : decode cX2_joinFresh 39 = .ok (.iload_n 1, 1) := by decide +kernel
theorem dX2_joinFresh_40 : decode cX2_joinFresh 40 = .ok (.iconst 1, 1) := by decide +kernel
theorem dX2_joinFresh_41 : decode cX2_joinFresh 41 = .ok (.iadd, 1) := by decide +kernel
theorem dX2_joinFresh_42 : decode cX2_joinFresh 42 = .ok (.invokevirtual 134, 3) := by decide +kernel
theorem dX2_joinFresh_45 : decode cX2_joinFresh 45 = .ok (.goto 10, 3) := by decide +kernel
theorem dX2_joinFresh_48 : decode cX2_joinFresh 48 = .ok (.aload_n 0, 1) := by decide +kernel
theorem dX2_joinFresh_49 : decode cX2_joinFresh 49 = .ok (.getfield 14, 3) := by decide +kernel
theorem dX2_joinFresh_52 : decode cX2_joinFresh 52 = .ok (.invokevirtual 76, 3) := by decide +kernel
theorem dX2_joinFresh_55 : decode cX2_joinFresh 55 = .ok (.istore_n 3, 1) := by decide +kernel
theorem dX2_joinFresh_56 : decode cX2_joinFresh 56 = .ok (.iload_n 1, 1) := by decide +kernel
theorem dX2_joinFresh_57 : decode cX2_joinFresh 57 = .ok (.ifCond .le 25, 3) := by decide +kernel
theorem dX2_joinFresh_60 : decode cX2_joinFresh 60 = .ok (.aload_n 0, 1) := by decide +kernel
theorem dX2_joinFresh_61 : decode cX2_joinFresh 61 = .ok (.iload_n 2, 1) := by decide +kernel
theorem dX2_joinFresh_62 : decode cX2_joinFresh 62 = .ok (.iload_n 3, 1) := by decide +kernel
theorem dX2_joinFresh_63 : decode cX2_joinFresh 63 = .ok (.invokevirtual 255, 3) := by decide +kernel
theorem dX2_joinFresh_66 : decode cX2_joinFresh 66 = .ok (.ifCond .eq 16, 3) := by decide +kernel
theorem dX2_joinFresh_69 : decode cX2_joinFresh 69 = .ok (.aload_n 0, 1) := by decide +kernel
theorem dX2_joinFresh_70 : decode cX2_joinFresh 70 = .ok (.dup, 1) := by decide +kernel
theorem dX2_joinFresh_71 : decode cX2_joinFresh 71 = .ok (.getfield 62, 3) := by decide +kernel
theorem dX2_joinFresh_74 : decode cX2_joinFresh 74 = .ok (.iconst 1, 1) := by decide +kernel
theorem dX2_joinFresh_75 : decode cX2_joinFresh 75 = .ok (.iadd, 1) := by decide +kernel
theorem dX2_joinFresh_76 : decode cX2_joinFresh 76 = .ok (.putfield 62, 3) := by decide +kernel
theorem dX2_joinFresh_79 : decode cX2_joinFresh 79 = .ok (.goto 25, 3) := by decide +kernel
theorem dX2_joinFresh_82 : decode cX2_joinFresh 82 = .ok (.aload_n 0, 1) := by decide +kernel
theorem dX2_joinFresh_83 : decode cX2_joinFresh 83 = .ok (.aload_n 0, 1) := by decide +kernel
theorem dX2_joinFresh_84 : decode cX2_joinFresh 84 = .ok (.getfield 14, 3) := by decide +kernel
theorem dX2_joinFresh_87 : decode cX2_joinFresh 87 = .ok (.iload_n 2, 1) := by decide +kernel
theorem dX2_joinFresh_88 : decode cX2_joinFresh 88 = .ok (.invokevirtual 134, 3) := by decide +kernel
theorem dX2_joinFresh_91 : decode cX2_joinFresh 91 = .ok (.iload_n 2, 1) := by decide +kernel
theorem dX2_joinFresh_92 : decode cX2_joinFresh 92 = .ok (.invokevirtual 209, 3) := by decide +kernel
theorem dX2_joinFresh_95 : decode cX2_joinFresh 95 = .ok (.aload_n 0, 1) := by decide +kernel
theorem dX2_joinFresh_96 : decode cX2_joinFresh 96 = .ok (.iload_n 2, 1) := by decide +kernel
theorem dX2_joinFresh_97 : decode cX2_joinFresh 97 = .ok (.iconst 1, 1) := by decide +kernel
theorem dX2_joinFresh_98 : decode cX2_joinFresh 98 = .ok (.iadd, 1) := by decide +kernel
theorem dX2_joinFresh_99 : decode cX2_joinFresh 99 = .ok (.iload_n 3, 1) := by decide +kernel
theorem dX2_joinFresh_100 : decode cX2_joinFresh 100 = .ok (.invokevirtual 255, 3) := by decide +kernel
theorem dX2_joinFresh_103 : decode cX2_joinFresh 103 = .ok (.pop, 1) := by decide +kernel
theorem dX2_joinFresh_104 : decode cX2_joinFresh 104 = .ok (.aload_n 0, 1) := by decide +kernel
theorem dX2_joinFresh_105 : decode cX2_joinFresh 105 = .ok (.invokevirtual 206, 3) := by decide +kernel
theorem dX2_joinFresh_108 : decode cX2_joinFresh 108 = .ok (.iinc 1 1, 3) := by decide +kernel
theorem dX2_joinFresh_111 : decode cX2_joinFresh 111 = .ok (.goto (-109), 3) := by decide +kernel
theorem dX2_joinFresh_114 : decode cX2_joinFresh 114 = .ok (.return_, 1) := by decide +kernel
set_option maxRecDepth 20000 in
theorem ggX2_tailTakes_X0_at : GoodIn wsX2_tailTakes wsX0_at := goodIn_r _ [7, 8, 9, 10, 11, 6, 12, 13, 42, 43] (by decide +kernel) (by decide +kernel)
set_option maxRecDepth 20000 in
theorem gX2_tailTakes_X0_at : GoodIn wsX2_tailTakes (wsV RX2 134 RX0 yX0_at wsX0_at) := goodIn_app (goodIn_of _ (by decide +kernel)) ggX2_tailTakes_X0_at
set_option maxRecDepth 20000 in
theorem ggX2_tailTakes_X1_take : GoodIn wsX2_tailTakes wsX1_take := goodIn_r _ [18, 19, 20, 21, 22, 23, 24, 25, 26, 44, 45, 46, 47, 48, 49, 50] (by decide +kernel) (by decide +kernel)
set_option maxRecDepth 20000 in
theorem gX2_tailTakes_X1_take : GoodIn wsX2_tailTakes (wsV RX2 202 RX1 yX1_take wsX1_take) := goodIn_app (goodIn_of _ (by decide +kernel)) ggX2_tailTakes_X1_take
theorem dX2_tailTakes_0 : decode cX2_tailTakes 0 = .ok (.iload_n 1, 1) := by decide +kernel
theorem dX2_tailTakes_1 : decode cX2_tailTakes 1 = .ok (.istore_n 3, 1) := by decide +kernel
theorem dX2_tailTakes_2 : decode cX2_tailTakes 2 = .ok (.iload_n 3, 1) := by decide +kernel
theorem dX2_tailTakes_3 : decode cX2_tailTakes 3 = .ok (.iload_n 2, 1) := by decide +kernel
theorem dX2_tailTakes_4 : decode cX2_tailTakes 4 = .ok (.if_icmp .ge 30, 3) := by decide +kernel
theorem dX2_tailTakes_7 : decode cX2_tailTakes 7 = .ok (.aload_n 0, 1) := by decide +kernel
theorem dX2_tailTakes_8 : decode cX2_tailTakes 8 = .ok (.getfield 36, 3) := by decide +kernel
theorem dX2_tailTakes_11 : decode cX2_tailTakes 11 = .ok (.aload_n 0, 1) := by decide +kernel
theorem dX2_tailTakes_12 : decode cX2_tailTakes 12 = .ok (.getfield 14, 3) := by decide +kernel
theorem dX2_tailTakes_15 : decode cX2_tailTakes 15 = .ok (.iload_n 3, 1) := by decide +kernel
theorem dX2_tailTakes_16 : decode cX2_tailTakes 16 = .ok (.invokevirtual 134, 3) := by decide +kernel
theorem dX2_tailTakes_19 : decode cX2_tailTakes 19 = .ok (.iload_n 3, 1) := by decide +kernel
theorem dX2_tailTakes_20 : decode cX2_tailTakes 20 = .ok (.invokevirtual 202, 3) := by decide +kernel
theorem dX2_tailTakes_23 : decode cX2_tailTakes 23 = .ok (.ifCond .ne 5, 3) := by decide +kernel
theorem dX2_tailTakes_26 : decode cX2_tailTakes 26 = .ok (.iconst 0, 1) := by decide +kernel
theorem dX2_tailTakes_27 : decode cX2_tailTakes 27 = .ok (.ireturn, 1) := by decide +kernel
theorem dX2_tailTakes_28 : decode cX2_tailTakes 28 = .ok (.iinc 3 1, 3) := by decide +kernel
theorem dX2_tailTakes_31 : decode cX2_tailTakes 31 = .ok (.goto (-29), 3) := by decide +kernel
theorem dX2_tailTakes_34 : decode cX2_tailTakes 34 = .ok (.iconst 1, 1) := by decide +kernel
theorem dX2_tailTakes_35 : decode cX2_tailTakes 35 = .ok (.ireturn, 1) := by decide +kernel
theorem dX3_init_0 : decode cX3_init 0 = .ok (.aload_n 0, 1) := by decide +kernel
theorem dX3_init_1 : decode cX3_init 1 = .ok (.invokespecial 1, 3) := by decide +kernel
theorem dX3_init_4 : decode cX3_init 4 = .ok (.aload_n 0, 1) := by decide +kernel
theorem dX3_init_5 : decode cX3_init 5 = .ok (.iconst 2, 1) := by decide +kernel
theorem dX3_init_6 : decode cX3_init 6 = .ok (.putfield 7, 3) := by decide +kernel
theorem dX3_init_9 : decode cX3_init 9 = .ok (.aload_n 0, 1) := by decide +kernel
theorem dX3_init_10 : decode cX3_init 10 = .ok (.iconst 4, 1) := by decide +kernel
theorem dX3_init_11 : decode cX3_init 11 = .ok (.putfield 13, 3) := by decide +kernel
theorem dX3_init_14 : decode cX3_init 14 = .ok (.aload_n 0, 1) := by decide +kernel
theorem dX3_init_15 : decode cX3_init 15 = .ok (.sipush 256, 3) := by decide +kernel
theorem dX3_init_18 : decode cX3_init 18 = .ok (.newarray .int, 2) := by decide +kernel
theorem dX3_init_20 : decode cX3_init 20 = .ok (.putfield 16, 3) := by decide +kernel
theorem dX3_init_23 : decode cX3_init 23 = .ok (.aload_n 0, 1) := by decide +kernel
theorem dX3_init_24 : decode cX3_init 24 = .ok (.sipush 256, 3) := by decide +kernel
theorem dX3_init_27 : decode cX3_init 27 = .ok (.newarray .boolean, 2) := by decide +kernel
theorem dX3_init_29 : decode cX3_init 29 = .ok (.putfield 20, 3) := by decide +kernel
theorem dX3_init_32 : decode cX3_init 32 = .ok (.aload_n 0, 1) := by decide +kernel
theorem dX3_init_33 : decode cX3_init 33 = .ok (.sipush 257, 3) := by decide +kernel
theorem dX3_init_36 : decode cX3_init 36 = .ok (.newarray .int, 2) := by decide +kernel
theorem dX3_init_38 : decode cX3_init 38 = .ok (.putfield 24, 3) := by decide +kernel
theorem dX3_init_41 : decode cX3_init 41 = .ok (.aload_n 0, 1) := by decide +kernel
theorem dX3_init_42 : decode cX3_init 42 = .ok (.bipush 16, 2) := by decide +kernel
theorem dX3_init_44 : decode cX3_init 44 = .ok (.newarray .int, 2) := by decide +kernel
theorem dX3_init_46 : decode cX3_init 46 = .ok (.putfield 27, 3) := by decide +kernel
theorem dX3_init_49 : decode cX3_init 49 = .ok (.aload_n 0, 1) := by decide +kernel
theorem dX3_init_50 : decode cX3_init 50 = .ok (.sipush 256, 3) := by decide +kernel
theorem dX3_init_53 : decode cX3_init 53 = .ok (.newarray .int, 2) := by decide +kernel
theorem dX3_init_55 : decode cX3_init 55 = .ok (.putfield 30, 3) := by decide +kernel
theorem dX3_init_58 : decode cX3_init 58 = .ok (.aload_n 0, 1) := by decide +kernel
theorem dX3_init_59 : decode cX3_init 59 = .ok (.sipush 257, 3) := by decide +kernel
theorem dX3_init_62 : decode cX3_init 62 = .ok (.newarray .int, 2) := by decide +kernel
theorem dX3_init_64 : decode cX3_init 64 = .ok (.putfield 33, 3) := by decide +kernel
theorem dX3_init_67 : decode cX3_init 67 = .ok (.return_, 1) := by decide +kernel
theorem dX3_thrown_0 : decode cX3_thrown 0 = .ok (.aload_n 0, 1) := by decide +kernel
theorem dX3_thrown_1 : decode cX3_thrown 1 = .ok (.getfield 36, 3) := by decide +kernel
theorem dX3_thrown_4 : decode cX3_thrown 4 = .ok (.ireturn, 1) := by decide +kernel
theorem dX3_isKey_0 : decode cX3_isKey 0 = .ok (.iload_n 0, 1) := by decide +kernel
theorem dX3_isKey_1 : decode cX3_isKey 1 = .ok (.ldc 39, 2) := by decide +kernel
theorem dX3_isKey_3 : decode cX3_isKey 3 = .ok (.if_icmp .lt 13, 3) := by decide +kernel
theorem dX3_isKey_6 : decode cX3_isKey 6 = .ok (.iload_n 0, 1) := by decide +kernel
theorem dX3_isKey_7 : decode cX3_isKey 7 = .ok (.ldc 40, 2) := by decide +kernel
theorem dX3_isKey_9 : decode cX3_isKey 9 = .ok (.if_icmp .gt 7, 3) := by decide +kernel
theorem dX3_isKey_12 : decode cX3_isKey 12 = .ok (.iconst 1, 1) := by decide +kernel
theorem dX3_isKey_13 : decode cX3_isKey 13 = .ok (.goto 4, 3) := by decide +kernel
theorem dX3_isKey_16 : decode cX3_isKey 16 = .ok (.iconst 0, 1) := by decide +kernel
theorem dX3_isKey_17 : decode cX3_isKey 17 = .ok (.ireturn, 1) := by decide +kernel
theorem dX3_fits_0 : decode cX3_fits 0 = .ok (.aload_n 0, 1) := by decide +kernel
theorem dX3_fits_1 : decode cX3_fits 1 = .ok (.lconst 0, 1) := by decide +kernel
theorem dX3_fits_2 : decode cX3_fits 2 = .ok (.putfield 41, 3) := by decide +kernel
theorem dX3_fits_5 : decode cX3_fits 5 = .ok (.aload_n 0, 1) := by decide +kernel
theorem dX3_fits_6 : decode cX3_fits 6 = .ok (.lconst 1, 1) := by decide +kernel
theorem dX3_fits_7 : decode cX3_fits 7 = .ok (.putfield 45, 3) := by decide +kernel
theorem dX3_fits_10 : decode cX3_fits 10 = .ok (.lconst 0, 1) := by decide +kernel
theorem dX3_fits_11 : decode cX3_fits 11 = .ok (.lstore 4, 2) := by decide +kernel
theorem dX3_fits_13 : decode cX3_fits 13 = .ok (.lconst 0, 1) := by decide +kernel
theorem dX3_fits_14 : decode cX3_fits 14 = .ok (.lstore 6, 2) := by decide +kernel
theorem dX3_fits_16 : decode cX3_fits 16 = .ok (.iload_n 2, 1) := by decide +kernel
theorem dX3_fits_17 : decode cX3_fits 17 = .ok (.iconst 1, 1) := by decide +kernel
theorem dX3_fits_18 : decode cX3_fits 18 = .ok (.iadd, 1) := by decide +kernel
theorem dX3_fits_19 : decode cX3_fits 19 = .ok (.istore 8, 2) := by decide +kernel
theorem dX3_fits_21 : decode cX3_fits 21 = .ok (.iload 8, 2) := by decide +kernel
theorem dX3_fits_23 : decode cX3_fits 23 = .ok (.iload_n 3, 1) := by decide +kernel
theorem dX3_fits_24 : decode cX3_fits 24 = .ok (.if_icmp .ge 111, 3) := by decide +kernel
theorem dX3_fits_27 : decode cX3_fits 27 = .ok (.aload_n 1, 1) := by decide +kernel
theorem dX3_fits_28 : decode cX3_fits 28 = .ok (.iload 8, 2) := by decide +kernel
theorem dX3_fits_30 : decode cX3_fits 30 = .ok (.iaload, 1) := by decide +kernel
theorem dX3_fits_31 : decode cX3_fits 31 = .ok (.i2l, 1) := by decide +kernel
theorem dX3_fits_32 : decode cX3_fits 32 = .ok (.aload_n 1, 1) := by decide +kernel
theorem dX3_fits_33 : decode cX3_fits 33 = .ok (.iload_n 2, 1) := by decide +kernel
theorem dX3_fits_34 : decode cX3_fits 34 = .ok (.iaload, 1) := by decide +kernel
theorem dX3_fits_35 : decode cX3_fits 35 = .ok (.i2l, 1) := by decide +kernel
theorem dX3_fits_36 : decode cX3_fits 36 = .ok (.lsub, 1) := by decide +kernel
theorem dX3_fits_37 : decode cX3_fits 37 = .ok (.lstore 9, 2) := by decide +kernel
theorem dX3_fits_39 : decode cX3_fits 39 = .ok (.iload 8, 2) := by decide +kernel
theorem dX3_fits_41 : decode cX3_fits 41 = .ok (.iload_n 2, 1) := by decide +kernel
theorem dX3_fits_42 : decode cX3_fits 42 = .ok (.isub, 1) := by decide +kernel
theorem dX3_fits_43 : decode cX3_fits 43 = .ok (.i2l, 1) := by decide +kernel
theorem dX3_fits_44 : decode cX3_fits 44 = .ok (.lstore 11, 2) := by decide +kernel
theorem dX3_fits_46 : decode cX3_fits 46 = .ok (.lload 11, 2) := by decide +kernel
theorem dX3_fits_48 : decode cX3_fits 48 = .ok (.aload_n 0, 1) := by decide +kernel
theorem dX3_fits_49 : decode cX3_fits 49 = .ok (.getfield 7, 3) := by decide +kernel
theorem dX3_fits_52 : decode cX3_fits 52 = .ok (.i2l, 1) := by decide +kernel
theorem dX3_fits_53 : decode cX3_fits 53 = .ok (.lsub, 1) := by decide +kernel
theorem dX3_fits_54 : decode cX3_fits 54 = .ok (.aload_n 0, 1) := by decide +kernel
theorem dX3_fits_55 : decode cX3_fits 55 = .ok (.getfield 45, 3) := by decide +kernel
theorem dX3_fits_58 : decode cX3_fits 58 = .ok (.lmul, 1) := by decide +kernel
theorem dX3_fits_59 : decode cX3_fits 59 = .ok (.aload_n 0, 1) := by decide +kernel
theorem dX3_fits_60 : decode cX3_fits 60 = .ok (.getfield 41, 3) := by decide +kernel
theorem dX3_fits_63 : decode cX3_fits 63 = .ok (.lload 9, 2) := by decide +kernel
theorem dX3_fits_65 : decode cX3_fits 65 = .ok (.lmul, 1) := by decide +kernel
theorem dX3_fits_66 : decode cX3_fits 66 = .ok (.lcmp, 1) := by decide +kernel
theorem dX3_fits_67 : decode cX3_fits 67 = .ok (.ifCond .le 21, 3) := by decide +kernel
theorem dX3_fits_70 : decode cX3_fits 70 = .ok (.aload_n 0, 1) := by decide +kernel
theorem dX3_fits_71 : decode cX3_fits 71 = .ok (.lload 11, 2) := by decide +kernel
theorem dX3_fits_73 : decode cX3_fits 73 = .ok (.aload_n 0, 1) := by decide +kernel
theorem dX3_fits_74 : decode cX3_fits 74 = .ok (.getfield 7, 3) := by decide +kernel
theorem dX3_fits_77 : decode cX3_fits 77 = .ok (.i2l, 1) := by decide +kernel
theorem dX3_fits_78 : decode cX3_fits 78 = .ok (.lsub, 1) := by decide +kernel
theorem dX3_fits_79 : decode cX3_fits 79 = .ok (.putfield 41, 3) := by decide +kernel
theorem dX3_fits_82 : decode cX3_fits 82 = .ok (.aload_n 0, 1) := by decide +kernel
theorem dX3_fits_83 : decode cX3_fits 83 = .ok (.lload 9, 2) := by decide +kernel
theorem dX3_fits_85 : decode cX3_fits 85 = .ok (.putfield 45, 3) := by decide +kernel
theorem dX3_fits_88 : decode cX3_fits 88 = .ok (.lload 6, 2) := by decide +kernel
theorem dX3_fits_90 : decode cX3_fits 90 = .ok (.lconst 0, 1) := by decide +kernel
theorem dX3_fits_91 : decode cX3_fits 91 = .ok (.lcmp, 1) := by decide +kernel
end
section
theorem dX3_fits_92 : decode cX3_fits 92 = .ok (.ifCond .eq 23, 3) := by decide +kernel
theorem dX3_fits_95 : decode cX3_fits 95 = .ok (.lload 11, 2) := by decide +kernel
theorem dX3_fits_97 : decode cX3_fits 97 = .ok (.aload_n 0, 1) := by decide +kernel
theorem dX3_fits_98 : decode cX3_fits 98 = .ok (.getfield 7, 3) := by decide +kernel
theorem dX3_fits_101 : decode cX3_fits 101 = .ok (.i2l, 1) := by decide +kernel
theorem dX3_fits_102 : decode cX3_fits 102 = .ok (.ladd, 1) := by decide +kernel
theorem dX3_fits_103 : decode cX3_fits 103 = .ok (.lload 6, 2) := by decide +kernel
theorem dX3_fits_105 : decode cX3_fits 105 = .ok (.lmul, 1) := by decide +kernel
theorem dX3_fits_106 : decode cX3_fits 106 = .ok (.lload 4, 2) := by decide +kernel
theorem dX3_fits_108 : decode cX3_fits 108 = .ok (.lload 9, 2) := by decide +kernel
theorem dX3_fits_110 : decode cX3_fits 110 = .ok (.lmul, 1) := by decide +kernel
theorem dX3_fits_111 : decode cX3_fits 111 = .ok (.lcmp, 1) := by decide +kernel
theorem dX3_fits_112 : decode cX3_fits 112 = .ok (.ifCond .ge 17, 3) := by decide +kernel
theorem dX3_fits_115 : decode cX3_fits 115 = .ok (.lload 11, 2) := by decide +kernel
theorem dX3_fits_117 : decode cX3_fits 117 = .ok (.aload_n 0, 1) := by decide +kernel
theorem dX3_fits_118 : decode cX3_fits 118 = .ok (.getfield 7, 3) := by decide +kernel
theorem dX3_fits_121 : decode cX3_fits 121 = .ok (.i2l, 1) := by decide +kernel
theorem dX3_fits_122 : decode cX3_fits 122 = .ok (.ladd, 1) := by decide +kernel
theorem dX3_fits_123 : decode cX3_fits 123 = .ok (.lstore 4, 2) := by decide +kernel
theorem dX3_fits_125 : decode cX3_fits 125 = .ok (.lload 9, 2) := by decide +kernel
theorem dX3_fits_127 : decode cX3_fits 127 = .ok (.lstore 6, 2) := by decide +kernel
theorem dX3_fits_129 : decode cX3_fits 129 = .ok (.iinc 8 1, 3) := by decide +kernel
theorem dX3_fits_132 : decode cX3_fits 132 = .ok (.goto (-111), 3) := by decide +kernel
theorem dX3_fits_135 : decode cX3_fits 135 = .ok (.lload 6, 2) := by decide +kernel
theorem dX3_fits_137 : decode cX3_fits 137 = .ok (.lconst 0, 1) := by decide +kernel
theorem dX3_fits_138 : decode cX3_fits 138 = .ok (.lcmp, 1) := by decide +kernel
theorem dX3_fits_139 : decode cX3_fits 139 = .ok (.ifCond .eq 21, 3) := by decide +kernel
theorem dX3_fits_142 : decode cX3_fits 142 = .ok (.aload_n 0, 1) := by decide +kernel
theorem dX3_fits_143 : decode cX3_fits 143 = .ok (.getfield 41, 3) := by decide +kernel
theorem dX3_fits_146 : decode cX3_fits 146 = .ok (.lload 6, 2) := by decide +kernel
theorem dX3_fits_148 : decode cX3_fits 148 = .ok (.lmul, 1) := by decide +kernel
theorem dX3_fits_149 : decode cX3_fits 149 = .ok (.lload 4, 2) := by decide +kernel
theorem dX3_fits_151 : decode cX3_fits 151 = .ok (.aload_n 0, 1) := by decide +kernel
theorem dX3_fits_152 : decode cX3_fits 152 = .ok (.getfield 45, 3) := by decide +kernel
theorem dX3_fits_155 : decode cX3_fits 155 = .ok (.lmul, 1) := by decide +kernel
theorem dX3_fits_156 : decode cX3_fits 156 = .ok (.lcmp, 1) := by decide +kernel
theorem dX3_fits_157 : decode cX3_fits 157 = .ok (.ifCond .gt 7, 3) := by decide +kernel
theorem dX3_fits_160 : decode cX3_fits 160 = .ok (.iconst 1, 1) := by decide +kernel
theorem dX3_fits_161 : decode cX3_fits 161 = .ok (.goto 4, 3) := by decide +kernel
theorem dX3_fits_164 : decode cX3_fits 164 = .ok (.iconst 0, 1) := by decide +kernel
theorem dX3_fits_165 : decode cX3_fits 165 = .ok (.ireturn, 1) := by decide +kernel
theorem dX3_behind_0 : decode cX3_behind 0 = .ok (.iload_n 1, 1) := by decide +kernel
theorem dX3_behind_1 : decode cX3_behind 1 = .ok (.iconst 1, 1) := by decide +kernel
theorem dX3_behind_2 : decode cX3_behind 2 = .ok (.iadd, 1) := by decide +kernel
theorem dX3_behind_3 : decode cX3_behind 3 = .ok (.aload_n 0, 1) := by decide +kernel
theorem dX3_behind_4 : decode cX3_behind 4 = .ok (.getfield 48, 3) := by decide +kernel
theorem dX3_behind_7 : decode cX3_behind 7 = .ok (.if_icmp .ge 14, 3) := by decide +kernel
theorem dX3_behind_10 : decode cX3_behind 10 = .ok (.aload_n 0, 1) := by decide +kernel
theorem dX3_behind_11 : decode cX3_behind 11 = .ok (.getfield 24, 3) := by decide +kernel
theorem dX3_behind_14 : decode cX3_behind 14 = .ok (.iload_n 1, 1) := by decide +kernel
theorem dX3_behind_15 : decode cX3_behind 15 = .ok (.iconst 1, 1) := by decide +kernel
theorem dX3_behind_16 : decode cX3_behind 16 = .ok (.iadd, 1) := by decide +kernel
theorem dX3_behind_17 : decode cX3_behind 17 = .ok (.iaload, 1) := by decide +kernel
theorem dX3_behind_18 : decode cX3_behind 18 = .ok (.goto 7, 3) := by decide +kernel
theorem dX3_behind_21 : decode cX3_behind 21 = .ok (.aload_n 0, 1) := by decide +kernel
theorem dX3_behind_22 : decode cX3_behind 22 = .ok (.getfield 51, 3) := by decide +kernel
theorem dX3_behind_25 : decode cX3_behind 25 = .ok (.ireturn, 1) := by decide +kernel
theorem dX3_common_0 : decode cX3_common 0 = .ok (.lload_n 0, 1) := by decide +kernel
theorem dX3_common_1 : decode cX3_common 1 = .ok (.lstore 4, 2) := by decide +kernel
theorem dX3_common_3 : decode cX3_common 3 = .ok (.lload_n 2, 1) := by decide +kernel
theorem dX3_common_4 : decode cX3_common 4 = .ok (.lstore 6, 2) := by decide +kernel
theorem dX3_common_6 : decode cX3_common 6 = .ok (.lload 6, 2) := by decide +kernel
theorem dX3_common_8 : decode cX3_common 8 = .ok (.lconst 0, 1) := by decide +kernel
theorem dX3_common_9 : decode cX3_common 9 = .ok (.lcmp, 1) := by decide +kernel
theorem dX3_common_10 : decode cX3_common 10 = .ok (.ifCond .le 21, 3) := by decide +kernel
theorem dX3_common_13 : decode cX3_common 13 = .ok (.lload 4, 2) := by decide +kernel
theorem dX3_common_15 : decode cX3_common 15 = .ok (.lload 6, 2) := by decide +kernel
theorem dX3_common_17 : decode cX3_common 17 = .ok (.lrem, 1) := by decide +kernel
theorem dX3_common_18 : decode cX3_common 18 = .ok (.lstore 8, 2) := by decide +kernel
theorem dX3_common_20 : decode cX3_common 20 = .ok (.lload 6, 2) := by decide +kernel
theorem dX3_common_22 : decode cX3_common 22 = .ok (.lstore 4, 2) := by decide +kernel
theorem dX3_common_24 : decode cX3_common 24 = .ok (.lload 8, 2) := by decide +kernel
theorem dX3_common_26 : decode cX3_common 26 = .ok (.lstore 6, 2) := by decide +kernel
theorem dX3_common_28 : decode cX3_common 28 = .ok (.goto (-22), 3) := by decide +kernel
theorem dX3_common_31 : decode cX3_common 31 = .ok (.lload 4, 2) := by decide +kernel
theorem dX3_common_33 : decode cX3_common 33 = .ok (.lreturn, 1) := by decide +kernel
set_option maxRecDepth 20000 in
theorem ggX3_lays_X3_behind : GoodIn wsX3_lays wsX3_behind := goodIn_r _ [9, 10, 2, 11, 20, 21, 22, 23, 24, 25, 26, 27, 28, 29, 30, 31, 32, 33, 34, 35, 36, 37] (by decide +kernel) (by decide +kernel)
set_option maxRecDepth 20000 in
theorem gX3_lays_X3_behind : GoodIn wsX3_lays (wsV RX3 54 RX3 yX3_behind wsX3_behind) := goodIn_app (goodIn_of _ (by decide +kernel)) ggX3_lays_X3_behind
set_option maxRecDepth 20000 in
theorem ggX3_lays_X3_fits : GoodIn wsX3_lays wsX3_fits := goodIn_r _ [15, 3, 4, 16, 20, 21, 22, 23, 24, 25, 26, 27, 28, 29, 30, 31, 32, 33, 34, 35, 36, 37] (by decide +kernel) (by decide +kernel)
set_option maxRecDepth 20000 in
theorem gX3_lays_X3_fits : GoodIn wsX3_lays (wsV RX3 58 RX3 yX3_fits wsX3_fits) := goodIn_app (goodIn_of _ (by decide +kernel)) ggX3_lays_X3_fits
set_option maxRecDepth 20000 in
theorem ggX3_lays_X3_common : GoodIn wsX3_lays wsX3_common := goodIn_r _ [19] (by decide +kernel) (by decide +kernel)
set_option maxRecDepth 20000 in
theorem gX3_lays_X3_common : GoodIn wsX3_lays (va_wsS RX3 62 yX3_common wsX3_common) := goodIn_app (goodIn_of _ (by decide +kernel)) ggX3_lays_X3_common
theorem dX3_lays_0 : decode cX3_lays 0 = .ok (.aload_n 0, 1) := by decide +kernel
theorem dX3_lays_1 : decode cX3_lays 1 = .ok (.aload_n 0, 1) := by decide +kernel
theorem dX3_lays_2 : decode cX3_lays 2 = .ok (.getfield 16, 3) := by decide +kernel
theorem dX3_lays_5 : decode cX3_lays 5 = .ok (.aload_n 0, 1) := by decide +kernel
theorem dX3_lays_6 : decode cX3_lays 6 = .ok (.getfield 24, 3) := by decide +kernel
theorem dX3_lays_9 : decode cX3_lays 9 = .ok (.iload_n 1, 1) := by decide +kernel
theorem dX3_lays_10 : decode cX3_lays 10 = .ok (.iaload, 1) := by decide +kernel
theorem dX3_lays_11 : decode cX3_lays 11 = .ok (.aload_n 0, 1) := by decide +kernel
theorem dX3_lays_12 : decode cX3_lays 12 = .ok (.iload_n 1, 1) := by decide +kernel
theorem dX3_lays_13 : decode cX3_lays 13 = .ok (.invokevirtual 54, 3) := by decide +kernel
theorem dX3_lays_16 : decode cX3_lays 16 = .ok (.invokevirtual 58, 3) := by decide +kernel
theorem dX3_lays_19 : decode cX3_lays 19 = .ok (.pop, 1) := by decide +kernel
theorem dX3_lays_20 : decode cX3_lays 20 = .ok (.aload_n 0, 1) := by decide +kernel
theorem dX3_lays_21 : decode cX3_lays 21 = .ok (.getfield 41, 3) := by decide +kernel
theorem dX3_lays_24 : decode cX3_lays 24 = .ok (.aload_n 0, 1) := by decide +kernel
theorem dX3_lays_25 : decode cX3_lays 25 = .ok (.getfield 45, 3) := by decide +kernel
theorem dX3_lays_28 : decode cX3_lays 28 = .ok (.invokestatic 62, 3) := by decide +kernel
theorem dX3_lays_31 : decode cX3_lays 31 = .ok (.lstore_n 2, 1) := by decide +kernel
theorem dX3_lays_32 : decode cX3_lays 32 = .ok (.aload_n 0, 1) := by decide +kernel
theorem dX3_lays_33 : decode cX3_lays 33 = .ok (.dup, 1) := by decide +kernel
theorem dX3_lays_34 : decode cX3_lays 34 = .ok (.getfield 41, 3) := by decide +kernel
theorem dX3_lays_37 : decode cX3_lays 37 = .ok (.lload_n 2, 1) := by decide +kernel
theorem dX3_lays_38 : decode cX3_lays 38 = .ok (.ldiv, 1) := by decide +kernel
theorem dX3_lays_39 : decode cX3_lays 39 = .ok (.putfield 41, 3) := by decide +kernel
theorem dX3_lays_42 : decode cX3_lays 42 = .ok (.aload_n 0, 1) := by decide +kernel
theorem dX3_lays_43 : decode cX3_lays 43 = .ok (.dup, 1) := by decide +kernel
theorem dX3_lays_44 : decode cX3_lays 44 = .ok (.getfield 45, 3) := by decide +kernel
theorem dX3_lays_47 : decode cX3_lays 47 = .ok (.lload_n 2, 1) := by decide +kernel
theorem dX3_lays_48 : decode cX3_lays 48 = .ok (.ldiv, 1) := by decide +kernel
theorem dX3_lays_49 : decode cX3_lays 49 = .ok (.putfield 45, 3) := by decide +kernel
theorem dX3_lays_52 : decode cX3_lays 52 = .ok (.return_, 1) := by decide +kernel
theorem dX3_placeOf_0 : decode cX3_placeOf 0 = .ok (.iconst 0, 1) := by decide +kernel
theorem dX3_placeOf_1 : decode cX3_placeOf 1 = .ok (.istore_n 2, 1) := by decide +kernel
theorem dX3_placeOf_2 : decode cX3_placeOf 2 = .ok (.iload_n 2, 1) := by decide +kernel
theorem dX3_placeOf_3 : decode cX3_placeOf 3 = .ok (.aload_n 0, 1) := by decide +kernel
theorem dX3_placeOf_4 : decode cX3_placeOf 4 = .ok (.getfield 51, 3) := by decide +kernel
theorem dX3_placeOf_7 : decode cX3_placeOf 7 = .ok (.if_icmp .ge 19, 3) := by decide +kernel
theorem dX3_placeOf_10 : decode cX3_placeOf 10 = .ok (.aload_n 0, 1) := by decide +kernel
theorem dX3_placeOf_11 : decode cX3_placeOf 11 = .ok (.getfield 16, 3) := by decide +kernel
theorem dX3_placeOf_14 : decode cX3_placeOf 14 = .ok (.iload_n 2, 1) := by decide +kernel
theorem dX3_placeOf_15 : decode cX3_placeOf 15 = .ok (.iaload, 1) := by decide +kernel
theorem dX3_placeOf_16 : decode cX3_placeOf 16 = .ok (.iload_n 1, 1) := by decide +kernel
theorem dX3_placeOf_17 : decode cX3_placeOf 17 = .ok (.if_icmp .ge 9, 3) := by decide +kernel
theorem dX3_placeOf_20 : decode cX3_placeOf 20 = .ok (.iinc 2 1, 3) := by decide +kernel
theorem dX3_placeOf_23 : decode cX3_placeOf 23 = .ok (.goto (-21), 3) := by decide +kernel
theorem dX3_placeOf_26 : decode cX3_placeOf 26 = .ok (.iload_n 2, 1) := by decide +kernel
theorem dX3_placeOf_27 : decode cX3_placeOf 27 = .ok (.ireturn, 1) := by decide +kernel
set_option maxRecDepth 20000 in
theorem ggX3_isInRow_X3_placeOf : GoodIn wsX3_isInRow wsX3_placeOf := goodIn_r _ [7, 1, 2, 8, 9, 10, 11, 12, 13, 14, 15, 16, 17, 18, 19, 20, 21, 22, 23, 24, 25] (by decide +kernel) (by decide +kernel)
set_option maxRecDepth 20000 in
theorem gX3_isInRow_X3_placeOf : GoodIn wsX3_isInRow (wsV RX3 66 RX3 yX3_placeOf wsX3_placeOf) := goodIn_app (goodIn_of _ (by decide +kernel)) ggX3_isInRow_X3_placeOf
theorem dX3_isInRow_0 : decode cX3_isInRow 0 = .ok (.aload_n 0, 1) := by decide +kernel
theorem dX3_isInRow_1 : decode cX3_isInRow 1 = .ok (.iload_n 1, 1) := by decide +kernel
theorem dX3_isInRow_2 : decode cX3_isInRow 2 = .ok (.invokevirtual 66, 3) := by decide +kernel
theorem dX3_isInRow_5 : decode cX3_isInRow 5 = .ok (.istore_n 2, 1) := by decide +kernel
theorem dX3_isInRow_6 : decode cX3_isInRow 6 = .ok (.iload_n 2, 1) := by decide +kernel
theorem dX3_isInRow_7 : decode cX3_isInRow 7 = .ok (.aload_n 0, 1) := by decide +kernel
theorem dX3_isInRow_8 : decode cX3_isInRow 8 = .ok (.getfield 51, 3) := by decide +kernel
theorem dX3_isInRow_11 : decode cX3_isInRow 11 = .ok (.if_icmp .ge 17, 3) := by decide +kernel
theorem dX3_isInRow_14 : decode cX3_isInRow 14 = .ok (.aload_n 0, 1) := by decide +kernel
theorem dX3_isInRow_15 : decode cX3_isInRow 15 = .ok (.getfield 16, 3) := by decide +kernel
theorem dX3_isInRow_18 : decode cX3_isInRow 18 = .ok (.iload_n 2, 1) := by decide +kernel
theorem dX3_isInRow_19 : decode cX3_isInRow 19 = .ok (.iaload, 1) := by decide +kernel
theorem dX3_isInRow_20 : decode cX3_isInRow 20 = .ok (.iload_n 1, 1) := by decide +kernel
theorem dX3_isInRow_21 : decode cX3_isInRow 21 = .ok (.if_icmp .ne 7, 3) := by decide +kernel
theorem dX3_isInRow_24 : decode cX3_isInRow 24 = .ok (.iconst 1, 1) := by decide +kernel
theorem dX3_isInRow_25 : decode cX3_isInRow 25 = .ok (.goto 4, 3) := by decide +kernel
theorem dX3_isInRow_28 : decode cX3_isInRow 28 = .ok (.iconst 0, 1) := by decide +kernel
theorem dX3_isInRow_29 : decode cX3_isInRow 29 = .ok (.ireturn, 1) := by decide +kernel
theorem dX3_isBuffered_0 : decode cX3_isBuffered 0 = .ok (.iconst 0, 1) := by decide +kernel
theorem dX3_isBuffered_1 : decode cX3_isBuffered 1 = .ok (.istore_n 2, 1) := by decide +kernel
theorem dX3_isBuffered_2 : decode cX3_isBuffered 2 = .ok (.iconst 0, 1) := by decide +kernel
theorem dX3_isBuffered_3 : decode cX3_isBuffered 3 = .ok (.istore_n 3, 1) := by decide +kernel
theorem dX3_isBuffered_4 : decode cX3_isBuffered 4 = .ok (.iload_n 3, 1) := by decide +kernel
theorem dX3_isBuffered_5 : decode cX3_isBuffered 5 = .ok (.aload_n 0, 1) := by decide +kernel
theorem dX3_isBuffered_6 : decode cX3_isBuffered 6 = .ok (.getfield 69, 3) := by decide +kernel
theorem dX3_isBuffered_9 : decode cX3_isBuffered 9 = .ok (.if_icmp .ge 29, 3) := by decide +kernel
theorem dX3_isBuffered_12 : decode cX3_isBuffered 12 = .ok (.iload_n 2, 1) := by decide +kernel
theorem dX3_isBuffered_13 : decode cX3_isBuffered 13 = .ok (.ifCond .ne 13, 3) := by decide +kernel
theorem dX3_isBuffered_16 : decode cX3_isBuffered 16 = .ok (.aload_n 0, 1) := by decide +kernel
theorem dX3_isBuffered_17 : decode cX3_isBuffered 17 = .ok (.getfield 27, 3) := by decide +kernel
theorem dX3_isBuffered_20 : decode cX3_isBuffered 20 = .ok (.iload_n 3, 1) := by decide +kernel
theorem dX3_isBuffered_21 : decode cX3_isBuffered 21 = .ok (.iaload, 1) := by decide +kernel
theorem dX3_isBuffered_22 : decode cX3_isBuffered 22 = .ok (.iload_n 1, 1) := by decide +kernel
theorem dX3_isBuffered_23 : decode cX3_isBuffered 23 = .ok (.if_icmp .ne 7, 3) := by decide +kernel
theorem dX3_isBuffered_26 : decode cX3_isBuffered 26 = .ok (.iconst 1, 1) := by decide +kernel
theorem dX3_isBuffered_27 : decode cX3_isBuffered 27 = .ok (.goto 4, 3) := by decide +kernel
theorem dX3_isBuffered_30 : decode cX3_isBuffered 30 = .ok (.iconst 0, 1) := by decide +kernel
theorem dX3_isBuffered_31 : decode cX3_isBuffered 31 = .ok (.istore_n 2, 1) := by decide +kernel
theorem dX3_isBuffered_32 : decode cX3_isBuffered 32 = .ok (.iinc 3 1, 3) := by decide +kernel
theorem dX3_isBuffered_35 : decode cX3_isBuffered 35 = .ok (.goto (-31), 3) := by decide +kernel
theorem dX3_isBuffered_38 : decode cX3_isBuffered 38 = .ok (.iload_n 2, 1) := by decide +kernel
theorem dX3_isBuffered_39 : decode cX3_isBuffered 39 = .ok (.ireturn, 1) := by decide +kernel
set_option maxRecDepth 20000 in
theorem ggX3_isThere_X3_isBuffered : GoodIn wsX3_isThere wsX3_isBuffered := goodIn_r _ [6, 7, 8, 19, 20, 21, 22, 23, 24, 25, 26, 27, 28, 29, 30, 31, 32, 33, 34, 35, 36] (by decide +kernel) (by decide +kernel)
set_option maxRecDepth 20000 in
theorem gX3_isThere_X3_isBuffered : GoodIn wsX3_isThere (wsV RX3 72 RX3 yX3_isBuffered wsX3_isBuffered) := goodIn_app (goodIn_of _ (by decide +kernel)) ggX3_isThere_X3_isBuffered
set_option maxRecDepth 20000 in
theorem ggX3_isThere_X3_isInRow : GoodIn wsX3_isThere wsX3_isInRow := goodIn_r _ [12, 13, 14, 15, 16, 17, 5, 18, 19, 20, 21, 22, 23, 24, 25, 26, 27, 28, 29, 30, 31, 32, 33, 34, 35, 36] (by decide +kernel) (by decide +kernel)
set_option maxRecDepth 20000 in
theorem gX3_isThere_X3_isInRow : GoodIn wsX3_isThere (wsV RX3 76 RX3 yX3_isInRow wsX3_isInRow) := goodIn_app (goodIn_of _ (by decide +kernel)) ggX3_isThere_X3_isInRow
set_option maxRecDepth 20000 in
theorem ggX3_isThere_X3_placeOf : GoodIn wsX3_isThere wsX3_placeOf := goodIn_r _ [18, 13, 14, 19, 20, 21, 22, 23, 24, 25, 26, 27, 28, 29, 30, 31, 32, 33, 34, 35, 36] (by decide +kernel) (by decide +kernel)
set_option maxRecDepth 20000 in
theorem gX3_isThere_X3_placeOf : GoodIn wsX3_isThere (wsV RX3 66 RX3 yX3_placeOf wsX3_placeOf) := goodIn_app (goodIn_of _ (by decide +kernel)) ggX3_isThere_X3_placeOf
theorem dX3_isThere_0 : decode cX3_isThere 0 = .ok (.aload_n 0, 1) := by decide +kernel
theorem dX3_isThere_1 : decode cX3_isThere 1 = .ok (.iload_n 1, 1) := by decide +kernel
theorem dX3_isThere_2 : decode cX3_isThere 2 = .ok (.invokevirtual 72, 3) := by decide +kernel
theorem dX3_isThere_5 : decode cX3_isThere 5 = .ok (.ifCond .ne 24, 3) := by decide +kernel
theorem dX3_isThere_8 : decode cX3_isThere 8 = .ok (.aload_n 0, 1) := by decide +kernel
theorem dX3_isThere_9 : decode cX3_isThere 9 = .ok (.iload_n 1, 1) := by decide +kernel
theorem dX3_isThere_10 : decode cX3_isThere 10 = .ok (.invokevirtual 76, 3) := by decide +kernel
theorem dX3_isThere_13 : decode cX3_isThere 13 = .ok (.ifCond .eq 20, 3) := by decide +kernel
theorem dX3_isThere_16 : decode cX3_isThere 16 = .ok (.aload_n 0, 1) := by decide +kernel
theorem dX3_isThere_17 : decode cX3_isThere 17 = .ok (.getfield 20, 3) := by decide +kernel
theorem dX3_isThere_20 : decode cX3_isThere 20 = .ok (.aload_n 0, 1) := by decide +kernel
theorem dX3_isThere_21 : decode cX3_isThere 21 = .ok (.iload_n 1, 1) := by decide +kernel
theorem dX3_isThere_22 : decode cX3_isThere 22 = .ok (.invokevirtual 66, 3) := by decide +kernel
theorem dX3_isThere_25 : decode cX3_isThere 25 = .ok (.baload, 1) := by decide +kernel
theorem dX3_isThere_26 : decode cX3_isThere 26 = .ok (.ifCond .ne 7, 3) := by decide +kernel
theorem dX3_isThere_29 : decode cX3_isThere 29 = .ok (.iconst 1, 1) := by decide +kernel
theorem dX3_isThere_30 : decode cX3_isThere 30 = .ok (.goto 4, 3) := by decide +kernel
theorem dX3_isThere_33 : decode cX3_isThere 33 = .ok (.iconst 0, 1) := by decide +kernel
theorem dX3_isThere_34 : decode cX3_isThere 34 = .ok (.ireturn, 1) := by decide +kernel
theorem dX3_pieceOf_0 : decode cX3_pieceOf 0 = .ok (.iconst (-1), 1) := by decide +kernel
theorem dX3_pieceOf_1 : decode cX3_pieceOf 1 = .ok (.istore_n 2, 1) := by decide +kernel
theorem dX3_pieceOf_2 : decode cX3_pieceOf 2 = .ok (.iconst 0, 1) := by decide +kernel
theorem dX3_pieceOf_3 : decode cX3_pieceOf 3 = .ok (.istore_n 3, 1) := by decide +kernel
theorem dX3_pieceOf_4 : decode cX3_pieceOf 4 = .ok (.iload_n 3, 1) := by decide +kernel
theorem dX3_pieceOf_5 : decode cX3_pieceOf 5 = .ok (.aload_n 0, 1) := by decide +kernel
theorem dX3_pieceOf_6 : decode cX3_pieceOf 6 = .ok (.getfield 48, 3) := by decide +kernel
theorem dX3_pieceOf_9 : decode cX3_pieceOf 9 = .ok (.if_icmp .ge 30, 3) := by decide +kernel
theorem dX3_pieceOf_12 : decode cX3_pieceOf 12 = .ok (.aload_n 0, 1) := by decide +kernel
theorem dX3_pieceOf_13 : decode cX3_pieceOf 13 = .ok (.getfield 16, 3) := by decide +kernel
theorem dX3_pieceOf_16 : decode cX3_pieceOf 16 = .ok (.aload_n 0, 1) := by decide +kernel
theorem dX3_pieceOf_17 : decode cX3_pieceOf 17 = .ok (.getfield 24, 3) := by decide +kernel
theorem dX3_pieceOf_20 : decode cX3_pieceOf 20 = .ok (.iload_n 3, 1) := by decide +kernel
theorem dX3_pieceOf_21 : decode cX3_pieceOf 21 = .ok (.iaload, 1) := by decide +kernel
theorem dX3_pieceOf_22 : decode cX3_pieceOf 22 = .ok (.iaload, 1) := by decide +kernel
theorem dX3_pieceOf_23 : decode cX3_pieceOf 23 = .ok (.iload_n 1, 1) := by decide +kernel
theorem dX3_pieceOf_24 : decode cX3_pieceOf 24 = .ok (.if_icmp .gt 7, 3) := by decide +kernel
theorem dX3_pieceOf_27 : decode cX3_pieceOf 27 = .ok (.iload_n 3, 1) := by decide +kernel
theorem dX3_pieceOf_28 : decode cX3_pieceOf 28 = .ok (.goto 4, 3) := by decide +kernel
theorem dX3_pieceOf_31 : decode cX3_pieceOf 31 = .ok (.iload_n 2, 1) := by decide +kernel
theorem dX3_pieceOf_32 : decode cX3_pieceOf 32 = .ok (.istore_n 2, 1) := by decide +kernel
theorem dX3_pieceOf_33 : decode cX3_pieceOf 33 = .ok (.iinc 3 1, 3) := by decide +kernel
theorem dX3_pieceOf_36 : decode cX3_pieceOf 36 = .ok (.goto (-32), 3) := by decide +kernel
theorem dX3_pieceOf_39 : decode cX3_pieceOf 39 = .ok (.iload_n 2, 1) := by decide +kernel
theorem dX3_pieceOf_40 : decode cX3_pieceOf 40 = .ok (.ireturn, 1) := by decide +kernel
theorem dX3_many_0 : decode cX3_many 0 = .ok (.aload_n 0, 1) := by decide +kernel
theorem dX3_many_1 : decode cX3_many 1 = .ok (.getfield 51, 3) := by decide +kernel
theorem dX3_many_4 : decode cX3_many 4 = .ok (.aload_n 0, 1) := by decide +kernel
theorem dX3_many_5 : decode cX3_many 5 = .ok (.getfield 69, 3) := by decide +kernel
theorem dX3_many_8 : decode cX3_many 8 = .ok (.iadd, 1) := by decide +kernel
theorem dX3_many_9 : decode cX3_many 9 = .ok (.ireturn, 1) := by decide +kernel
theorem dX3_isAbove_0 : decode cX3_isAbove 0 = .ok (.aload_n 0, 1) := by decide +kernel
theorem dX3_isAbove_1 : decode cX3_isAbove 1 = .ok (.getfield 51, 3) := by decide +kernel
theorem dX3_isAbove_4 : decode cX3_isAbove 4 = .ok (.ifCond .eq 18, 3) := by decide +kernel
theorem dX3_isAbove_7 : decode cX3_isAbove 7 = .ok (.aload_n 0, 1) := by decide +kernel
theorem dX3_isAbove_8 : decode cX3_isAbove 8 = .ok (.getfield 16, 3) := by decide +kernel
theorem dX3_isAbove_11 : decode cX3_isAbove 11 = .ok (.aload_n 0, 1) := by decide +kernel
theorem dX3_isAbove_12 : decode cX3_isAbove 12 = .ok (.getfield 51, 3) := by decide +kernel
theorem dX3_isAbove_15 : decode cX3_isAbove 15 = .ok (.iconst 1, 1) := by decide +kernel
theorem dX3_isAbove_16 : decode cX3_isAbove 16 = .ok (.isub, 1) := by decide +kernel
theorem dX3_isAbove_17 : decode cX3_isAbove 17 = .ok (.iaload, 1) := by decide +kernel
theorem dX3_isAbove_18 : decode cX3_isAbove 18 = .ok (.iload_n 1, 1) := by decide +kernel
theorem dX3_isAbove_19 : decode cX3_isAbove 19 = .ok (.if_icmp .ge 7, 3) := by decide +kernel
theorem dX3_isAbove_22 : decode cX3_isAbove 22 = .ok (.iconst 1, 1) := by decide +kernel
theorem dX3_isAbove_23 : decode cX3_isAbove 23 = .ok (.goto 4, 3) := by decide +kernel
theorem dX3_isAbove_26 : decode cX3_isAbove 26 = .ok (.iconst 0, 1) := by decide +kernel
theorem dX3_isAbove_27 : decode cX3_isAbove 27 = .ok (.istore_n 2, 1) := by decide +kernel
theorem dX3_isAbove_28 : decode cX3_isAbove 28 = .ok (.iload_n 2, 1) := by decide +kernel
theorem dX3_isAbove_29 : decode cX3_isAbove 29 = .ok (.ifCond .eq 29, 3) := by decide +kernel
theorem dX3_isAbove_32 : decode cX3_isAbove 32 = .ok (.aload_n 0, 1) := by decide +kernel
theorem dX3_isAbove_33 : decode cX3_isAbove 33 = .ok (.getfield 69, 3) := by decide +kernel
theorem dX3_isAbove_36 : decode cX3_isAbove 36 = .ok (.ifCond .eq 18, 3) := by decide +kernel
theorem dX3_isAbove_39 : decode cX3_isAbove 39 = .ok (.aload_n 0, 1) := by decide +kernel
theorem dX3_isAbove_40 : decode cX3_isAbove 40 = .ok (.getfield 27, 3) := by decide +kernel
theorem dX3_isAbove_43 : decode cX3_isAbove 43 = .ok (.aload_n 0, 1) := by decide +kernel
theorem dX3_isAbove_44 : decode cX3_isAbove 44 = .ok (.getfield 69, 3) := by decide +kernel
theorem dX3_isAbove_47 : decode cX3_isAbove 47 = .ok (.iconst 1, 1) := by decide +kernel
theorem dX3_isAbove_48 : decode cX3_isAbove 48 = .ok (.isub, 1) := by decide +kernel
theorem dX3_isAbove_49 : decode cX3_isAbove 49 = .ok (.iaload, 1) := by decide +kernel
theorem dX3_isAbove_50 : decode cX3_isAbove 50 = .ok (.iload_n 1, 1) := by decide +kernel
theorem dX3_isAbove_51 : decode cX3_isAbove 51 = .ok (.if_icmp .ge 7, 3) := by decide +kernel
theorem dX3_isAbove_54 : decode cX3_isAbove 54 = .ok (.iconst 1, 1) := by decide +kernel
theorem dX3_isAbove_55 : decode cX3_isAbove 55 = .ok (.goto 4, 3) := by decide +kernel
theorem dX3_isAbove_58 : decode cX3_isAbove 58 = .ok (.iconst 0, 1) := by decide +kernel
theorem dX3_isAbove_59 : decode cX3_isAbove 59 = .ok (.ireturn, 1) := by decide +kernel
set_option maxRecDepth 20000 in
theorem ggX3_ends_X3_fits : GoodIn wsX3_ends wsX3_fits := goodIn_r _ [10, 11, 12, 13, 14, 15, 16, 17, 18, 19, 20, 21, 22, 23, 24, 25, 26, 27, 28, 29, 30, 31] (by decide +kernel) (by decide +kernel)
set_option maxRecDepth 20000 in
theorem gX3_ends_X3_fits : GoodIn wsX3_ends (wsV RX3 58 RX3 yX3_fits wsX3_fits) := goodIn_app (goodIn_of _ (by decide +kernel)) ggX3_ends_X3_fits
theorem dX3_ends_0 : decode cX3_ends 0 = .ok (.aload_n 0, 1) := by decide +kernel
theorem dX3_ends_1 : decode cX3_ends 1 = .ok (.getfield 16, 3) := by decide +kernel
theorem dX3_ends_4 : decode cX3_ends 4 = .ok (.aload_n 0, 1) := by decide +kernel
theorem dX3_ends_5 : decode cX3_ends 5 = .ok (.getfield 51, 3) := by decide +kernel
theorem dX3_ends_8 : decode cX3_ends 8 = .ok (.iload_n 1, 1) := by decide +kernel
theorem dX3_ends_9 : decode cX3_ends 9 = .ok (.iastore, 1) := by decide +kernel
theorem dX3_ends_10 : decode cX3_ends 10 = .ok (.aload_n 0, 1) := by decide +kernel
theorem dX3_ends_11 : decode cX3_ends 11 = .ok (.getfield 20, 3) := by decide +kernel
theorem dX3_ends_14 : decode cX3_ends 14 = .ok (.aload_n 0, 1) := by decide +kernel
theorem dX3_ends_15 : decode cX3_ends 15 = .ok (.getfield 51, 3) := by decide +kernel
theorem dX3_ends_18 : decode cX3_ends 18 = .ok (.iconst 0, 1) := by decide +kernel
theorem dX3_ends_19 : decode cX3_ends 19 = .ok (.bastore, 1) := by decide +kernel
theorem dX3_ends_20 : decode cX3_ends 20 = .ok (.aload_n 0, 1) := by decide +kernel
theorem dX3_ends_21 : decode cX3_ends 21 = .ok (.dup, 1) := by decide +kernel
theorem dX3_ends_22 : decode cX3_ends 22 = .ok (.getfield 51, 3) := by decide +kernel
theorem dX3_ends_25 : decode cX3_ends 25 = .ok (.iconst 1, 1) := by decide +kernel
theorem dX3_ends_26 : decode cX3_ends 26 = .ok (.iadd, 1) := by decide +kernel
theorem dX3_ends_27 : decode cX3_ends 27 = .ok (.putfield 51, 3) := by decide +kernel
theorem dX3_ends_30 : decode cX3_ends 30 = .ok (.aload_n 0, 1) := by decide +kernel
theorem dX3_ends_31 : decode cX3_ends 31 = .ok (.getfield 48, 3) := by decide +kernel
theorem dX3_ends_34 : decode cX3_ends 34 = .ok (.ifCond .eq 29, 3) := by decide +kernel
theorem dX3_ends_37 : decode cX3_ends 37 = .ok (.aload_n 0, 1) := by decide +kernel
theorem dX3_ends_38 : decode cX3_ends 38 = .ok (.aload_n 0, 1) := by decide +kernel
theorem dX3_ends_39 : decode cX3_ends 39 = .ok (.getfield 16, 3) := by decide +kernel
theorem dX3_ends_42 : decode cX3_ends 42 = .ok (.aload_n 0, 1) := by decide +kernel
theorem dX3_ends_43 : decode cX3_ends 43 = .ok (.getfield 24, 3) := by decide +kernel
theorem dX3_ends_46 : decode cX3_ends 46 = .ok (.aload_n 0, 1) := by decide +kernel
theorem dX3_ends_47 : decode cX3_ends 47 = .ok (.getfield 48, 3) := by decide +kernel
theorem dX3_ends_50 : decode cX3_ends 50 = .ok (.iconst 1, 1) := by decide +kernel
theorem dX3_ends_51 : decode cX3_ends 51 = .ok (.isub, 1) := by decide +kernel
theorem dX3_ends_52 : decode cX3_ends 52 = .ok (.iaload, 1) := by decide +kernel
theorem dX3_ends_53 : decode cX3_ends 53 = .ok (.aload_n 0, 1) := by decide +kernel
theorem dX3_ends_54 : decode cX3_ends 54 = .ok (.getfield 51, 3) := by decide +kernel
theorem dX3_ends_57 : decode cX3_ends 57 = .ok (.invokevirtual 58, 3) := by decide +kernel
theorem dX3_ends_60 : decode cX3_ends 60 = .ok (.ifCond .ne 28, 3) := by decide +kernel
theorem dX3_ends_63 : decode cX3_ends 63 = .ok (.aload_n 0, 1) := by decide +kernel
theorem dX3_ends_64 : decode cX3_ends 64 = .ok (.getfield 24, 3) := by decide +kernel
theorem dX3_ends_67 : decode cX3_ends 67 = .ok (.aload_n 0, 1) := by decide +kernel
theorem dX3_ends_68 : decode cX3_ends 68 = .ok (.getfield 48, 3) := by decide +kernel
theorem dX3_ends_71 : decode cX3_ends 71 = .ok (.aload_n 0, 1) := by decide +kernel
theorem dX3_ends_72 : decode cX3_ends 72 = .ok (.getfield 51, 3) := by decide +kernel
theorem dX3_ends_75 : decode cX3_ends 75 = .ok (.iconst 1, 1) := by decide +kernel
theorem dX3_ends_76 : decode cX3_ends 76 = .ok (.isub, 1) := by decide +kernel
theorem dX3_ends_77 : decode cX3_ends 77 = .ok (.iastore, 1) := by decide +kernel
theorem dX3_ends_78 : decode cX3_ends 78 = .ok (.aload_n 0, 1) := by decide +kernel
theorem dX3_ends_79 : decode cX3_ends 79 = .ok (.dup, 1) := by decide +kernel
theorem dX3_ends_80 : decode cX3_ends 80 = .ok (.getfield 48, 3) := by decide +kernel
theorem dX3_ends_83 : decode cX3_ends 83 = .ok (.iconst 1, 1) := by decide +kernel
theorem dX3_ends_84 : decode cX3_ends 84 = .ok (.iadd, 1) := by decide +kernel
theorem dX3_ends_85 : decode cX3_ends 85 = .ok (.putfield 48, 3) := by decide +kernel
theorem dX3_ends_88 : decode cX3_ends 88 = .ok (.return_, 1) := by decide +kernel
set_option maxRecDepth 20000 in
theorem ggX3_append_X3_isKey : GoodIn wsX3_append wsX3_isKey := goodIn_r _ [6, 7, 8] (by decide +kernel) (by decide +kernel)
set_option maxRecDepth 20000 in
theorem gX3_append_X3_isKey : GoodIn wsX3_append (va_wsS RX3 79 yX3_isKey wsX3_isKey) := goodIn_app (goodIn_of _ (by decide +kernel)) ggX3_append_X3_isKey
set_option maxRecDepth 20000 in
theorem ggX3_append_X3_many : GoodIn wsX3_append wsX3_many := goodIn_r _ [12, 13, 14, 34, 35, 36, 37, 38, 39, 40, 41, 42, 43, 44, 45, 46, 47, 48, 49, 50, 51] (by decide +kernel) (by decide +kernel)
set_option maxRecDepth 20000 in
theorem gX3_append_X3_many : GoodIn wsX3_append (wsV RX3 82 RX3 yX3_many wsX3_many) := goodIn_app (goodIn_of _ (by decide +kernel)) ggX3_append_X3_many
set_option maxRecDepth 20000 in
theorem ggX3_append_X3_isAbove : GoodIn wsX3_append wsX3_isAbove := goodIn_r _ [18, 13, 19, 14, 20, 34, 35, 36, 37, 38, 39, 40, 41, 42, 43, 44, 45, 46, 47, 48, 49, 50, 51] (by decide +kernel) (by decide +kernel)
set_option maxRecDepth 20000 in
theorem gX3_append_X3_isAbove : GoodIn wsX3_append (wsV RX3 86 RX3 yX3_isAbove wsX3_isAbove) := goodIn_app (goodIn_of _ (by decide +kernel)) ggX3_append_X3_isAbove
set_option maxRecDepth 20000 in
theorem ggX3_append_X3_ends : GoodIn wsX3_append wsX3_ends := goodIn_r _ [24, 19, 13, 25, 2, 26, 27, 28, 29, 5, 30, 31, 32, 33, 34, 35, 36, 37, 38, 39, 40, 41, 42, 43, 44, 45, 46, 47, 48, 49, 50, 51] (by decide +kernel) (by decide +kernel)
set_option maxRecDepth 20000 in
theorem gX3_append_X3_ends : GoodIn wsX3_append (wsV RX3 89 RX3 yX3_ends wsX3_ends) := goodIn_app (goodIn_of _ (by decide +kernel)) ggX3_append_X3_ends
theorem dX3_append_0 : decode cX3_append 0 = .ok (.aload_n 0, 1) := by decide +kernel
theorem dX3_append_1 : decode cX3_append 1 = .ok (.iload_n 1, 1) := by decide +kernel
theorem dX3_append_2 : decode cX3_append 2 = .ok (.invokestatic 79, 3) := by decide +kernel
theorem dX3_append_5 : decode cX3_append 5 = .ok (.ifCond .ne 7, 3) := by decide +kernel
theorem dX3_append_8 : decode cX3_append 8 = .ok (.iconst 1, 1) := by decide +kernel
theorem dX3_append_9 : decode cX3_append 9 = .ok (.goto 26, 3) := by decide +kernel
theorem dX3_append_12 : decode cX3_append 12 = .ok (.aload_n 0, 1) := by decide +kernel
theorem dX3_append_13 : decode cX3_append 13 = .ok (.invokevirtual 82, 3) := by decide +kernel
theorem dX3_append_16 : decode cX3_append 16 = .ok (.sipush 256, 3) := by decide +kernel
theorem dX3_append_19 : decode cX3_append 19 = .ok (.if_icmp .eq 11, 3) := by decide +kernel
theorem dX3_append_22 : decode cX3_append 22 = .ok (.aload_n 0, 1) := by decide +kernel
theorem dX3_append_23 : decode cX3_append 23 = .ok (.iload_n 1, 1) := by decide +kernel
theorem dX3_append_24 : decode cX3_append 24 = .ok (.invokevirtual 86, 3) := by decide +kernel
theorem dX3_append_27 : decode cX3_append 27 = .ok (.ifCond .ne 7, 3) := by decide +kernel
theorem dX3_append_30 : decode cX3_append 30 = .ok (.iconst 2, 1) := by decide +kernel
theorem dX3_append_31 : decode cX3_append 31 = .ok (.goto 4, 3) := by decide +kernel
theorem dX3_append_34 : decode cX3_append 34 = .ok (.iconst 0, 1) := by decide +kernel
theorem dX3_append_35 : decode cX3_append 35 = .ok (.putfield 36, 3) := by decide +kernel
theorem dX3_append_38 : decode cX3_append 38 = .ok (.aload_n 0, 1) := by decide +kernel
theorem dX3_append_39 : decode cX3_append 39 = .ok (.getfield 36, 3) := by decide +kernel
theorem dX3_append_42 : decode cX3_append 42 = .ok (.ifCond .ne 8, 3) := by decide +kernel
theorem dX3_append_45 : decode cX3_append 45 = .ok (.aload_n 0, 1) := by decide +kernel
theorem dX3_append_46 : decode cX3_append 46 = .ok (.iload_n 1, 1) := by decide +kernel
theorem dX3_append_47 : decode cX3_append 47 = .ok (.invokevirtual 89, 3) := by decide +kernel
theorem dX3_append_50 : decode cX3_append 50 = .ok (.aload_n 0, 1) := by decide +kernel
theorem dX3_append_51 : decode cX3_append 51 = .ok (.getfield 48, 3) := by decide +kernel
theorem dX3_append_54 : decode cX3_append 54 = .ok (.ireturn, 1) := by decide +kernel
set_option maxRecDepth 20000 in
theorem ggX3_appendMany_X3_isKey : GoodIn wsX3_appendMany wsX3_isKey := goodIn_r _ [6, 7, 8] (by decide +kernel) (by decide +kernel)
set_option maxRecDepth 20000 in
theorem gX3_appendMany_X3_isKey : GoodIn wsX3_appendMany (va_wsS RX3 79 yX3_isKey wsX3_isKey) := goodIn_app (goodIn_of _ (by decide +kernel)) ggX3_appendMany_X3_isKey
set_option maxRecDepth 20000 in
theorem ggX3_appendMany_X3_many : GoodIn wsX3_appendMany wsX3_many := goodIn_r _ [12, 13, 14, 34, 35, 36, 37, 38, 39, 40, 41, 42, 43, 44, 45, 46, 47, 48, 49, 50, 51] (by decide +kernel) (by decide +kernel)
set_option maxRecDepth 20000 in
theorem gX3_appendMany_X3_many : GoodIn wsX3_appendMany (wsV RX3 82 RX3 yX3_many wsX3_many) := goodIn_app (goodIn_of _ (by decide +kernel)) ggX3_appendMany_X3_many
set_option maxRecDepth 20000 in
theorem ggX3_appendMany_X3_isAbove : GoodIn wsX3_appendMany wsX3_isAbove := goodIn_r _ [18, 13, 19, 14, 20, 34, 35, 36, 37, 38, 39, 40, 41, 42, 43, 44, 45, 46, 47, 48, 49, 50, 51] (by decide +kernel) (by decide +kernel)
set_option maxRecDepth 20000 in
theorem gX3_appendMany_X3_isAbove : GoodIn wsX3_appendMany (wsV RX3 86 RX3 yX3_isAbove wsX3_isAbove) := goodIn_app (goodIn_of _ (by decide +kernel)) ggX3_appendMany_X3_isAbove
set_option maxRecDepth 20000 in
theorem ggX3_appendMany_X3_ends : GoodIn wsX3_appendMany wsX3_ends := goodIn_r _ [24, 19, 13, 25, 2, 26, 27, 28, 29, 5, 30, 31, 32, 33, 34, 35, 36, 37, 38, 39, 40, 41, 42, 43, 44, 45, 46, 47, 48, 49, 50, 51] (by decide +kernel) (by decide +kernel)
set_option maxRecDepth 20000 in
theorem gX3_appendMany_X3_ends : GoodIn wsX3_appendMany (wsV RX3 89 RX3 yX3_ends wsX3_ends) := goodIn_app (goodIn_of _ (by decide +kernel)) ggX3_appendMany_X3_ends
theorem dX3_appendMany_0 : decode cX3_appendMany 0 = .ok (.iload_n 1, 1) := by decide +kernel
theorem dX3_appendMany_1 : decode cX3_appendMany 1 = .ok (.invokestatic 79, 3) := by decide +kernel
theorem dX3_appendMany_4 : decode cX3_appendMany 4 = .ok (.ifCond .eq 30, 3) := by decide +kernel
theorem dX3_appendMany_7 : decode cX3_appendMany 7 = .ok (.iload_n 2, 1) := by decide +kernel
theorem dX3_appendMany_8 : decode cX3_appendMany 8 = .ok (.iconst 1, 1) := by decide +kernel
theorem dX3_appendMany_9 : decode cX3_appendMany 9 = .ok (.if_icmp .lt 25, 3) := by decide +kernel
theorem dX3_appendMany_12 : decode cX3_appendMany 12 = .ok (.iload_n 2, 1) := by decide +kernel
theorem dX3_appendMany_13 : decode cX3_appendMany 13 = .ok (.sipush 10000, 3) := by decide +kernel
theorem dX3_appendMany_16 : decode cX3_appendMany 16 = .ok (.if_icmp .gt 18, 3) := by decide +kernel
theorem dX3_appendMany_19 : decode cX3_appendMany 19 = .ok (.iload_n 3, 1) := by decide +kernel
theorem dX3_appendMany_20 : decode cX3_appendMany 20 = .ok (.iconst 1, 1) := by decide +kernel
theorem dX3_appendMany_21 : decode cX3_appendMany 21 = .ok (.if_icmp .lt 13, 3) := by decide +kernel
theorem dX3_appendMany_24 : decode cX3_appendMany 24 = .ok (.iload_n 3, 1) := by decide +kernel
theorem dX3_appendMany_25 : decode cX3_appendMany 25 = .ok (.bipush 100, 2) := by decide +kernel
theorem dX3_appendMany_27 : decode cX3_appendMany 27 = .ok (.if_icmp .gt 7, 3) := by decide +kernel
theorem dX3_appendMany_30 : decode cX3_appendMany 30 = .ok (.iconst 1, 1) := by decide +kernel
theorem dX3_appendMany_31 : decode cX3_appendMany 31 = .ok (.goto 4, 3) := by decide +kernel
theorem dX3_appendMany_34 : decode cX3_appendMany 34 = .ok (.iconst 0, 1) := by decide +kernel
theorem dX3_appendMany_35 : decode cX3_appendMany 35 = .ok (.istore 4, 2) := by decide +kernel
theorem dX3_appendMany_37 : decode cX3_appendMany 37 = .ok (.aload_n 0, 1) := by decide +kernel
theorem dX3_appendMany_38 : decode cX3_appendMany 38 = .ok (.iload 4, 2) := by decide +kernel
theorem dX3_appendMany_40 : decode cX3_appendMany 40 = .ok (.ifCond .eq 16, 3) := by decide +kernel
theorem dX3_appendMany_43 : decode cX3_appendMany 43 = .ok (.iload_n 1, 1) := by decide +kernel
theorem dX3_appendMany_44 : decode cX3_appendMany 44 = .ok (.iload_n 2, 1) := by decide +kernel
theorem dX3_appendMany_45 : decode cX3_appendMany 45 = .ok (.iload_n 3, 1) := by decide +kernel
theorem dX3_appendMany_46 : decode cX3_appendMany 46 = .ok (.iconst 1, 1) := by decide +kernel
theorem dX3_appendMany_47 : decode cX3_appendMany 47 = .ok (.isub, 1) := by decide +kernel
theorem dX3_appendMany_48 : decode cX3_appendMany 48 = .ok (.imul, 1) := by decide +kernel
theorem dX3_appendMany_49 : decode cX3_appendMany 49 = .ok (.iadd, 1) := by decide +kernel
theorem dX3_appendMany_50 : decode cX3_appendMany 50 = .ok (.invokestatic 79, 3) := by decide +kernel
theorem dX3_appendMany_53 : decode cX3_appendMany 53 = .ok (.ifCond .ne 7, 3) := by decide +kernel
theorem dX3_appendMany_56 : decode cX3_appendMany 56 = .ok (.iconst 1, 1) := by decide +kernel
theorem dX3_appendMany_57 : decode cX3_appendMany 57 = .ok (.goto 28, 3) := by decide +kernel
theorem dX3_appendMany_60 : decode cX3_appendMany 60 = .ok (.aload_n 0, 1) := by decide +kernel
theorem dX3_appendMany_61 : decode cX3_appendMany 61 = .ok (.invokevirtual 82, 3) := by decide +kernel
theorem dX3_appendMany_64 : decode cX3_appendMany 64 = .ok (.iload_n 3, 1) := by decide +kernel
theorem dX3_appendMany_65 : decode cX3_appendMany 65 = .ok (.iadd, 1) := by decide +kernel
theorem dX3_appendMany_66 : decode cX3_appendMany 66 = .ok (.sipush 256, 3) := by decide +kernel
theorem dX3_appendMany_69 : decode cX3_appendMany 69 = .ok (.if_icmp .gt 11, 3) := by decide +kernel
theorem dX3_appendMany_72 : decode cX3_appendMany 72 = .ok (.aload_n 0, 1) := by decide +kernel
theorem dX3_appendMany_73 : decode cX3_appendMany 73 = .ok (.iload_n 1, 1) := by decide +kernel
theorem dX3_appendMany_74 : decode cX3_appendMany 74 = .ok (.invokevirtual 86, 3) := by decide +kernel
theorem dX3_appendMany_77 : decode cX3_appendMany 77 = .ok (.ifCond .ne 7, 3) := by decide +kernel
theorem dX3_appendMany_80 : decode cX3_appendMany 80 = .ok (.iconst 2, 1) := by decide +kernel
theorem dX3_appendMany_81 : decode cX3_appendMany 81 = .ok (.goto 4, 3) := by decide +kernel
theorem dX3_appendMany_84 : decode cX3_appendMany 84 = .ok (.iconst 0, 1) := by decide +kernel
theorem dX3_appendMany_85 : decode cX3_appendMany 85 = .ok (.putfield 36, 3) := by decide +kernel
theorem dX3_appendMany_88 : decode cX3_appendMany 88 = .ok (.iconst 0, 1) := by decide +kernel
theorem dX3_appendMany_89 : decode cX3_appendMany 89 = .ok (.istore 5, 2) := by decide +kernel
theorem dX3_appendMany_91 : decode cX3_appendMany 91 = .ok (.iload 5, 2) := by decide +kernel
theorem dX3_appendMany_93 : decode cX3_appendMany 93 = .ok (.iload_n 3, 1) := by decide +kernel
theorem dX3_appendMany_94 : decode cX3_appendMany 94 = .ok (.if_icmp .ge 26, 3) := by decide +kernel
theorem dX3_appendMany_97 : decode cX3_appendMany 97 = .ok (.aload_n 0, 1) := by decide +kernel
theorem dX3_appendMany_98 : decode cX3_appendMany 98 = .ok (.getfield 36, 3) := by decide +kernel
theorem dX3_appendMany_101 : decode cX3_appendMany 101 = .ok (.ifCond .ne 19, 3) := by decide +kernel
theorem dX3_appendMany_104 : decode cX3_appendMany 104 = .ok (.aload_n 0, 1) := by decide +kernel
theorem dX3_appendMany_105 : decode cX3_appendMany 105 = .ok (.iload_n 1, 1) := by decide +kernel
theorem dX3_appendMany_106 : decode cX3_appendMany 106 = .ok (.iload_n 2, 1) := by decide +kernel
theorem dX3_appendMany_107 : decode cX3_appendMany 107 = .ok (.iload 5, 2) := by decide +kernel
theorem dX3_appendMany_109 : decode cX3_appendMany 109 = .ok (.imul, 1) := by decide +kernel
theorem dX3_appendMany_110 : decode cX3_appendMany 110 = .ok (.iadd, 1) := by decide +kernel
theorem dX3_appendMany_111 : decode cX3_appendMany 111 = .ok (.invokevirtual 89, 3) := by decide +kernel
theorem dX3_appendMany_114 : decode cX3_appendMany 114 = .ok (.iinc 5 1, 3) := by decide +kernel
theorem dX3_appendMany_117 : decode cX3_appendMany 117 = .ok (.goto (-26), 3) := by decide +kernel
theorem dX3_appendMany_120 : decode cX3_appendMany 120 = .ok (.aload_n 0, 1) := by decide +kernel
theorem dX3_appendMany_121 : decode cX3_appendMany 121 = .ok (.getfield 48, 3) := by decide +kernel
theorem dX3_appendMany_124 : decode cX3_appendMany 124 = .ok (.ireturn, 1) := by decide +kernel
set_option maxRecDepth 20000 in
theorem ggX3_insert_X3_isInRow : GoodIn wsX3_insert wsX3_isInRow := goodIn_r _ [10, 11, 12, 13, 14, 15, 9, 16, 81, 82, 83, 84, 85, 86, 87, 88, 89, 90, 91, 92, 93, 94, 95, 96, 97, 98] (by decide +kernel) (by decide +kernel)
set_option maxRecDepth 20000 in
theorem gX3_insert_X3_isInRow : GoodIn wsX3_insert (wsV RX3 76 RX3 yX3_isInRow wsX3_isInRow) := goodIn_app (goodIn_of _ (by decide +kernel)) ggX3_insert_X3_isInRow
set_option maxRecDepth 20000 in
theorem ggX3_insert_X3_isKey : GoodIn wsX3_insert wsX3_isKey := goodIn_r _ [19, 20, 21] (by decide +kernel) (by decide +kernel)
set_option maxRecDepth 20000 in
theorem gX3_insert_X3_isKey : GoodIn wsX3_insert (va_wsS RX3 79 yX3_isKey wsX3_isKey) := goodIn_app (goodIn_of _ (by decide +kernel)) ggX3_insert_X3_isKey
set_option maxRecDepth 20000 in
theorem ggX3_insert_X3_isThere : GoodIn wsX3_insert wsX3_isThere := goodIn_r _ [25, 2, 26, 27, 28, 9, 29, 3, 4, 6, 7, 8, 10, 11, 12, 13, 14, 15, 16, 81, 82, 83, 84, 85, 86, 87, 88, 89, 90, 91, 92, 93, 94, 95, 96, 97, 98] (by decide +kernel) (by decide +kernel)
set_option maxRecDepth 20000 in
theorem gX3_insert_X3_isThere : GoodIn wsX3_insert (wsV RX3 93 RX3 yX3_isThere wsX3_isThere) := goodIn_app (goodIn_of _ (by decide +kernel)) ggX3_insert_X3_isThere
set_option maxRecDepth 20000 in
theorem ggX3_insert_X3_many : GoodIn wsX3_insert wsX3_many := goodIn_r _ [33, 11, 3, 81, 82, 83, 84, 85, 86, 87, 88, 89, 90, 91, 92, 93, 94, 95, 96, 97, 98] (by decide +kernel) (by decide +kernel)
set_option maxRecDepth 20000 in
theorem gX3_insert_X3_many : GoodIn wsX3_insert (wsV RX3 82 RX3 yX3_many wsX3_many) := goodIn_app (goodIn_of _ (by decide +kernel)) ggX3_insert_X3_many
set_option maxRecDepth 20000 in
theorem ggX3_insert_X3_placeOf : GoodIn wsX3_insert wsX3_placeOf := goodIn_r _ [16, 11, 12, 81, 82, 83, 84, 85, 86, 87, 88, 89, 90, 91, 92, 93, 94, 95, 96, 97, 98] (by decide +kernel) (by decide +kernel)
set_option maxRecDepth 20000 in
theorem gX3_insert_X3_placeOf : GoodIn wsX3_insert (wsV RX3 66 RX3 yX3_placeOf wsX3_placeOf) := goodIn_app (goodIn_of _ (by decide +kernel)) ggX3_insert_X3_placeOf
set_option maxRecDepth 20000 in
theorem ggX3_insert_X3_mergesAll : GoodIn wsX3_insert wsX3_mergesAll := goodIn_r _ [37, 38, 39, 40, 41, 3, 4, 42, 43, 44, 45, 9, 46, 47, 2, 12, 48, 49, 50, 51, 11, 52, 53, 54, 55, 56, 57, 58, 59, 60, 61, 62, 63, 64, 65, 66, 67, 68, 69, 70, 71, 72, 73, 74, 75, 76, 77, 78, 79, 80, 81, 82, 83, 84, 85, 86, 87, 88, 89, 90, 91, 92, 93, 94, 95, 96, 97, 98] (by decide +kernel) (by decide +kernel)
set_option maxRecDepth 20000 in
theorem gX3_insert_X3_mergesAll : GoodIn wsX3_insert (wsV RX3 96 RX3 yX3_mergesAll wsX3_mergesAll) := goodIn_app (goodIn_of _ (by decide +kernel)) ggX3_insert_X3_mergesAll
theorem dX3_insert_0 : decode cX3_insert 0 = .ok (.aload_n 0, 1) := by decide +kernel
theorem dX3_insert_1 : decode cX3_insert 1 = .ok (.iload_n 1, 1) := by decide +kernel
theorem dX3_insert_2 : decode cX3_insert 2 = .ok (.invokevirtual 76, 3) := by decide +kernel
theorem dX3_insert_5 : decode cX3_insert 5 = .ok (.istore_n 2, 1) := by decide +kernel
theorem dX3_insert_6 : decode cX3_insert 6 = .ok (.aload_n 0, 1) := by decide +kernel
theorem dX3_insert_7 : decode cX3_insert 7 = .ok (.iload_n 1, 1) := by decide +kernel
theorem dX3_insert_8 : decode cX3_insert 8 = .ok (.invokestatic 79, 3) := by decide +kernel
theorem dX3_insert_11 : decode cX3_insert 11 = .ok (.ifCond .ne 7, 3) := by decide +kernel
theorem dX3_insert_14 : decode cX3_insert 14 = .ok (.iconst 1, 1) := by decide +kernel
theorem dX3_insert_15 : decode cX3_insert 15 = .ok (.goto 30, 3) := by decide +kernel
theorem dX3_insert_18 : decode cX3_insert 18 = .ok (.aload_n 0, 1) := by decide +kernel
theorem dX3_insert_19 : decode cX3_insert 19 = .ok (.iload_n 1, 1) := by decide +kernel
theorem dX3_insert_20 : decode cX3_insert 20 = .ok (.invokevirtual 93, 3) := by decide +kernel
theorem dX3_insert_23 : decode cX3_insert 23 = .ok (.ifCond .ne 17, 3) := by decide +kernel
theorem dX3_insert_26 : decode cX3_insert 26 = .ok (.aload_n 0, 1) := by decide +kernel
theorem dX3_insert_27 : decode cX3_insert 27 = .ok (.invokevirtual 82, 3) := by decide +kernel
theorem dX3_insert_30 : decode cX3_insert 30 = .ok (.sipush 256, 3) := by decide +kernel
theorem dX3_insert_33 : decode cX3_insert 33 = .ok (.if_icmp .ne 11, 3) := by decide +kernel
theorem dX3_insert_36 : decode cX3_insert 36 = .ok (.iload_n 2, 1) := by decide +kernel
theorem dX3_insert_37 : decode cX3_insert 37 = .ok (.ifCond .ne 7, 3) := by decide +kernel
theorem dX3_insert_40 : decode cX3_insert 40 = .ok (.iconst 2, 1) := by decide +kernel
theorem dX3_insert_41 : decode cX3_insert 41 = .ok (.goto 4, 3) := by decide +kernel
theorem dX3_insert_44 : decode cX3_insert 44 = .ok (.iconst 0, 1) := by decide +kernel
theorem dX3_insert_45 : decode cX3_insert 45 = .ok (.putfield 36, 3) := by decide +kernel
theorem dX3_insert_48 : decode cX3_insert 48 = .ok (.aload_n 0, 1) := by decide +kernel
theorem dX3_insert_49 : decode cX3_insert 49 = .ok (.getfield 36, 3) := by decide +kernel
theorem dX3_insert_52 : decode cX3_insert 52 = .ok (.ifCond .le 5, 3) := by decide +kernel
theorem dX3_insert_55 : decode cX3_insert 55 = .ok (.iconst 0, 1) := by decide +kernel
theorem dX3_insert_56 : decode cX3_insert 56 = .ok (.ireturn, 1) := by decide +kernel
theorem dX3_insert_57 : decode cX3_insert 57 = .ok (.iload_n 2, 1) := by decide +kernel
theorem dX3_insert_58 : decode cX3_insert 58 = .ok (.ifCond .eq 19, 3) := by decide +kernel
theorem dX3_insert_61 : decode cX3_insert 61 = .ok (.aload_n 0, 1) := by decide +kernel
theorem dX3_insert_62 : decode cX3_insert 62 = .ok (.getfield 20, 3) := by decide +kernel
theorem dX3_insert_65 : decode cX3_insert 65 = .ok (.aload_n 0, 1) := by decide +kernel
theorem dX3_insert_66 : decode cX3_insert 66 = .ok (.iload_n 1, 1) := by decide +kernel
theorem dX3_insert_67 : decode cX3_insert 67 = .ok (.invokevirtual 66, 3) := by decide +kernel
theorem dX3_insert_70 : decode cX3_insert 70 = .ok (.iconst 0, 1) := by decide +kernel
theorem dX3_insert_71 : decode cX3_insert 71 = .ok (.bastore, 1) := by decide +kernel
theorem dX3_insert_72 : decode cX3_insert 72 = .ok (.aload_n 0, 1) := by decide +kernel
theorem dX3_insert_73 : decode cX3_insert 73 = .ok (.getfield 69, 3) := by decide +kernel
theorem dX3_insert_76 : decode cX3_insert 76 = .ok (.ireturn, 1) := by decide +kernel
theorem dX3_insert_77 : decode cX3_insert 77 = .ok (.aload_n 0, 1) := by decide +kernel
theorem dX3_insert_78 : decode cX3_insert 78 = .ok (.getfield 69, 3) := by decide +kernel
theorem dX3_insert_81 : decode cX3_insert 81 = .ok (.istore_n 3, 1) := by decide +kernel
theorem dX3_insert_82 : decode cX3_insert 82 = .ok (.iload_n 3, 1) := by decide +kernel
theorem dX3_insert_83 : decode cX3_insert 83 = .ok (.ifCond .le 35, 3) := by decide +kernel
theorem dX3_insert_86 : decode cX3_insert 86 = .ok (.aload_n 0, 1) := by decide +kernel
theorem dX3_insert_87 : decode cX3_insert 87 = .ok (.getfield 27, 3) := by decide +kernel
theorem dX3_insert_90 : decode cX3_insert 90 = .ok (.iload_n 3, 1) := by decide +kernel
theorem dX3_insert_91 : decode cX3_insert 91 = .ok (.iconst 1, 1) := by decide +kernel
theorem dX3_insert_92 : decode cX3_insert 92 = .ok (.isub, 1) := by decide +kernel
theorem dX3_insert_93 : decode cX3_insert 93 = .ok (.iaload, 1) := by decide +kernel
theorem dX3_insert_94 : decode cX3_insert 94 = .ok (.iload_n 1, 1) := by decide +kernel
theorem dX3_insert_95 : decode cX3_insert 95 = .ok (.if_icmp .le 23, 3) := by decide +kernel
theorem dX3_insert_98 : decode cX3_insert 98 = .ok (.aload_n 0, 1) := by decide +kernel
theorem dX3_insert_99 : decode cX3_insert 99 = .ok (.getfield 27, 3) := by decide +kernel
theorem dX3_insert_102 : decode cX3_insert 102 = .ok (.iload_n 3, 1) := by decide +kernel
theorem dX3_insert_103 : decode cX3_insert 103 = .ok (.aload_n 0, 1) := by decide +kernel
theorem dX3_insert_104 : decode cX3_insert 104 = .ok (.getfield 27, 3) := by decide +kernel
theorem dX3_insert_107 : decode cX3_insert 107 = .ok (.iload_n 3, 1) := by decide +kernel
theorem dX3_insert_108 : decode cX3_insert 108 = .ok (.iconst 1, 1) := by decide +kernel
theorem dX3_insert_109 : decode cX3_insert 109 = .ok (.isub, 1) := by decide +kernel
theorem dX3_insert_110 : decode cX3_insert 110 = .ok (.iaload, 1) := by decide +kernel
theorem dX3_insert_111 : decode cX3_insert 111 = .ok (.iastore, 1) := by decide +kernel
theorem dX3_insert_112 : decode cX3_insert 112 = .ok (.iinc 3 (-1), 3) := by decide +kernel
theorem dX3_insert_115 : decode cX3_insert 115 = .ok (.goto (-33), 3) := by decide +kernel
theorem dX3_insert_118 : decode cX3_insert 118 = .ok (.aload_n 0, 1) := by decide +kernel
theorem dX3_insert_119 : decode cX3_insert 119 = .ok (.getfield 27, 3) := by decide +kernel
theorem dX3_insert_122 : decode cX3_insert 122 = .ok (.iload_n 3, 1) := by decide +kernel
theorem dX3_insert_123 : decode cX3_insert 123 = .ok (.iload_n 1, 1) := by decide +kernel
theorem dX3_insert_124 : decode cX3_insert 124 = .ok (.iastore, 1) := by decide +kernel
theorem dX3_insert_125 : decode cX3_insert 125 = .ok (.aload_n 0, 1) := by decide +kernel
theorem dX3_insert_126 : decode cX3_insert 126 = .ok (.dup, 1) := by decide +kernel
theorem dX3_insert_127 : decode cX3_insert 127 = .ok (.getfield 69, 3) := by decide +kernel
theorem dX3_insert_130 : decode cX3_insert 130 = .ok (.iconst 1, 1) := by decide +kernel
theorem dX3_insert_131 : decode cX3_insert 131 = .ok (.iadd, 1) := by decide +kernel
theorem dX3_insert_132 : decode cX3_insert 132 = .ok (.putfield 69, 3) := by decide +kernel
theorem dX3_insert_135 : decode cX3_insert 135 = .ok (.aload_n 0, 1) := by decide +kernel
theorem dX3_insert_136 : decode cX3_insert 136 = .ok (.getfield 69, 3) := by decide +kernel
theorem dX3_insert_139 : decode cX3_insert 139 = .ok (.aload_n 0, 1) := by decide +kernel
theorem dX3_insert_140 : decode cX3_insert 140 = .ok (.getfield 13, 3) := by decide +kernel
theorem dX3_insert_143 : decode cX3_insert 143 = .ok (.if_icmp .ne 7, 3) := by decide +kernel
theorem dX3_insert_146 : decode cX3_insert 146 = .ok (.aload_n 0, 1) := by decide +kernel
theorem dX3_insert_147 : decode cX3_insert 147 = .ok (.invokevirtual 96, 3) := by decide +kernel
theorem dX3_insert_150 : decode cX3_insert 150 = .ok (.aload_n 0, 1) := by decide +kernel
theorem dX3_insert_151 : decode cX3_insert 151 = .ok (.getfield 69, 3) := by decide +kernel
theorem dX3_insert_154 : decode cX3_insert 154 = .ok (.ireturn, 1) := by decide +kernel
set_option maxRecDepth 20000 in
theorem ggX3_remove_X3_isThere : GoodIn wsX3_remove wsX3_isThere := goodIn_r _ [9, 2, 10, 11, 12, 8, 13, 3, 4, 14, 15, 16, 17, 18, 19, 20, 21, 22, 23, 33, 34, 35, 36, 37, 38, 39, 40, 41, 42, 43, 44, 45, 46, 47, 48, 49, 50] (by decide +kernel) (by decide +kernel)
set_option maxRecDepth 20000 in
theorem gX3_remove_X3_isThere : GoodIn wsX3_remove (wsV RX3 93 RX3 yX3_isThere wsX3_isThere) := goodIn_app (goodIn_of _ (by decide +kernel)) ggX3_remove_X3_isThere
set_option maxRecDepth 20000 in
theorem ggX3_remove_X3_isBuffered : GoodIn wsX3_remove wsX3_isBuffered := goodIn_r _ [13, 3, 4, 33, 34, 35, 36, 37, 38, 39, 40, 41, 42, 43, 44, 45, 46, 47, 48, 49, 50] (by decide +kernel) (by decide +kernel)
set_option maxRecDepth 20000 in
theorem gX3_remove_X3_isBuffered : GoodIn wsX3_remove (wsV RX3 72 RX3 yX3_isBuffered wsX3_isBuffered) := goodIn_app (goodIn_of _ (by decide +kernel)) ggX3_remove_X3_isBuffered
set_option maxRecDepth 20000 in
theorem ggX3_remove_X3_placeOf : GoodIn wsX3_remove wsX3_placeOf := goodIn_r _ [23, 18, 19, 33, 34, 35, 36, 37, 38, 39, 40, 41, 42, 43, 44, 45, 46, 47, 48, 49, 50] (by decide +kernel) (by decide +kernel)
set_option maxRecDepth 20000 in
theorem gX3_remove_X3_placeOf : GoodIn wsX3_remove (wsV RX3 66 RX3 yX3_placeOf wsX3_placeOf) := goodIn_app (goodIn_of _ (by decide +kernel)) ggX3_remove_X3_placeOf
set_option maxRecDepth 20000 in
theorem ggX3_remove_X3_keys : GoodIn wsX3_remove wsX3_keys := goodIn_r _ [27, 28, 29, 30, 31, 8, 32, 18, 2, 19, 3, 4, 33, 34, 35, 36, 37, 38, 39, 40, 41, 42, 43, 44, 45, 46, 47, 48, 49, 50] (by decide +kernel) (by decide +kernel)
set_option maxRecDepth 20000 in
theorem gX3_remove_X3_keys : GoodIn wsX3_remove (wsV RX3 99 RX3 yX3_keys wsX3_keys) := goodIn_app (goodIn_of _ (by decide +kernel)) ggX3_remove_X3_keys
theorem dX3_remove_0 : decode cX3_remove 0 = .ok (.aload_n 0, 1) := by decide +kernel
theorem dX3_remove_1 : decode cX3_remove 1 = .ok (.aload_n 0, 1) := by decide +kernel
theorem dX3_remove_2 : decode cX3_remove 2 = .ok (.iload_n 1, 1) := by decide +kernel
theorem dX3_remove_3 : decode cX3_remove 3 = .ok (.invokevirtual 93, 3) := by decide +kernel
theorem dX3_remove_6 : decode cX3_remove 6 = .ok (.ifCond .eq 7, 3) := by decide +kernel
theorem dX3_remove_9 : decode cX3_remove 9 = .ok (.iconst 0, 1) := by decide +kernel
theorem dX3_remove_10 : decode cX3_remove 10 = .ok (.goto 4, 3) := by decide +kernel
theorem dX3_remove_13 : decode cX3_remove 13 = .ok (.iconst 1, 1) := by decide +kernel
theorem dX3_remove_14 : decode cX3_remove 14 = .ok (.putfield 36, 3) := by decide +kernel
theorem dX3_remove_17 : decode cX3_remove 17 = .ok (.aload_n 0, 1) := by decide +kernel
theorem dX3_remove_18 : decode cX3_remove 18 = .ok (.getfield 36, 3) := by decide +kernel
theorem dX3_remove_21 : decode cX3_remove 21 = .ok (.ifCond .le 5, 3) := by decide +kernel
theorem dX3_remove_24 : decode cX3_remove 24 = .ok (.iconst 0, 1) := by decide +kernel
theorem dX3_remove_25 : decode cX3_remove 25 = .ok (.ireturn, 1) := by decide +kernel
theorem dX3_remove_26 : decode cX3_remove 26 = .ok (.aload_n 0, 1) := by decide +kernel
theorem dX3_remove_27 : decode cX3_remove 27 = .ok (.iload_n 1, 1) := by decide +kernel
theorem dX3_remove_28 : decode cX3_remove 28 = .ok (.invokevirtual 72, 3) := by decide +kernel
theorem dX3_remove_31 : decode cX3_remove 31 = .ok (.ifCond .ne 19, 3) := by decide +kernel
theorem dX3_remove_34 : decode cX3_remove 34 = .ok (.aload_n 0, 1) := by decide +kernel
theorem dX3_remove_35 : decode cX3_remove 35 = .ok (.getfield 20, 3) := by decide +kernel
theorem dX3_remove_38 : decode cX3_remove 38 = .ok (.aload_n 0, 1) := by decide +kernel
theorem dX3_remove_39 : decode cX3_remove 39 = .ok (.iload_n 1, 1) := by decide +kernel
theorem dX3_remove_40 : decode cX3_remove 40 = .ok (.invokevirtual 66, 3) := by decide +kernel
theorem dX3_remove_43 : decode cX3_remove 43 = .ok (.iconst 1, 1) := by decide +kernel
theorem dX3_remove_44 : decode cX3_remove 44 = .ok (.bastore, 1) := by decide +kernel
theorem dX3_remove_45 : decode cX3_remove 45 = .ok (.aload_n 0, 1) := by decide +kernel
theorem dX3_remove_46 : decode cX3_remove 46 = .ok (.invokevirtual 99, 3) := by decide +kernel
theorem dX3_remove_49 : decode cX3_remove 49 = .ok (.ireturn, 1) := by decide +kernel
theorem dX3_remove_50 : decode cX3_remove 50 = .ok (.iconst 0, 1) := by decide +kernel
theorem dX3_remove_51 : decode cX3_remove 51 = .ok (.istore_n 2, 1) := by decide +kernel
theorem dX3_remove_52 : decode cX3_remove 52 = .ok (.iconst 0, 1) := by decide +kernel
theorem dX3_remove_53 : decode cX3_remove 53 = .ok (.istore_n 3, 1) := by decide +kernel
theorem dX3_remove_54 : decode cX3_remove 54 = .ok (.iload_n 3, 1) := by decide +kernel
theorem dX3_remove_55 : decode cX3_remove 55 = .ok (.aload_n 0, 1) := by decide +kernel
theorem dX3_remove_56 : decode cX3_remove 56 = .ok (.getfield 69, 3) := by decide +kernel
theorem dX3_remove_59 : decode cX3_remove 59 = .ok (.if_icmp .ge 34, 3) := by decide +kernel
theorem dX3_remove_62 : decode cX3_remove 62 = .ok (.aload_n 0, 1) := by decide +kernel
theorem dX3_remove_63 : decode cX3_remove 63 = .ok (.getfield 27, 3) := by decide +kernel
theorem dX3_remove_66 : decode cX3_remove 66 = .ok (.iload_n 3, 1) := by decide +kernel
theorem dX3_remove_67 : decode cX3_remove 67 = .ok (.iaload, 1) := by decide +kernel
theorem dX3_remove_68 : decode cX3_remove 68 = .ok (.iload_n 1, 1) := by decide +kernel
theorem dX3_remove_69 : decode cX3_remove 69 = .ok (.if_icmp .eq 18, 3) := by decide +kernel
theorem dX3_remove_72 : decode cX3_remove 72 = .ok (.aload_n 0, 1) := by decide +kernel
theorem dX3_remove_73 : decode cX3_remove 73 = .ok (.getfield 27, 3) := by decide +kernel
theorem dX3_remove_76 : decode cX3_remove 76 = .ok (.iload_n 2, 1) := by decide +kernel
theorem dX3_remove_77 : decode cX3_remove 77 = .ok (.aload_n 0, 1) := by decide +kernel
theorem dX3_remove_78 : decode cX3_remove 78 = .ok (.getfield 27, 3) := by decide +kernel
theorem dX3_remove_81 : decode cX3_remove 81 = .ok (.iload_n 3, 1) := by decide +kernel
theorem dX3_remove_82 : decode cX3_remove 82 = .ok (.iaload, 1) := by decide +kernel
theorem dX3_remove_83 : decode cX3_remove 83 = .ok (.iastore, 1) := by decide +kernel
theorem dX3_remove_84 : decode cX3_remove 84 = .ok (.iinc 2 1, 3) := by decide +kernel
theorem dX3_remove_87 : decode cX3_remove 87 = .ok (.iinc 3 1, 3) := by decide +kernel
theorem dX3_remove_90 : decode cX3_remove 90 = .ok (.goto (-36), 3) := by decide +kernel
theorem dX3_remove_93 : decode cX3_remove 93 = .ok (.aload_n 0, 1) := by decide +kernel
theorem dX3_remove_94 : decode cX3_remove 94 = .ok (.iload_n 2, 1) := by decide +kernel
theorem dX3_remove_95 : decode cX3_remove 95 = .ok (.putfield 69, 3) := by decide +kernel
theorem dX3_remove_98 : decode cX3_remove 98 = .ok (.aload_n 0, 1) := by decide +kernel
theorem dX3_remove_99 : decode cX3_remove 99 = .ok (.invokevirtual 99, 3) := by decide +kernel
theorem dX3_remove_102 : decode cX3_remove 102 = .ok (.ireturn, 1) := by decide +kernel
theorem dX3_makes_0 : decode cX3_makes 0 = .ok (.aload_n 0, 1) := by decide +kernel
theorem dX3_makes_1 : decode cX3_makes 1 = .ok (.getfield 102, 3) := by decide +kernel
theorem dX3_makes_4 : decode cX3_makes 4 = .ok (.istore_n 2, 1) := by decide +kernel
theorem dX3_makes_5 : decode cX3_makes 5 = .ok (.iload_n 2, 1) := by decide +kernel
theorem dX3_makes_6 : decode cX3_makes 6 = .ok (.ifCond .le 35, 3) := by decide +kernel
theorem dX3_makes_9 : decode cX3_makes 9 = .ok (.aload_n 0, 1) := by decide +kernel
theorem dX3_makes_10 : decode cX3_makes 10 = .ok (.getfield 30, 3) := by decide +kernel
theorem dX3_makes_13 : decode cX3_makes 13 = .ok (.iload_n 2, 1) := by decide +kernel
theorem dX3_makes_14 : decode cX3_makes 14 = .ok (.iconst 1, 1) := by decide +kernel
theorem dX3_makes_15 : decode cX3_makes 15 = .ok (.isub, 1) := by decide +kernel
theorem dX3_makes_16 : decode cX3_makes 16 = .ok (.iaload, 1) := by decide +kernel
theorem dX3_makes_17 : decode cX3_makes 17 = .ok (.iload_n 1, 1) := by decide +kernel
theorem dX3_makes_18 : decode cX3_makes 18 = .ok (.if_icmp .le 23, 3) := by decide +kernel
theorem dX3_makes_21 : decode cX3_makes 21 = .ok (.aload_n 0, 1) := by decide +kernel
theorem dX3_makes_22 : decode cX3_makes 22 = .ok (.getfield 30, 3) := by decide +kernel
theorem dX3_makes_25 : decode cX3_makes 25 = .ok (.iload_n 2, 1) := by decide +kernel
theorem dX3_makes_26 : decode cX3_makes 26 = .ok (.aload_n 0, 1) := by decide +kernel
theorem dX3_makes_27 : decode cX3_makes 27 = .ok (.getfield 30, 3) := by decide +kernel
theorem dX3_makes_30 : decode cX3_makes 30 = .ok (.iload_n 2, 1) := by decide +kernel
theorem dX3_makes_31 : decode cX3_makes 31 = .ok (.iconst 1, 1) := by decide +kernel
theorem dX3_makes_32 : decode cX3_makes 32 = .ok (.isub, 1) := by decide +kernel
theorem dX3_makes_33 : decode cX3_makes 33 = .ok (.iaload, 1) := by decide +kernel
theorem dX3_makes_34 : decode cX3_makes 34 = .ok (.iastore, 1) := by decide +kernel
theorem dX3_makes_35 : decode cX3_makes 35 = .ok (.iinc 2 (-1), 3) := by decide +kernel
theorem dX3_makes_38 : decode cX3_makes 38 = .ok (.goto (-33), 3) := by decide +kernel
theorem dX3_makes_41 : decode cX3_makes 41 = .ok (.aload_n 0, 1) := by decide +kernel
theorem dX3_makes_42 : decode cX3_makes 42 = .ok (.getfield 30, 3) := by decide +kernel
theorem dX3_makes_45 : decode cX3_makes 45 = .ok (.iload_n 2, 1) := by decide +kernel
theorem dX3_makes_46 : decode cX3_makes 46 = .ok (.iload_n 1, 1) := by decide +kernel
theorem dX3_makes_47 : decode cX3_makes 47 = .ok (.iastore, 1) := by decide +kernel
theorem dX3_makes_48 : decode cX3_makes 48 = .ok (.aload_n 0, 1) := by decide +kernel
theorem dX3_makes_49 : decode cX3_makes 49 = .ok (.dup, 1) := by decide +kernel
theorem dX3_makes_50 : decode cX3_makes 50 = .ok (.getfield 102, 3) := by decide +kernel
theorem dX3_makes_53 : decode cX3_makes 53 = .ok (.iconst 1, 1) := by decide +kernel
theorem dX3_makes_54 : decode cX3_makes 54 = .ok (.iadd, 1) := by decide +kernel
theorem dX3_makes_55 : decode cX3_makes 55 = .ok (.putfield 102, 3) := by decide +kernel
theorem dX3_makes_58 : decode cX3_makes 58 = .ok (.return_, 1) := by decide +kernel
set_option maxRecDepth 20000 in
theorem ggX3_cuts_X3_fits : GoodIn wsX3_cuts wsX3_fits := goodIn_r _ [8, 9, 10, 11, 12, 13, 14, 15, 16, 17, 18, 19, 20, 21, 22, 23, 24, 25, 26, 27, 28, 29] (by decide +kernel) (by decide +kernel)
set_option maxRecDepth 20000 in
theorem gX3_cuts_X3_fits : GoodIn wsX3_cuts (wsV RX3 58 RX3 yX3_fits wsX3_fits) := goodIn_app (goodIn_of _ (by decide +kernel)) ggX3_cuts_X3_fits
theorem dX3_cuts_0 : decode cX3_cuts 0 = .ok (.iload_n 2, 1) := by decide +kernel
theorem dX3_cuts_1 : decode cX3_cuts 1 = .ok (.istore_n 3, 1) := by decide +kernel
theorem dX3_cuts_2 : decode cX3_cuts 2 = .ok (.iload_n 1, 1) := by decide +kernel
theorem dX3_cuts_3 : decode cX3_cuts 3 = .ok (.istore 4, 2) := by decide +kernel
theorem dX3_cuts_5 : decode cX3_cuts 5 = .ok (.iload 4, 2) := by decide +kernel
theorem dX3_cuts_7 : decode cX3_cuts 7 = .ok (.aload_n 0, 1) := by decide +kernel
theorem dX3_cuts_8 : decode cX3_cuts 8 = .ok (.getfield 102, 3) := by decide +kernel
theorem dX3_cuts_11 : decode cX3_cuts 11 = .ok (.if_icmp .ge 48, 3) := by decide +kernel
theorem dX3_cuts_14 : decode cX3_cuts 14 = .ok (.iload_n 3, 1) := by decide +kernel
theorem dX3_cuts_15 : decode cX3_cuts 15 = .ok (.iload_n 2, 1) := by decide +kernel
theorem dX3_cuts_16 : decode cX3_cuts 16 = .ok (.if_icmp .eq 26, 3) := by decide +kernel
theorem dX3_cuts_19 : decode cX3_cuts 19 = .ok (.aload_n 0, 1) := by decide +kernel
theorem dX3_cuts_20 : decode cX3_cuts 20 = .ok (.aload_n 0, 1) := by decide +kernel
theorem dX3_cuts_21 : decode cX3_cuts 21 = .ok (.getfield 30, 3) := by decide +kernel
theorem dX3_cuts_24 : decode cX3_cuts 24 = .ok (.aload_n 0, 1) := by decide +kernel
theorem dX3_cuts_25 : decode cX3_cuts 25 = .ok (.getfield 33, 3) := by decide +kernel
theorem dX3_cuts_28 : decode cX3_cuts 28 = .ok (.iload_n 3, 1) := by decide +kernel
theorem dX3_cuts_29 : decode cX3_cuts 29 = .ok (.iconst 1, 1) := by decide +kernel
theorem dX3_cuts_30 : decode cX3_cuts 30 = .ok (.isub, 1) := by decide +kernel
theorem dX3_cuts_31 : decode cX3_cuts 31 = .ok (.iaload, 1) := by decide +kernel
theorem dX3_cuts_32 : decode cX3_cuts 32 = .ok (.iload 4, 2) := by decide +kernel
theorem dX3_cuts_34 : decode cX3_cuts 34 = .ok (.iconst 1, 1) := by decide +kernel
theorem dX3_cuts_35 : decode cX3_cuts 35 = .ok (.iadd, 1) := by decide +kernel
theorem dX3_cuts_36 : decode cX3_cuts 36 = .ok (.invokevirtual 58, 3) := by decide +kernel
theorem dX3_cuts_39 : decode cX3_cuts 39 = .ok (.ifCond .ne 14, 3) := by decide +kernel
theorem dX3_cuts_42 : decode cX3_cuts 42 = .ok (.aload_n 0, 1) := by decide +kernel
theorem dX3_cuts_43 : decode cX3_cuts 43 = .ok (.getfield 33, 3) := by decide +kernel
theorem dX3_cuts_46 : decode cX3_cuts 46 = .ok (.iload_n 3, 1) := by decide +kernel
theorem dX3_cuts_47 : decode cX3_cuts 47 = .ok (.iload 4, 2) := by decide +kernel
theorem dX3_cuts_49 : decode cX3_cuts 49 = .ok (.iastore, 1) := by decide +kernel
theorem dX3_cuts_50 : decode cX3_cuts 50 = .ok (.iinc 3 1, 3) := by decide +kernel
theorem dX3_cuts_53 : decode cX3_cuts 53 = .ok (.iinc 4 1, 3) := by decide +kernel
theorem dX3_cuts_56 : decode cX3_cuts 56 = .ok (.goto (-51), 3) := by decide +kernel
theorem dX3_cuts_59 : decode cX3_cuts 59 = .ok (.iload_n 3, 1) := by decide +kernel
theorem dX3_cuts_60 : decode cX3_cuts 60 = .ok (.ireturn, 1) := by decide +kernel
set_option maxRecDepth 20000 in
theorem ggX3_gathers_X3_behind : GoodIn wsX3_gathers wsX3_behind := goodIn_r _ [10, 11, 1, 12, 23, 24, 25, 26, 27, 28, 29, 30, 31, 32, 33, 34, 35, 36, 37, 38, 39, 40] (by decide +kernel) (by decide +kernel)
set_option maxRecDepth 20000 in
theorem gX3_gathers_X3_behind : GoodIn wsX3_gathers (wsV RX3 54 RX3 yX3_behind wsX3_behind) := goodIn_app (goodIn_of _ (by decide +kernel)) ggX3_gathers_X3_behind
set_option maxRecDepth 20000 in
theorem ggX3_gathers_X3_makes : GoodIn wsX3_gathers wsX3_makes := goodIn_r _ [16, 17, 18, 23, 24, 25, 26, 27, 28, 29, 30, 31, 32, 33, 34, 35, 36, 37, 38, 39, 40] (by decide +kernel) (by decide +kernel)
set_option maxRecDepth 20000 in
theorem gX3_gathers_X3_makes : GoodIn wsX3_gathers (wsV RX3 105 RX3 yX3_makes wsX3_makes) := goodIn_app (goodIn_of _ (by decide +kernel)) ggX3_gathers_X3_makes
set_option maxRecDepth 20000 in
theorem ggX3_gathers_X3_pieceOf : GoodIn wsX3_gathers wsX3_pieceOf := goodIn_r _ [22, 11, 3, 1, 23, 24, 25, 26, 27, 28, 29, 30, 31, 32, 33, 34, 35, 36, 37, 38, 39, 40] (by decide +kernel) (by decide +kernel)
set_option maxRecDepth 20000 in
theorem gX3_gathers_X3_pieceOf : GoodIn wsX3_gathers (wsV RX3 108 RX3 yX3_pieceOf wsX3_pieceOf) := goodIn_app (goodIn_of _ (by decide +kernel)) ggX3_gathers_X3_pieceOf
theorem dX3_gathers_0 : decode cX3_gathers 0 = .ok (.iconst 0, 1) := by decide +kernel
theorem dX3_gathers_1 : decode cX3_gathers 1 = .ok (.istore_n 2, 1) := by decide +kernel
theorem dX3_gathers_2 : decode cX3_gathers 2 = .ok (.aload_n 0, 1) := by decide +kernel
theorem dX3_gathers_3 : decode cX3_gathers 3 = .ok (.getfield 24, 3) := by decide +kernel
theorem dX3_gathers_6 : decode cX3_gathers 6 = .ok (.iload_n 1, 1) := by decide +kernel
theorem dX3_gathers_7 : decode cX3_gathers 7 = .ok (.iaload, 1) := by decide +kernel
theorem dX3_gathers_8 : decode cX3_gathers 8 = .ok (.istore_n 3, 1) := by decide +kernel
theorem dX3_gathers_9 : decode cX3_gathers 9 = .ok (.iload_n 3, 1) := by decide +kernel
theorem dX3_gathers_10 : decode cX3_gathers 10 = .ok (.aload_n 0, 1) := by decide +kernel
theorem dX3_gathers_11 : decode cX3_gathers 11 = .ok (.iload_n 1, 1) := by decide +kernel
theorem dX3_gathers_12 : decode cX3_gathers 12 = .ok (.invokevirtual 54, 3) := by decide +kernel
theorem dX3_gathers_15 : decode cX3_gathers 15 = .ok (.if_icmp .ge 33, 3) := by decide +kernel
theorem dX3_gathers_18 : decode cX3_gathers 18 = .ok (.aload_n 0, 1) := by decide +kernel
theorem dX3_gathers_19 : decode cX3_gathers 19 = .ok (.getfield 20, 3) := by decide +kernel
theorem dX3_gathers_22 : decode cX3_gathers 22 = .ok (.iload_n 3, 1) := by decide +kernel
theorem dX3_gathers_23 : decode cX3_gathers 23 = .ok (.baload, 1) := by decide +kernel
theorem dX3_gathers_24 : decode cX3_gathers 24 = .ok (.ifCond .eq 8, 3) := by decide +kernel
theorem dX3_gathers_27 : decode cX3_gathers 27 = .ok (.iconst 1, 1) := by decide +kernel
theorem dX3_gathers_28 : decode cX3_gathers 28 = .ok (.istore_n 2, 1) := by decide +kernel
theorem dX3_gathers_29 : decode cX3_gathers 29 = .ok (.goto 13, 3) := by decide +kernel
theorem dX3_gathers_32 : decode cX3_gathers 32 = .ok (.aload_n 0, 1) := by decide +kernel
theorem dX3_gathers_33 : decode cX3_gathers 33 = .ok (.aload_n 0, 1) := by decide +kernel
theorem dX3_gathers_34 : decode cX3_gathers 34 = .ok (.getfield 16, 3) := by decide +kernel
theorem dX3_gathers_37 : decode cX3_gathers 37 = .ok (.iload_n 3, 1) := by decide +kernel
theorem dX3_gathers_38 : decode cX3_gathers 38 = .ok (.iaload, 1) := by decide +kernel
theorem dX3_gathers_39 : decode cX3_gathers 39 = .ok (.invokevirtual 105, 3) := by decide +kernel
theorem dX3_gathers_42 : decode cX3_gathers 42 = .ok (.iinc 3 1, 3) := by decide +kernel
theorem dX3_gathers_45 : decode cX3_gathers 45 = .ok (.goto (-36), 3) := by decide +kernel
end
section
theorem dX3_gathers_48 : decode cX3_gathers 48 = .ok (.iconst 0, 1) := by decide +kernel
theorem dX3_gathers_49 : decode cX3_gathers 49 = .ok (.istore_n 3, 1) := by decide +kernel
theorem dX3_gathers_50 : decode cX3_gathers 50 = .ok (.iload_n 3, 1) := by decide +kernel
theorem dX3_gathers_51 : decode cX3_gathers 51 = .ok (.aload_n 0, 1) := by decide +kernel
theorem dX3_gathers_52 : decode cX3_gathers 52 = .ok (.getfield 69, 3) := by decide +kernel
theorem dX3_gathers_55 : decode cX3_gathers 55 = .ok (.if_icmp .ge 49, 3) := by decide +kernel
theorem dX3_gathers_58 : decode cX3_gathers 58 = .ok (.aload_n 0, 1) := by decide +kernel
theorem dX3_gathers_59 : decode cX3_gathers 59 = .ok (.aload_n 0, 1) := by decide +kernel
theorem dX3_gathers_60 : decode cX3_gathers 60 = .ok (.getfield 27, 3) := by decide +kernel
theorem dX3_gathers_63 : decode cX3_gathers 63 = .ok (.iload_n 3, 1) := by decide +kernel
theorem dX3_gathers_64 : decode cX3_gathers 64 = .ok (.iaload, 1) := by decide +kernel
theorem dX3_gathers_65 : decode cX3_gathers 65 = .ok (.invokevirtual 108, 3) := by decide +kernel
theorem dX3_gathers_68 : decode cX3_gathers 68 = .ok (.istore 4, 2) := by decide +kernel
theorem dX3_gathers_70 : decode cX3_gathers 70 = .ok (.iload 4, 2) := by decide +kernel
theorem dX3_gathers_72 : decode cX3_gathers 72 = .ok (.iload_n 1, 1) := by decide +kernel
theorem dX3_gathers_73 : decode cX3_gathers 73 = .ok (.if_icmp .eq 13, 3) := by decide +kernel
theorem dX3_gathers_76 : decode cX3_gathers 76 = .ok (.iload 4, 2) := by decide +kernel
theorem dX3_gathers_78 : decode cX3_gathers 78 = .ok (.iconst (-1), 1) := by decide +kernel
theorem dX3_gathers_79 : decode cX3_gathers 79 = .ok (.if_icmp .ne 19, 3) := by decide +kernel
theorem dX3_gathers_82 : decode cX3_gathers 82 = .ok (.iload_n 1, 1) := by decide +kernel
theorem dX3_gathers_83 : decode cX3_gathers 83 = .ok (.ifCond .ne 15, 3) := by decide +kernel
theorem dX3_gathers_86 : decode cX3_gathers 86 = .ok (.aload_n 0, 1) := by decide +kernel
theorem dX3_gathers_87 : decode cX3_gathers 87 = .ok (.aload_n 0, 1) := by decide +kernel
theorem dX3_gathers_88 : decode cX3_gathers 88 = .ok (.getfield 27, 3) := by decide +kernel
theorem dX3_gathers_91 : decode cX3_gathers 91 = .ok (.iload_n 3, 1) := by decide +kernel
theorem dX3_gathers_92 : decode cX3_gathers 92 = .ok (.iaload, 1) := by decide +kernel
theorem dX3_gathers_93 : decode cX3_gathers 93 = .ok (.invokevirtual 105, 3) := by decide +kernel
theorem dX3_gathers_96 : decode cX3_gathers 96 = .ok (.iconst 1, 1) := by decide +kernel
theorem dX3_gathers_97 : decode cX3_gathers 97 = .ok (.istore_n 2, 1) := by decide +kernel
theorem dX3_gathers_98 : decode cX3_gathers 98 = .ok (.iinc 3 1, 3) := by decide +kernel
theorem dX3_gathers_101 : decode cX3_gathers 101 = .ok (.goto (-51), 3) := by decide +kernel
theorem dX3_gathers_104 : decode cX3_gathers 104 = .ok (.iload_n 2, 1) := by decide +kernel
theorem dX3_gathers_105 : decode cX3_gathers 105 = .ok (.ireturn, 1) := by decide +kernel
theorem dX3_becomes_0 : decode cX3_becomes 0 = .ok (.aload_n 0, 1) := by decide +kernel
theorem dX3_becomes_1 : decode cX3_becomes 1 = .ok (.aload_n 0, 1) := by decide +kernel
theorem dX3_becomes_2 : decode cX3_becomes 2 = .ok (.getfield 102, 3) := by decide +kernel
theorem dX3_becomes_5 : decode cX3_becomes 5 = .ok (.putfield 51, 3) := by decide +kernel
theorem dX3_becomes_8 : decode cX3_becomes 8 = .ok (.aload_n 0, 1) := by decide +kernel
theorem dX3_becomes_9 : decode cX3_becomes 9 = .ok (.iload_n 1, 1) := by decide +kernel
theorem dX3_becomes_10 : decode cX3_becomes 10 = .ok (.putfield 48, 3) := by decide +kernel
theorem dX3_becomes_13 : decode cX3_becomes 13 = .ok (.aload_n 0, 1) := by decide +kernel
theorem dX3_becomes_14 : decode cX3_becomes 14 = .ok (.iconst 0, 1) := by decide +kernel
theorem dX3_becomes_15 : decode cX3_becomes 15 = .ok (.putfield 69, 3) := by decide +kernel
theorem dX3_becomes_18 : decode cX3_becomes 18 = .ok (.iconst 0, 1) := by decide +kernel
theorem dX3_becomes_19 : decode cX3_becomes 19 = .ok (.istore_n 2, 1) := by decide +kernel
theorem dX3_becomes_20 : decode cX3_becomes 20 = .ok (.iload_n 2, 1) := by decide +kernel
theorem dX3_becomes_21 : decode cX3_becomes 21 = .ok (.aload_n 0, 1) := by decide +kernel
theorem dX3_becomes_22 : decode cX3_becomes 22 = .ok (.getfield 51, 3) := by decide +kernel
theorem dX3_becomes_25 : decode cX3_becomes 25 = .ok (.if_icmp .ge 28, 3) := by decide +kernel
theorem dX3_becomes_28 : decode cX3_becomes 28 = .ok (.aload_n 0, 1) := by decide +kernel
theorem dX3_becomes_29 : decode cX3_becomes 29 = .ok (.getfield 16, 3) := by decide +kernel
theorem dX3_becomes_32 : decode cX3_becomes 32 = .ok (.iload_n 2, 1) := by decide +kernel
theorem dX3_becomes_33 : decode cX3_becomes 33 = .ok (.aload_n 0, 1) := by decide +kernel
theorem dX3_becomes_34 : decode cX3_becomes 34 = .ok (.getfield 30, 3) := by decide +kernel
theorem dX3_becomes_37 : decode cX3_becomes 37 = .ok (.iload_n 2, 1) := by decide +kernel
theorem dX3_becomes_38 : decode cX3_becomes 38 = .ok (.iaload, 1) := by decide +kernel
theorem dX3_becomes_39 : decode cX3_becomes 39 = .ok (.iastore, 1) := by decide +kernel
theorem dX3_becomes_40 : decode cX3_becomes 40 = .ok (.aload_n 0, 1) := by decide +kernel
theorem dX3_becomes_41 : decode cX3_becomes 41 = .ok (.getfield 20, 3) := by decide +kernel
theorem dX3_becomes_44 : decode cX3_becomes 44 = .ok (.iload_n 2, 1) := by decide +kernel
theorem dX3_becomes_45 : decode cX3_becomes 45 = .ok (.iconst 0, 1) := by decide +kernel
theorem dX3_becomes_46 : decode cX3_becomes 46 = .ok (.bastore, 1) := by decide +kernel
theorem dX3_becomes_47 : decode cX3_becomes 47 = .ok (.iinc 2 1, 3) := by decide +kernel
theorem dX3_becomes_50 : decode cX3_becomes 50 = .ok (.goto (-30), 3) := by decide +kernel
theorem dX3_becomes_53 : decode cX3_becomes 53 = .ok (.iconst 0, 1) := by decide +kernel
theorem dX3_becomes_54 : decode cX3_becomes 54 = .ok (.istore_n 2, 1) := by decide +kernel
theorem dX3_becomes_55 : decode cX3_becomes 55 = .ok (.iload_n 2, 1) := by decide +kernel
theorem dX3_becomes_56 : decode cX3_becomes 56 = .ok (.aload_n 0, 1) := by decide +kernel
theorem dX3_becomes_57 : decode cX3_becomes 57 = .ok (.getfield 48, 3) := by decide +kernel
theorem dX3_becomes_60 : decode cX3_becomes 60 = .ok (.if_icmp .ge 21, 3) := by decide +kernel
theorem dX3_becomes_63 : decode cX3_becomes 63 = .ok (.aload_n 0, 1) := by decide +kernel
theorem dX3_becomes_64 : decode cX3_becomes 64 = .ok (.getfield 24, 3) := by decide +kernel
theorem dX3_becomes_67 : decode cX3_becomes 67 = .ok (.iload_n 2, 1) := by decide +kernel
theorem dX3_becomes_68 : decode cX3_becomes 68 = .ok (.aload_n 0, 1) := by decide +kernel
theorem dX3_becomes_69 : decode cX3_becomes 69 = .ok (.getfield 33, 3) := by decide +kernel
theorem dX3_becomes_72 : decode cX3_becomes 72 = .ok (.iload_n 2, 1) := by decide +kernel
theorem dX3_becomes_73 : decode cX3_becomes 73 = .ok (.iaload, 1) := by decide +kernel
theorem dX3_becomes_74 : decode cX3_becomes 74 = .ok (.iastore, 1) := by decide +kernel
theorem dX3_becomes_75 : decode cX3_becomes 75 = .ok (.iinc 2 1, 3) := by decide +kernel
theorem dX3_becomes_78 : decode cX3_becomes 78 = .ok (.goto (-23), 3) := by decide +kernel
theorem dX3_becomes_81 : decode cX3_becomes 81 = .ok (.return_, 1) := by decide +kernel
set_option maxRecDepth 20000 in
theorem ggX3_joinsPieces_X3_behind : GoodIn wsX3_joinsPieces wsX3_behind := goodIn_r _ [9, 1, 3, 10, 18, 19, 20, 21, 22, 23, 24, 25, 26, 27, 28, 29, 30, 31, 32, 33, 34, 35] (by decide +kernel) (by decide +kernel)
set_option maxRecDepth 20000 in
theorem gX3_joinsPieces_X3_behind : GoodIn wsX3_joinsPieces (wsV RX3 54 RX3 yX3_behind wsX3_behind) := goodIn_app (goodIn_of _ (by decide +kernel)) ggX3_joinsPieces_X3_behind
set_option maxRecDepth 20000 in
theorem ggX3_joinsPieces_X3_fits : GoodIn wsX3_joinsPieces wsX3_fits := goodIn_r _ [14, 15, 16, 17, 18, 19, 20, 21, 22, 23, 24, 25, 26, 27, 28, 29, 30, 31, 32, 33, 34, 35] (by decide +kernel) (by decide +kernel)
set_option maxRecDepth 20000 in
theorem gX3_joinsPieces_X3_fits : GoodIn wsX3_joinsPieces (wsV RX3 58 RX3 yX3_fits wsX3_fits) := goodIn_app (goodIn_of _ (by decide +kernel)) ggX3_joinsPieces_X3_fits
theorem dX3_joinsPieces_0 : decode cX3_joinsPieces 0 = .ok (.iconst 0, 1) := by decide +kernel
theorem dX3_joinsPieces_1 : decode cX3_joinsPieces 1 = .ok (.istore_n 1, 1) := by decide +kernel
theorem dX3_joinsPieces_2 : decode cX3_joinsPieces 2 = .ok (.iload_n 1, 1) := by decide +kernel
theorem dX3_joinsPieces_3 : decode cX3_joinsPieces 3 = .ok (.iconst 1, 1) := by decide +kernel
theorem dX3_joinsPieces_4 : decode cX3_joinsPieces 4 = .ok (.iadd, 1) := by decide +kernel
theorem dX3_joinsPieces_5 : decode cX3_joinsPieces 5 = .ok (.aload_n 0, 1) := by decide +kernel
theorem dX3_joinsPieces_6 : decode cX3_joinsPieces 6 = .ok (.getfield 48, 3) := by decide +kernel
theorem dX3_joinsPieces_9 : decode cX3_joinsPieces 9 = .ok (.if_icmp .ge 90, 3) := by decide +kernel
theorem dX3_joinsPieces_12 : decode cX3_joinsPieces 12 = .ok (.aload_n 0, 1) := by decide +kernel
theorem dX3_joinsPieces_13 : decode cX3_joinsPieces 13 = .ok (.aload_n 0, 1) := by decide +kernel
theorem dX3_joinsPieces_14 : decode cX3_joinsPieces 14 = .ok (.getfield 16, 3) := by decide +kernel
theorem dX3_joinsPieces_17 : decode cX3_joinsPieces 17 = .ok (.aload_n 0, 1) := by decide +kernel
theorem dX3_joinsPieces_18 : decode cX3_joinsPieces 18 = .ok (.getfield 24, 3) := by decide +kernel
theorem dX3_joinsPieces_21 : decode cX3_joinsPieces 21 = .ok (.iload_n 1, 1) := by decide +kernel
theorem dX3_joinsPieces_22 : decode cX3_joinsPieces 22 = .ok (.iaload, 1) := by decide +kernel
theorem dX3_joinsPieces_23 : decode cX3_joinsPieces 23 = .ok (.aload_n 0, 1) := by decide +kernel
theorem dX3_joinsPieces_24 : decode cX3_joinsPieces 24 = .ok (.iload_n 1, 1) := by decide +kernel
theorem dX3_joinsPieces_25 : decode cX3_joinsPieces 25 = .ok (.iconst 1, 1) := by decide +kernel
theorem dX3_joinsPieces_26 : decode cX3_joinsPieces 26 = .ok (.iadd, 1) := by decide +kernel
theorem dX3_joinsPieces_27 : decode cX3_joinsPieces 27 = .ok (.invokevirtual 54, 3) := by decide +kernel
theorem dX3_joinsPieces_30 : decode cX3_joinsPieces 30 = .ok (.invokevirtual 58, 3) := by decide +kernel
theorem dX3_joinsPieces_33 : decode cX3_joinsPieces 33 = .ok (.ifCond .ne 9, 3) := by decide +kernel
theorem dX3_joinsPieces_36 : decode cX3_joinsPieces 36 = .ok (.iinc 1 1, 3) := by decide +kernel
theorem dX3_joinsPieces_39 : decode cX3_joinsPieces 39 = .ok (.goto (-37), 3) := by decide +kernel
theorem dX3_joinsPieces_42 : decode cX3_joinsPieces 42 = .ok (.iload_n 1, 1) := by decide +kernel
theorem dX3_joinsPieces_43 : decode cX3_joinsPieces 43 = .ok (.iconst 1, 1) := by decide +kernel
theorem dX3_joinsPieces_44 : decode cX3_joinsPieces 44 = .ok (.iadd, 1) := by decide +kernel
theorem dX3_joinsPieces_45 : decode cX3_joinsPieces 45 = .ok (.istore_n 2, 1) := by decide +kernel
theorem dX3_joinsPieces_46 : decode cX3_joinsPieces 46 = .ok (.iload_n 2, 1) := by decide +kernel
theorem dX3_joinsPieces_47 : decode cX3_joinsPieces 47 = .ok (.iconst 1, 1) := by decide +kernel
theorem dX3_joinsPieces_48 : decode cX3_joinsPieces 48 = .ok (.iadd, 1) := by decide +kernel
theorem dX3_joinsPieces_49 : decode cX3_joinsPieces 49 = .ok (.aload_n 0, 1) := by decide +kernel
theorem dX3_joinsPieces_50 : decode cX3_joinsPieces 50 = .ok (.getfield 48, 3) := by decide +kernel
theorem dX3_joinsPieces_53 : decode cX3_joinsPieces 53 = .ok (.if_icmp .ge 23, 3) := by decide +kernel
theorem dX3_joinsPieces_56 : decode cX3_joinsPieces 56 = .ok (.aload_n 0, 1) := by decide +kernel
theorem dX3_joinsPieces_57 : decode cX3_joinsPieces 57 = .ok (.getfield 24, 3) := by decide +kernel
theorem dX3_joinsPieces_60 : decode cX3_joinsPieces 60 = .ok (.iload_n 2, 1) := by decide +kernel
theorem dX3_joinsPieces_61 : decode cX3_joinsPieces 61 = .ok (.aload_n 0, 1) := by decide +kernel
theorem dX3_joinsPieces_62 : decode cX3_joinsPieces 62 = .ok (.getfield 24, 3) := by decide +kernel
theorem dX3_joinsPieces_65 : decode cX3_joinsPieces 65 = .ok (.iload_n 2, 1) := by decide +kernel
theorem dX3_joinsPieces_66 : decode cX3_joinsPieces 66 = .ok (.iconst 1, 1) := by decide +kernel
theorem dX3_joinsPieces_67 : decode cX3_joinsPieces 67 = .ok (.iadd, 1) := by decide +kernel
theorem dX3_joinsPieces_68 : decode cX3_joinsPieces 68 = .ok (.iaload, 1) := by decide +kernel
theorem dX3_joinsPieces_69 : decode cX3_joinsPieces 69 = .ok (.iastore, 1) := by decide +kernel
theorem dX3_joinsPieces_70 : decode cX3_joinsPieces 70 = .ok (.iinc 2 1, 3) := by decide +kernel
theorem dX3_joinsPieces_73 : decode cX3_joinsPieces 73 = .ok (.goto (-27), 3) := by decide +kernel
theorem dX3_joinsPieces_76 : decode cX3_joinsPieces 76 = .ok (.aload_n 0, 1) := by decide +kernel
theorem dX3_joinsPieces_77 : decode cX3_joinsPieces 77 = .ok (.dup, 1) := by decide +kernel
theorem dX3_joinsPieces_78 : decode cX3_joinsPieces 78 = .ok (.getfield 48, 3) := by decide +kernel
theorem dX3_joinsPieces_81 : decode cX3_joinsPieces 81 = .ok (.iconst 1, 1) := by decide +kernel
theorem dX3_joinsPieces_82 : decode cX3_joinsPieces 82 = .ok (.isub, 1) := by decide +kernel
theorem dX3_joinsPieces_83 : decode cX3_joinsPieces 83 = .ok (.putfield 48, 3) := by decide +kernel
theorem dX3_joinsPieces_86 : decode cX3_joinsPieces 86 = .ok (.aload_n 0, 1) := by decide +kernel
theorem dX3_joinsPieces_87 : decode cX3_joinsPieces 87 = .ok (.dup, 1) := by decide +kernel
theorem dX3_joinsPieces_88 : decode cX3_joinsPieces 88 = .ok (.getfield 111, 3) := by decide +kernel
theorem dX3_joinsPieces_91 : decode cX3_joinsPieces 91 = .ok (.iconst 1, 1) := by decide +kernel
theorem dX3_joinsPieces_92 : decode cX3_joinsPieces 92 = .ok (.iadd, 1) := by decide +kernel
theorem dX3_joinsPieces_93 : decode cX3_joinsPieces 93 = .ok (.putfield 111, 3) := by decide +kernel
theorem dX3_joinsPieces_96 : decode cX3_joinsPieces 96 = .ok (.goto (-94), 3) := by decide +kernel
theorem dX3_joinsPieces_99 : decode cX3_joinsPieces 99 = .ok (.return_, 1) := by decide +kernel
set_option maxRecDepth 20000 in
theorem ggX3_mergesAll_X3_gathers : GoodIn wsX3_mergesAll wsX3_gathers := goodIn_r _ [12, 13, 14, 15, 5, 6, 16, 17, 18, 11, 19, 2, 20, 21, 22, 23, 24, 1, 25, 26, 27, 28, 29, 50, 51, 52, 53, 54, 55, 56, 57, 58, 59, 60, 61, 62, 63, 64, 65, 66, 67] (by decide +kernel) (by decide +kernel)
set_option maxRecDepth 20000 in
theorem gX3_mergesAll_X3_gathers : GoodIn wsX3_mergesAll (wsV RX3 114 RX3 yX3_gathers wsX3_gathers) := goodIn_app (goodIn_of _ (by decide +kernel)) ggX3_mergesAll_X3_gathers
set_option maxRecDepth 20000 in
theorem ggX3_mergesAll_X3_cuts : GoodIn wsX3_mergesAll wsX3_cuts := goodIn_r _ [33, 1, 25, 3, 34, 35, 36, 11, 37, 38, 39, 40, 50, 51, 52, 53, 54, 55, 56, 57, 58, 59, 60, 61, 62, 63, 64, 65, 66, 67] (by decide +kernel) (by decide +kernel)
set_option maxRecDepth 20000 in
theorem gX3_mergesAll_X3_cuts : GoodIn wsX3_mergesAll (wsV RX3 117 RX3 yX3_cuts wsX3_cuts) := goodIn_app (goodIn_of _ (by decide +kernel)) ggX3_mergesAll_X3_cuts
set_option maxRecDepth 20000 in
theorem ggX3_mergesAll_X3_makes : GoodIn wsX3_mergesAll wsX3_makes := goodIn_r _ [24, 1, 25, 50, 51, 52, 53, 54, 55, 56, 57, 58, 59, 60, 61, 62, 63, 64, 65, 66, 67] (by decide +kernel) (by decide +kernel)
set_option maxRecDepth 20000 in
theorem gX3_mergesAll_X3_makes : GoodIn wsX3_mergesAll (wsV RX3 105 RX3 yX3_makes wsX3_makes) := goodIn_app (goodIn_of _ (by decide +kernel)) ggX3_mergesAll_X3_makes
set_option maxRecDepth 20000 in
theorem ggX3_mergesAll_X3_becomes : GoodIn wsX3_mergesAll wsX3_becomes := goodIn_r _ [44, 1, 20, 2, 5, 15, 25, 14, 13, 3, 50, 51, 52, 53, 54, 55, 56, 57, 58, 59, 60, 61, 62, 63, 64, 65, 66, 67] (by decide +kernel) (by decide +kernel)
set_option maxRecDepth 20000 in
theorem gX3_mergesAll_X3_becomes : GoodIn wsX3_mergesAll (wsV RX3 124 RX3 yX3_becomes wsX3_becomes) := goodIn_app (goodIn_of _ (by decide +kernel)) ggX3_mergesAll_X3_becomes
set_option maxRecDepth 20000 in
theorem ggX3_mergesAll_X3_joinsPieces : GoodIn wsX3_mergesAll wsX3_joinsPieces := goodIn_r _ [48, 2, 15, 13, 49, 16, 17, 18, 11, 19, 20, 34, 35, 36, 37, 38, 39, 40, 50, 51, 52, 53, 54, 55, 56, 57, 58, 59, 60, 61, 62, 63, 64, 65, 66, 67] (by decide +kernel) (by decide +kernel)
set_option maxRecDepth 20000 in
theorem gX3_mergesAll_X3_joinsPieces : GoodIn wsX3_mergesAll (wsV RX3 127 RX3 yX3_joinsPieces wsX3_joinsPieces) := goodIn_app (goodIn_of _ (by decide +kernel)) ggX3_mergesAll_X3_joinsPieces
theorem dX3_mergesAll_0 : decode cX3_mergesAll 0 = .ok (.aload_n 0, 1) := by decide +kernel
theorem dX3_mergesAll_1 : decode cX3_mergesAll 1 = .ok (.iconst 0, 1) := by decide +kernel
theorem dX3_mergesAll_2 : decode cX3_mergesAll 2 = .ok (.putfield 102, 3) := by decide +kernel
theorem dX3_mergesAll_5 : decode cX3_mergesAll 5 = .ok (.iconst 0, 1) := by decide +kernel
theorem dX3_mergesAll_6 : decode cX3_mergesAll 6 = .ok (.istore_n 1, 1) := by decide +kernel
theorem dX3_mergesAll_7 : decode cX3_mergesAll 7 = .ok (.iconst 0, 1) := by decide +kernel
theorem dX3_mergesAll_8 : decode cX3_mergesAll 8 = .ok (.istore_n 2, 1) := by decide +kernel
theorem dX3_mergesAll_9 : decode cX3_mergesAll 9 = .ok (.iload_n 2, 1) := by decide +kernel
theorem dX3_mergesAll_10 : decode cX3_mergesAll 10 = .ok (.aload_n 0, 1) := by decide +kernel
theorem dX3_mergesAll_11 : decode cX3_mergesAll 11 = .ok (.getfield 48, 3) := by decide +kernel
theorem dX3_mergesAll_14 : decode cX3_mergesAll 14 = .ok (.if_icmp .ge 80, 3) := by decide +kernel
theorem dX3_mergesAll_17 : decode cX3_mergesAll 17 = .ok (.aload_n 0, 1) := by decide +kernel
theorem dX3_mergesAll_18 : decode cX3_mergesAll 18 = .ok (.getfield 102, 3) := by decide +kernel
theorem dX3_mergesAll_21 : decode cX3_mergesAll 21 = .ok (.istore_n 3, 1) := by decide +kernel
theorem dX3_mergesAll_22 : decode cX3_mergesAll 22 = .ok (.aload_n 0, 1) := by decide +kernel
theorem dX3_mergesAll_23 : decode cX3_mergesAll 23 = .ok (.iload_n 2, 1) := by decide +kernel
theorem dX3_mergesAll_24 : decode cX3_mergesAll 24 = .ok (.invokevirtual 114, 3) := by decide +kernel
theorem dX3_mergesAll_27 : decode cX3_mergesAll 27 = .ok (.istore 4, 2) := by decide +kernel
theorem dX3_mergesAll_29 : decode cX3_mergesAll 29 = .ok (.iload_n 1, 1) := by decide +kernel
theorem dX3_mergesAll_30 : decode cX3_mergesAll 30 = .ok (.istore 5, 2) := by decide +kernel
theorem dX3_mergesAll_32 : decode cX3_mergesAll 32 = .ok (.iload 4, 2) := by decide +kernel
theorem dX3_mergesAll_34 : decode cX3_mergesAll 34 = .ok (.ifCond .eq 14, 3) := by decide +kernel
theorem dX3_mergesAll_37 : decode cX3_mergesAll 37 = .ok (.aload_n 0, 1) := by decide +kernel
theorem dX3_mergesAll_38 : decode cX3_mergesAll 38 = .ok (.iload_n 3, 1) := by decide +kernel
theorem dX3_mergesAll_39 : decode cX3_mergesAll 39 = .ok (.iload_n 1, 1) := by decide +kernel
theorem dX3_mergesAll_40 : decode cX3_mergesAll 40 = .ok (.invokevirtual 117, 3) := by decide +kernel
theorem dX3_mergesAll_43 : decode cX3_mergesAll 43 = .ok (.istore 5, 2) := by decide +kernel
theorem dX3_mergesAll_45 : decode cX3_mergesAll 45 = .ok (.goto 15, 3) := by decide +kernel
theorem dX3_mergesAll_48 : decode cX3_mergesAll 48 = .ok (.aload_n 0, 1) := by decide +kernel
theorem dX3_mergesAll_49 : decode cX3_mergesAll 49 = .ok (.getfield 33, 3) := by decide +kernel
theorem dX3_mergesAll_52 : decode cX3_mergesAll 52 = .ok (.iload_n 1, 1) := by decide +kernel
theorem dX3_mergesAll_53 : decode cX3_mergesAll 53 = .ok (.iload_n 3, 1) := by decide +kernel
theorem dX3_mergesAll_54 : decode cX3_mergesAll 54 = .ok (.iastore, 1) := by decide +kernel
theorem dX3_mergesAll_55 : decode cX3_mergesAll 55 = .ok (.iload_n 1, 1) := by decide +kernel
theorem dX3_mergesAll_56 : decode cX3_mergesAll 56 = .ok (.iconst 1, 1) := by decide +kernel
theorem dX3_mergesAll_57 : decode cX3_mergesAll 57 = .ok (.iadd, 1) := by decide +kernel
theorem dX3_mergesAll_58 : decode cX3_mergesAll 58 = .ok (.istore 5, 2) := by decide +kernel
theorem dX3_mergesAll_60 : decode cX3_mergesAll 60 = .ok (.aload_n 0, 1) := by decide +kernel
theorem dX3_mergesAll_61 : decode cX3_mergesAll 61 = .ok (.dup, 1) := by decide +kernel
theorem dX3_mergesAll_62 : decode cX3_mergesAll 62 = .ok (.getfield 121, 3) := by decide +kernel
theorem dX3_mergesAll_65 : decode cX3_mergesAll 65 = .ok (.iload 5, 2) := by decide +kernel
theorem dX3_mergesAll_67 : decode cX3_mergesAll 67 = .ok (.iload_n 1, 1) := by decide +kernel
theorem dX3_mergesAll_68 : decode cX3_mergesAll 68 = .ok (.if_icmp .le 12, 3) := by decide +kernel
theorem dX3_mergesAll_71 : decode cX3_mergesAll 71 = .ok (.iload 5, 2) := by decide +kernel
theorem dX3_mergesAll_73 : decode cX3_mergesAll 73 = .ok (.iload_n 1, 1) := by decide +kernel
theorem dX3_mergesAll_74 : decode cX3_mergesAll 74 = .ok (.isub, 1) := by decide +kernel
theorem dX3_mergesAll_75 : decode cX3_mergesAll 75 = .ok (.iconst 1, 1) := by decide +kernel
theorem dX3_mergesAll_76 : decode cX3_mergesAll 76 = .ok (.isub, 1) := by decide +kernel
theorem dX3_mergesAll_77 : decode cX3_mergesAll 77 = .ok (.goto 4, 3) := by decide +kernel
theorem dX3_mergesAll_80 : decode cX3_mergesAll 80 = .ok (.iconst 0, 1) := by decide +kernel
theorem dX3_mergesAll_81 : decode cX3_mergesAll 81 = .ok (.iadd, 1) := by decide +kernel
theorem dX3_mergesAll_82 : decode cX3_mergesAll 82 = .ok (.putfield 121, 3) := by decide +kernel
theorem dX3_mergesAll_85 : decode cX3_mergesAll 85 = .ok (.iload 5, 2) := by decide +kernel
theorem dX3_mergesAll_87 : decode cX3_mergesAll 87 = .ok (.istore_n 1, 1) := by decide +kernel
theorem dX3_mergesAll_88 : decode cX3_mergesAll 88 = .ok (.iinc 2 1, 3) := by decide +kernel
theorem dX3_mergesAll_91 : decode cX3_mergesAll 91 = .ok (.goto (-82), 3) := by decide +kernel
theorem dX3_mergesAll_94 : decode cX3_mergesAll 94 = .ok (.aload_n 0, 1) := by decide +kernel
theorem dX3_mergesAll_95 : decode cX3_mergesAll 95 = .ok (.getfield 48, 3) := by decide +kernel
theorem dX3_mergesAll_98 : decode cX3_mergesAll 98 = .ok (.ifCond .ne 55, 3) := by decide +kernel
theorem dX3_mergesAll_101 : decode cX3_mergesAll 101 = .ok (.aload_n 0, 1) := by decide +kernel
theorem dX3_mergesAll_102 : decode cX3_mergesAll 102 = .ok (.getfield 69, 3) := by decide +kernel
theorem dX3_mergesAll_105 : decode cX3_mergesAll 105 = .ok (.ifCond .le 48, 3) := by decide +kernel
theorem dX3_mergesAll_108 : decode cX3_mergesAll 108 = .ok (.iconst 0, 1) := by decide +kernel
theorem dX3_mergesAll_109 : decode cX3_mergesAll 109 = .ok (.istore_n 2, 1) := by decide +kernel
theorem dX3_mergesAll_110 : decode cX3_mergesAll 110 = .ok (.iload_n 2, 1) := by decide +kernel
theorem dX3_mergesAll_111 : decode cX3_mergesAll 111 = .ok (.aload_n 0, 1) := by decide +kernel
theorem dX3_mergesAll_112 : decode cX3_mergesAll 112 = .ok (.getfield 69, 3) := by decide +kernel
theorem dX3_mergesAll_115 : decode cX3_mergesAll 115 = .ok (.if_icmp .ge 19, 3) := by decide +kernel
theorem dX3_mergesAll_118 : decode cX3_mergesAll 118 = .ok (.aload_n 0, 1) := by decide +kernel
theorem dX3_mergesAll_119 : decode cX3_mergesAll 119 = .ok (.aload_n 0, 1) := by decide +kernel
theorem dX3_mergesAll_120 : decode cX3_mergesAll 120 = .ok (.getfield 27, 3) := by decide +kernel
theorem dX3_mergesAll_123 : decode cX3_mergesAll 123 = .ok (.iload_n 2, 1) := by decide +kernel
theorem dX3_mergesAll_124 : decode cX3_mergesAll 124 = .ok (.iaload, 1) := by decide +kernel
theorem dX3_mergesAll_125 : decode cX3_mergesAll 125 = .ok (.invokevirtual 105, 3) := by decide +kernel
theorem dX3_mergesAll_128 : decode cX3_mergesAll 128 = .ok (.iinc 2 1, 3) := by decide +kernel
theorem dX3_mergesAll_131 : decode cX3_mergesAll 131 = .ok (.goto (-21), 3) := by decide +kernel
theorem dX3_mergesAll_134 : decode cX3_mergesAll 134 = .ok (.aload_n 0, 1) := by decide +kernel
theorem dX3_mergesAll_135 : decode cX3_mergesAll 135 = .ok (.iconst 0, 1) := by decide +kernel
theorem dX3_mergesAll_136 : decode cX3_mergesAll 136 = .ok (.iconst 0, 1) := by decide +kernel
theorem dX3_mergesAll_137 : decode cX3_mergesAll 137 = .ok (.invokevirtual 117, 3) := by decide +kernel
theorem dX3_mergesAll_140 : decode cX3_mergesAll 140 = .ok (.istore_n 1, 1) := by decide +kernel
theorem dX3_mergesAll_141 : decode cX3_mergesAll 141 = .ok (.aload_n 0, 1) := by decide +kernel
theorem dX3_mergesAll_142 : decode cX3_mergesAll 142 = .ok (.dup, 1) := by decide +kernel
theorem dX3_mergesAll_143 : decode cX3_mergesAll 143 = .ok (.getfield 121, 3) := by decide +kernel
theorem dX3_mergesAll_146 : decode cX3_mergesAll 146 = .ok (.iload_n 1, 1) := by decide +kernel
theorem dX3_mergesAll_147 : decode cX3_mergesAll 147 = .ok (.iconst 1, 1) := by decide +kernel
theorem dX3_mergesAll_148 : decode cX3_mergesAll 148 = .ok (.isub, 1) := by decide +kernel
theorem dX3_mergesAll_149 : decode cX3_mergesAll 149 = .ok (.iadd, 1) := by decide +kernel
theorem dX3_mergesAll_150 : decode cX3_mergesAll 150 = .ok (.putfield 121, 3) := by decide +kernel
theorem dX3_mergesAll_153 : decode cX3_mergesAll 153 = .ok (.aload_n 0, 1) := by decide +kernel
theorem dX3_mergesAll_154 : decode cX3_mergesAll 154 = .ok (.iload_n 1, 1) := by decide +kernel
theorem dX3_mergesAll_155 : decode cX3_mergesAll 155 = .ok (.invokevirtual 124, 3) := by decide +kernel
theorem dX3_mergesAll_158 : decode cX3_mergesAll 158 = .ok (.aload_n 0, 1) := by decide +kernel
theorem dX3_mergesAll_159 : decode cX3_mergesAll 159 = .ok (.invokevirtual 127, 3) := by decide +kernel
theorem dX3_mergesAll_162 : decode cX3_mergesAll 162 = .ok (.aload_n 0, 1) := by decide +kernel
theorem dX3_mergesAll_163 : decode cX3_mergesAll 163 = .ok (.dup, 1) := by decide +kernel
theorem dX3_mergesAll_164 : decode cX3_mergesAll 164 = .ok (.getfield 130, 3) := by decide +kernel
theorem dX3_mergesAll_167 : decode cX3_mergesAll 167 = .ok (.iconst 1, 1) := by decide +kernel
theorem dX3_mergesAll_168 : decode cX3_mergesAll 168 = .ok (.iadd, 1) := by decide +kernel
theorem dX3_mergesAll_169 : decode cX3_mergesAll 169 = .ok (.putfield 130, 3) := by decide +kernel
theorem dX3_mergesAll_172 : decode cX3_mergesAll 172 = .ok (.return_, 1) := by decide +kernel
set_option maxRecDepth 20000 in
theorem ggX3_merge_X3_mergesAll : GoodIn wsX3_merge wsX3_mergesAll := goodIn_r _ [7, 8, 2, 9, 10, 11, 12, 13, 14, 15, 16, 6, 17, 18, 19, 20, 21, 22, 23, 24, 25, 26, 27, 28, 29, 30, 31, 32, 33, 34, 35, 36, 37, 38, 39, 40, 41, 42, 43, 44, 45, 46, 47, 48, 49, 50, 51, 52, 53, 54, 55, 56, 57, 58, 59, 60, 61, 62, 63, 64, 65, 66, 67, 68, 69, 70, 71, 72] (by decide +kernel) (by decide +kernel)
set_option maxRecDepth 20000 in
theorem gX3_merge_X3_mergesAll : GoodIn wsX3_merge (wsV RX3 96 RX3 yX3_mergesAll wsX3_mergesAll) := goodIn_app (goodIn_of _ (by decide +kernel)) ggX3_merge_X3_mergesAll
theorem dX3_merge_0 : decode cX3_merge 0 = .ok (.aload_n 0, 1) := by decide +kernel
theorem dX3_merge_1 : decode cX3_merge 1 = .ok (.iconst 0, 1) := by decide +kernel
theorem dX3_merge_2 : decode cX3_merge 2 = .ok (.putfield 36, 3) := by decide +kernel
theorem dX3_merge_5 : decode cX3_merge 5 = .ok (.aload_n 0, 1) := by decide +kernel
theorem dX3_merge_6 : decode cX3_merge 6 = .ok (.invokevirtual 96, 3) := by decide +kernel
theorem dX3_merge_9 : decode cX3_merge 9 = .ok (.aload_n 0, 1) := by decide +kernel
theorem dX3_merge_10 : decode cX3_merge 10 = .ok (.getfield 48, 3) := by decide +kernel
theorem dX3_merge_13 : decode cX3_merge 13 = .ok (.ireturn, 1) := by decide +kernel
set_option maxRecDepth 20000 in
theorem ggX3_rebuild_X3_makes : GoodIn wsX3_rebuild wsX3_makes := goodIn_r _ [15, 4, 16, 33, 34, 35, 36, 37, 38, 39, 40, 41, 42, 43, 44, 45, 46, 47, 48, 49, 50] (by decide +kernel) (by decide +kernel)
set_option maxRecDepth 20000 in
theorem gX3_rebuild_X3_makes : GoodIn wsX3_rebuild (wsV RX3 105 RX3 yX3_makes wsX3_makes) := goodIn_app (goodIn_of _ (by decide +kernel)) ggX3_rebuild_X3_makes
set_option maxRecDepth 20000 in
theorem ggX3_rebuild_X3_cuts : GoodIn wsX3_rebuild wsX3_cuts := goodIn_r _ [20, 4, 16, 21, 22, 23, 24, 14, 25, 26, 27, 2, 33, 34, 35, 36, 37, 38, 39, 40, 41, 42, 43, 44, 45, 46, 47, 48, 49, 50] (by decide +kernel) (by decide +kernel)
set_option maxRecDepth 20000 in
theorem gX3_rebuild_X3_cuts : GoodIn wsX3_rebuild (wsV RX3 117 RX3 yX3_cuts wsX3_cuts) := goodIn_app (goodIn_of _ (by decide +kernel)) ggX3_rebuild_X3_cuts
set_option maxRecDepth 20000 in
theorem ggX3_rebuild_X3_becomes : GoodIn wsX3_rebuild wsX3_becomes := goodIn_r _ [31, 4, 5, 10, 8, 7, 16, 6, 32, 21, 33, 34, 35, 36, 37, 38, 39, 40, 41, 42, 43, 44, 45, 46, 47, 48, 49, 50] (by decide +kernel) (by decide +kernel)
set_option maxRecDepth 20000 in
theorem gX3_rebuild_X3_becomes : GoodIn wsX3_rebuild (wsV RX3 124 RX3 yX3_becomes wsX3_becomes) := goodIn_app (goodIn_of _ (by decide +kernel)) ggX3_rebuild_X3_becomes
theorem dX3_rebuild_0 : decode cX3_rebuild 0 = .ok (.aload_n 0, 1) := by decide +kernel
theorem dX3_rebuild_1 : decode cX3_rebuild 1 = .ok (.iload_n 1, 1) := by decide +kernel
theorem dX3_rebuild_2 : decode cX3_rebuild 2 = .ok (.ifCond .lt 20, 3) := by decide +kernel
theorem dX3_rebuild_5 : decode cX3_rebuild 5 = .ok (.iload_n 1, 1) := by decide +kernel
theorem dX3_rebuild_6 : decode cX3_rebuild 6 = .ok (.bipush 20, 2) := by decide +kernel
theorem dX3_rebuild_8 : decode cX3_rebuild 8 = .ok (.if_icmp .gt 14, 3) := by decide +kernel
theorem dX3_rebuild_11 : decode cX3_rebuild 11 = .ok (.iload_n 2, 1) := by decide +kernel
theorem dX3_rebuild_12 : decode cX3_rebuild 12 = .ok (.iconst 1, 1) := by decide +kernel
theorem dX3_rebuild_13 : decode cX3_rebuild 13 = .ok (.if_icmp .lt 9, 3) := by decide +kernel
theorem dX3_rebuild_16 : decode cX3_rebuild 16 = .ok (.iload_n 2, 1) := by decide +kernel
theorem dX3_rebuild_17 : decode cX3_rebuild 17 = .ok (.bipush 16, 2) := by decide +kernel
theorem dX3_rebuild_19 : decode cX3_rebuild 19 = .ok (.if_icmp .le 7, 3) := by decide +kernel
theorem dX3_rebuild_22 : decode cX3_rebuild 22 = .ok (.iconst 1, 1) := by decide +kernel
theorem dX3_rebuild_23 : decode cX3_rebuild 23 = .ok (.goto 4, 3) := by decide +kernel
theorem dX3_rebuild_26 : decode cX3_rebuild 26 = .ok (.iconst 0, 1) := by decide +kernel
theorem dX3_rebuild_27 : decode cX3_rebuild 27 = .ok (.putfield 36, 3) := by decide +kernel
theorem dX3_rebuild_30 : decode cX3_rebuild 30 = .ok (.aload_n 0, 1) := by decide +kernel
theorem dX3_rebuild_31 : decode cX3_rebuild 31 = .ok (.getfield 36, 3) := by decide +kernel
theorem dX3_rebuild_34 : decode cX3_rebuild 34 = .ok (.ifCond .le 5, 3) := by decide +kernel
theorem dX3_rebuild_37 : decode cX3_rebuild 37 = .ok (.iconst 0, 1) := by decide +kernel
theorem dX3_rebuild_38 : decode cX3_rebuild 38 = .ok (.ireturn, 1) := by decide +kernel
theorem dX3_rebuild_39 : decode cX3_rebuild 39 = .ok (.aload_n 0, 1) := by decide +kernel
theorem dX3_rebuild_40 : decode cX3_rebuild 40 = .ok (.iload_n 1, 1) := by decide +kernel
theorem dX3_rebuild_41 : decode cX3_rebuild 41 = .ok (.putfield 7, 3) := by decide +kernel
theorem dX3_rebuild_44 : decode cX3_rebuild 44 = .ok (.aload_n 0, 1) := by decide +kernel
theorem dX3_rebuild_45 : decode cX3_rebuild 45 = .ok (.iload_n 2, 1) := by decide +kernel
theorem dX3_rebuild_46 : decode cX3_rebuild 46 = .ok (.putfield 13, 3) := by decide +kernel
theorem dX3_rebuild_49 : decode cX3_rebuild 49 = .ok (.aload_n 0, 1) := by decide +kernel
theorem dX3_rebuild_50 : decode cX3_rebuild 50 = .ok (.iconst 0, 1) := by decide +kernel
theorem dX3_rebuild_51 : decode cX3_rebuild 51 = .ok (.putfield 102, 3) := by decide +kernel
theorem dX3_rebuild_54 : decode cX3_rebuild 54 = .ok (.iconst 0, 1) := by decide +kernel
theorem dX3_rebuild_55 : decode cX3_rebuild 55 = .ok (.istore_n 3, 1) := by decide +kernel
theorem dX3_rebuild_56 : decode cX3_rebuild 56 = .ok (.iload_n 3, 1) := by decide +kernel
theorem dX3_rebuild_57 : decode cX3_rebuild 57 = .ok (.aload_n 0, 1) := by decide +kernel
theorem dX3_rebuild_58 : decode cX3_rebuild 58 = .ok (.getfield 51, 3) := by decide +kernel
theorem dX3_rebuild_61 : decode cX3_rebuild 61 = .ok (.if_icmp .ge 28, 3) := by decide +kernel
theorem dX3_rebuild_64 : decode cX3_rebuild 64 = .ok (.aload_n 0, 1) := by decide +kernel
theorem dX3_rebuild_65 : decode cX3_rebuild 65 = .ok (.getfield 20, 3) := by decide +kernel
theorem dX3_rebuild_68 : decode cX3_rebuild 68 = .ok (.iload_n 3, 1) := by decide +kernel
theorem dX3_rebuild_69 : decode cX3_rebuild 69 = .ok (.baload, 1) := by decide +kernel
theorem dX3_rebuild_70 : decode cX3_rebuild 70 = .ok (.ifCond .ne 13, 3) := by decide +kernel
theorem dX3_rebuild_73 : decode cX3_rebuild 73 = .ok (.aload_n 0, 1) := by decide +kernel
theorem dX3_rebuild_74 : decode cX3_rebuild 74 = .ok (.aload_n 0, 1) := by decide +kernel
theorem dX3_rebuild_75 : decode cX3_rebuild 75 = .ok (.getfield 16, 3) := by decide +kernel
theorem dX3_rebuild_78 : decode cX3_rebuild 78 = .ok (.iload_n 3, 1) := by decide +kernel
theorem dX3_rebuild_79 : decode cX3_rebuild 79 = .ok (.iaload, 1) := by decide +kernel
theorem dX3_rebuild_80 : decode cX3_rebuild 80 = .ok (.invokevirtual 105, 3) := by decide +kernel
theorem dX3_rebuild_83 : decode cX3_rebuild 83 = .ok (.iinc 3 1, 3) := by decide +kernel
theorem dX3_rebuild_86 : decode cX3_rebuild 86 = .ok (.goto (-30), 3) := by decide +kernel
theorem dX3_rebuild_89 : decode cX3_rebuild 89 = .ok (.iconst 0, 1) := by decide +kernel
theorem dX3_rebuild_90 : decode cX3_rebuild 90 = .ok (.istore_n 3, 1) := by decide +kernel
theorem dX3_rebuild_91 : decode cX3_rebuild 91 = .ok (.iload_n 3, 1) := by decide +kernel
theorem dX3_rebuild_92 : decode cX3_rebuild 92 = .ok (.aload_n 0, 1) := by decide +kernel
theorem dX3_rebuild_93 : decode cX3_rebuild 93 = .ok (.getfield 69, 3) := by decide +kernel
theorem dX3_rebuild_96 : decode cX3_rebuild 96 = .ok (.if_icmp .ge 19, 3) := by decide +kernel
theorem dX3_rebuild_99 : decode cX3_rebuild 99 = .ok (.aload_n 0, 1) := by decide +kernel
theorem dX3_rebuild_100 : decode cX3_rebuild 100 = .ok (.aload_n 0, 1) := by decide +kernel
theorem dX3_rebuild_101 : decode cX3_rebuild 101 = .ok (.getfield 27, 3) := by decide +kernel
theorem dX3_rebuild_104 : decode cX3_rebuild 104 = .ok (.iload_n 3, 1) := by decide +kernel
theorem dX3_rebuild_105 : decode cX3_rebuild 105 = .ok (.iaload, 1) := by decide +kernel
theorem dX3_rebuild_106 : decode cX3_rebuild 106 = .ok (.invokevirtual 105, 3) := by decide +kernel
theorem dX3_rebuild_109 : decode cX3_rebuild 109 = .ok (.iinc 3 1, 3) := by decide +kernel
theorem dX3_rebuild_112 : decode cX3_rebuild 112 = .ok (.goto (-21), 3) := by decide +kernel
theorem dX3_rebuild_115 : decode cX3_rebuild 115 = .ok (.aload_n 0, 1) := by decide +kernel
theorem dX3_rebuild_116 : decode cX3_rebuild 116 = .ok (.aload_n 0, 1) := by decide +kernel
theorem dX3_rebuild_117 : decode cX3_rebuild 117 = .ok (.iconst 0, 1) := by decide +kernel
theorem dX3_rebuild_118 : decode cX3_rebuild 118 = .ok (.iconst 0, 1) := by decide +kernel
theorem dX3_rebuild_119 : decode cX3_rebuild 119 = .ok (.invokevirtual 117, 3) := by decide +kernel
theorem dX3_rebuild_122 : decode cX3_rebuild 122 = .ok (.invokevirtual 124, 3) := by decide +kernel
theorem dX3_rebuild_125 : decode cX3_rebuild 125 = .ok (.aload_n 0, 1) := by decide +kernel
theorem dX3_rebuild_126 : decode cX3_rebuild 126 = .ok (.getfield 48, 3) := by decide +kernel
theorem dX3_rebuild_129 : decode cX3_rebuild 129 = .ok (.ireturn, 1) := by decide +kernel
theorem dX3_below_0 : decode cX3_below 0 = .ok (.iconst 0, 1) := by decide +kernel
theorem dX3_below_1 : decode cX3_below 1 = .ok (.istore_n 3, 1) := by decide +kernel
theorem dX3_below_2 : decode cX3_below 2 = .ok (.iconst 0, 1) := by decide +kernel
theorem dX3_below_3 : decode cX3_below 3 = .ok (.istore 4, 2) := by decide +kernel
theorem dX3_below_5 : decode cX3_below 5 = .ok (.iload 4, 2) := by decide +kernel
theorem dX3_below_7 : decode cX3_below 7 = .ok (.aload_n 0, 1) := by decide +kernel
theorem dX3_below_8 : decode cX3_below 8 = .ok (.getfield 51, 3) := by decide +kernel
theorem dX3_below_11 : decode cX3_below 11 = .ok (.if_icmp .ge 40, 3) := by decide +kernel
theorem dX3_below_14 : decode cX3_below 14 = .ok (.iload_n 3, 1) := by decide +kernel
theorem dX3_below_15 : decode cX3_below 15 = .ok (.aload_n 0, 1) := by decide +kernel
theorem dX3_below_16 : decode cX3_below 16 = .ok (.getfield 20, 3) := by decide +kernel
theorem dX3_below_19 : decode cX3_below 19 = .ok (.iload 4, 2) := by decide +kernel
theorem dX3_below_21 : decode cX3_below 21 = .ok (.baload, 1) := by decide +kernel
theorem dX3_below_22 : decode cX3_below 22 = .ok (.ifCond .ne 20, 3) := by decide +kernel
theorem dX3_below_25 : decode cX3_below 25 = .ok (.aload_n 0, 1) := by decide +kernel
theorem dX3_below_26 : decode cX3_below 26 = .ok (.getfield 16, 3) := by decide +kernel
theorem dX3_below_29 : decode cX3_below 29 = .ok (.iload 4, 2) := by decide +kernel
theorem dX3_below_31 : decode cX3_below 31 = .ok (.iaload, 1) := by decide +kernel
theorem dX3_below_32 : decode cX3_below 32 = .ok (.i2l, 1) := by decide +kernel
theorem dX3_below_33 : decode cX3_below 33 = .ok (.lload_n 1, 1) := by decide +kernel
theorem dX3_below_34 : decode cX3_below 34 = .ok (.lcmp, 1) := by decide +kernel
theorem dX3_below_35 : decode cX3_below 35 = .ok (.ifCond .ge 7, 3) := by decide +kernel
theorem dX3_below_38 : decode cX3_below 38 = .ok (.iconst 1, 1) := by decide +kernel
theorem dX3_below_39 : decode cX3_below 39 = .ok (.goto 4, 3) := by decide +kernel
theorem dX3_below_42 : decode cX3_below 42 = .ok (.iconst 0, 1) := by decide +kernel
theorem dX3_below_43 : decode cX3_below 43 = .ok (.iadd, 1) := by decide +kernel
theorem dX3_below_44 : decode cX3_below 44 = .ok (.istore_n 3, 1) := by decide +kernel
theorem dX3_below_45 : decode cX3_below 45 = .ok (.iinc 4 1, 3) := by decide +kernel
theorem dX3_below_48 : decode cX3_below 48 = .ok (.goto (-43), 3) := by decide +kernel
theorem dX3_below_51 : decode cX3_below 51 = .ok (.iconst 0, 1) := by decide +kernel
theorem dX3_below_52 : decode cX3_below 52 = .ok (.istore 4, 2) := by decide +kernel
theorem dX3_below_54 : decode cX3_below 54 = .ok (.iload 4, 2) := by decide +kernel
theorem dX3_below_56 : decode cX3_below 56 = .ok (.aload_n 0, 1) := by decide +kernel
theorem dX3_below_57 : decode cX3_below 57 = .ok (.getfield 69, 3) := by decide +kernel
theorem dX3_below_60 : decode cX3_below 60 = .ok (.if_icmp .ge 30, 3) := by decide +kernel
theorem dX3_below_63 : decode cX3_below 63 = .ok (.iload_n 3, 1) := by decide +kernel
theorem dX3_below_64 : decode cX3_below 64 = .ok (.aload_n 0, 1) := by decide +kernel
theorem dX3_below_65 : decode cX3_below 65 = .ok (.getfield 27, 3) := by decide +kernel
theorem dX3_below_68 : decode cX3_below 68 = .ok (.iload 4, 2) := by decide +kernel
theorem dX3_below_70 : decode cX3_below 70 = .ok (.iaload, 1) := by decide +kernel
theorem dX3_below_71 : decode cX3_below 71 = .ok (.i2l, 1) := by decide +kernel
theorem dX3_below_72 : decode cX3_below 72 = .ok (.lload_n 1, 1) := by decide +kernel
theorem dX3_below_73 : decode cX3_below 73 = .ok (.lcmp, 1) := by decide +kernel
theorem dX3_below_74 : decode cX3_below 74 = .ok (.ifCond .ge 7, 3) := by decide +kernel
theorem dX3_below_77 : decode cX3_below 77 = .ok (.iconst 1, 1) := by decide +kernel
theorem dX3_below_78 : decode cX3_below 78 = .ok (.goto 4, 3) := by decide +kernel
theorem dX3_below_81 : decode cX3_below 81 = .ok (.iconst 0, 1) := by decide +kernel
theorem dX3_below_82 : decode cX3_below 82 = .ok (.iadd, 1) := by decide +kernel
theorem dX3_below_83 : decode cX3_below 83 = .ok (.istore_n 3, 1) := by decide +kernel
theorem dX3_below_84 : decode cX3_below 84 = .ok (.iinc 4 1, 3) := by decide +kernel
theorem dX3_below_87 : decode cX3_below 87 = .ok (.goto (-33), 3) := by decide +kernel
theorem dX3_below_90 : decode cX3_below 90 = .ok (.iload_n 3, 1) := by decide +kernel
theorem dX3_below_91 : decode cX3_below 91 = .ok (.ireturn, 1) := by decide +kernel
set_option maxRecDepth 20000 in
theorem ggX3_keys_X3_below : GoodIn wsX3_keys wsX3_below := goodIn_r _ [6, 7, 8, 9, 10, 11, 12, 13, 14, 15, 16, 17, 18, 19, 20, 21, 22, 23, 24, 25, 26, 27, 28, 29] (by decide +kernel) (by decide +kernel)
set_option maxRecDepth 20000 in
theorem gX3_keys_X3_below : GoodIn wsX3_keys (wsV RX3 135 RX3 yX3_below wsX3_below) := goodIn_app (goodIn_of _ (by decide +kernel)) ggX3_keys_X3_below
theorem dX3_keys_0 : decode cX3_keys 0 = .ok (.aload_n 0, 1) := by decide +kernel
theorem dX3_keys_1 : decode cX3_keys 1 = .ok (.ldc2_w 133, 3) := by decide +kernel
theorem dX3_keys_4 : decode cX3_keys 4 = .ok (.invokevirtual 135, 3) := by decide +kernel
theorem dX3_keys_7 : decode cX3_keys 7 = .ok (.ireturn, 1) := by decide +kernel
set_option maxRecDepth 20000 in
theorem ggX3_size_X3_keys : GoodIn wsX3_size wsX3_keys := goodIn_r _ [6, 7, 8, 9, 10, 5, 11, 12, 13, 14, 15, 16, 17, 18, 19, 20, 21, 22, 23, 24, 25, 26, 27, 28, 29, 30, 31, 32, 33, 34] (by decide +kernel) (by decide +kernel)
set_option maxRecDepth 20000 in
theorem gX3_size_X3_keys : GoodIn wsX3_size (wsV RX3 99 RX3 yX3_keys wsX3_keys) := goodIn_app (goodIn_of _ (by decide +kernel)) ggX3_size_X3_keys
theorem dX3_size_0 : decode cX3_size 0 = .ok (.aload_n 0, 1) := by decide +kernel
theorem dX3_size_1 : decode cX3_size 1 = .ok (.iconst 0, 1) := by decide +kernel
theorem dX3_size_2 : decode cX3_size 2 = .ok (.putfield 36, 3) := by decide +kernel
theorem dX3_size_5 : decode cX3_size 5 = .ok (.aload_n 0, 1) := by decide +kernel
theorem dX3_size_6 : decode cX3_size 6 = .ok (.invokevirtual 99, 3) := by decide +kernel
theorem dX3_size_9 : decode cX3_size 9 = .ok (.ireturn, 1) := by decide +kernel
set_option maxRecDepth 20000 in
theorem ggX3_contains_X3_isThere : GoodIn wsX3_contains wsX3_isThere := goodIn_r _ [6, 7, 8, 9, 10, 5, 11, 12, 13, 14, 15, 16, 17, 18, 19, 20, 21, 22, 23, 24, 25, 26, 27, 28, 29, 30, 31, 32, 33, 34, 35, 36, 37, 38, 39, 40, 41] (by decide +kernel) (by decide +kernel)
set_option maxRecDepth 20000 in
theorem gX3_contains_X3_isThere : GoodIn wsX3_contains (wsV RX3 93 RX3 yX3_isThere wsX3_isThere) := goodIn_app (goodIn_of _ (by decide +kernel)) ggX3_contains_X3_isThere
theorem dX3_contains_0 : decode cX3_contains 0 = .ok (.aload_n 0, 1) := by decide +kernel
theorem dX3_contains_1 : decode cX3_contains 1 = .ok (.iconst 0, 1) := by decide +kernel
theorem dX3_contains_2 : decode cX3_contains 2 = .ok (.putfield 36, 3) := by decide +kernel
theorem dX3_contains_5 : decode cX3_contains 5 = .ok (.aload_n 0, 1) := by decide +kernel
theorem dX3_contains_6 : decode cX3_contains 6 = .ok (.iload_n 1, 1) := by decide +kernel
theorem dX3_contains_7 : decode cX3_contains 7 = .ok (.invokevirtual 93, 3) := by decide +kernel
theorem dX3_contains_10 : decode cX3_contains 10 = .ok (.ireturn, 1) := by decide +kernel
set_option maxRecDepth 20000 in
theorem ggX3_rank_X3_below : GoodIn wsX3_rank wsX3_below := goodIn_r _ [6, 7, 8, 9, 10, 11, 12, 13, 14, 15, 16, 17, 18, 19, 20, 21, 22, 23, 24, 25, 26, 27, 28, 29] (by decide +kernel) (by decide +kernel)
set_option maxRecDepth 20000 in
theorem gX3_rank_X3_below : GoodIn wsX3_rank (wsV RX3 135 RX3 yX3_below wsX3_below) := goodIn_app (goodIn_of _ (by decide +kernel)) ggX3_rank_X3_below
theorem dX3_rank_0 : decode cX3_rank 0 = .ok (.aload_n 0, 1) := by decide +kernel
theorem dX3_rank_1 : decode cX3_rank 1 = .ok (.iconst 0, 1) := by decide +kernel
theorem dX3_rank_2 : decode cX3_rank 2 = .ok (.putfield 36, 3) := by decide +kernel
theorem dX3_rank_5 : decode cX3_rank 5 = .ok (.aload_n 0, 1) := by decide +kernel
theorem dX3_rank_6 : decode cX3_rank 6 = .ok (.iload_n 1, 1) := by decide +kernel
theorem dX3_rank_7 : decode cX3_rank 7 = .ok (.i2l, 1) := by decide +kernel
theorem dX3_rank_8 : decode cX3_rank 8 = .ok (.invokevirtual 135, 3) := by decide +kernel
theorem dX3_rank_11 : decode cX3_rank 11 = .ok (.ireturn, 1) := by decide +kernel
set_option maxRecDepth 20000 in
theorem ggX3_behindSo_X3_below : GoodIn wsX3_behindSo wsX3_below := goodIn_r _ [10, 1, 2, 3, 4, 5, 11, 12, 13, 14, 15, 16, 17, 18, 19, 20, 21, 22, 23, 24, 25, 26, 27, 28] (by decide +kernel) (by decide +kernel)
set_option maxRecDepth 20000 in
theorem gX3_behindSo_X3_below : GoodIn wsX3_behindSo (wsV RX3 135 RX3 yX3_below wsX3_below) := goodIn_app (goodIn_of _ (by decide +kernel)) ggX3_behindSo_X3_below
theorem dX3_behindSo_0 : decode cX3_behindSo 0 = .ok (.iconst 0, 1) := by decide +kernel
theorem dX3_behindSo_1 : decode cX3_behindSo 1 = .ok (.istore_n 2, 1) := by decide +kernel
theorem dX3_behindSo_2 : decode cX3_behindSo 2 = .ok (.iconst 0, 1) := by decide +kernel
theorem dX3_behindSo_3 : decode cX3_behindSo 3 = .ok (.istore_n 3, 1) := by decide +kernel
theorem dX3_behindSo_4 : decode cX3_behindSo 4 = .ok (.iload_n 3, 1) := by decide +kernel
theorem dX3_behindSo_5 : decode cX3_behindSo 5 = .ok (.aload_n 0, 1) := by decide +kernel
theorem dX3_behindSo_6 : decode cX3_behindSo 6 = .ok (.getfield 51, 3) := by decide +kernel
theorem dX3_behindSo_9 : decode cX3_behindSo 9 = .ok (.if_icmp .ge 44, 3) := by decide +kernel
theorem dX3_behindSo_12 : decode cX3_behindSo 12 = .ok (.aload_n 0, 1) := by decide +kernel
theorem dX3_behindSo_13 : decode cX3_behindSo 13 = .ok (.getfield 20, 3) := by decide +kernel
theorem dX3_behindSo_16 : decode cX3_behindSo 16 = .ok (.iload_n 3, 1) := by decide +kernel
theorem dX3_behindSo_17 : decode cX3_behindSo 17 = .ok (.baload, 1) := by decide +kernel
theorem dX3_behindSo_18 : decode cX3_behindSo 18 = .ok (.ifCond .ne 27, 3) := by decide +kernel
theorem dX3_behindSo_21 : decode cX3_behindSo 21 = .ok (.aload_n 0, 1) := by decide +kernel
theorem dX3_behindSo_22 : decode cX3_behindSo 22 = .ok (.aload_n 0, 1) := by decide +kernel
theorem dX3_behindSo_23 : decode cX3_behindSo 23 = .ok (.getfield 16, 3) := by decide +kernel
theorem dX3_behindSo_26 : decode cX3_behindSo 26 = .ok (.iload_n 3, 1) := by decide +kernel
theorem dX3_behindSo_27 : decode cX3_behindSo 27 = .ok (.iaload, 1) := by decide +kernel
theorem dX3_behindSo_28 : decode cX3_behindSo 28 = .ok (.i2l, 1) := by decide +kernel
theorem dX3_behindSo_29 : decode cX3_behindSo 29 = .ok (.invokevirtual 135, 3) := by decide +kernel
theorem dX3_behindSo_32 : decode cX3_behindSo 32 = .ok (.iload_n 1, 1) := by decide +kernel
theorem dX3_behindSo_33 : decode cX3_behindSo 33 = .ok (.if_icmp .ne 12, 3) := by decide +kernel
theorem dX3_behindSo_36 : decode cX3_behindSo 36 = .ok (.aload_n 0, 1) := by decide +kernel
theorem dX3_behindSo_37 : decode cX3_behindSo 37 = .ok (.getfield 16, 3) := by decide +kernel
theorem dX3_behindSo_40 : decode cX3_behindSo 40 = .ok (.iload_n 3, 1) := by decide +kernel
theorem dX3_behindSo_41 : decode cX3_behindSo 41 = .ok (.iaload, 1) := by decide +kernel
theorem dX3_behindSo_42 : decode cX3_behindSo 42 = .ok (.goto 4, 3) := by decide +kernel
theorem dX3_behindSo_45 : decode cX3_behindSo 45 = .ok (.iload_n 2, 1) := by decide +kernel
theorem dX3_behindSo_46 : decode cX3_behindSo 46 = .ok (.istore_n 2, 1) := by decide +kernel
theorem dX3_behindSo_47 : decode cX3_behindSo 47 = .ok (.iinc 3 1, 3) := by decide +kernel
theorem dX3_behindSo_50 : decode cX3_behindSo 50 = .ok (.goto (-46), 3) := by decide +kernel
theorem dX3_behindSo_53 : decode cX3_behindSo 53 = .ok (.iconst 0, 1) := by decide +kernel
theorem dX3_behindSo_54 : decode cX3_behindSo 54 = .ok (.istore_n 3, 1) := by decide +kernel
theorem dX3_behindSo_55 : decode cX3_behindSo 55 = .ok (.iload_n 3, 1) := by decide +kernel
theorem dX3_behindSo_56 : decode cX3_behindSo 56 = .ok (.aload_n 0, 1) := by decide +kernel
theorem dX3_behindSo_57 : decode cX3_behindSo 57 = .ok (.getfield 69, 3) := by decide +kernel
theorem dX3_behindSo_60 : decode cX3_behindSo 60 = .ok (.if_icmp .ge 35, 3) := by decide +kernel
theorem dX3_behindSo_63 : decode cX3_behindSo 63 = .ok (.aload_n 0, 1) := by decide +kernel
theorem dX3_behindSo_64 : decode cX3_behindSo 64 = .ok (.aload_n 0, 1) := by decide +kernel
theorem dX3_behindSo_65 : decode cX3_behindSo 65 = .ok (.getfield 27, 3) := by decide +kernel
theorem dX3_behindSo_68 : decode cX3_behindSo 68 = .ok (.iload_n 3, 1) := by decide +kernel
theorem dX3_behindSo_69 : decode cX3_behindSo 69 = .ok (.iaload, 1) := by decide +kernel
theorem dX3_behindSo_70 : decode cX3_behindSo 70 = .ok (.i2l, 1) := by decide +kernel
theorem dX3_behindSo_71 : decode cX3_behindSo 71 = .ok (.invokevirtual 135, 3) := by decide +kernel
theorem dX3_behindSo_74 : decode cX3_behindSo 74 = .ok (.iload_n 1, 1) := by decide +kernel
theorem dX3_behindSo_75 : decode cX3_behindSo 75 = .ok (.if_icmp .ne 12, 3) := by decide +kernel
theorem dX3_behindSo_78 : decode cX3_behindSo 78 = .ok (.aload_n 0, 1) := by decide +kernel
theorem dX3_behindSo_79 : decode cX3_behindSo 79 = .ok (.getfield 27, 3) := by decide +kernel
theorem dX3_behindSo_82 : decode cX3_behindSo 82 = .ok (.iload_n 3, 1) := by decide +kernel
theorem dX3_behindSo_83 : decode cX3_behindSo 83 = .ok (.iaload, 1) := by decide +kernel
theorem dX3_behindSo_84 : decode cX3_behindSo 84 = .ok (.goto 4, 3) := by decide +kernel
theorem dX3_behindSo_87 : decode cX3_behindSo 87 = .ok (.iload_n 2, 1) := by decide +kernel
theorem dX3_behindSo_88 : decode cX3_behindSo 88 = .ok (.istore_n 2, 1) := by decide +kernel
theorem dX3_behindSo_89 : decode cX3_behindSo 89 = .ok (.iinc 3 1, 3) := by decide +kernel
theorem dX3_behindSo_92 : decode cX3_behindSo 92 = .ok (.goto (-37), 3) := by decide +kernel
theorem dX3_behindSo_95 : decode cX3_behindSo 95 = .ok (.iload_n 2, 1) := by decide +kernel
theorem dX3_behindSo_96 : decode cX3_behindSo 96 = .ok (.ireturn, 1) := by decide +kernel
set_option maxRecDepth 20000 in
theorem ggX3_select_X3_keys : GoodIn wsX3_select wsX3_keys := goodIn_r _ [6, 7, 8, 9, 10, 5, 11, 12, 13, 14, 15, 16, 21, 22, 23, 24, 25, 26, 27, 28, 29, 30, 31, 32, 33, 34, 35, 36, 37, 38] (by decide +kernel) (by decide +kernel)
set_option maxRecDepth 20000 in
theorem gX3_select_X3_keys : GoodIn wsX3_select (wsV RX3 99 RX3 yX3_keys wsX3_keys) := goodIn_app (goodIn_of _ (by decide +kernel)) ggX3_select_X3_keys
set_option maxRecDepth 20000 in
theorem ggX3_select_X3_behindSo : GoodIn wsX3_select wsX3_behindSo := goodIn_r _ [20, 12, 13, 14, 15, 16, 8, 9, 10, 5, 11, 21, 22, 23, 24, 25, 26, 27, 28, 29, 30, 31, 32, 33, 34, 35, 36, 37, 38] (by decide +kernel) (by decide +kernel)
set_option maxRecDepth 20000 in
theorem gX3_select_X3_behindSo : GoodIn wsX3_select (wsV RX3 139 RX3 yX3_behindSo wsX3_behindSo) := goodIn_app (goodIn_of _ (by decide +kernel)) ggX3_select_X3_behindSo
theorem dX3_select_0 : decode cX3_select 0 = .ok (.aload_n 0, 1) := by decide +kernel
theorem dX3_select_1 : decode cX3_select 1 = .ok (.iload_n 1, 1) := by decide +kernel
theorem dX3_select_2 : decode cX3_select 2 = .ok (.ifCond .lt 15, 3) := by decide +kernel
theorem dX3_select_5 : decode cX3_select 5 = .ok (.iload_n 1, 1) := by decide +kernel
theorem dX3_select_6 : decode cX3_select 6 = .ok (.aload_n 0, 1) := by decide +kernel
theorem dX3_select_7 : decode cX3_select 7 = .ok (.invokevirtual 99, 3) := by decide +kernel
theorem dX3_select_10 : decode cX3_select 10 = .ok (.if_icmp .ge 7, 3) := by decide +kernel
theorem dX3_select_13 : decode cX3_select 13 = .ok (.iconst 0, 1) := by decide +kernel
theorem dX3_select_14 : decode cX3_select 14 = .ok (.goto 4, 3) := by decide +kernel
theorem dX3_select_17 : decode cX3_select 17 = .ok (.iconst 1, 1) := by decide +kernel
theorem dX3_select_18 : decode cX3_select 18 = .ok (.putfield 36, 3) := by decide +kernel
theorem dX3_select_21 : decode cX3_select 21 = .ok (.aload_n 0, 1) := by decide +kernel
theorem dX3_select_22 : decode cX3_select 22 = .ok (.getfield 36, 3) := by decide +kernel
theorem dX3_select_25 : decode cX3_select 25 = .ok (.ifCond .le 7, 3) := by decide +kernel
theorem dX3_select_28 : decode cX3_select 28 = .ok (.iconst 0, 1) := by decide +kernel
theorem dX3_select_29 : decode cX3_select 29 = .ok (.goto 8, 3) := by decide +kernel
theorem dX3_select_32 : decode cX3_select 32 = .ok (.aload_n 0, 1) := by decide +kernel
theorem dX3_select_33 : decode cX3_select 33 = .ok (.iload_n 1, 1) := by decide +kernel
theorem dX3_select_34 : decode cX3_select 34 = .ok (.invokevirtual 139, 3) := by decide +kernel
theorem dX3_select_37 : decode cX3_select 37 = .ok (.ireturn, 1) := by decide +kernel
set_option maxRecDepth 20000 in
theorem ggX3_ceiling_X3_below : GoodIn wsX3_ceiling wsX3_below := goodIn_r _ [6, 7, 8, 9, 10, 11, 21, 22, 23, 24, 25, 26, 27, 28, 29, 30, 31, 32, 33, 34, 35, 36, 37, 38] (by decide +kernel) (by decide +kernel)
set_option maxRecDepth 20000 in
theorem gX3_ceiling_X3_below : GoodIn wsX3_ceiling (wsV RX3 135 RX3 yX3_below wsX3_below) := goodIn_app (goodIn_of _ (by decide +kernel)) ggX3_ceiling_X3_below
set_option maxRecDepth 20000 in
theorem ggX3_ceiling_X3_keys : GoodIn wsX3_ceiling wsX3_keys := goodIn_r _ [15, 16, 2, 3, 4, 5, 6, 7, 8, 9, 10, 11, 21, 22, 23, 24, 25, 26, 27, 28, 29, 30, 31, 32, 33, 34, 35, 36, 37, 38] (by decide +kernel) (by decide +kernel)
set_option maxRecDepth 20000 in
theorem gX3_ceiling_X3_keys : GoodIn wsX3_ceiling (wsV RX3 99 RX3 yX3_keys wsX3_keys) := goodIn_app (goodIn_of _ (by decide +kernel)) ggX3_ceiling_X3_keys
set_option maxRecDepth 20000 in
theorem ggX3_ceiling_X3_behindSo : GoodIn wsX3_ceiling wsX3_behindSo := goodIn_r _ [20, 7, 8, 9, 10, 11, 2, 3, 4, 5, 6, 21, 22, 23, 24, 25, 26, 27, 28, 29, 30, 31, 32, 33, 34, 35, 36, 37, 38] (by decide +kernel) (by decide +kernel)
set_option maxRecDepth 20000 in
theorem gX3_ceiling_X3_behindSo : GoodIn wsX3_ceiling (wsV RX3 139 RX3 yX3_behindSo wsX3_behindSo) := goodIn_app (goodIn_of _ (by decide +kernel)) ggX3_ceiling_X3_behindSo
theorem dX3_ceiling_0 : decode cX3_ceiling 0 = .ok (.aload_n 0, 1) := by decide +kernel
theorem dX3_ceiling_1 : decode cX3_ceiling 1 = .ok (.iload_n 1, 1) := by decide +kernel
theorem dX3_ceiling_2 : decode cX3_ceiling 2 = .ok (.i2l, 1) := by decide +kernel
theorem dX3_ceiling_3 : decode cX3_ceiling 3 = .ok (.invokevirtual 135, 3) := by decide +kernel
theorem dX3_ceiling_6 : decode cX3_ceiling 6 = .ok (.istore_n 2, 1) := by decide +kernel
theorem dX3_ceiling_7 : decode cX3_ceiling 7 = .ok (.aload_n 0, 1) := by decide +kernel
theorem dX3_ceiling_8 : decode cX3_ceiling 8 = .ok (.iload_n 2, 1) := by decide +kernel
theorem dX3_ceiling_9 : decode cX3_ceiling 9 = .ok (.aload_n 0, 1) := by decide +kernel
theorem dX3_ceiling_10 : decode cX3_ceiling 10 = .ok (.invokevirtual 99, 3) := by decide +kernel
theorem dX3_ceiling_13 : decode cX3_ceiling 13 = .ok (.if_icmp .ge 7, 3) := by decide +kernel
theorem dX3_ceiling_16 : decode cX3_ceiling 16 = .ok (.iconst 0, 1) := by decide +kernel
theorem dX3_ceiling_17 : decode cX3_ceiling 17 = .ok (.goto 4, 3) := by decide +kernel
theorem dX3_ceiling_20 : decode cX3_ceiling 20 = .ok (.iconst 1, 1) := by decide +kernel
theorem dX3_ceiling_21 : decode cX3_ceiling 21 = .ok (.putfield 36, 3) := by decide +kernel
theorem dX3_ceiling_24 : decode cX3_ceiling 24 = .ok (.aload_n 0, 1) := by decide +kernel
theorem dX3_ceiling_25 : decode cX3_ceiling 25 = .ok (.getfield 36, 3) := by decide +kernel
theorem dX3_ceiling_28 : decode cX3_ceiling 28 = .ok (.ifCond .le 7, 3) := by decide +kernel
theorem dX3_ceiling_31 : decode cX3_ceiling 31 = .ok (.iconst 0, 1) := by decide +kernel
theorem dX3_ceiling_32 : decode cX3_ceiling 32 = .ok (.goto 8, 3) := by decide +kernel
theorem dX3_ceiling_35 : decode cX3_ceiling 35 = .ok (.aload_n 0, 1) := by decide +kernel
theorem dX3_ceiling_36 : decode cX3_ceiling 36 = .ok (.iload_n 2, 1) := by decide +kernel
theorem dX3_ceiling_37 : decode cX3_ceiling 37 = .ok (.invokevirtual 139, 3) := by decide +kernel
theorem dX3_ceiling_40 : decode cX3_ceiling 40 = .ok (.ireturn, 1) := by decide +kernel
set_option maxRecDepth 20000 in
theorem ggX3_count_X3_below : GoodIn wsX3_count wsX3_below := goodIn_r _ [6, 7, 8, 9, 10, 11, 12, 13, 14, 15, 16, 17, 18, 19, 20, 21, 22, 23, 24, 25, 26, 27, 28, 29] (by decide +kernel) (by decide +kernel)
set_option maxRecDepth 20000 in
theorem gX3_count_X3_below : GoodIn wsX3_count (wsV RX3 135 RX3 yX3_below wsX3_below) := goodIn_app (goodIn_of _ (by decide +kernel)) ggX3_count_X3_below
theorem dX3_count_0 : decode cX3_count 0 = .ok (.aload_n 0, 1) := by decide +kernel
theorem dX3_count_1 : decode cX3_count 1 = .ok (.iconst 0, 1) := by decide +kernel
theorem dX3_count_2 : decode cX3_count 2 = .ok (.putfield 36, 3) := by decide +kernel
theorem dX3_count_5 : decode cX3_count 5 = .ok (.iload_n 1, 1) := by decide +kernel
theorem dX3_count_6 : decode cX3_count 6 = .ok (.iload_n 2, 1) := by decide +kernel
theorem dX3_count_7 : decode cX3_count 7 = .ok (.if_icmp .le 7, 3) := by decide +kernel
theorem dX3_count_10 : decode cX3_count 10 = .ok (.iconst 0, 1) := by decide +kernel
theorem dX3_count_11 : decode cX3_count 11 = .ok (.goto 18, 3) := by decide +kernel
theorem dX3_count_14 : decode cX3_count 14 = .ok (.aload_n 0, 1) := by decide +kernel
theorem dX3_count_15 : decode cX3_count 15 = .ok (.iload_n 2, 1) := by decide +kernel
theorem dX3_count_16 : decode cX3_count 16 = .ok (.i2l, 1) := by decide +kernel
theorem dX3_count_17 : decode cX3_count 17 = .ok (.lconst 1, 1) := by decide +kernel
theorem dX3_count_18 : decode cX3_count 18 = .ok (.ladd, 1) := by decide +kernel
theorem dX3_count_19 : decode cX3_count 19 = .ok (.invokevirtual 135, 3) := by decide +kernel
theorem dX3_count_22 : decode cX3_count 22 = .ok (.aload_n 0, 1) := by decide +kernel
theorem dX3_count_23 : decode cX3_count 23 = .ok (.iload_n 1, 1) := by decide +kernel
theorem dX3_count_24 : decode cX3_count 24 = .ok (.i2l, 1) := by decide +kernel
theorem dX3_count_25 : decode cX3_count 25 = .ok (.invokevirtual 135, 3) := by decide +kernel
theorem dX3_count_28 : decode cX3_count 28 = .ok (.isub, 1) := by decide +kernel
theorem dX3_count_29 : decode cX3_count 29 = .ok (.ireturn, 1) := by decide +kernel
set_option maxRecDepth 20000 in
theorem ggX3_place_X3_placeOf : GoodIn wsX3_place wsX3_placeOf := goodIn_r _ [6, 7, 8, 9, 10, 11, 12, 13, 14, 15, 16, 17, 18, 19, 20, 21, 22, 23, 24, 25, 26] (by decide +kernel) (by decide +kernel)
set_option maxRecDepth 20000 in
theorem gX3_place_X3_placeOf : GoodIn wsX3_place (wsV RX3 66 RX3 yX3_placeOf wsX3_placeOf) := goodIn_app (goodIn_of _ (by decide +kernel)) ggX3_place_X3_placeOf
theorem dX3_place_0 : decode cX3_place 0 = .ok (.aload_n 0, 1) := by decide +kernel
theorem dX3_place_1 : decode cX3_place 1 = .ok (.iconst 0, 1) := by decide +kernel
theorem dX3_place_2 : decode cX3_place 2 = .ok (.putfield 36, 3) := by decide +kernel
theorem dX3_place_5 : decode cX3_place 5 = .ok (.aload_n 0, 1) := by decide +kernel
theorem dX3_place_6 : decode cX3_place 6 = .ok (.iload_n 1, 1) := by decide +kernel
theorem dX3_place_7 : decode cX3_place 7 = .ok (.invokevirtual 66, 3) := by decide +kernel
theorem dX3_place_10 : decode cX3_place 10 = .ok (.ireturn, 1) := by decide +kernel
set_option maxRecDepth 20000 in
theorem ggX3_guessOf_X3_lays : GoodIn wsX3_guessOf wsX3_lays := goodIn_r _ [9, 3, 1, 2, 4, 10, 11, 12, 8, 13, 14, 15, 16, 17, 18, 19, 20, 21, 22, 23, 24, 25, 26, 27, 28, 29, 30, 31, 32, 33, 34, 35, 36, 37, 38, 39, 40, 41] (by decide +kernel) (by decide +kernel)
set_option maxRecDepth 20000 in
theorem gX3_guessOf_X3_lays : GoodIn wsX3_guessOf (wsV RX3 142 RX3 yX3_lays wsX3_lays) := goodIn_app (goodIn_of _ (by decide +kernel)) ggX3_guessOf_X3_lays
theorem dX3_guessOf_0 : decode cX3_guessOf 0 = .ok (.aload_n 0, 1) := by decide +kernel
theorem dX3_guessOf_1 : decode cX3_guessOf 1 = .ok (.iload_n 2, 1) := by decide +kernel
theorem dX3_guessOf_2 : decode cX3_guessOf 2 = .ok (.invokevirtual 142, 3) := by decide +kernel
theorem dX3_guessOf_5 : decode cX3_guessOf 5 = .ok (.aload_n 0, 1) := by decide +kernel
theorem dX3_guessOf_6 : decode cX3_guessOf 6 = .ok (.getfield 24, 3) := by decide +kernel
theorem dX3_guessOf_9 : decode cX3_guessOf 9 = .ok (.iload_n 2, 1) := by decide +kernel
theorem dX3_guessOf_10 : decode cX3_guessOf 10 = .ok (.iaload, 1) := by decide +kernel
theorem dX3_guessOf_11 : decode cX3_guessOf 11 = .ok (.i2l, 1) := by decide +kernel
theorem dX3_guessOf_12 : decode cX3_guessOf 12 = .ok (.aload_n 0, 1) := by decide +kernel
theorem dX3_guessOf_13 : decode cX3_guessOf 13 = .ok (.getfield 41, 3) := by decide +kernel
theorem dX3_guessOf_16 : decode cX3_guessOf 16 = .ok (.iload_n 1, 1) := by decide +kernel
theorem dX3_guessOf_17 : decode cX3_guessOf 17 = .ok (.i2l, 1) := by decide +kernel
theorem dX3_guessOf_18 : decode cX3_guessOf 18 = .ok (.aload_n 0, 1) := by decide +kernel
theorem dX3_guessOf_19 : decode cX3_guessOf 19 = .ok (.getfield 16, 3) := by decide +kernel
theorem dX3_guessOf_22 : decode cX3_guessOf 22 = .ok (.aload_n 0, 1) := by decide +kernel
theorem dX3_guessOf_23 : decode cX3_guessOf 23 = .ok (.getfield 24, 3) := by decide +kernel
theorem dX3_guessOf_26 : decode cX3_guessOf 26 = .ok (.iload_n 2, 1) := by decide +kernel
theorem dX3_guessOf_27 : decode cX3_guessOf 27 = .ok (.iaload, 1) := by decide +kernel
theorem dX3_guessOf_28 : decode cX3_guessOf 28 = .ok (.iaload, 1) := by decide +kernel
theorem dX3_guessOf_29 : decode cX3_guessOf 29 = .ok (.i2l, 1) := by decide +kernel
theorem dX3_guessOf_30 : decode cX3_guessOf 30 = .ok (.lsub, 1) := by decide +kernel
theorem dX3_guessOf_31 : decode cX3_guessOf 31 = .ok (.lmul, 1) := by decide +kernel
theorem dX3_guessOf_32 : decode cX3_guessOf 32 = .ok (.aload_n 0, 1) := by decide +kernel
theorem dX3_guessOf_33 : decode cX3_guessOf 33 = .ok (.getfield 45, 3) := by decide +kernel
theorem dX3_guessOf_36 : decode cX3_guessOf 36 = .ok (.ldiv, 1) := by decide +kernel
theorem dX3_guessOf_37 : decode cX3_guessOf 37 = .ok (.ladd, 1) := by decide +kernel
theorem dX3_guessOf_38 : decode cX3_guessOf 38 = .ok (.lreturn, 1) := by decide +kernel
set_option maxRecDepth 20000 in
theorem ggX3_guess_X3_isKey : GoodIn wsX3_guess wsX3_isKey := goodIn_r _ [6, 7, 8] (by decide +kernel) (by decide +kernel)
set_option maxRecDepth 20000 in
theorem gX3_guess_X3_isKey : GoodIn wsX3_guess (va_wsS RX3 79 yX3_isKey wsX3_isKey) := goodIn_app (goodIn_of _ (by decide +kernel)) ggX3_guess_X3_isKey
set_option maxRecDepth 20000 in
theorem ggX3_guess_X3_pieceOf : GoodIn wsX3_guess wsX3_pieceOf := goodIn_r _ [12, 13, 14, 15, 39, 40, 41, 42, 43, 44, 45, 46, 47, 48, 49, 50, 51, 52, 53, 54, 55, 56] (by decide +kernel) (by decide +kernel)
set_option maxRecDepth 20000 in
theorem gX3_guess_X3_pieceOf : GoodIn wsX3_guess (wsV RX3 108 RX3 yX3_pieceOf wsX3_pieceOf) := goodIn_app (goodIn_of _ (by decide +kernel)) ggX3_guess_X3_pieceOf
set_option maxRecDepth 20000 in
theorem ggX3_guess_X3_guessOf : GoodIn wsX3_guess wsX3_guessOf := goodIn_r _ [19, 15, 20, 14, 21, 22, 23, 24, 5, 25, 26, 27, 28, 29, 13, 30, 31, 32, 33, 34, 35, 36, 37, 38, 39, 40, 41, 42, 43, 44, 45, 46, 47, 48, 49, 50, 51, 52, 53, 54, 55, 56] (by decide +kernel) (by decide +kernel)
set_option maxRecDepth 20000 in
theorem gX3_guess_X3_guessOf : GoodIn wsX3_guess (wsV RX3 147 RX3 yX3_guessOf wsX3_guessOf) := goodIn_app (goodIn_of _ (by decide +kernel)) ggX3_guess_X3_guessOf
theorem dX3_guess_0 : decode cX3_guess 0 = .ok (.aload_n 0, 1) := by decide +kernel
theorem dX3_guess_1 : decode cX3_guess 1 = .ok (.iload_n 1, 1) := by decide +kernel
theorem dX3_guess_2 : decode cX3_guess 2 = .ok (.invokestatic 79, 3) := by decide +kernel
theorem dX3_guess_5 : decode cX3_guess 5 = .ok (.ifCond .eq 7, 3) := by decide +kernel
theorem dX3_guess_8 : decode cX3_guess 8 = .ok (.iconst 0, 1) := by decide +kernel
theorem dX3_guess_9 : decode cX3_guess 9 = .ok (.goto 4, 3) := by decide +kernel
theorem dX3_guess_12 : decode cX3_guess 12 = .ok (.iconst 1, 1) := by decide +kernel
theorem dX3_guess_13 : decode cX3_guess 13 = .ok (.putfield 36, 3) := by decide +kernel
theorem dX3_guess_16 : decode cX3_guess 16 = .ok (.aload_n 0, 1) := by decide +kernel
theorem dX3_guess_17 : decode cX3_guess 17 = .ok (.iload_n 1, 1) := by decide +kernel
theorem dX3_guess_18 : decode cX3_guess 18 = .ok (.invokevirtual 108, 3) := by decide +kernel
theorem dX3_guess_21 : decode cX3_guess 21 = .ok (.istore_n 2, 1) := by decide +kernel
theorem dX3_guess_22 : decode cX3_guess 22 = .ok (.aload_n 0, 1) := by decide +kernel
theorem dX3_guess_23 : decode cX3_guess 23 = .ok (.getfield 36, 3) := by decide +kernel
theorem dX3_guess_26 : decode cX3_guess 26 = .ok (.ifCond .gt 8, 3) := by decide +kernel
theorem dX3_guess_29 : decode cX3_guess 29 = .ok (.iload_n 2, 1) := by decide +kernel
theorem dX3_guess_30 : decode cX3_guess 30 = .ok (.iconst (-1), 1) := by decide +kernel
theorem dX3_guess_31 : decode cX3_guess 31 = .ok (.if_icmp .ne 9, 3) := by decide +kernel
theorem dX3_guess_34 : decode cX3_guess 34 = .ok (.ldc2_w 145, 3) := by decide +kernel
theorem dX3_guess_37 : decode cX3_guess 37 = .ok (.goto 9, 3) := by decide +kernel
theorem dX3_guess_40 : decode cX3_guess 40 = .ok (.aload_n 0, 1) := by decide +kernel
theorem dX3_guess_41 : decode cX3_guess 41 = .ok (.iload_n 1, 1) := by decide +kernel
theorem dX3_guess_42 : decode cX3_guess 42 = .ok (.iload_n 2, 1) := by decide +kernel
theorem dX3_guess_43 : decode cX3_guess 43 = .ok (.invokevirtual 147, 3) := by decide +kernel
theorem dX3_guess_46 : decode cX3_guess 46 = .ok (.lreturn, 1) := by decide +kernel
set_option maxRecDepth 20000 in
theorem ggX3_looks_X3_isKey : GoodIn wsX3_looks wsX3_isKey := goodIn_r _ [9, 10, 11] (by decide +kernel) (by decide +kernel)
set_option maxRecDepth 20000 in
theorem gX3_looks_X3_isKey : GoodIn wsX3_looks (va_wsS RX3 79 yX3_isKey wsX3_isKey) := goodIn_app (goodIn_of _ (by decide +kernel)) ggX3_looks_X3_isKey
set_option maxRecDepth 20000 in
theorem ggX3_looks_X3_pieceOf : GoodIn wsX3_looks wsX3_pieceOf := goodIn_r _ [15, 16, 5, 3, 39, 40, 41, 42, 43, 44, 45, 46, 47, 48, 49, 50, 51, 52, 53, 54, 55, 56] (by decide +kernel) (by decide +kernel)
set_option maxRecDepth 20000 in
theorem gX3_looks_X3_pieceOf : GoodIn wsX3_looks (wsV RX3 108 RX3 yX3_pieceOf wsX3_pieceOf) := goodIn_app (goodIn_of _ (by decide +kernel)) ggX3_looks_X3_pieceOf
set_option maxRecDepth 20000 in
theorem ggX3_looks_X3_guessOf : GoodIn wsX3_looks wsX3_guessOf := goodIn_r _ [20, 3, 21, 5, 22, 23, 24, 25, 8, 26, 27, 28, 29, 30, 16, 31, 32, 33, 34, 35, 2, 36, 37, 38, 39, 40, 41, 42, 43, 44, 45, 46, 47, 48, 49, 50, 51, 52, 53, 54, 55, 56] (by decide +kernel) (by decide +kernel)
set_option maxRecDepth 20000 in
theorem gX3_looks_X3_guessOf : GoodIn wsX3_looks (wsV RX3 147 RX3 yX3_guessOf wsX3_guessOf) := goodIn_app (goodIn_of _ (by decide +kernel)) ggX3_looks_X3_guessOf
set_option maxRecDepth 20000 in
theorem ggX3_looks_X3_behind : GoodIn wsX3_looks wsX3_behind := goodIn_r _ [30, 16, 3, 31, 39, 40, 41, 42, 43, 44, 45, 46, 47, 48, 49, 50, 51, 52, 53, 54, 55, 56] (by decide +kernel) (by decide +kernel)
set_option maxRecDepth 20000 in
theorem gX3_looks_X3_behind : GoodIn wsX3_looks (wsV RX3 54 RX3 yX3_behind wsX3_behind) := goodIn_app (goodIn_of _ (by decide +kernel)) ggX3_looks_X3_behind
theorem dX3_looks_0 : decode cX3_looks 0 = .ok (.aload_n 0, 1) := by decide +kernel
theorem dX3_looks_1 : decode cX3_looks 1 = .ok (.iload_n 1, 1) := by decide +kernel
theorem dX3_looks_2 : decode cX3_looks 2 = .ok (.invokestatic 79, 3) := by decide +kernel
theorem dX3_looks_5 : decode cX3_looks 5 = .ok (.ifCond .eq 7, 3) := by decide +kernel
theorem dX3_looks_8 : decode cX3_looks 8 = .ok (.iconst 0, 1) := by decide +kernel
theorem dX3_looks_9 : decode cX3_looks 9 = .ok (.goto 4, 3) := by decide +kernel
theorem dX3_looks_12 : decode cX3_looks 12 = .ok (.iconst 1, 1) := by decide +kernel
theorem dX3_looks_13 : decode cX3_looks 13 = .ok (.putfield 36, 3) := by decide +kernel
theorem dX3_looks_16 : decode cX3_looks 16 = .ok (.aload_n 0, 1) := by decide +kernel
theorem dX3_looks_17 : decode cX3_looks 17 = .ok (.iload_n 1, 1) := by decide +kernel
theorem dX3_looks_18 : decode cX3_looks 18 = .ok (.invokevirtual 108, 3) := by decide +kernel
theorem dX3_looks_21 : decode cX3_looks 21 = .ok (.istore_n 2, 1) := by decide +kernel
theorem dX3_looks_22 : decode cX3_looks 22 = .ok (.aload_n 0, 1) := by decide +kernel
theorem dX3_looks_23 : decode cX3_looks 23 = .ok (.getfield 36, 3) := by decide +kernel
theorem dX3_looks_26 : decode cX3_looks 26 = .ok (.ifCond .gt 8, 3) := by decide +kernel
theorem dX3_looks_29 : decode cX3_looks 29 = .ok (.iload_n 2, 1) := by decide +kernel
theorem dX3_looks_30 : decode cX3_looks 30 = .ok (.iconst (-1), 1) := by decide +kernel
theorem dX3_looks_31 : decode cX3_looks 31 = .ok (.if_icmp .ne 5, 3) := by decide +kernel
theorem dX3_looks_34 : decode cX3_looks 34 = .ok (.iconst 0, 1) := by decide +kernel
theorem dX3_looks_35 : decode cX3_looks 35 = .ok (.ireturn, 1) := by decide +kernel
theorem dX3_looks_36 : decode cX3_looks 36 = .ok (.aload_n 0, 1) := by decide +kernel
theorem dX3_looks_37 : decode cX3_looks 37 = .ok (.iload_n 1, 1) := by decide +kernel
theorem dX3_looks_38 : decode cX3_looks 38 = .ok (.iload_n 2, 1) := by decide +kernel
theorem dX3_looks_39 : decode cX3_looks 39 = .ok (.invokevirtual 147, 3) := by decide +kernel
theorem dX3_looks_42 : decode cX3_looks 42 = .ok (.lstore_n 3, 1) := by decide +kernel
theorem dX3_looks_43 : decode cX3_looks 43 = .ok (.aload_n 0, 1) := by decide +kernel
theorem dX3_looks_44 : decode cX3_looks 44 = .ok (.iload_n 2, 1) := by decide +kernel
theorem dX3_looks_45 : decode cX3_looks 45 = .ok (.invokevirtual 54, 3) := by decide +kernel
theorem dX3_looks_48 : decode cX3_looks 48 = .ok (.istore 5, 2) := by decide +kernel
theorem dX3_looks_50 : decode cX3_looks 50 = .ok (.lload_n 3, 1) := by decide +kernel
theorem dX3_looks_51 : decode cX3_looks 51 = .ok (.aload_n 0, 1) := by decide +kernel
theorem dX3_looks_52 : decode cX3_looks 52 = .ok (.getfield 7, 3) := by decide +kernel
theorem dX3_looks_55 : decode cX3_looks 55 = .ok (.i2l, 1) := by decide +kernel
theorem dX3_looks_56 : decode cX3_looks 56 = .ok (.lsub, 1) := by decide +kernel
theorem dX3_looks_57 : decode cX3_looks 57 = .ok (.aload_n 0, 1) := by decide +kernel
theorem dX3_looks_58 : decode cX3_looks 58 = .ok (.getfield 24, 3) := by decide +kernel
theorem dX3_looks_61 : decode cX3_looks 61 = .ok (.iload_n 2, 1) := by decide +kernel
theorem dX3_looks_62 : decode cX3_looks 62 = .ok (.iaload, 1) := by decide +kernel
theorem dX3_looks_63 : decode cX3_looks 63 = .ok (.i2l, 1) := by decide +kernel
theorem dX3_looks_64 : decode cX3_looks 64 = .ok (.lcmp, 1) := by decide +kernel
theorem dX3_looks_65 : decode cX3_looks 65 = .ok (.ifCond .le 13, 3) := by decide +kernel
theorem dX3_looks_68 : decode cX3_looks 68 = .ok (.lload_n 3, 1) := by decide +kernel
theorem dX3_looks_69 : decode cX3_looks 69 = .ok (.aload_n 0, 1) := by decide +kernel
theorem dX3_looks_70 : decode cX3_looks 70 = .ok (.getfield 7, 3) := by decide +kernel
theorem dX3_looks_73 : decode cX3_looks 73 = .ok (.i2l, 1) := by decide +kernel
theorem dX3_looks_74 : decode cX3_looks 74 = .ok (.lsub, 1) := by decide +kernel
theorem dX3_looks_75 : decode cX3_looks 75 = .ok (.goto 10, 3) := by decide +kernel
theorem dX3_looks_78 : decode cX3_looks 78 = .ok (.aload_n 0, 1) := by decide +kernel
theorem dX3_looks_79 : decode cX3_looks 79 = .ok (.getfield 24, 3) := by decide +kernel
theorem dX3_looks_82 : decode cX3_looks 82 = .ok (.iload_n 2, 1) := by decide +kernel
theorem dX3_looks_83 : decode cX3_looks 83 = .ok (.iaload, 1) := by decide +kernel
theorem dX3_looks_84 : decode cX3_looks 84 = .ok (.i2l, 1) := by decide +kernel
theorem dX3_looks_85 : decode cX3_looks 85 = .ok (.lstore 6, 2) := by decide +kernel
theorem dX3_looks_87 : decode cX3_looks 87 = .ok (.lload 6, 2) := by decide +kernel
theorem dX3_looks_89 : decode cX3_looks 89 = .ok (.iload 5, 2) := by decide +kernel
theorem dX3_looks_91 : decode cX3_looks 91 = .ok (.i2l, 1) := by decide +kernel
theorem dX3_looks_92 : decode cX3_looks 92 = .ok (.lcmp, 1) := by decide +kernel
theorem dX3_looks_93 : decode cX3_looks 93 = .ok (.ifCond .ge 8, 3) := by decide +kernel
theorem dX3_looks_96 : decode cX3_looks 96 = .ok (.lload 6, 2) := by decide +kernel
end
section
theorem dX3_looks_98 : decode cX3_looks 98 = .ok (.goto 6, 3) := by decide +kernel
theorem dX3_looks_101 : decode cX3_looks 101 = .ok (.iload 5, 2) := by decide +kernel
theorem dX3_looks_103 : decode cX3_looks 103 = .ok (.i2l, 1) := by decide +kernel
theorem dX3_looks_104 : decode cX3_looks 104 = .ok (.lstore 6, 2) := by decide +kernel
theorem dX3_looks_106 : decode cX3_looks 106 = .ok (.lload_n 3, 1) := by decide +kernel
theorem dX3_looks_107 : decode cX3_looks 107 = .ok (.aload_n 0, 1) := by decide +kernel
theorem dX3_looks_108 : decode cX3_looks 108 = .ok (.getfield 7, 3) := by decide +kernel
theorem dX3_looks_111 : decode cX3_looks 111 = .ok (.i2l, 1) := by decide +kernel
theorem dX3_looks_112 : decode cX3_looks 112 = .ok (.ladd, 1) := by decide +kernel
theorem dX3_looks_113 : decode cX3_looks 113 = .ok (.lconst 1, 1) := by decide +kernel
theorem dX3_looks_114 : decode cX3_looks 114 = .ok (.ladd, 1) := by decide +kernel
theorem dX3_looks_115 : decode cX3_looks 115 = .ok (.iload 5, 2) := by decide +kernel
theorem dX3_looks_117 : decode cX3_looks 117 = .ok (.i2l, 1) := by decide +kernel
theorem dX3_looks_118 : decode cX3_looks 118 = .ok (.lcmp, 1) := by decide +kernel
theorem dX3_looks_119 : decode cX3_looks 119 = .ok (.ifCond .ge 15, 3) := by decide +kernel
theorem dX3_looks_122 : decode cX3_looks 122 = .ok (.lload_n 3, 1) := by decide +kernel
theorem dX3_looks_123 : decode cX3_looks 123 = .ok (.aload_n 0, 1) := by decide +kernel
theorem dX3_looks_124 : decode cX3_looks 124 = .ok (.getfield 7, 3) := by decide +kernel
theorem dX3_looks_127 : decode cX3_looks 127 = .ok (.i2l, 1) := by decide +kernel
theorem dX3_looks_128 : decode cX3_looks 128 = .ok (.ladd, 1) := by decide +kernel
theorem dX3_looks_129 : decode cX3_looks 129 = .ok (.lconst 1, 1) := by decide +kernel
theorem dX3_looks_130 : decode cX3_looks 130 = .ok (.ladd, 1) := by decide +kernel
theorem dX3_looks_131 : decode cX3_looks 131 = .ok (.goto 6, 3) := by decide +kernel
theorem dX3_looks_134 : decode cX3_looks 134 = .ok (.iload 5, 2) := by decide +kernel
theorem dX3_looks_136 : decode cX3_looks 136 = .ok (.i2l, 1) := by decide +kernel
theorem dX3_looks_137 : decode cX3_looks 137 = .ok (.lstore 8, 2) := by decide +kernel
theorem dX3_looks_139 : decode cX3_looks 139 = .ok (.iconst 0, 1) := by decide +kernel
theorem dX3_looks_140 : decode cX3_looks 140 = .ok (.istore 10, 2) := by decide +kernel
theorem dX3_looks_142 : decode cX3_looks 142 = .ok (.lload 6, 2) := by decide +kernel
theorem dX3_looks_144 : decode cX3_looks 144 = .ok (.lload 8, 2) := by decide +kernel
theorem dX3_looks_146 : decode cX3_looks 146 = .ok (.lcmp, 1) := by decide +kernel
theorem dX3_looks_147 : decode cX3_looks 147 = .ok (.ifCond .ge 45, 3) := by decide +kernel
theorem dX3_looks_150 : decode cX3_looks 150 = .ok (.lload 6, 2) := by decide +kernel
theorem dX3_looks_152 : decode cX3_looks 152 = .ok (.lload 8, 2) := by decide +kernel
theorem dX3_looks_154 : decode cX3_looks 154 = .ok (.ladd, 1) := by decide +kernel
theorem dX3_looks_155 : decode cX3_looks 155 = .ok (.ldc2_w 151, 3) := by decide +kernel
theorem dX3_looks_158 : decode cX3_looks 158 = .ok (.ldiv, 1) := by decide +kernel
theorem dX3_looks_159 : decode cX3_looks 159 = .ok (.lstore 11, 2) := by decide +kernel
theorem dX3_looks_161 : decode cX3_looks 161 = .ok (.iinc 10 1, 3) := by decide +kernel
theorem dX3_looks_164 : decode cX3_looks 164 = .ok (.aload_n 0, 1) := by decide +kernel
theorem dX3_looks_165 : decode cX3_looks 165 = .ok (.getfield 16, 3) := by decide +kernel
theorem dX3_looks_168 : decode cX3_looks 168 = .ok (.lload 11, 2) := by decide +kernel
theorem dX3_looks_170 : decode cX3_looks 170 = .ok (.l2i, 1) := by decide +kernel
theorem dX3_looks_171 : decode cX3_looks 171 = .ok (.iaload, 1) := by decide +kernel
theorem dX3_looks_172 : decode cX3_looks 172 = .ok (.iload_n 1, 1) := by decide +kernel
theorem dX3_looks_173 : decode cX3_looks 173 = .ok (.if_icmp .ge 12, 3) := by decide +kernel
theorem dX3_looks_176 : decode cX3_looks 176 = .ok (.lload 11, 2) := by decide +kernel
theorem dX3_looks_178 : decode cX3_looks 178 = .ok (.lconst 1, 1) := by decide +kernel
theorem dX3_looks_179 : decode cX3_looks 179 = .ok (.ladd, 1) := by decide +kernel
theorem dX3_looks_180 : decode cX3_looks 180 = .ok (.lstore 6, 2) := by decide +kernel
theorem dX3_looks_182 : decode cX3_looks 182 = .ok (.goto 7, 3) := by decide +kernel
theorem dX3_looks_185 : decode cX3_looks 185 = .ok (.lload 11, 2) := by decide +kernel
theorem dX3_looks_187 : decode cX3_looks 187 = .ok (.lstore 8, 2) := by decide +kernel
theorem dX3_looks_189 : decode cX3_looks 189 = .ok (.goto (-47), 3) := by decide +kernel
theorem dX3_looks_192 : decode cX3_looks 192 = .ok (.iload 10, 2) := by decide +kernel
theorem dX3_looks_194 : decode cX3_looks 194 = .ok (.ireturn, 1) := by decide +kernel
set_option maxRecDepth 20000 in
theorem ggX3_worstError_X3_pieceOf : GoodIn wsX3_worstError wsX3_pieceOf := goodIn_r _ [8, 9, 3, 10, 33, 34, 35, 36, 37, 38, 39, 40, 41, 42, 43, 44, 45, 46, 47, 48, 49, 50] (by decide +kernel) (by decide +kernel)
set_option maxRecDepth 20000 in
theorem gX3_worstError_X3_pieceOf : GoodIn wsX3_worstError (wsV RX3 108 RX3 yX3_pieceOf wsX3_pieceOf) := goodIn_app (goodIn_of _ (by decide +kernel)) ggX3_worstError_X3_pieceOf
set_option maxRecDepth 20000 in
theorem ggX3_worstError_X3_guessOf : GoodIn wsX3_worstError wsX3_guessOf := goodIn_r _ [14, 10, 15, 3, 16, 17, 18, 19, 7, 20, 21, 22, 23, 24, 9, 2, 25, 26, 27, 28, 29, 30, 31, 32, 33, 34, 35, 36, 37, 38, 39, 40, 41, 42, 43, 44, 45, 46, 47, 48, 49, 50] (by decide +kernel) (by decide +kernel)
set_option maxRecDepth 20000 in
theorem gX3_worstError_X3_guessOf : GoodIn wsX3_worstError (wsV RX3 147 RX3 yX3_guessOf wsX3_guessOf) := goodIn_app (goodIn_of _ (by decide +kernel)) ggX3_worstError_X3_guessOf
theorem dX3_worstError_0 : decode cX3_worstError 0 = .ok (.aload_n 0, 1) := by decide +kernel
theorem dX3_worstError_1 : decode cX3_worstError 1 = .ok (.iconst 0, 1) := by decide +kernel
theorem dX3_worstError_2 : decode cX3_worstError 2 = .ok (.putfield 36, 3) := by decide +kernel
theorem dX3_worstError_5 : decode cX3_worstError 5 = .ok (.lconst 0, 1) := by decide +kernel
theorem dX3_worstError_6 : decode cX3_worstError 6 = .ok (.lstore_n 1, 1) := by decide +kernel
theorem dX3_worstError_7 : decode cX3_worstError 7 = .ok (.iconst 0, 1) := by decide +kernel
theorem dX3_worstError_8 : decode cX3_worstError 8 = .ok (.istore_n 3, 1) := by decide +kernel
theorem dX3_worstError_9 : decode cX3_worstError 9 = .ok (.iload_n 3, 1) := by decide +kernel
theorem dX3_worstError_10 : decode cX3_worstError 10 = .ok (.aload_n 0, 1) := by decide +kernel
theorem dX3_worstError_11 : decode cX3_worstError 11 = .ok (.getfield 51, 3) := by decide +kernel
theorem dX3_worstError_14 : decode cX3_worstError 14 = .ok (.if_icmp .ge 65, 3) := by decide +kernel
theorem dX3_worstError_17 : decode cX3_worstError 17 = .ok (.aload_n 0, 1) := by decide +kernel
theorem dX3_worstError_18 : decode cX3_worstError 18 = .ok (.aload_n 0, 1) := by decide +kernel
theorem dX3_worstError_19 : decode cX3_worstError 19 = .ok (.getfield 16, 3) := by decide +kernel
theorem dX3_worstError_22 : decode cX3_worstError 22 = .ok (.iload_n 3, 1) := by decide +kernel
theorem dX3_worstError_23 : decode cX3_worstError 23 = .ok (.iaload, 1) := by decide +kernel
theorem dX3_worstError_24 : decode cX3_worstError 24 = .ok (.aload_n 0, 1) := by decide +kernel
theorem dX3_worstError_25 : decode cX3_worstError 25 = .ok (.aload_n 0, 1) := by decide +kernel
theorem dX3_worstError_26 : decode cX3_worstError 26 = .ok (.getfield 16, 3) := by decide +kernel
theorem dX3_worstError_29 : decode cX3_worstError 29 = .ok (.iload_n 3, 1) := by decide +kernel
theorem dX3_worstError_30 : decode cX3_worstError 30 = .ok (.iaload, 1) := by decide +kernel
theorem dX3_worstError_31 : decode cX3_worstError 31 = .ok (.invokevirtual 108, 3) := by decide +kernel
theorem dX3_worstError_34 : decode cX3_worstError 34 = .ok (.invokevirtual 147, 3) := by decide +kernel
theorem dX3_worstError_37 : decode cX3_worstError 37 = .ok (.iload_n 3, 1) := by decide +kernel
theorem dX3_worstError_38 : decode cX3_worstError 38 = .ok (.i2l, 1) := by decide +kernel
theorem dX3_worstError_39 : decode cX3_worstError 39 = .ok (.lsub, 1) := by decide +kernel
theorem dX3_worstError_40 : decode cX3_worstError 40 = .ok (.lstore 4, 2) := by decide +kernel
theorem dX3_worstError_42 : decode cX3_worstError 42 = .ok (.lload 4, 2) := by decide +kernel
theorem dX3_worstError_44 : decode cX3_worstError 44 = .ok (.lconst 0, 1) := by decide +kernel
theorem dX3_worstError_45 : decode cX3_worstError 45 = .ok (.lcmp, 1) := by decide +kernel
theorem dX3_worstError_46 : decode cX3_worstError 46 = .ok (.ifCond .ge 9, 3) := by decide +kernel
theorem dX3_worstError_49 : decode cX3_worstError 49 = .ok (.lload 4, 2) := by decide +kernel
theorem dX3_worstError_51 : decode cX3_worstError 51 = .ok (.lneg, 1) := by decide +kernel
theorem dX3_worstError_52 : decode cX3_worstError 52 = .ok (.goto 5, 3) := by decide +kernel
theorem dX3_worstError_55 : decode cX3_worstError 55 = .ok (.lload 4, 2) := by decide +kernel
theorem dX3_worstError_57 : decode cX3_worstError 57 = .ok (.lstore 4, 2) := by decide +kernel
theorem dX3_worstError_59 : decode cX3_worstError 59 = .ok (.lload 4, 2) := by decide +kernel
theorem dX3_worstError_61 : decode cX3_worstError 61 = .ok (.lload_n 1, 1) := by decide +kernel
theorem dX3_worstError_62 : decode cX3_worstError 62 = .ok (.lcmp, 1) := by decide +kernel
theorem dX3_worstError_63 : decode cX3_worstError 63 = .ok (.ifCond .le 8, 3) := by decide +kernel
theorem dX3_worstError_66 : decode cX3_worstError 66 = .ok (.lload 4, 2) := by decide +kernel
theorem dX3_worstError_68 : decode cX3_worstError 68 = .ok (.goto 4, 3) := by decide +kernel
theorem dX3_worstError_71 : decode cX3_worstError 71 = .ok (.lload_n 1, 1) := by decide +kernel
theorem dX3_worstError_72 : decode cX3_worstError 72 = .ok (.lstore_n 1, 1) := by decide +kernel
theorem dX3_worstError_73 : decode cX3_worstError 73 = .ok (.iinc 3 1, 3) := by decide +kernel
theorem dX3_worstError_76 : decode cX3_worstError 76 = .ok (.goto (-67), 3) := by decide +kernel
theorem dX3_worstError_79 : decode cX3_worstError 79 = .ok (.lload_n 1, 1) := by decide +kernel
theorem dX3_worstError_80 : decode cX3_worstError 80 = .ok (.l2i, 1) := by decide +kernel
theorem dX3_worstError_81 : decode cX3_worstError 81 = .ok (.ireturn, 1) := by decide +kernel
theorem dX3_pieces_0 : decode cX3_pieces 0 = .ok (.aload_n 0, 1) := by decide +kernel
theorem dX3_pieces_1 : decode cX3_pieces 1 = .ok (.iconst 0, 1) := by decide +kernel
theorem dX3_pieces_2 : decode cX3_pieces 2 = .ok (.putfield 36, 3) := by decide +kernel
theorem dX3_pieces_5 : decode cX3_pieces 5 = .ok (.aload_n 0, 1) := by decide +kernel
theorem dX3_pieces_6 : decode cX3_pieces 6 = .ok (.getfield 48, 3) := by decide +kernel
theorem dX3_pieces_9 : decode cX3_pieces 9 = .ok (.ireturn, 1) := by decide +kernel
theorem dX3_asks_0 : decode cX3_asks 0 = .ok (.aload_n 0, 1) := by decide +kernel
theorem dX3_asks_1 : decode cX3_asks 1 = .ok (.iload_n 1, 1) := by decide +kernel
theorem dX3_asks_2 : decode cX3_asks 2 = .ok (.ifCond .lt 15, 3) := by decide +kernel
theorem dX3_asks_5 : decode cX3_asks 5 = .ok (.iload_n 1, 1) := by decide +kernel
theorem dX3_asks_6 : decode cX3_asks 6 = .ok (.aload_n 0, 1) := by decide +kernel
theorem dX3_asks_7 : decode cX3_asks 7 = .ok (.getfield 48, 3) := by decide +kernel
theorem dX3_asks_10 : decode cX3_asks 10 = .ok (.if_icmp .ge 7, 3) := by decide +kernel
theorem dX3_asks_13 : decode cX3_asks 13 = .ok (.iconst 0, 1) := by decide +kernel
theorem dX3_asks_14 : decode cX3_asks 14 = .ok (.goto 4, 3) := by decide +kernel
theorem dX3_asks_17 : decode cX3_asks 17 = .ok (.iconst 1, 1) := by decide +kernel
theorem dX3_asks_18 : decode cX3_asks 18 = .ok (.putfield 36, 3) := by decide +kernel
theorem dX3_asks_21 : decode cX3_asks 21 = .ok (.aload_n 0, 1) := by decide +kernel
theorem dX3_asks_22 : decode cX3_asks 22 = .ok (.getfield 36, 3) := by decide +kernel
theorem dX3_asks_25 : decode cX3_asks 25 = .ok (.ifCond .ne 7, 3) := by decide +kernel
theorem dX3_asks_28 : decode cX3_asks 28 = .ok (.iconst 1, 1) := by decide +kernel
theorem dX3_asks_29 : decode cX3_asks 29 = .ok (.goto 4, 3) := by decide +kernel
theorem dX3_asks_32 : decode cX3_asks 32 = .ok (.iconst 0, 1) := by decide +kernel
theorem dX3_asks_33 : decode cX3_asks 33 = .ok (.ireturn, 1) := by decide +kernel
set_option maxRecDepth 20000 in
theorem ggX3_start_X3_asks : GoodIn wsX3_start wsX3_asks := goodIn_r _ [6, 7, 8, 9, 10, 11, 12, 13, 14, 15, 16, 17, 18, 19, 20, 21, 22, 23, 24, 25, 26] (by decide +kernel) (by decide +kernel)
set_option maxRecDepth 20000 in
theorem gX3_start_X3_asks : GoodIn wsX3_start (wsV RX3 153 RX3 yX3_asks wsX3_asks) := goodIn_app (goodIn_of _ (by decide +kernel)) ggX3_start_X3_asks
theorem dX3_start_0 : decode cX3_start 0 = .ok (.aload_n 0, 1) := by decide +kernel
theorem dX3_start_1 : decode cX3_start 1 = .ok (.iload_n 1, 1) := by decide +kernel
theorem dX3_start_2 : decode cX3_start 2 = .ok (.invokevirtual 153, 3) := by decide +kernel
theorem dX3_start_5 : decode cX3_start 5 = .ok (.ifCond .eq 12, 3) := by decide +kernel
theorem dX3_start_8 : decode cX3_start 8 = .ok (.aload_n 0, 1) := by decide +kernel
theorem dX3_start_9 : decode cX3_start 9 = .ok (.getfield 24, 3) := by decide +kernel
theorem dX3_start_12 : decode cX3_start 12 = .ok (.iload_n 1, 1) := by decide +kernel
theorem dX3_start_13 : decode cX3_start 13 = .ok (.iaload, 1) := by decide +kernel
theorem dX3_start_14 : decode cX3_start 14 = .ok (.goto 4, 3) := by decide +kernel
theorem dX3_start_17 : decode cX3_start 17 = .ok (.iconst 0, 1) := by decide +kernel
theorem dX3_start_18 : decode cX3_start 18 = .ok (.ireturn, 1) := by decide +kernel
set_option maxRecDepth 20000 in
theorem ggX3_firstKey_X3_asks : GoodIn wsX3_firstKey wsX3_asks := goodIn_r _ [7, 8, 9, 10, 11, 12, 13, 14, 15, 16, 17, 18, 19, 20, 21, 22, 23, 24, 25, 26, 27] (by decide +kernel) (by decide +kernel)
set_option maxRecDepth 20000 in
theorem gX3_firstKey_X3_asks : GoodIn wsX3_firstKey (wsV RX3 153 RX3 yX3_asks wsX3_asks) := goodIn_app (goodIn_of _ (by decide +kernel)) ggX3_firstKey_X3_asks
theorem dX3_firstKey_0 : decode cX3_firstKey 0 = .ok (.aload_n 0, 1) := by decide +kernel
theorem dX3_firstKey_1 : decode cX3_firstKey 1 = .ok (.iload_n 1, 1) := by decide +kernel
theorem dX3_firstKey_2 : decode cX3_firstKey 2 = .ok (.invokevirtual 153, 3) := by decide +kernel
theorem dX3_firstKey_5 : decode cX3_firstKey 5 = .ok (.ifCond .eq 17, 3) := by decide +kernel
theorem dX3_firstKey_8 : decode cX3_firstKey 8 = .ok (.aload_n 0, 1) := by decide +kernel
theorem dX3_firstKey_9 : decode cX3_firstKey 9 = .ok (.getfield 16, 3) := by decide +kernel
theorem dX3_firstKey_12 : decode cX3_firstKey 12 = .ok (.aload_n 0, 1) := by decide +kernel
theorem dX3_firstKey_13 : decode cX3_firstKey 13 = .ok (.getfield 24, 3) := by decide +kernel
theorem dX3_firstKey_16 : decode cX3_firstKey 16 = .ok (.iload_n 1, 1) := by decide +kernel
theorem dX3_firstKey_17 : decode cX3_firstKey 17 = .ok (.iaload, 1) := by decide +kernel
theorem dX3_firstKey_18 : decode cX3_firstKey 18 = .ok (.iaload, 1) := by decide +kernel
theorem dX3_firstKey_19 : decode cX3_firstKey 19 = .ok (.goto 4, 3) := by decide +kernel
theorem dX3_firstKey_22 : decode cX3_firstKey 22 = .ok (.iconst 0, 1) := by decide +kernel
theorem dX3_firstKey_23 : decode cX3_firstKey 23 = .ok (.ireturn, 1) := by decide +kernel
set_option maxRecDepth 20000 in
theorem ggX3_riseOf_X3_lays : GoodIn wsX3_riseOf wsX3_lays := goodIn_r _ [6, 7, 8, 1, 9, 10, 11, 12, 5, 13, 14, 15, 16, 17, 18, 19, 20, 21, 22, 23, 24, 25, 26, 27, 28, 29, 30, 31, 32, 33, 34, 35, 36, 37, 38, 39, 40, 41] (by decide +kernel) (by decide +kernel)
set_option maxRecDepth 20000 in
theorem gX3_riseOf_X3_lays : GoodIn wsX3_riseOf (wsV RX3 142 RX3 yX3_lays wsX3_lays) := goodIn_app (goodIn_of _ (by decide +kernel)) ggX3_riseOf_X3_lays
theorem dX3_riseOf_0 : decode cX3_riseOf 0 = .ok (.aload_n 0, 1) := by decide +kernel
theorem dX3_riseOf_1 : decode cX3_riseOf 1 = .ok (.iload_n 1, 1) := by decide +kernel
theorem dX3_riseOf_2 : decode cX3_riseOf 2 = .ok (.invokevirtual 142, 3) := by decide +kernel
theorem dX3_riseOf_5 : decode cX3_riseOf 5 = .ok (.aload_n 0, 1) := by decide +kernel
theorem dX3_riseOf_6 : decode cX3_riseOf 6 = .ok (.getfield 41, 3) := by decide +kernel
theorem dX3_riseOf_9 : decode cX3_riseOf 9 = .ok (.l2i, 1) := by decide +kernel
theorem dX3_riseOf_10 : decode cX3_riseOf 10 = .ok (.ireturn, 1) := by decide +kernel
set_option maxRecDepth 20000 in
theorem ggX3_runOf_X3_lays : GoodIn wsX3_runOf wsX3_lays := goodIn_r _ [6, 7, 8, 9, 1, 10, 11, 12, 5, 13, 14, 15, 16, 17, 18, 19, 20, 21, 22, 23, 24, 25, 26, 27, 28, 29, 30, 31, 32, 33, 34, 35, 36, 37, 38, 39, 40, 41] (by decide +kernel) (by decide +kernel)
set_option maxRecDepth 20000 in
theorem gX3_runOf_X3_lays : GoodIn wsX3_runOf (wsV RX3 142 RX3 yX3_lays wsX3_lays) := goodIn_app (goodIn_of _ (by decide +kernel)) ggX3_runOf_X3_lays
theorem dX3_runOf_0 : decode cX3_runOf 0 = .ok (.aload_n 0, 1) := by decide +kernel
theorem dX3_runOf_1 : decode cX3_runOf 1 = .ok (.iload_n 1, 1) := by decide +kernel
theorem dX3_runOf_2 : decode cX3_runOf 2 = .ok (.invokevirtual 142, 3) := by decide +kernel
theorem dX3_runOf_5 : decode cX3_runOf 5 = .ok (.aload_n 0, 1) := by decide +kernel
theorem dX3_runOf_6 : decode cX3_runOf 6 = .ok (.getfield 45, 3) := by decide +kernel
theorem dX3_runOf_9 : decode cX3_runOf 9 = .ok (.l2i, 1) := by decide +kernel
theorem dX3_runOf_10 : decode cX3_runOf 10 = .ok (.ireturn, 1) := by decide +kernel
set_option maxRecDepth 20000 in
theorem ggX3_rise_X3_asks : GoodIn wsX3_rise wsX3_asks := goodIn_r _ [5, 6, 7, 33, 34, 35, 36, 37, 38, 39, 40, 41, 42, 43, 44, 45, 46, 47, 48, 49, 50] (by decide +kernel) (by decide +kernel)
set_option maxRecDepth 20000 in
theorem gX3_rise_X3_asks : GoodIn wsX3_rise (wsV RX3 153 RX3 yX3_asks wsX3_asks) := goodIn_app (goodIn_of _ (by decide +kernel)) ggX3_rise_X3_asks
set_option maxRecDepth 20000 in
theorem ggX3_rise_X3_riseOf : GoodIn wsX3_rise wsX3_riseOf := goodIn_r _ [11, 12, 13, 14, 15, 4, 16, 17, 18, 19, 20, 21, 22, 23, 6, 24, 25, 26, 27, 28, 29, 30, 31, 32, 33, 34, 35, 36, 37, 38, 39, 40, 41, 42, 43, 44, 45, 46, 47, 48, 49, 50] (by decide +kernel) (by decide +kernel)
set_option maxRecDepth 20000 in
theorem gX3_rise_X3_riseOf : GoodIn wsX3_rise (wsV RX3 156 RX3 yX3_riseOf wsX3_riseOf) := goodIn_app (goodIn_of _ (by decide +kernel)) ggX3_rise_X3_riseOf
theorem dX3_rise_0 : decode cX3_rise 0 = .ok (.aload_n 0, 1) := by decide +kernel
theorem dX3_rise_1 : decode cX3_rise 1 = .ok (.iload_n 1, 1) := by decide +kernel
theorem dX3_rise_2 : decode cX3_rise 2 = .ok (.invokevirtual 153, 3) := by decide +kernel
theorem dX3_rise_5 : decode cX3_rise 5 = .ok (.ifCond .eq 11, 3) := by decide +kernel
theorem dX3_rise_8 : decode cX3_rise 8 = .ok (.aload_n 0, 1) := by decide +kernel
theorem dX3_rise_9 : decode cX3_rise 9 = .ok (.iload_n 1, 1) := by decide +kernel
theorem dX3_rise_10 : decode cX3_rise 10 = .ok (.invokevirtual 156, 3) := by decide +kernel
theorem dX3_rise_13 : decode cX3_rise 13 = .ok (.goto 4, 3) := by decide +kernel
theorem dX3_rise_16 : decode cX3_rise 16 = .ok (.iconst 0, 1) := by decide +kernel
theorem dX3_rise_17 : decode cX3_rise 17 = .ok (.ireturn, 1) := by decide +kernel
set_option maxRecDepth 20000 in
theorem ggX3_run_X3_asks : GoodIn wsX3_run wsX3_asks := goodIn_r _ [5, 6, 7, 33, 34, 35, 36, 37, 38, 39, 40, 41, 42, 43, 44, 45, 46, 47, 48, 49, 50] (by decide +kernel) (by decide +kernel)
set_option maxRecDepth 20000 in
theorem gX3_run_X3_asks : GoodIn wsX3_run (wsV RX3 153 RX3 yX3_asks wsX3_asks) := goodIn_app (goodIn_of _ (by decide +kernel)) ggX3_run_X3_asks
set_option maxRecDepth 20000 in
theorem ggX3_run_X3_runOf : GoodIn wsX3_run wsX3_runOf := goodIn_r _ [11, 12, 13, 14, 15, 4, 16, 17, 18, 19, 20, 21, 22, 23, 6, 24, 25, 26, 27, 28, 29, 30, 31, 32, 33, 34, 35, 36, 37, 38, 39, 40, 41, 42, 43, 44, 45, 46, 47, 48, 49, 50] (by decide +kernel) (by decide +kernel)
set_option maxRecDepth 20000 in
theorem gX3_run_X3_runOf : GoodIn wsX3_run (wsV RX3 159 RX3 yX3_runOf wsX3_runOf) := goodIn_app (goodIn_of _ (by decide +kernel)) ggX3_run_X3_runOf
theorem dX3_run_0 : decode cX3_run 0 = .ok (.aload_n 0, 1) := by decide +kernel
theorem dX3_run_1 : decode cX3_run 1 = .ok (.iload_n 1, 1) := by decide +kernel
theorem dX3_run_2 : decode cX3_run 2 = .ok (.invokevirtual 153, 3) := by decide +kernel
theorem dX3_run_5 : decode cX3_run 5 = .ok (.ifCond .eq 11, 3) := by decide +kernel
theorem dX3_run_8 : decode cX3_run 8 = .ok (.aload_n 0, 1) := by decide +kernel
theorem dX3_run_9 : decode cX3_run 9 = .ok (.iload_n 1, 1) := by decide +kernel
theorem dX3_run_10 : decode cX3_run 10 = .ok (.invokevirtual 159, 3) := by decide +kernel
theorem dX3_run_13 : decode cX3_run 13 = .ok (.goto 4, 3) := by decide +kernel
theorem dX3_run_16 : decode cX3_run 16 = .ok (.iconst 0, 1) := by decide +kernel
theorem dX3_run_17 : decode cX3_run 17 = .ok (.ireturn, 1) := by decide +kernel
set_option maxRecDepth 20000 in
theorem ggX3_alike_X3_riseOf : GoodIn wsX3_alike wsX3_riseOf := goodIn_r _ [6, 7, 8, 9, 10, 5, 11, 12, 13, 14, 15, 16, 17, 18, 1, 19, 20, 21, 22, 23, 24, 25, 26, 27, 32, 33, 34, 35, 36, 37, 38, 39, 40, 41, 42, 43, 44, 45, 46, 47, 48, 49] (by decide +kernel) (by decide +kernel)
set_option maxRecDepth 20000 in
theorem gX3_alike_X3_riseOf : GoodIn wsX3_alike (wsV RX3 156 RX3 yX3_riseOf wsX3_riseOf) := goodIn_app (goodIn_of _ (by decide +kernel)) ggX3_alike_X3_riseOf
set_option maxRecDepth 20000 in
theorem ggX3_alike_X3_runOf : GoodIn wsX3_alike wsX3_runOf := goodIn_r _ [31, 14, 8, 9, 10, 5, 11, 12, 13, 7, 15, 16, 17, 18, 1, 19, 20, 21, 22, 23, 24, 25, 26, 27, 32, 33, 34, 35, 36, 37, 38, 39, 40, 41, 42, 43, 44, 45, 46, 47, 48, 49] (by decide +kernel) (by decide +kernel)
set_option maxRecDepth 20000 in
theorem gX3_alike_X3_runOf : GoodIn wsX3_alike (wsV RX3 159 RX3 yX3_runOf wsX3_runOf) := goodIn_app (goodIn_of _ (by decide +kernel)) ggX3_alike_X3_runOf
theorem dX3_alike_0 : decode cX3_alike 0 = .ok (.iconst 0, 1) := by decide +kernel
theorem dX3_alike_1 : decode cX3_alike 1 = .ok (.istore_n 3, 1) := by decide +kernel
theorem dX3_alike_2 : decode cX3_alike 2 = .ok (.aload_n 0, 1) := by decide +kernel
theorem dX3_alike_3 : decode cX3_alike 3 = .ok (.iload_n 1, 1) := by decide +kernel
theorem dX3_alike_4 : decode cX3_alike 4 = .ok (.invokevirtual 156, 3) := by decide +kernel
theorem dX3_alike_7 : decode cX3_alike 7 = .ok (.istore 4, 2) := by decide +kernel
theorem dX3_alike_9 : decode cX3_alike 9 = .ok (.aload_n 0, 1) := by decide +kernel
theorem dX3_alike_10 : decode cX3_alike 10 = .ok (.iload_n 1, 1) := by decide +kernel
theorem dX3_alike_11 : decode cX3_alike 11 = .ok (.invokevirtual 159, 3) := by decide +kernel
theorem dX3_alike_14 : decode cX3_alike 14 = .ok (.istore 5, 2) := by decide +kernel
theorem dX3_alike_16 : decode cX3_alike 16 = .ok (.iload_n 2, 1) := by decide +kernel
theorem dX3_alike_17 : decode cX3_alike 17 = .ok (.istore 6, 2) := by decide +kernel
theorem dX3_alike_19 : decode cX3_alike 19 = .ok (.iload 6, 2) := by decide +kernel
theorem dX3_alike_21 : decode cX3_alike 21 = .ok (.aload_n 0, 1) := by decide +kernel
theorem dX3_alike_22 : decode cX3_alike 22 = .ok (.getfield 48, 3) := by decide +kernel
theorem dX3_alike_25 : decode cX3_alike 25 = .ok (.if_icmp .ge 39, 3) := by decide +kernel
theorem dX3_alike_28 : decode cX3_alike 28 = .ok (.iload_n 3, 1) := by decide +kernel
theorem dX3_alike_29 : decode cX3_alike 29 = .ok (.aload_n 0, 1) := by decide +kernel
theorem dX3_alike_30 : decode cX3_alike 30 = .ok (.iload 6, 2) := by decide +kernel
theorem dX3_alike_32 : decode cX3_alike 32 = .ok (.invokevirtual 156, 3) := by decide +kernel
theorem dX3_alike_35 : decode cX3_alike 35 = .ok (.iload 4, 2) := by decide +kernel
theorem dX3_alike_37 : decode cX3_alike 37 = .ok (.if_icmp .ne 18, 3) := by decide +kernel
theorem dX3_alike_40 : decode cX3_alike 40 = .ok (.aload_n 0, 1) := by decide +kernel
theorem dX3_alike_41 : decode cX3_alike 41 = .ok (.iload 6, 2) := by decide +kernel
theorem dX3_alike_43 : decode cX3_alike 43 = .ok (.invokevirtual 159, 3) := by decide +kernel
theorem dX3_alike_46 : decode cX3_alike 46 = .ok (.iload 5, 2) := by decide +kernel
theorem dX3_alike_48 : decode cX3_alike 48 = .ok (.if_icmp .ne 7, 3) := by decide +kernel
theorem dX3_alike_51 : decode cX3_alike 51 = .ok (.iconst 1, 1) := by decide +kernel
theorem dX3_alike_52 : decode cX3_alike 52 = .ok (.goto 4, 3) := by decide +kernel
theorem dX3_alike_55 : decode cX3_alike 55 = .ok (.iconst 0, 1) := by decide +kernel
theorem dX3_alike_56 : decode cX3_alike 56 = .ok (.iadd, 1) := by decide +kernel
theorem dX3_alike_57 : decode cX3_alike 57 = .ok (.istore_n 3, 1) := by decide +kernel
theorem dX3_alike_58 : decode cX3_alike 58 = .ok (.iinc 6 1, 3) := by decide +kernel
theorem dX3_alike_61 : decode cX3_alike 61 = .ok (.goto (-42), 3) := by decide +kernel
theorem dX3_alike_64 : decode cX3_alike 64 = .ok (.iload_n 3, 1) := by decide +kernel
theorem dX3_alike_65 : decode cX3_alike 65 = .ok (.ireturn, 1) := by decide +kernel
set_option maxRecDepth 20000 in
theorem ggX3_slopes_X3_alike : GoodIn wsX3_slopes wsX3_alike := goodIn_r _ [7, 2, 8, 9, 10, 6, 11, 12, 13, 14, 15, 16, 17, 18, 19, 20, 21, 22, 23, 24, 25, 26, 27, 28, 29, 30, 31, 32, 33, 34, 35, 36, 37, 38, 39, 40, 41, 42, 43, 44, 45, 46, 47, 48, 49, 50, 51, 52, 53, 54] (by decide +kernel) (by decide +kernel)
set_option maxRecDepth 20000 in
theorem gX3_slopes_X3_alike : GoodIn wsX3_slopes (wsV RX3 162 RX3 yX3_alike wsX3_alike) := goodIn_app (goodIn_of _ (by decide +kernel)) ggX3_slopes_X3_alike
theorem dX3_slopes_0 : decode cX3_slopes 0 = .ok (.aload_n 0, 1) := by decide +kernel
theorem dX3_slopes_1 : decode cX3_slopes 1 = .ok (.iconst 0, 1) := by decide +kernel
theorem dX3_slopes_2 : decode cX3_slopes 2 = .ok (.putfield 36, 3) := by decide +kernel
theorem dX3_slopes_5 : decode cX3_slopes 5 = .ok (.iconst 0, 1) := by decide +kernel
theorem dX3_slopes_6 : decode cX3_slopes 6 = .ok (.istore_n 1, 1) := by decide +kernel
theorem dX3_slopes_7 : decode cX3_slopes 7 = .ok (.iconst 0, 1) := by decide +kernel
theorem dX3_slopes_8 : decode cX3_slopes 8 = .ok (.istore_n 2, 1) := by decide +kernel
theorem dX3_slopes_9 : decode cX3_slopes 9 = .ok (.iload_n 2, 1) := by decide +kernel
theorem dX3_slopes_10 : decode cX3_slopes 10 = .ok (.aload_n 0, 1) := by decide +kernel
theorem dX3_slopes_11 : decode cX3_slopes 11 = .ok (.getfield 48, 3) := by decide +kernel
theorem dX3_slopes_14 : decode cX3_slopes 14 = .ok (.if_icmp .ge 27, 3) := by decide +kernel
theorem dX3_slopes_17 : decode cX3_slopes 17 = .ok (.iload_n 1, 1) := by decide +kernel
theorem dX3_slopes_18 : decode cX3_slopes 18 = .ok (.aload_n 0, 1) := by decide +kernel
theorem dX3_slopes_19 : decode cX3_slopes 19 = .ok (.iload_n 2, 1) := by decide +kernel
theorem dX3_slopes_20 : decode cX3_slopes 20 = .ok (.iload_n 2, 1) := by decide +kernel
theorem dX3_slopes_21 : decode cX3_slopes 21 = .ok (.invokevirtual 162, 3) := by decide +kernel
theorem dX3_slopes_24 : decode cX3_slopes 24 = .ok (.iconst 1, 1) := by decide +kernel
theorem dX3_slopes_25 : decode cX3_slopes 25 = .ok (.if_icmp .ne 7, 3) := by decide +kernel
theorem dX3_slopes_28 : decode cX3_slopes 28 = .ok (.iconst 1, 1) := by decide +kernel
theorem dX3_slopes_29 : decode cX3_slopes 29 = .ok (.goto 4, 3) := by decide +kernel
theorem dX3_slopes_32 : decode cX3_slopes 32 = .ok (.iconst 0, 1) := by decide +kernel
theorem dX3_slopes_33 : decode cX3_slopes 33 = .ok (.iadd, 1) := by decide +kernel
theorem dX3_slopes_34 : decode cX3_slopes 34 = .ok (.istore_n 1, 1) := by decide +kernel
theorem dX3_slopes_35 : decode cX3_slopes 35 = .ok (.iinc 2 1, 3) := by decide +kernel
theorem dX3_slopes_38 : decode cX3_slopes 38 = .ok (.goto (-29), 3) := by decide +kernel
theorem dX3_slopes_41 : decode cX3_slopes 41 = .ok (.iload_n 1, 1) := by decide +kernel
theorem dX3_slopes_42 : decode cX3_slopes 42 = .ok (.ireturn, 1) := by decide +kernel
set_option maxRecDepth 20000 in
theorem ggX3_commonest_X3_alike : GoodIn wsX3_commonest wsX3_alike := goodIn_r _ [7, 2, 8, 9, 10, 6, 11, 12, 13, 14, 15, 16, 17, 18, 19, 20, 21, 22, 23, 24, 25, 26, 27, 28, 29, 30, 31, 32, 33, 34, 35, 36, 37, 38, 39, 40, 41, 42, 43, 44, 45, 46, 47, 48, 49, 50, 51, 52, 53, 54] (by decide +kernel) (by decide +kernel)
set_option maxRecDepth 20000 in
theorem gX3_commonest_X3_alike : GoodIn wsX3_commonest (wsV RX3 162 RX3 yX3_alike wsX3_alike) := goodIn_app (goodIn_of _ (by decide +kernel)) ggX3_commonest_X3_alike
theorem dX3_commonest_0 : decode cX3_commonest 0 = .ok (.aload_n 0, 1) := by decide +kernel
theorem dX3_commonest_1 : decode cX3_commonest 1 = .ok (.iconst 0, 1) := by decide +kernel
theorem dX3_commonest_2 : decode cX3_commonest 2 = .ok (.putfield 36, 3) := by decide +kernel
theorem dX3_commonest_5 : decode cX3_commonest 5 = .ok (.iconst (-1), 1) := by decide +kernel
theorem dX3_commonest_6 : decode cX3_commonest 6 = .ok (.istore_n 1, 1) := by decide +kernel
theorem dX3_commonest_7 : decode cX3_commonest 7 = .ok (.iconst 0, 1) := by decide +kernel
theorem dX3_commonest_8 : decode cX3_commonest 8 = .ok (.istore_n 2, 1) := by decide +kernel
theorem dX3_commonest_9 : decode cX3_commonest 9 = .ok (.iconst 0, 1) := by decide +kernel
theorem dX3_commonest_10 : decode cX3_commonest 10 = .ok (.istore_n 3, 1) := by decide +kernel
theorem dX3_commonest_11 : decode cX3_commonest 11 = .ok (.iload_n 3, 1) := by decide +kernel
theorem dX3_commonest_12 : decode cX3_commonest 12 = .ok (.aload_n 0, 1) := by decide +kernel
theorem dX3_commonest_13 : decode cX3_commonest 13 = .ok (.getfield 48, 3) := by decide +kernel
theorem dX3_commonest_16 : decode cX3_commonest 16 = .ok (.if_icmp .ge 42, 3) := by decide +kernel
theorem dX3_commonest_19 : decode cX3_commonest 19 = .ok (.aload_n 0, 1) := by decide +kernel
theorem dX3_commonest_20 : decode cX3_commonest 20 = .ok (.iload_n 3, 1) := by decide +kernel
theorem dX3_commonest_21 : decode cX3_commonest 21 = .ok (.iconst 0, 1) := by decide +kernel
theorem dX3_commonest_22 : decode cX3_commonest 22 = .ok (.invokevirtual 162, 3) := by decide +kernel
theorem dX3_commonest_25 : decode cX3_commonest 25 = .ok (.istore 4, 2) := by decide +kernel
theorem dX3_commonest_27 : decode cX3_commonest 27 = .ok (.iload 4, 2) := by decide +kernel
theorem dX3_commonest_29 : decode cX3_commonest 29 = .ok (.iload_n 2, 1) := by decide +kernel
theorem dX3_commonest_30 : decode cX3_commonest 30 = .ok (.if_icmp .le 7, 3) := by decide +kernel
theorem dX3_commonest_33 : decode cX3_commonest 33 = .ok (.iload_n 3, 1) := by decide +kernel
theorem dX3_commonest_34 : decode cX3_commonest 34 = .ok (.goto 4, 3) := by decide +kernel
theorem dX3_commonest_37 : decode cX3_commonest 37 = .ok (.iload_n 1, 1) := by decide +kernel
theorem dX3_commonest_38 : decode cX3_commonest 38 = .ok (.istore_n 1, 1) := by decide +kernel
theorem dX3_commonest_39 : decode cX3_commonest 39 = .ok (.iload 4, 2) := by decide +kernel
theorem dX3_commonest_41 : decode cX3_commonest 41 = .ok (.iload_n 2, 1) := by decide +kernel
theorem dX3_commonest_42 : decode cX3_commonest 42 = .ok (.if_icmp .le 8, 3) := by decide +kernel
theorem dX3_commonest_45 : decode cX3_commonest 45 = .ok (.iload 4, 2) := by decide +kernel
theorem dX3_commonest_47 : decode cX3_commonest 47 = .ok (.goto 4, 3) := by decide +kernel
theorem dX3_commonest_50 : decode cX3_commonest 50 = .ok (.iload_n 2, 1) := by decide +kernel
theorem dX3_commonest_51 : decode cX3_commonest 51 = .ok (.istore_n 2, 1) := by decide +kernel
theorem dX3_commonest_52 : decode cX3_commonest 52 = .ok (.iinc 3 1, 3) := by decide +kernel
theorem dX3_commonest_55 : decode cX3_commonest 55 = .ok (.goto (-44), 3) := by decide +kernel
theorem dX3_commonest_58 : decode cX3_commonest 58 = .ok (.iload_n 1, 1) := by decide +kernel
theorem dX3_commonest_59 : decode cX3_commonest 59 = .ok (.ireturn, 1) := by decide +kernel
theorem dX3_buffered_0 : decode cX3_buffered 0 = .ok (.aload_n 0, 1) := by decide +kernel
theorem dX3_buffered_1 : decode cX3_buffered 1 = .ok (.iconst 0, 1) := by decide +kernel
theorem dX3_buffered_2 : decode cX3_buffered 2 = .ok (.putfield 36, 3) := by decide +kernel
theorem dX3_buffered_5 : decode cX3_buffered 5 = .ok (.aload_n 0, 1) := by decide +kernel
theorem dX3_buffered_6 : decode cX3_buffered 6 = .ok (.getfield 69, 3) := by decide +kernel
theorem dX3_buffered_9 : decode cX3_buffered 9 = .ok (.ireturn, 1) := by decide +kernel
theorem dX3_marked_0 : decode cX3_marked 0 = .ok (.aload_n 0, 1) := by decide +kernel
theorem dX3_marked_1 : decode cX3_marked 1 = .ok (.iconst 0, 1) := by decide +kernel
theorem dX3_marked_2 : decode cX3_marked 2 = .ok (.putfield 36, 3) := by decide +kernel
theorem dX3_marked_5 : decode cX3_marked 5 = .ok (.iconst 0, 1) := by decide +kernel
theorem dX3_marked_6 : decode cX3_marked 6 = .ok (.istore_n 1, 1) := by decide +kernel
theorem dX3_marked_7 : decode cX3_marked 7 = .ok (.iconst 0, 1) := by decide +kernel
theorem dX3_marked_8 : decode cX3_marked 8 = .ok (.istore_n 2, 1) := by decide +kernel
theorem dX3_marked_9 : decode cX3_marked 9 = .ok (.iload_n 2, 1) := by decide +kernel
theorem dX3_marked_10 : decode cX3_marked 10 = .ok (.aload_n 0, 1) := by decide +kernel
theorem dX3_marked_11 : decode cX3_marked 11 = .ok (.getfield 51, 3) := by decide +kernel
theorem dX3_marked_14 : decode cX3_marked 14 = .ok (.if_icmp .ge 26, 3) := by decide +kernel
theorem dX3_marked_17 : decode cX3_marked 17 = .ok (.iload_n 1, 1) := by decide +kernel
theorem dX3_marked_18 : decode cX3_marked 18 = .ok (.aload_n 0, 1) := by decide +kernel
theorem dX3_marked_19 : decode cX3_marked 19 = .ok (.getfield 20, 3) := by decide +kernel
theorem dX3_marked_22 : decode cX3_marked 22 = .ok (.iload_n 2, 1) := by decide +kernel
theorem dX3_marked_23 : decode cX3_marked 23 = .ok (.baload, 1) := by decide +kernel
theorem dX3_marked_24 : decode cX3_marked 24 = .ok (.ifCond .eq 7, 3) := by decide +kernel
theorem dX3_marked_27 : decode cX3_marked 27 = .ok (.iconst 1, 1) := by decide +kernel
theorem dX3_marked_28 : decode cX3_marked 28 = .ok (.goto 4, 3) := by decide +kernel
theorem dX3_marked_31 : decode cX3_marked 31 = .ok (.iconst 0, 1) := by decide +kernel
theorem dX3_marked_32 : decode cX3_marked 32 = .ok (.iadd, 1) := by decide +kernel
theorem dX3_marked_33 : decode cX3_marked 33 = .ok (.istore_n 1, 1) := by decide +kernel
theorem dX3_marked_34 : decode cX3_marked 34 = .ok (.iinc 2 1, 3) := by decide +kernel
theorem dX3_marked_37 : decode cX3_marked 37 = .ok (.goto (-28), 3) := by decide +kernel
theorem dX3_marked_40 : decode cX3_marked 40 = .ok (.iload_n 1, 1) := by decide +kernel
theorem dX3_marked_41 : decode cX3_marked 41 = .ok (.ireturn, 1) := by decide +kernel
theorem dX3_rowSize_0 : decode cX3_rowSize 0 = .ok (.aload_n 0, 1) := by decide +kernel
theorem dX3_rowSize_1 : decode cX3_rowSize 1 = .ok (.iconst 0, 1) := by decide +kernel
theorem dX3_rowSize_2 : decode cX3_rowSize 2 = .ok (.putfield 36, 3) := by decide +kernel
theorem dX3_rowSize_5 : decode cX3_rowSize 5 = .ok (.aload_n 0, 1) := by decide +kernel
theorem dX3_rowSize_6 : decode cX3_rowSize 6 = .ok (.getfield 51, 3) := by decide +kernel
theorem dX3_rowSize_9 : decode cX3_rowSize 9 = .ok (.ireturn, 1) := by decide +kernel
theorem dX3_merges_0 : decode cX3_merges 0 = .ok (.aload_n 0, 1) := by decide +kernel
theorem dX3_merges_1 : decode cX3_merges 1 = .ok (.iconst 0, 1) := by decide +kernel
theorem dX3_merges_2 : decode cX3_merges 2 = .ok (.putfield 36, 3) := by decide +kernel
theorem dX3_merges_5 : decode cX3_merges 5 = .ok (.aload_n 0, 1) := by decide +kernel
theorem dX3_merges_6 : decode cX3_merges 6 = .ok (.getfield 130, 3) := by decide +kernel
theorem dX3_merges_9 : decode cX3_merges 9 = .ok (.ireturn, 1) := by decide +kernel
theorem dX3_splits_0 : decode cX3_splits 0 = .ok (.aload_n 0, 1) := by decide +kernel
theorem dX3_splits_1 : decode cX3_splits 1 = .ok (.iconst 0, 1) := by decide +kernel
theorem dX3_splits_2 : decode cX3_splits 2 = .ok (.putfield 36, 3) := by decide +kernel
theorem dX3_splits_5 : decode cX3_splits 5 = .ok (.aload_n 0, 1) := by decide +kernel
theorem dX3_splits_6 : decode cX3_splits 6 = .ok (.getfield 121, 3) := by decide +kernel
theorem dX3_splits_9 : decode cX3_splits 9 = .ok (.ireturn, 1) := by decide +kernel
theorem dX3_joins_0 : decode cX3_joins 0 = .ok (.aload_n 0, 1) := by decide +kernel
theorem dX3_joins_1 : decode cX3_joins 1 = .ok (.iconst 0, 1) := by decide +kernel
theorem dX3_joins_2 : decode cX3_joins 2 = .ok (.putfield 36, 3) := by decide +kernel
theorem dX3_joins_5 : decode cX3_joins 5 = .ok (.aload_n 0, 1) := by decide +kernel
theorem dX3_joins_6 : decode cX3_joins 6 = .ok (.getfield 111, 3) := by decide +kernel
theorem dX3_joins_9 : decode cX3_joins 9 = .ok (.ireturn, 1) := by decide +kernel
theorem dJ9_floorDiv_f86c9_0 : decode cJ9_floorDiv_f86c9 0 = .ok (.lload_n 0, 1) := by decide +kernel
theorem dJ9_floorDiv_f86c9_1 : decode cJ9_floorDiv_f86c9 1 = .ok (.lload_n 2, 1) := by decide +kernel
theorem dJ9_floorDiv_f86c9_2 : decode cJ9_floorDiv_f86c9 2 = .ok (.ldiv, 1) := by decide +kernel
theorem dJ9_floorDiv_f86c9_3 : decode cJ9_floorDiv_f86c9 3 = .ok (.lstore 4, 2) := by decide +kernel
theorem dJ9_floorDiv_f86c9_5 : decode cJ9_floorDiv_f86c9 5 = .ok (.lload_n 0, 1) := by decide +kernel
theorem dJ9_floorDiv_f86c9_6 : decode cJ9_floorDiv_f86c9 6 = .ok (.lload_n 2, 1) := by decide +kernel
theorem dJ9_floorDiv_f86c9_7 : decode cJ9_floorDiv_f86c9 7 = .ok (.lxor, 1) := by decide +kernel
theorem dJ9_floorDiv_f86c9_8 : decode cJ9_floorDiv_f86c9 8 = .ok (.lconst 0, 1) := by decide +kernel
theorem dJ9_floorDiv_f86c9_9 : decode cJ9_floorDiv_f86c9 9 = .ok (.lcmp, 1) := by decide +kernel
theorem dJ9_floorDiv_f86c9_10 : decode cJ9_floorDiv_f86c9 10 = .ok (.ifCond .ge 17, 3) := by decide +kernel
theorem dJ9_floorDiv_f86c9_13 : decode cJ9_floorDiv_f86c9 13 = .ok (.lload 4, 2) := by decide +kernel
theorem dJ9_floorDiv_f86c9_15 : decode cJ9_floorDiv_f86c9 15 = .ok (.lload_n 2, 1) := by decide +kernel
theorem dJ9_floorDiv_f86c9_16 : decode cJ9_floorDiv_f86c9 16 = .ok (.lmul, 1) := by decide +kernel
theorem dJ9_floorDiv_f86c9_17 : decode cJ9_floorDiv_f86c9 17 = .ok (.lload_n 0, 1) := by decide +kernel
theorem dJ9_floorDiv_f86c9_18 : decode cJ9_floorDiv_f86c9 18 = .ok (.lcmp, 1) := by decide +kernel
theorem dJ9_floorDiv_f86c9_19 : decode cJ9_floorDiv_f86c9 19 = .ok (.ifCond .eq 8, 3) := by decide +kernel
theorem dJ9_floorDiv_f86c9_22 : decode cJ9_floorDiv_f86c9 22 = .ok (.lload 4, 2) := by decide +kernel
theorem dJ9_floorDiv_f86c9_24 : decode cJ9_floorDiv_f86c9 24 = .ok (.lconst 1, 1) := by decide +kernel
theorem dJ9_floorDiv_f86c9_25 : decode cJ9_floorDiv_f86c9 25 = .ok (.lsub, 1) := by decide +kernel
theorem dJ9_floorDiv_f86c9_26 : decode cJ9_floorDiv_f86c9 26 = .ok (.lreturn, 1) := by decide +kernel
theorem dJ9_floorDiv_f86c9_27 : decode cJ9_floorDiv_f86c9 27 = .ok (.lload 4, 2) := by decide +kernel
theorem dJ9_floorDiv_f86c9_29 : decode cJ9_floorDiv_f86c9 29 = .ok (.lreturn, 1) := by decide +kernel
theorem dJ9_abs_067f4_0 : decode cJ9_abs_067f4 0 = .ok (.lload_n 0, 1) := by decide +kernel
theorem dJ9_abs_067f4_1 : decode cJ9_abs_067f4 1 = .ok (.lconst 0, 1) := by decide +kernel
theorem dJ9_abs_067f4_2 : decode cJ9_abs_067f4 2 = .ok (.lcmp, 1) := by decide +kernel
theorem dJ9_abs_067f4_3 : decode cJ9_abs_067f4 3 = .ok (.ifCond .ge 8, 3) := by decide +kernel
theorem dJ9_abs_067f4_6 : decode cJ9_abs_067f4 6 = .ok (.lload_n 0, 1) := by decide +kernel
theorem dJ9_abs_067f4_7 : decode cJ9_abs_067f4 7 = .ok (.lneg, 1) := by decide +kernel
theorem dJ9_abs_067f4_8 : decode cJ9_abs_067f4 8 = .ok (.goto 4, 3) := by decide +kernel
theorem dJ9_abs_067f4_11 : decode cJ9_abs_067f4 11 = .ok (.lload_n 0, 1) := by decide +kernel
theorem dJ9_abs_067f4_12 : decode cJ9_abs_067f4 12 = .ok (.lreturn, 1) := by decide +kernel
theorem dJ9_max_7cf53_0 : decode cJ9_max_7cf53 0 = .ok (.iload_n 0, 1) := by decide +kernel
theorem dJ9_max_7cf53_1 : decode cJ9_max_7cf53 1 = .ok (.iload_n 1, 1) := by decide +kernel
theorem dJ9_max_7cf53_2 : decode cJ9_max_7cf53 2 = .ok (.if_icmp .lt 7, 3) := by decide +kernel
theorem dJ9_max_7cf53_5 : decode cJ9_max_7cf53 5 = .ok (.iload_n 0, 1) := by decide +kernel
theorem dJ9_max_7cf53_6 : decode cJ9_max_7cf53 6 = .ok (.goto 4, 3) := by decide +kernel
theorem dJ9_max_7cf53_9 : decode cJ9_max_7cf53 9 = .ok (.iload_n 1, 1) := by decide +kernel
theorem dJ9_max_7cf53_10 : decode cJ9_max_7cf53 10 = .ok (.ireturn, 1) := by decide +kernel
theorem dJ9_max_f86c9_0 : decode cJ9_max_f86c9 0 = .ok (.lload_n 0, 1) := by decide +kernel
theorem dJ9_max_f86c9_1 : decode cJ9_max_f86c9 1 = .ok (.lload_n 2, 1) := by decide +kernel
theorem dJ9_max_f86c9_2 : decode cJ9_max_f86c9 2 = .ok (.lcmp, 1) := by decide +kernel
theorem dJ9_max_f86c9_3 : decode cJ9_max_f86c9 3 = .ok (.ifCond .lt 7, 3) := by decide +kernel
theorem dJ9_max_f86c9_6 : decode cJ9_max_f86c9 6 = .ok (.lload_n 0, 1) := by decide +kernel
theorem dJ9_max_f86c9_7 : decode cJ9_max_f86c9 7 = .ok (.goto 4, 3) := by decide +kernel
theorem dJ9_max_f86c9_10 : decode cJ9_max_f86c9 10 = .ok (.lload_n 2, 1) := by decide +kernel
theorem dJ9_max_f86c9_11 : decode cJ9_max_f86c9 11 = .ok (.lreturn, 1) := by decide +kernel
theorem dJ9_min_f86c9_0 : decode cJ9_min_f86c9 0 = .ok (.lload_n 0, 1) := by decide +kernel
theorem dJ9_min_f86c9_1 : decode cJ9_min_f86c9 1 = .ok (.lload_n 2, 1) := by decide +kernel
theorem dJ9_min_f86c9_2 : decode cJ9_min_f86c9 2 = .ok (.lcmp, 1) := by decide +kernel
theorem dJ9_min_f86c9_3 : decode cJ9_min_f86c9 3 = .ok (.ifCond .gt 7, 3) := by decide +kernel
theorem dJ9_min_f86c9_6 : decode cJ9_min_f86c9 6 = .ok (.lload_n 0, 1) := by decide +kernel
theorem dJ9_min_f86c9_7 : decode cJ9_min_f86c9 7 = .ok (.goto 4, 3) := by decide +kernel
theorem dJ9_min_f86c9_10 : decode cJ9_min_f86c9 10 = .ok (.lload_n 2, 1) := by decide +kernel
theorem dJ9_min_f86c9_11 : decode cJ9_min_f86c9 11 = .ok (.lreturn, 1) := by decide +kernel
set_option maxRecDepth 20000 in
theorem ggL_append_X2_append : GoodIn wsL_append wsX2_append := goodIn_ca (goodIn_ca (goodIn_r _ [7, 8, 9, 10, 6, 11, 12, 13, 14, 15, 16, 17, 18, 19, 20, 21, 22, 23, 24, 25, 26, 27, 28, 29, 30, 31, 32, 33, 34, 35, 36, 37, 38, 39, 40, 41, 42, 43, 44, 45, 46, 47, 48, 49, 50, 51, 52, 53, 54, 55, 56, 57, 58, 59, 60, 61, 62, 63, 64, 65, 66, 67, 68, 69, 70, 71, 72, 73, 74, 75, 76, 77, 78, 79, 80, 81, 82, 83, 84, 85, 86, 87, 88, 89, 90, 91, 92, 93, 94, 95, 96, 97, 98, 99, 100, 101, 102, 103, 104, 105, 106, 107, 108, 109, 110, 111, 112, 113, 114, 115, 116, 117, 118, 119, 120, 121, 122, 123, 124] (by decide +kernel) (by decide +kernel)) (goodIn_sub (fun _ h => List.mem_cons_of_mem _ (List.mem_append_left _ (List.mem_append_right _ h))) (by decide +kernel))) (goodIn_sub (fun _ h => List.mem_cons_of_mem _ (List.mem_append_right _ h)) (by decide +kernel))
set_option maxRecDepth 20000 in
theorem gL_append_X2_append : GoodIn wsL_append (wsV RL 7 RX2 yX2_append wsX2_append) := goodIn_app (goodIn_of _ (by decide +kernel)) ggL_append_X2_append
theorem dL_append_0 : decode cL_append 0 = .ok (.aload_n 2, 1) := by decide +kernel
theorem dL_append_1 : decode cL_append 1 = .ok (.iconst 0, 1) := by decide +kernel
theorem dL_append_2 : decode cL_append 2 = .ok (.aload_n 0, 1) := by decide +kernel
theorem dL_append_3 : decode cL_append 3 = .ok (.iload_n 1, 1) := by decide +kernel
theorem dL_append_4 : decode cL_append 4 = .ok (.invokevirtual 7, 3) := by decide +kernel
theorem dL_append_7 : decode cL_append 7 = .ok (.i2l, 1) := by decide +kernel
theorem dL_append_8 : decode cL_append 8 = .ok (.lastore, 1) := by decide +kernel
theorem dL_append_9 : decode cL_append 9 = .ok (.goto 9, 3) := by decide +kernel
theorem dL_append_12 : decode cL_append 12 = .ok (.astore_n 3, 1) := by decide +kernel
theorem dL_append_13 : decode cL_append 13 = .ok (.iconst 1, 1) := by decide +kernel
theorem dL_append_14 : decode cL_append 14 = .ok (.ireturn, 1) := by decide +kernel
theorem dL_append_15 : decode cL_append 15 = .ok (.astore_n 3, 1) := by decide +kernel
theorem dL_append_16 : decode cL_append 16 = .ok (.iconst 2, 1) := by decide +kernel
theorem dL_append_17 : decode cL_append 17 = .ok (.ireturn, 1) := by decide +kernel
theorem dL_append_18 : decode cL_append 18 = .ok (.iconst 0, 1) := by decide +kernel
theorem dL_append_19 : decode cL_append 19 = .ok (.ireturn, 1) := by decide +kernel
set_option maxRecDepth 20000 in
theorem ggL_appendMany_X2_appendMany : GoodIn wsL_appendMany wsX2_appendMany := goodIn_ca (goodIn_ca (goodIn_r _ [7, 8, 9, 10, 11, 12, 6, 13, 14, 15, 16, 17, 18, 19, 20, 21, 22, 23, 24, 25, 26, 27, 28, 29, 30, 31, 32, 33, 34, 35, 36, 37, 38, 39, 40, 41, 42, 43, 44, 45, 46, 47, 48, 49, 50, 51, 52, 53, 54, 55, 56, 57, 58, 59, 60, 61, 62, 63, 64, 65, 66, 67, 68, 69, 70, 71, 72, 73, 74, 75, 76, 77, 78, 79, 80, 81, 82, 83, 84, 85, 86, 87, 88, 89, 90, 91, 92, 93, 94, 95, 96, 97, 98, 99, 100, 101, 102, 103, 104, 105, 106, 107, 108, 109, 110, 111, 112, 113, 114, 115, 116, 117, 118, 119, 120, 121, 122, 123, 124] (by decide +kernel) (by decide +kernel)) (goodIn_sub (fun _ h => List.mem_cons_of_mem _ (List.mem_append_left _ (List.mem_append_right _ h))) (by decide +kernel))) (goodIn_sub (fun _ h => List.mem_cons_of_mem _ (List.mem_append_right _ h)) (by decide +kernel))
set_option maxRecDepth 20000 in
theorem gL_appendMany_X2_appendMany : GoodIn wsL_appendMany (wsV RL 17 RX2 yX2_appendMany wsX2_appendMany) := goodIn_app (goodIn_of _ (by decide +kernel)) ggL_appendMany_X2_appendMany
theorem dL_appendMany_0 : decode cL_appendMany 0 = .ok (.aload 4, 2) := by decide +kernel
theorem dL_appendMany_2 : decode cL_appendMany 2 = .ok (.iconst 0, 1) := by decide +kernel
theorem dL_appendMany_3 : decode cL_appendMany 3 = .ok (.aload_n 0, 1) := by decide +kernel
theorem dL_appendMany_4 : decode cL_appendMany 4 = .ok (.iload_n 1, 1) := by decide +kernel
theorem dL_appendMany_5 : decode cL_appendMany 5 = .ok (.iload_n 2, 1) := by decide +kernel
theorem dL_appendMany_6 : decode cL_appendMany 6 = .ok (.iload_n 3, 1) := by decide +kernel
theorem dL_appendMany_7 : decode cL_appendMany 7 = .ok (.invokevirtual 17, 3) := by decide +kernel
theorem dL_appendMany_10 : decode cL_appendMany 10 = .ok (.i2l, 1) := by decide +kernel
theorem dL_appendMany_11 : decode cL_appendMany 11 = .ok (.lastore, 1) := by decide +kernel
theorem dL_appendMany_12 : decode cL_appendMany 12 = .ok (.goto 11, 3) := by decide +kernel
theorem dL_appendMany_15 : decode cL_appendMany 15 = .ok (.astore 5, 2) := by decide +kernel
theorem dL_appendMany_17 : decode cL_appendMany 17 = .ok (.iconst 1, 1) := by decide +kernel
theorem dL_appendMany_18 : decode cL_appendMany 18 = .ok (.ireturn, 1) := by decide +kernel
theorem dL_appendMany_19 : decode cL_appendMany 19 = .ok (.astore 5, 2) := by decide +kernel
theorem dL_appendMany_21 : decode cL_appendMany 21 = .ok (.iconst 2, 1) := by decide +kernel
theorem dL_appendMany_22 : decode cL_appendMany 22 = .ok (.ireturn, 1) := by decide +kernel
theorem dL_appendMany_23 : decode cL_appendMany 23 = .ok (.iconst 0, 1) := by decide +kernel
theorem dL_appendMany_24 : decode cL_appendMany 24 = .ok (.ireturn, 1) := by decide +kernel
set_option maxRecDepth 20000 in
theorem ggL_insert_X2_insert : GoodIn wsL_insert wsX2_insert := goodIn_ca (goodIn_ca (goodIn_r _ [7, 8, 9, 10, 11, 12, 13, 14, 15, 6, 16, 17, 18, 19, 20, 21, 22, 23, 24, 25, 26, 27, 28, 29, 30, 31, 32, 33, 34, 35, 36, 37, 38, 39, 40, 41, 42, 43, 44, 45, 46, 47, 48, 49, 50, 51, 52, 53, 54, 55, 56, 57, 58, 59, 60, 61, 62, 63, 64, 65, 66, 67, 68, 69, 70, 71, 72, 73, 74, 75, 76, 77, 78, 79, 80, 81, 82, 83, 84, 85, 86, 87, 88, 89, 90, 91, 92, 93, 94, 95, 96, 97, 98, 99, 100, 101, 102, 103, 104, 105, 106, 107, 108, 109, 110, 111, 112, 113, 114, 115, 116, 117, 118, 119, 120, 121, 122, 123, 124, 125, 126, 127, 128, 129, 130, 131, 132, 133, 134, 135, 136, 137, 138, 139, 140, 141, 142, 143, 144, 145, 146, 147, 148, 149, 150, 151, 152, 153, 154, 155, 156, 157, 158, 159, 160, 161, 162, 163, 164, 165, 166, 167, 168, 169, 170, 171, 172, 173, 174, 175, 176, 177, 178, 179, 180, 181, 182, 183, 184, 185, 186, 187, 188] (by decide +kernel) (by decide +kernel)) (goodIn_sub (fun _ h => List.mem_cons_of_mem _ (List.mem_append_left _ (List.mem_append_right _ h))) (by decide +kernel))) (goodIn_sub (fun _ h => List.mem_cons_of_mem _ (List.mem_append_right _ h)) (by decide +kernel))
set_option maxRecDepth 20000 in
theorem gL_insert_X2_insert : GoodIn wsL_insert (wsV RL 21 RX2 yX2_insert wsX2_insert) := goodIn_app (goodIn_of _ (by decide +kernel)) ggL_insert_X2_insert
theorem dL_insert_0 : decode cL_insert 0 = .ok (.aload_n 2, 1) := by decide +kernel
theorem dL_insert_1 : decode cL_insert 1 = .ok (.iconst 0, 1) := by decide +kernel
theorem dL_insert_2 : decode cL_insert 2 = .ok (.aload_n 0, 1) := by decide +kernel
theorem dL_insert_3 : decode cL_insert 3 = .ok (.iload_n 1, 1) := by decide +kernel
theorem dL_insert_4 : decode cL_insert 4 = .ok (.invokevirtual 21, 3) := by decide +kernel
theorem dL_insert_7 : decode cL_insert 7 = .ok (.i2l, 1) := by decide +kernel
theorem dL_insert_8 : decode cL_insert 8 = .ok (.lastore, 1) := by decide +kernel
theorem dL_insert_9 : decode cL_insert 9 = .ok (.goto 9, 3) := by decide +kernel
theorem dL_insert_12 : decode cL_insert 12 = .ok (.astore_n 3, 1) := by decide +kernel
theorem dL_insert_13 : decode cL_insert 13 = .ok (.iconst 1, 1) := by decide +kernel
theorem dL_insert_14 : decode cL_insert 14 = .ok (.ireturn, 1) := by decide +kernel
theorem dL_insert_15 : decode cL_insert 15 = .ok (.astore_n 3, 1) := by decide +kernel
theorem dL_insert_16 : decode cL_insert 16 = .ok (.iconst 2, 1) := by decide +kernel
theorem dL_insert_17 : decode cL_insert 17 = .ok (.ireturn, 1) := by decide +kernel
theorem dL_insert_18 : decode cL_insert 18 = .ok (.iconst 0, 1) := by decide +kernel
theorem dL_insert_19 : decode cL_insert 19 = .ok (.ireturn, 1) := by decide +kernel
set_option maxRecDepth 20000 in
theorem ggL_remove_X2_remove : GoodIn wsL_remove wsX2_remove := goodIn_ca (goodIn_r _ [6, 7, 8, 9, 10, 11, 12, 13, 14, 15, 5, 16, 17, 18, 19, 20, 21, 22, 23, 24, 25, 26, 27, 28, 29, 30, 31, 32, 33, 34, 35, 36, 37, 38, 39, 40, 41, 42, 43, 44, 45, 46, 47, 48, 49, 50, 51, 52, 53, 54, 55, 56, 57, 58, 59, 60, 61, 62, 63, 64, 65, 66, 67, 68, 69, 70, 71, 72, 73, 74, 75] (by decide +kernel) (by decide +kernel)) (goodIn_sub (fun _ h => List.mem_cons_of_mem _ (List.mem_append_right _ h)) (by decide +kernel))
set_option maxRecDepth 20000 in
theorem gL_remove_X2_remove : GoodIn wsL_remove (wsV RL 24 RX2 yX2_remove wsX2_remove) := goodIn_app (goodIn_of _ (by decide +kernel)) ggL_remove_X2_remove
theorem dL_remove_0 : decode cL_remove 0 = .ok (.aload_n 2, 1) := by decide +kernel
theorem dL_remove_1 : decode cL_remove 1 = .ok (.iconst 0, 1) := by decide +kernel
theorem dL_remove_2 : decode cL_remove 2 = .ok (.aload_n 0, 1) := by decide +kernel
theorem dL_remove_3 : decode cL_remove 3 = .ok (.iload_n 1, 1) := by decide +kernel
theorem dL_remove_4 : decode cL_remove 4 = .ok (.invokevirtual 24, 3) := by decide +kernel
theorem dL_remove_7 : decode cL_remove 7 = .ok (.i2l, 1) := by decide +kernel
theorem dL_remove_8 : decode cL_remove 8 = .ok (.lastore, 1) := by decide +kernel
theorem dL_remove_9 : decode cL_remove 9 = .ok (.goto 6, 3) := by decide +kernel
theorem dL_remove_12 : decode cL_remove 12 = .ok (.astore_n 3, 1) := by decide +kernel
theorem dL_remove_13 : decode cL_remove 13 = .ok (.iconst 1, 1) := by decide +kernel
theorem dL_remove_14 : decode cL_remove 14 = .ok (.ireturn, 1) := by decide +kernel
theorem dL_remove_15 : decode cL_remove 15 = .ok (.iconst 0, 1) := by decide +kernel
theorem dL_remove_16 : decode cL_remove 16 = .ok (.ireturn, 1) := by decide +kernel
set_option maxRecDepth 20000 in
theorem ggL_rebuild_X2_rebuild : GoodIn wsL_rebuild wsX2_rebuild := goodIn_ca (goodIn_r _ [6, 7, 8, 9, 10, 11, 12, 13, 14, 15, 5, 16, 17, 18, 19, 20, 21, 22, 23, 24, 25, 26, 27, 28, 29, 30, 31, 32, 33, 34, 35, 36, 37, 38, 39, 40, 41, 42, 43, 44, 45, 46, 47, 48, 49, 50, 51, 52, 53, 54, 55, 56, 57, 58, 59, 60, 61, 62, 63, 64, 65, 66, 67, 68, 69, 70, 71, 72, 73, 74, 75, 76, 77, 78, 79, 80, 81, 82, 83, 84, 85, 86, 87, 88, 89, 90, 91, 92, 93, 94, 95, 96, 97, 98, 99, 100, 101, 102, 103, 104, 105, 106, 107, 108, 109, 110, 111, 112, 113, 114, 115, 116, 117, 118, 119, 120, 121, 122, 123, 124, 125, 126, 127] (by decide +kernel) (by decide +kernel)) (goodIn_sub (fun _ h => List.mem_cons_of_mem _ (List.mem_append_right _ h)) (by decide +kernel))
set_option maxRecDepth 20000 in
theorem gL_rebuild_X2_rebuild : GoodIn wsL_rebuild (wsV RL 29 RX2 yX2_rebuild wsX2_rebuild) := goodIn_app (goodIn_of _ (by decide +kernel)) ggL_rebuild_X2_rebuild
theorem dL_rebuild_0 : decode cL_rebuild 0 = .ok (.aload_n 3, 1) := by decide +kernel
theorem dL_rebuild_1 : decode cL_rebuild 1 = .ok (.iconst 0, 1) := by decide +kernel
theorem dL_rebuild_2 : decode cL_rebuild 2 = .ok (.aload_n 0, 1) := by decide +kernel
theorem dL_rebuild_3 : decode cL_rebuild 3 = .ok (.iload_n 1, 1) := by decide +kernel
theorem dL_rebuild_4 : decode cL_rebuild 4 = .ok (.iload_n 2, 1) := by decide +kernel
theorem dL_rebuild_5 : decode cL_rebuild 5 = .ok (.invokevirtual 29, 3) := by decide +kernel
theorem dL_rebuild_8 : decode cL_rebuild 8 = .ok (.i2l, 1) := by decide +kernel
theorem dL_rebuild_9 : decode cL_rebuild 9 = .ok (.lastore, 1) := by decide +kernel
theorem dL_rebuild_10 : decode cL_rebuild 10 = .ok (.goto 7, 3) := by decide +kernel
theorem dL_rebuild_13 : decode cL_rebuild 13 = .ok (.astore 4, 2) := by decide +kernel
theorem dL_rebuild_15 : decode cL_rebuild 15 = .ok (.iconst 1, 1) := by decide +kernel
theorem dL_rebuild_16 : decode cL_rebuild 16 = .ok (.ireturn, 1) := by decide +kernel
theorem dL_rebuild_17 : decode cL_rebuild 17 = .ok (.iconst 0, 1) := by decide +kernel
theorem dL_rebuild_18 : decode cL_rebuild 18 = .ok (.ireturn, 1) := by decide +kernel
set_option maxRecDepth 20000 in
theorem ggL_select_X2_select : GoodIn wsL_select wsX2_select := goodIn_ca (goodIn_r _ [6, 7, 8, 9, 10, 11, 5, 12, 13, 14, 15, 16, 17, 18, 19, 20, 21, 22, 23, 24, 25, 26, 27, 28, 29, 30, 31, 32, 33, 34, 35, 36, 37, 38, 39, 40, 41, 42, 43, 44, 45, 46, 47, 48, 49, 50, 51, 52, 53, 54, 55, 56, 57, 58, 59, 60, 61, 62, 63, 64, 65, 66, 67, 68, 69, 70, 71, 72, 73] (by decide +kernel) (by decide +kernel)) (goodIn_sub (fun _ h => List.mem_cons_of_mem _ (List.mem_append_right _ h)) (by decide +kernel))
set_option maxRecDepth 20000 in
theorem gL_select_X2_select : GoodIn wsL_select (wsV RL 33 RX2 yX2_select wsX2_select) := goodIn_app (goodIn_of _ (by decide +kernel)) ggL_select_X2_select
theorem dL_select_0 : decode cL_select 0 = .ok (.aload_n 2, 1) := by decide +kernel
theorem dL_select_1 : decode cL_select 1 = .ok (.iconst 0, 1) := by decide +kernel
theorem dL_select_2 : decode cL_select 2 = .ok (.aload_n 0, 1) := by decide +kernel
theorem dL_select_3 : decode cL_select 3 = .ok (.iload_n 1, 1) := by decide +kernel
theorem dL_select_4 : decode cL_select 4 = .ok (.invokevirtual 33, 3) := by decide +kernel
theorem dL_select_7 : decode cL_select 7 = .ok (.i2l, 1) := by decide +kernel
theorem dL_select_8 : decode cL_select 8 = .ok (.lastore, 1) := by decide +kernel
theorem dL_select_9 : decode cL_select 9 = .ok (.goto 6, 3) := by decide +kernel
theorem dL_select_12 : decode cL_select 12 = .ok (.astore_n 3, 1) := by decide +kernel
theorem dL_select_13 : decode cL_select 13 = .ok (.iconst 1, 1) := by decide +kernel
theorem dL_select_14 : decode cL_select 14 = .ok (.ireturn, 1) := by decide +kernel
theorem dL_select_15 : decode cL_select 15 = .ok (.iconst 0, 1) := by decide +kernel
theorem dL_select_16 : decode cL_select 16 = .ok (.ireturn, 1) := by decide +kernel
set_option maxRecDepth 20000 in
theorem ggL_ceiling_X2_ceiling : GoodIn wsL_ceiling wsX2_ceiling := goodIn_ca (goodIn_r _ [6, 7, 8, 9, 10, 11, 5, 12, 13, 14, 15, 16, 17, 18, 19, 20, 21, 22, 23, 24, 25, 26, 27, 28, 29, 30, 31, 32, 33, 34, 35, 36, 37, 38, 39, 40, 41, 42, 43, 44, 45, 46, 47, 48, 49, 50, 51, 52, 53, 54, 55, 56, 57, 58, 59, 60, 61, 62, 63, 64, 65, 66, 67, 68, 69, 70, 71, 72, 73, 74, 75, 76, 77, 78, 79, 80, 81, 82] (by decide +kernel) (by decide +kernel)) (goodIn_sub (fun _ h => List.mem_cons_of_mem _ (List.mem_append_right _ h)) (by decide +kernel))
set_option maxRecDepth 20000 in
theorem gL_ceiling_X2_ceiling : GoodIn wsL_ceiling (wsV RL 38 RX2 yX2_ceiling wsX2_ceiling) := goodIn_app (goodIn_of _ (by decide +kernel)) ggL_ceiling_X2_ceiling
theorem dL_ceiling_0 : decode cL_ceiling 0 = .ok (.aload_n 2, 1) := by decide +kernel
theorem dL_ceiling_1 : decode cL_ceiling 1 = .ok (.iconst 0, 1) := by decide +kernel
theorem dL_ceiling_2 : decode cL_ceiling 2 = .ok (.aload_n 0, 1) := by decide +kernel
theorem dL_ceiling_3 : decode cL_ceiling 3 = .ok (.iload_n 1, 1) := by decide +kernel
theorem dL_ceiling_4 : decode cL_ceiling 4 = .ok (.invokevirtual 38, 3) := by decide +kernel
theorem dL_ceiling_7 : decode cL_ceiling 7 = .ok (.i2l, 1) := by decide +kernel
theorem dL_ceiling_8 : decode cL_ceiling 8 = .ok (.lastore, 1) := by decide +kernel
theorem dL_ceiling_9 : decode cL_ceiling 9 = .ok (.goto 6, 3) := by decide +kernel
theorem dL_ceiling_12 : decode cL_ceiling 12 = .ok (.astore_n 3, 1) := by decide +kernel
theorem dL_ceiling_13 : decode cL_ceiling 13 = .ok (.iconst 1, 1) := by decide +kernel
theorem dL_ceiling_14 : decode cL_ceiling 14 = .ok (.ireturn, 1) := by decide +kernel
theorem dL_ceiling_15 : decode cL_ceiling 15 = .ok (.iconst 0, 1) := by decide +kernel
theorem dL_ceiling_16 : decode cL_ceiling 16 = .ok (.ireturn, 1) := by decide +kernel
set_option maxRecDepth 20000 in
theorem ggL_guess_X2_guess : GoodIn wsL_guess wsX2_guess := goodIn_ca (goodIn_r _ [6, 7, 8, 5, 9, 10, 11, 12, 13, 14, 15, 16, 17, 18, 19, 20, 21, 22, 23, 24, 25, 26, 27, 28, 29, 30, 31, 32, 33, 34, 35, 36, 37, 38, 39, 40, 41, 42, 43, 44, 45, 46, 47, 48, 49, 50, 51, 52, 53, 54, 55, 56, 57, 58, 59, 60, 61, 62, 63, 64, 65, 66, 67] (by decide +kernel) (by decide +kernel)) (goodIn_sub (fun _ h => List.mem_cons_of_mem _ (List.mem_append_right _ h)) (by decide +kernel))
set_option maxRecDepth 20000 in
theorem gL_guess_X2_guess : GoodIn wsL_guess (wsV RL 41 RX2 yX2_guess wsX2_guess) := goodIn_app (goodIn_of _ (by decide +kernel)) ggL_guess_X2_guess
theorem dL_guess_0 : decode cL_guess 0 = .ok (.aload_n 2, 1) := by decide +kernel
theorem dL_guess_1 : decode cL_guess 1 = .ok (.iconst 0, 1) := by decide +kernel
theorem dL_guess_2 : decode cL_guess 2 = .ok (.aload_n 0, 1) := by decide +kernel
theorem dL_guess_3 : decode cL_guess 3 = .ok (.iload_n 1, 1) := by decide +kernel
theorem dL_guess_4 : decode cL_guess 4 = .ok (.invokevirtual 41, 3) := by decide +kernel
theorem dL_guess_7 : decode cL_guess 7 = .ok (.lastore, 1) := by decide +kernel
theorem dL_guess_8 : decode cL_guess 8 = .ok (.goto 6, 3) := by decide +kernel
theorem dL_guess_11 : decode cL_guess 11 = .ok (.astore_n 3, 1) := by decide +kernel
theorem dL_guess_12 : decode cL_guess 12 = .ok (.iconst 1, 1) := by decide +kernel
theorem dL_guess_13 : decode cL_guess 13 = .ok (.ireturn, 1) := by decide +kernel
theorem dL_guess_14 : decode cL_guess 14 = .ok (.iconst 0, 1) := by decide +kernel
theorem dL_guess_15 : decode cL_guess 15 = .ok (.ireturn, 1) := by decide +kernel
set_option maxRecDepth 20000 in
theorem ggL_looks_X2_looks : GoodIn wsL_looks wsX2_looks := goodIn_ca (goodIn_r _ [6, 7, 8, 5, 9, 10, 11, 12, 13, 14, 15, 16, 17, 18, 19, 20, 21, 22, 23, 24, 25, 26, 27, 28, 29, 30, 31, 32, 33, 34, 35, 36, 37, 38, 39, 40, 41, 42, 43, 44, 45, 46, 47, 48, 49, 50, 51, 52, 53, 54, 55, 56, 57, 58, 59, 60, 61, 62, 63, 64, 65, 66, 67, 68, 69, 70, 71, 72, 73, 74, 75, 76, 77, 78, 79, 80, 81, 82, 83, 84, 85, 86, 87, 88] (by decide +kernel) (by decide +kernel)) (goodIn_sub (fun _ h => List.mem_cons_of_mem _ (List.mem_append_right _ h)) (by decide +kernel))
set_option maxRecDepth 20000 in
theorem gL_looks_X2_looks : GoodIn wsL_looks (wsV RL 45 RX2 yX2_looks wsX2_looks) := goodIn_app (goodIn_of _ (by decide +kernel)) ggL_looks_X2_looks
theorem dL_looks_0 : decode cL_looks 0 = .ok (.aload_n 2, 1) := by decide +kernel
theorem dL_looks_1 : decode cL_looks 1 = .ok (.iconst 0, 1) := by decide +kernel
theorem dL_looks_2 : decode cL_looks 2 = .ok (.aload_n 0, 1) := by decide +kernel
theorem dL_looks_3 : decode cL_looks 3 = .ok (.iload_n 1, 1) := by decide +kernel
theorem dL_looks_4 : decode cL_looks 4 = .ok (.invokevirtual 45, 3) := by decide +kernel
theorem dL_looks_7 : decode cL_looks 7 = .ok (.i2l, 1) := by decide +kernel
theorem dL_looks_8 : decode cL_looks 8 = .ok (.lastore, 1) := by decide +kernel
theorem dL_looks_9 : decode cL_looks 9 = .ok (.goto 6, 3) := by decide +kernel
theorem dL_looks_12 : decode cL_looks 12 = .ok (.astore_n 3, 1) := by decide +kernel
theorem dL_looks_13 : decode cL_looks 13 = .ok (.iconst 1, 1) := by decide +kernel
theorem dL_looks_14 : decode cL_looks 14 = .ok (.ireturn, 1) := by decide +kernel
theorem dL_looks_15 : decode cL_looks 15 = .ok (.iconst 0, 1) := by decide +kernel
theorem dL_looks_16 : decode cL_looks 16 = .ok (.ireturn, 1) := by decide +kernel
set_option maxRecDepth 20000 in
theorem ggL_start_X2_start : GoodIn wsL_start wsX2_start := goodIn_ca (goodIn_r _ [6, 7, 8, 9, 10, 5, 11, 12, 13, 14, 15, 16, 17, 18, 19, 20, 21, 22, 23, 24, 25, 26, 27, 28, 29, 30, 31, 32, 33, 34, 35, 36, 37, 38, 39, 40, 41, 42] (by decide +kernel) (by decide +kernel)) (goodIn_sub (fun _ h => List.mem_cons_of_mem _ (List.mem_append_right _ h)) (by decide +kernel))
set_option maxRecDepth 20000 in
theorem gL_start_X2_start : GoodIn wsL_start (wsV RL 48 RX2 yX2_start wsX2_start) := goodIn_app (goodIn_of _ (by decide +kernel)) ggL_start_X2_start
theorem dL_start_0 : decode cL_start 0 = .ok (.aload_n 2, 1) := by decide +kernel
theorem dL_start_1 : decode cL_start 1 = .ok (.iconst 0, 1) := by decide +kernel
theorem dL_start_2 : decode cL_start 2 = .ok (.aload_n 0, 1) := by decide +kernel
theorem dL_start_3 : decode cL_start 3 = .ok (.iload_n 1, 1) := by decide +kernel
theorem dL_start_4 : decode cL_start 4 = .ok (.invokevirtual 48, 3) := by decide +kernel
theorem dL_start_7 : decode cL_start 7 = .ok (.i2l, 1) := by decide +kernel
theorem dL_start_8 : decode cL_start 8 = .ok (.lastore, 1) := by decide +kernel
theorem dL_start_9 : decode cL_start 9 = .ok (.goto 6, 3) := by decide +kernel
theorem dL_start_12 : decode cL_start 12 = .ok (.astore_n 3, 1) := by decide +kernel
theorem dL_start_13 : decode cL_start 13 = .ok (.iconst 1, 1) := by decide +kernel
theorem dL_start_14 : decode cL_start 14 = .ok (.ireturn, 1) := by decide +kernel
theorem dL_start_15 : decode cL_start 15 = .ok (.iconst 0, 1) := by decide +kernel
theorem dL_start_16 : decode cL_start 16 = .ok (.ireturn, 1) := by decide +kernel
set_option maxRecDepth 20000 in
theorem ggL_firstKey_X2_firstKey : GoodIn wsL_firstKey wsX2_firstKey := goodIn_ca (goodIn_r _ [6, 7, 8, 9, 5, 10, 11, 12, 13, 14, 15, 16, 17, 18, 19, 20, 21, 22, 23, 24, 25, 26, 27, 28, 29, 30, 31, 32, 33, 34, 35, 36, 37, 38, 39, 40, 41, 42, 43, 44, 45, 46, 47] (by decide +kernel) (by decide +kernel)) (goodIn_sub (fun _ h => List.mem_cons_of_mem _ (List.mem_append_right _ h)) (by decide +kernel))
set_option maxRecDepth 20000 in
theorem gL_firstKey_X2_firstKey : GoodIn wsL_firstKey (wsV RL 51 RX2 yX2_firstKey wsX2_firstKey) := goodIn_app (goodIn_of _ (by decide +kernel)) ggL_firstKey_X2_firstKey
theorem dL_firstKey_0 : decode cL_firstKey 0 = .ok (.aload_n 2, 1) := by decide +kernel
theorem dL_firstKey_1 : decode cL_firstKey 1 = .ok (.iconst 0, 1) := by decide +kernel
theorem dL_firstKey_2 : decode cL_firstKey 2 = .ok (.aload_n 0, 1) := by decide +kernel
theorem dL_firstKey_3 : decode cL_firstKey 3 = .ok (.iload_n 1, 1) := by decide +kernel
theorem dL_firstKey_4 : decode cL_firstKey 4 = .ok (.invokevirtual 51, 3) := by decide +kernel
theorem dL_firstKey_7 : decode cL_firstKey 7 = .ok (.i2l, 1) := by decide +kernel
theorem dL_firstKey_8 : decode cL_firstKey 8 = .ok (.lastore, 1) := by decide +kernel
theorem dL_firstKey_9 : decode cL_firstKey 9 = .ok (.goto 6, 3) := by decide +kernel
theorem dL_firstKey_12 : decode cL_firstKey 12 = .ok (.astore_n 3, 1) := by decide +kernel
theorem dL_firstKey_13 : decode cL_firstKey 13 = .ok (.iconst 1, 1) := by decide +kernel
theorem dL_firstKey_14 : decode cL_firstKey 14 = .ok (.ireturn, 1) := by decide +kernel
theorem dL_firstKey_15 : decode cL_firstKey 15 = .ok (.iconst 0, 1) := by decide +kernel
theorem dL_firstKey_16 : decode cL_firstKey 16 = .ok (.ireturn, 1) := by decide +kernel
set_option maxRecDepth 20000 in
theorem ggL_rise_X2_rise : GoodIn wsL_rise wsX2_rise := goodIn_ca (goodIn_r _ [6, 7, 8, 9, 10, 5, 11, 12, 13, 14, 15, 16, 17, 18, 19, 20, 21, 22, 23, 24, 25, 26, 27, 28, 29, 30, 31, 32, 33, 34, 35, 36, 37, 38, 39, 40, 41, 42, 43] (by decide +kernel) (by decide +kernel)) (goodIn_sub (fun _ h => List.mem_cons_of_mem _ (List.mem_append_right _ h)) (by decide +kernel))
set_option maxRecDepth 20000 in
theorem gL_rise_X2_rise : GoodIn wsL_rise (wsV RL 54 RX2 yX2_rise wsX2_rise) := goodIn_app (goodIn_of _ (by decide +kernel)) ggL_rise_X2_rise
theorem dL_rise_0 : decode cL_rise 0 = .ok (.aload_n 2, 1) := by decide +kernel
theorem dL_rise_1 : decode cL_rise 1 = .ok (.iconst 0, 1) := by decide +kernel
theorem dL_rise_2 : decode cL_rise 2 = .ok (.aload_n 0, 1) := by decide +kernel
theorem dL_rise_3 : decode cL_rise 3 = .ok (.iload_n 1, 1) := by decide +kernel
theorem dL_rise_4 : decode cL_rise 4 = .ok (.invokevirtual 54, 3) := by decide +kernel
theorem dL_rise_7 : decode cL_rise 7 = .ok (.i2l, 1) := by decide +kernel
theorem dL_rise_8 : decode cL_rise 8 = .ok (.lastore, 1) := by decide +kernel
theorem dL_rise_9 : decode cL_rise 9 = .ok (.goto 6, 3) := by decide +kernel
theorem dL_rise_12 : decode cL_rise 12 = .ok (.astore_n 3, 1) := by decide +kernel
theorem dL_rise_13 : decode cL_rise 13 = .ok (.iconst 1, 1) := by decide +kernel
theorem dL_rise_14 : decode cL_rise 14 = .ok (.ireturn, 1) := by decide +kernel
theorem dL_rise_15 : decode cL_rise 15 = .ok (.iconst 0, 1) := by decide +kernel
theorem dL_rise_16 : decode cL_rise 16 = .ok (.ireturn, 1) := by decide +kernel
set_option maxRecDepth 20000 in
theorem ggL_run_X2_run : GoodIn wsL_run wsX2_run := goodIn_ca (goodIn_r _ [6, 7, 8, 9, 10, 5, 11, 12, 13, 14, 15, 16, 17, 18, 19, 20, 21, 22, 23, 24, 25, 26, 27, 28, 29, 30, 31, 32, 33, 34, 35, 36, 37, 38, 39, 40, 41, 42, 43] (by decide +kernel) (by decide +kernel)) (goodIn_sub (fun _ h => List.mem_cons_of_mem _ (List.mem_append_right _ h)) (by decide +kernel))
set_option maxRecDepth 20000 in
theorem gL_run_X2_run : GoodIn wsL_run (wsV RL 57 RX2 yX2_run wsX2_run) := goodIn_app (goodIn_of _ (by decide +kernel)) ggL_run_X2_run
theorem dL_run_0 : decode cL_run 0 = .ok (.aload_n 2, 1) := by decide +kernel
theorem dL_run_1 : decode cL_run 1 = .ok (.iconst 0, 1) := by decide +kernel
theorem dL_run_2 : decode cL_run 2 = .ok (.aload_n 0, 1) := by decide +kernel
theorem dL_run_3 : decode cL_run 3 = .ok (.iload_n 1, 1) := by decide +kernel
theorem dL_run_4 : decode cL_run 4 = .ok (.invokevirtual 57, 3) := by decide +kernel
theorem dL_run_7 : decode cL_run 7 = .ok (.i2l, 1) := by decide +kernel
theorem dL_run_8 : decode cL_run 8 = .ok (.lastore, 1) := by decide +kernel
theorem dL_run_9 : decode cL_run 9 = .ok (.goto 6, 3) := by decide +kernel
theorem dL_run_12 : decode cL_run 12 = .ok (.astore_n 3, 1) := by decide +kernel
theorem dL_run_13 : decode cL_run 13 = .ok (.iconst 1, 1) := by decide +kernel
theorem dL_run_14 : decode cL_run 14 = .ok (.ireturn, 1) := by decide +kernel
theorem dL_run_15 : decode cL_run 15 = .ok (.iconst 0, 1) := by decide +kernel
theorem dL_run_16 : decode cL_run 16 = .ok (.ireturn, 1) := by decide +kernel
set_option maxRecDepth 20000 in
theorem ggL_law_X2_init : GoodIn wsL_law wsX2_init := goodIn_r _ [9, 10, 11, 12, 13, 14, 15, 16, 17, 18, 19, 20, 21, 22, 23, 24, 25, 26, 27, 28, 29, 30, 31, 32, 33, 34, 35, 36, 37, 38, 39, 40, 41, 42, 43, 44, 45, 46, 47, 48, 49, 50, 51, 707, 708, 674, 675, 676, 677, 678, 679, 680, 681, 682, 683, 684, 685, 686, 687, 688, 709, 710, 711, 712, 713, 714, 715] (by decide +kernel) (by decide +kernel)
set_option maxRecDepth 20000 in
theorem gL_law_X2_init : GoodIn wsL_law (wsX2_init) := ggL_law_X2_init
set_option maxRecDepth 20000 in
theorem ggL_law_X3_init : GoodIn wsL_law wsX3_init := goodIn_r _ [54, 55, 11, 12, 56, 57, 42, 58, 59, 60, 61, 62, 63, 64, 689, 690, 691, 692, 693, 694, 695, 696, 697, 698, 699, 700, 701, 702, 703, 704, 705, 706] (by decide +kernel) (by decide +kernel)
set_option maxRecDepth 20000 in
theorem gL_law_X3_init : GoodIn wsL_law (wsX3_init) := ggL_law_X3_init
set_option maxRecDepth 20000 in
theorem ggL_law_L_append : GoodIn wsL_law wsL_append := goodIn_ca (goodIn_ca (goodIn_r _ [68, 69, 70, 71, 72, 73, 2, 74, 19, 75, 76, 77, 78, 79, 80, 81, 82, 83, 84, 85, 86, 87, 16, 18, 88, 89, 90, 15, 91, 44, 92, 93, 94, 95, 43, 96, 97, 98, 99, 100, 101, 102, 103, 104, 105, 106, 107, 108, 109, 110, 111, 17, 25, 112, 113, 114, 115, 116, 117, 118, 24, 119, 120, 121, 122, 123, 49, 48, 51, 50, 124, 125, 126, 127, 20, 21, 128, 129, 130, 131, 132, 133, 134, 135, 136, 137, 138, 139, 140, 141, 142, 143, 144, 145, 146, 147, 28, 148, 149, 150, 151, 674, 675, 676, 677, 678, 679, 680, 681, 682, 683, 684, 685, 686, 687, 688, 707, 708, 709, 710, 711, 712, 713, 714, 715] (by decide +kernel) (by decide +kernel)) (goodIn_sub (fun _ h => List.mem_append_left _ (List.mem_append_left _ (List.mem_append_left _ (List.mem_append_right _ h)))) (by decide +kernel))) (goodIn_sub (fun _ h => List.mem_append_left _ (List.mem_append_left _ (List.mem_append_right _ h))) (by decide +kernel))
set_option maxRecDepth 20000 in
theorem gL_law_L_append : GoodIn wsL_law (va_wsS RL 64 yL_append wsL_append) := goodIn_app (goodIn_of _ (by decide +kernel)) ggL_law_L_append
set_option maxRecDepth 20000 in
theorem ggL_law_X3_append : GoodIn wsL_law wsX3_append := goodIn_r _ [155, 156, 157, 158, 159, 5, 160, 161, 162, 163, 164, 165, 166, 167, 168, 169, 170, 171, 172, 58, 62, 173, 174, 175, 176, 60, 61, 177, 178, 179, 180, 181, 182, 56, 689, 690, 691, 692, 693, 694, 695, 696, 697, 698, 699, 700, 701, 702, 703, 704, 705, 706] (by decide +kernel) (by decide +kernel)
set_option maxRecDepth 20000 in
theorem gL_law_X3_append : GoodIn wsL_law (wsV RL 69 RX3 yX3_append wsX3_append) := goodIn_app (goodIn_of _ (by decide +kernel)) ggL_law_X3_append
set_option maxRecDepth 20000 in
theorem ggL_law_X3_thrown : GoodIn wsL_law wsX3_thrown := goodIn_r _ [186, 156, 689, 690, 691, 692, 693, 694, 695, 696, 697, 698, 699, 700, 701, 702, 703, 704, 705, 706] (by decide +kernel) (by decide +kernel)
set_option maxRecDepth 20000 in
theorem gL_law_X3_thrown : GoodIn wsL_law (wsV RL 70 RX3 yX3_thrown wsX3_thrown) := goodIn_app (goodIn_of _ (by decide +kernel)) ggL_law_X3_thrown
set_option maxRecDepth 20000 in
theorem ggL_law_L_appendMany : GoodIn wsL_law wsL_appendMany := goodIn_ca (goodIn_ca (goodIn_r _ [189, 69, 70, 190, 191, 192, 2, 193, 78, 79, 19, 75, 76, 77, 80, 81, 82, 83, 84, 85, 86, 87, 16, 18, 88, 89, 90, 15, 91, 44, 92, 93, 94, 95, 43, 96, 97, 98, 99, 100, 101, 102, 103, 104, 105, 106, 107, 108, 109, 110, 111, 17, 25, 112, 113, 114, 115, 116, 117, 118, 24, 119, 120, 121, 122, 123, 49, 48, 51, 50, 124, 125, 126, 127, 20, 21, 128, 129, 130, 131, 132, 133, 134, 135, 136, 137, 138, 139, 140, 141, 142, 143, 144, 145, 146, 147, 28, 148, 149, 150, 151, 674, 675, 676, 677, 678, 679, 680, 681, 682, 683, 684, 685, 686, 687, 688, 707, 708, 709, 710, 711, 712, 713, 714, 715] (by decide +kernel) (by decide +kernel)) (goodIn_sub (fun _ h => List.mem_append_left _ (List.mem_append_left _ (List.mem_append_left _ (List.mem_append_right _ h)))) (by decide +kernel))) (goodIn_sub (fun _ h => List.mem_append_left _ (List.mem_append_left _ (List.mem_append_right _ h))) (by decide +kernel))
set_option maxRecDepth 20000 in
theorem gL_law_L_appendMany : GoodIn wsL_law (va_wsS RL 74 yL_appendMany wsL_appendMany) := goodIn_app (goodIn_of _ (by decide +kernel)) ggL_law_L_appendMany
set_option maxRecDepth 20000 in
theorem ggL_law_X3_appendMany : GoodIn wsL_law wsX3_appendMany := goodIn_r _ [197, 156, 157, 158, 159, 5, 160, 161, 162, 163, 164, 165, 166, 167, 168, 169, 170, 171, 172, 58, 62, 173, 174, 175, 176, 60, 61, 177, 178, 179, 180, 181, 182, 56, 689, 690, 691, 692, 693, 694, 695, 696, 697, 698, 699, 700, 701, 702, 703, 704, 705, 706] (by decide +kernel) (by decide +kernel)
set_option maxRecDepth 20000 in
theorem gL_law_X3_appendMany : GoodIn wsL_law (wsV RL 77 RX3 yX3_appendMany wsX3_appendMany) := goodIn_app (goodIn_of _ (by decide +kernel)) ggL_law_X3_appendMany
set_option maxRecDepth 20000 in
theorem ggL_law_L_insert : GoodIn wsL_law wsL_insert := goodIn_ca (goodIn_ca (goodIn_r _ [200, 69, 70, 201, 202, 203, 2, 204, 86, 87, 16, 17, 30, 18, 75, 76, 77, 78, 79, 80, 81, 205, 206, 207, 15, 208, 43, 209, 89, 90, 91, 44, 92, 93, 94, 95, 96, 97, 98, 99, 210, 211, 212, 213, 214, 104, 105, 106, 107, 100, 101, 102, 103, 215, 216, 217, 218, 29, 88, 219, 220, 221, 222, 223, 113, 114, 115, 224, 137, 138, 139, 225, 226, 227, 228, 26, 27, 19, 31, 229, 230, 231, 232, 233, 234, 235, 236, 112, 237, 238, 239, 240, 25, 28, 32, 116, 117, 118, 24, 119, 120, 121, 122, 123, 49, 48, 51, 50, 148, 149, 150, 151, 241, 242, 243, 244, 245, 246, 247, 248, 249, 250, 251, 252, 253, 254, 255, 256, 257, 258, 259, 260, 261, 20, 21, 262, 263, 264, 265, 33, 266, 267, 268, 269, 144, 145, 146, 147, 128, 129, 130, 131, 132, 133, 134, 135, 140, 141, 142, 143, 124, 125, 126, 127, 136, 674, 675, 676, 677, 678, 679, 680, 681, 682, 683, 684, 685, 686, 687, 688, 707, 708, 709, 710, 711, 712, 713, 714, 715] (by decide +kernel) (by decide +kernel)) (goodIn_sub (fun _ h => List.mem_append_left _ (List.mem_append_left _ (List.mem_append_right _ h))) (by decide +kernel))) (goodIn_sub (fun _ h => List.mem_append_left _ (List.mem_append_left _ (List.mem_append_left _ (List.mem_append_right _ h)))) (by decide +kernel))
set_option maxRecDepth 20000 in
theorem gL_law_L_insert : GoodIn wsL_law (va_wsS RL 78 yL_insert wsL_insert) := goodIn_app (goodIn_of _ (by decide +kernel)) ggL_law_L_insert
set_option maxRecDepth 20000 in
theorem ggL_law_X3_insert : GoodIn wsL_law wsX3_insert := goodIn_r _ [273, 156, 60, 168, 62, 57, 274, 275, 276, 5, 277, 167, 58, 278, 279, 280, 281, 158, 159, 160, 161, 162, 282, 283, 284, 285, 286, 287, 288, 289, 163, 164, 165, 166, 290, 291, 292, 293, 294, 157, 64, 295, 296, 297, 298, 299, 300, 61, 301, 302, 303, 304, 305, 306, 307, 308, 63, 309, 310, 311, 312, 313, 314, 315, 316, 177, 178, 179, 180, 181, 182, 56, 317, 318, 319, 320, 321, 322, 323, 324, 325, 689, 690, 691, 692, 693, 694, 695, 696, 697, 698, 699, 700, 701, 702, 703, 704, 705, 706] (by decide +kernel) (by decide +kernel)
set_option maxRecDepth 20000 in
theorem gL_law_X3_insert : GoodIn wsL_law (wsV RL 80 RX3 yX3_insert wsX3_insert) := goodIn_app (goodIn_of _ (by decide +kernel)) ggL_law_X3_insert
set_option maxRecDepth 20000 in
theorem ggL_law_L_remove : GoodIn wsL_law wsL_remove := goodIn_ca (goodIn_r _ [328, 329, 330, 331, 332, 2, 333, 334, 335, 16, 18, 17, 30, 210, 211, 212, 213, 205, 206, 207, 15, 208, 43, 209, 89, 90, 91, 44, 92, 93, 94, 95, 96, 97, 98, 99, 214, 88, 336, 337, 338, 339, 224, 137, 138, 139, 136, 340, 341, 342, 343, 104, 105, 106, 107, 100, 101, 102, 103, 674, 675, 676, 677, 678, 679, 680, 681, 682, 683, 684, 685, 686, 687, 688, 707, 708] (by decide +kernel) (by decide +kernel)) (goodIn_sub (fun _ h => List.mem_append_left _ (List.mem_append_right _ h)) (by decide +kernel))
set_option maxRecDepth 20000 in
theorem gL_law_L_remove : GoodIn wsL_law (va_wsS RL 81 yL_remove wsL_remove) := goodIn_app (goodIn_of _ (by decide +kernel)) ggL_law_L_remove
set_option maxRecDepth 20000 in
theorem ggL_law_X3_remove : GoodIn wsL_law wsX3_remove := goodIn_r _ [347, 156, 60, 168, 62, 282, 283, 284, 5, 285, 286, 287, 288, 289, 274, 275, 276, 277, 167, 58, 278, 279, 280, 281, 348, 349, 350, 351, 352, 353, 354, 355, 356, 689, 690, 691, 692, 693, 694, 695, 696, 697, 698, 699, 700, 701, 702, 703, 704, 705, 706] (by decide +kernel) (by decide +kernel)
set_option maxRecDepth 20000 in
theorem gL_law_X3_remove : GoodIn wsL_law (wsV RL 83 RX3 yX3_remove wsX3_remove) := goodIn_app (goodIn_of _ (by decide +kernel)) ggL_law_X3_remove
set_option maxRecDepth 20000 in
theorem ggL_law_X2_merge : GoodIn wsL_law wsX2_merge := goodIn_r _ [360, 19, 225, 226, 227, 2, 228, 26, 27, 18, 16, 17, 31, 229, 230, 231, 15, 232, 44, 100, 101, 102, 103, 233, 234, 235, 236, 214, 93, 94, 95, 43, 96, 97, 98, 99, 112, 113, 114, 115, 237, 238, 239, 240, 25, 28, 32, 116, 117, 118, 24, 119, 120, 121, 122, 123, 49, 48, 51, 50, 148, 149, 150, 151, 241, 242, 243, 244, 245, 246, 247, 248, 88, 89, 90, 91, 92, 249, 250, 251, 252, 253, 254, 255, 256, 257, 30, 258, 259, 260, 261, 20, 21, 262, 263, 264, 265, 33, 266, 267, 268, 269, 144, 145, 146, 147, 128, 129, 130, 131, 132, 133, 134, 135, 140, 141, 142, 143, 124, 125, 126, 127, 136, 137, 138, 139, 674, 675, 676, 677, 678, 679, 680, 681, 682, 683, 684, 685, 686, 687, 688, 707, 708, 709, 710, 711, 712, 713, 714, 715] (by decide +kernel) (by decide +kernel)
set_option maxRecDepth 20000 in
theorem gL_law_X2_merge : GoodIn wsL_law (wsV RL 84 RX2 yX2_merge wsX2_merge) := goodIn_app (goodIn_of _ (by decide +kernel)) ggL_law_X2_merge
set_option maxRecDepth 20000 in
theorem ggL_law_X3_merge : GoodIn wsL_law wsX3_merge := goodIn_r _ [364, 156, 157, 290, 291, 292, 5, 293, 294, 64, 295, 168, 62, 296, 297, 298, 299, 300, 61, 60, 58, 301, 302, 303, 304, 167, 305, 306, 307, 308, 63, 309, 310, 311, 312, 313, 314, 315, 316, 177, 178, 179, 180, 181, 182, 56, 317, 318, 319, 320, 321, 322, 323, 324, 325, 689, 690, 691, 692, 693, 694, 695, 696, 697, 698, 699, 700, 701, 702, 703, 704, 705, 706] (by decide +kernel) (by decide +kernel)
set_option maxRecDepth 20000 in
theorem gL_law_X3_merge : GoodIn wsL_law (wsV RL 87 RX3 yX3_merge wsX3_merge) := goodIn_app (goodIn_of _ (by decide +kernel)) ggL_law_X3_merge
set_option maxRecDepth 20000 in
theorem ggL_law_L_rebuild : GoodIn wsL_law wsL_rebuild := goodIn_ca (goodIn_r _ [367, 69, 368, 369, 370, 2, 371, 78, 79, 28, 29, 26, 19, 372, 373, 374, 375, 16, 18, 229, 230, 231, 15, 232, 44, 100, 101, 102, 103, 233, 234, 235, 236, 17, 214, 93, 94, 95, 43, 96, 97, 98, 99, 112, 113, 114, 115, 254, 255, 256, 257, 30, 258, 259, 260, 261, 20, 21, 108, 109, 110, 111, 25, 116, 117, 118, 24, 119, 120, 121, 122, 123, 49, 48, 51, 50, 124, 125, 126, 127, 128, 129, 130, 131, 132, 133, 134, 135, 136, 137, 138, 139, 140, 141, 142, 143, 144, 145, 146, 147, 148, 149, 150, 151, 674, 675, 676, 677, 678, 679, 680, 681, 682, 683, 684, 685, 686, 687, 688, 707, 708, 709, 710, 711, 712, 713, 714, 715] (by decide +kernel) (by decide +kernel)) (goodIn_sub (fun _ h => List.mem_append_left _ (List.mem_append_left _ (List.mem_append_left _ (List.mem_append_right _ h)))) (by decide +kernel))
set_option maxRecDepth 20000 in
theorem gL_law_L_rebuild : GoodIn wsL_law (va_wsS RL 88 yL_rebuild wsL_rebuild) := goodIn_app (goodIn_of _ (by decide +kernel)) ggL_law_L_rebuild
set_option maxRecDepth 20000 in
theorem ggL_law_X3_rebuild : GoodIn wsL_law wsX3_rebuild := goodIn_r _ [379, 156, 56, 57, 294, 167, 60, 58, 168, 62, 157, 305, 306, 307, 5, 308, 63, 313, 314, 315, 316, 64, 177, 178, 179, 180, 181, 182, 317, 318, 319, 320, 61, 689, 690, 691, 692, 693, 694, 695, 696, 697, 698, 699, 700, 701, 702, 703, 704, 705, 706] (by decide +kernel) (by decide +kernel)
set_option maxRecDepth 20000 in
theorem gL_law_X3_rebuild : GoodIn wsL_law (wsV RL 91 RX3 yX3_rebuild wsX3_rebuild) := goodIn_app (goodIn_of _ (by decide +kernel)) ggL_law_X3_rebuild
set_option maxRecDepth 20000 in
theorem ggL_law_X2_size : GoodIn wsL_law wsX2_size := goodIn_r _ [383, 340, 341, 342, 2, 343, 30, 104, 105, 106, 107, 16, 18, 100, 101, 102, 15, 103, 44, 674, 675, 676, 677, 678, 679, 680, 681, 682, 683, 684, 685, 686, 687, 688, 707, 708] (by decide +kernel) (by decide +kernel)
set_option maxRecDepth 20000 in
theorem gL_law_X2_size : GoodIn wsL_law (wsV RL 92 RX2 yX2_size wsX2_size) := goodIn_app (goodIn_of _ (by decide +kernel)) ggL_law_X2_size
set_option maxRecDepth 20000 in
theorem ggL_law_X3_size : GoodIn wsL_law wsX3_size := goodIn_r _ [387, 156, 348, 349, 350, 5, 351, 352, 353, 354, 355, 356, 167, 60, 58, 168, 62, 689, 690, 691, 692, 693, 694, 695, 696, 697, 698, 699, 700, 701, 702, 703, 704, 705, 706] (by decide +kernel) (by decide +kernel)
set_option maxRecDepth 20000 in
theorem gL_law_X3_size : GoodIn wsL_law (wsV RL 95 RX3 yX3_size wsX3_size) := goodIn_app (goodIn_of _ (by decide +kernel)) ggL_law_X3_size
set_option maxRecDepth 20000 in
theorem ggL_law_X2_contains : GoodIn wsL_law wsX2_contains := goodIn_r _ [391, 210, 211, 212, 2, 213, 16, 18, 17, 205, 206, 207, 15, 208, 43, 209, 89, 90, 91, 44, 92, 93, 94, 95, 96, 97, 98, 99, 214, 674, 675, 676, 677, 678, 679, 680, 681, 682, 683, 684, 685, 686, 687, 688, 707, 708] (by decide +kernel) (by decide +kernel)
set_option maxRecDepth 20000 in
theorem gL_law_X2_contains : GoodIn wsL_law (wsV RL 96 RX2 yX2_contains wsX2_contains) := goodIn_app (goodIn_of _ (by decide +kernel)) ggL_law_X2_contains
set_option maxRecDepth 20000 in
theorem ggL_law_X3_contains : GoodIn wsL_law wsX3_contains := goodIn_r _ [395, 156, 282, 283, 284, 5, 285, 60, 286, 287, 288, 289, 168, 62, 274, 275, 276, 277, 167, 58, 278, 279, 280, 281, 689, 690, 691, 692, 693, 694, 695, 696, 697, 698, 699, 700, 701, 702, 703, 704, 705, 706] (by decide +kernel) (by decide +kernel)
set_option maxRecDepth 20000 in
theorem gL_law_X3_contains : GoodIn wsL_law (wsV RL 100 RX3 yX3_contains wsX3_contains) := goodIn_app (goodIn_of _ (by decide +kernel)) ggL_law_X3_contains
set_option maxRecDepth 20000 in
theorem ggL_law_X2_rank : GoodIn wsL_law wsX2_rank := goodIn_r _ [399, 400, 401, 402, 2, 403, 16, 18, 17, 88, 89, 90, 15, 91, 44, 92, 93, 94, 95, 43, 96, 97, 98, 99, 214, 674, 675, 676, 677, 678, 679, 680, 681, 682, 683, 684, 685, 686, 687, 688, 707, 708] (by decide +kernel) (by decide +kernel)
set_option maxRecDepth 20000 in
theorem gL_law_X2_rank : GoodIn wsL_law (wsV RL 101 RX2 yX2_rank wsX2_rank) := goodIn_app (goodIn_of _ (by decide +kernel)) ggL_law_X2_rank
set_option maxRecDepth 20000 in
theorem ggL_law_X3_rank : GoodIn wsL_law wsX3_rank := goodIn_r _ [407, 156, 353, 354, 355, 5, 356, 167, 60, 58, 168, 62, 689, 690, 691, 692, 693, 694, 695, 696, 697, 698, 699, 700, 701, 702, 703, 704, 705, 706] (by decide +kernel) (by decide +kernel)
set_option maxRecDepth 20000 in
theorem gL_law_X3_rank : GoodIn wsL_law (wsV RL 104 RX3 yX3_rank wsX3_rank) := goodIn_app (goodIn_of _ (by decide +kernel)) ggL_law_X3_rank
set_option maxRecDepth 20000 in
theorem ggL_law_L_select : GoodIn wsL_law wsL_select := goodIn_ca (goodIn_r _ [410, 411, 412, 413, 414, 2, 415, 416, 417, 340, 341, 342, 343, 30, 104, 105, 106, 107, 16, 18, 100, 101, 102, 15, 103, 44, 418, 419, 420, 421, 26, 372, 373, 374, 375, 229, 230, 231, 232, 233, 234, 235, 236, 17, 214, 93, 94, 95, 43, 96, 97, 98, 99, 112, 113, 114, 115, 674, 675, 676, 677, 678, 679, 680, 681, 682, 683, 684, 685, 686, 687, 688, 707, 708] (by decide +kernel) (by decide +kernel)) (goodIn_sub (fun _ h => List.mem_append_right _ h) (by decide +kernel))
set_option maxRecDepth 20000 in
theorem gL_law_L_select : GoodIn wsL_law (va_wsS RL 105 yL_select wsL_select) := goodIn_app (goodIn_of _ (by decide +kernel)) ggL_law_L_select
set_option maxRecDepth 20000 in
theorem ggL_law_X3_select : GoodIn wsL_law wsX3_select := goodIn_r _ [425, 156, 348, 349, 350, 5, 351, 352, 353, 354, 355, 356, 167, 60, 58, 168, 62, 426, 427, 428, 429, 689, 690, 691, 692, 693, 694, 695, 696, 697, 698, 699, 700, 701, 702, 703, 704, 705, 706] (by decide +kernel) (by decide +kernel)
set_option maxRecDepth 20000 in
theorem gL_law_X3_select : GoodIn wsL_law (wsV RL 107 RX3 yX3_select wsX3_select) := goodIn_app (goodIn_of _ (by decide +kernel)) ggL_law_X3_select
set_option maxRecDepth 20000 in
theorem ggL_law_L_ceiling : GoodIn wsL_law wsL_ceiling := goodIn_ca (goodIn_r _ [432, 329, 433, 434, 435, 2, 436, 334, 335, 400, 401, 402, 403, 16, 18, 17, 88, 89, 90, 15, 91, 44, 92, 93, 94, 95, 43, 96, 97, 98, 99, 214, 340, 341, 342, 343, 30, 104, 105, 106, 107, 100, 101, 102, 103, 418, 419, 420, 421, 26, 372, 373, 374, 375, 229, 230, 231, 232, 233, 234, 235, 236, 112, 113, 114, 115, 674, 675, 676, 677, 678, 679, 680, 681, 682, 683, 684, 685, 686, 687, 688, 707, 708] (by decide +kernel) (by decide +kernel)) (goodIn_sub (fun _ h => List.mem_append_left _ (List.mem_append_right _ h)) (by decide +kernel))
set_option maxRecDepth 20000 in
theorem gL_law_L_ceiling : GoodIn wsL_law (va_wsS RL 108 yL_ceiling wsL_ceiling) := goodIn_app (goodIn_of _ (by decide +kernel)) ggL_law_L_ceiling
set_option maxRecDepth 20000 in
theorem ggL_law_X3_ceiling : GoodIn wsL_law wsX3_ceiling := goodIn_r _ [440, 156, 353, 354, 355, 5, 356, 167, 60, 58, 168, 62, 348, 349, 350, 351, 352, 426, 427, 428, 429, 689, 690, 691, 692, 693, 694, 695, 696, 697, 698, 699, 700, 701, 702, 703, 704, 705, 706] (by decide +kernel) (by decide +kernel)
set_option maxRecDepth 20000 in
theorem gL_law_X3_ceiling : GoodIn wsL_law (wsV RL 110 RX3 yX3_ceiling wsX3_ceiling) := goodIn_app (goodIn_of _ (by decide +kernel)) ggL_law_X3_ceiling
set_option maxRecDepth 20000 in
theorem ggL_law_X2_count : GoodIn wsL_law wsX2_count := goodIn_r _ [444, 400, 401, 402, 2, 403, 16, 18, 17, 88, 89, 90, 15, 91, 44, 92, 93, 94, 95, 43, 96, 97, 98, 99, 214, 210, 211, 212, 213, 205, 206, 207, 208, 209, 674, 675, 676, 677, 678, 679, 680, 681, 682, 683, 684, 685, 686, 687, 688, 707, 708] (by decide +kernel) (by decide +kernel)
set_option maxRecDepth 20000 in
theorem gL_law_X2_count : GoodIn wsL_law (wsV RL 111 RX2 yX2_count wsX2_count) := goodIn_app (goodIn_of _ (by decide +kernel)) ggL_law_X2_count
set_option maxRecDepth 20000 in
theorem ggL_law_X3_count : GoodIn wsL_law wsX3_count := goodIn_r _ [448, 156, 353, 354, 355, 5, 356, 167, 60, 58, 168, 62, 689, 690, 691, 692, 693, 694, 695, 696, 697, 698, 699, 700, 701, 702, 703, 704, 705, 706] (by decide +kernel) (by decide +kernel)
set_option maxRecDepth 20000 in
theorem gL_law_X3_count : GoodIn wsL_law (wsV RL 114 RX3 yX3_count wsX3_count) := goodIn_app (goodIn_of _ (by decide +kernel)) ggL_law_X3_count
set_option maxRecDepth 20000 in
theorem ggL_law_X2_place : GoodIn wsL_law wsX2_place := goodIn_r _ [452, 16, 88, 89, 90, 15, 91, 44, 92, 93, 94, 95, 43, 96, 97, 98, 99, 674, 675, 676, 677, 678, 679, 680, 681, 682, 683, 684, 685, 686, 687, 688, 707, 708] (by decide +kernel) (by decide +kernel)
set_option maxRecDepth 20000 in
theorem gL_law_X2_place : GoodIn wsL_law (wsV RL 115 RX2 yX2_place wsX2_place) := goodIn_app (goodIn_of _ (by decide +kernel)) ggL_law_X2_place
set_option maxRecDepth 20000 in
theorem ggL_law_X3_place : GoodIn wsL_law wsX3_place := goodIn_r _ [456, 156, 278, 279, 280, 5, 281, 167, 58, 689, 690, 691, 692, 693, 694, 695, 696, 697, 698, 699, 700, 701, 702, 703, 704, 705, 706] (by decide +kernel) (by decide +kernel)
set_option maxRecDepth 20000 in
theorem gL_law_X3_place : GoodIn wsL_law (wsV RL 118 RX3 yX3_place wsX3_place) := goodIn_app (goodIn_of _ (by decide +kernel)) ggL_law_X3_place
set_option maxRecDepth 20000 in
theorem ggL_law_L_guess : GoodIn wsL_law wsL_guess := goodIn_ca (goodIn_r _ [459, 69, 460, 461, 462, 2, 463, 75, 76, 77, 78, 79, 80, 81, 464, 465, 466, 467, 16, 19, 88, 89, 90, 15, 91, 44, 92, 93, 94, 95, 43, 96, 97, 98, 99, 468, 469, 470, 471, 21, 472, 20, 214, 245, 246, 247, 248, 473, 474, 475, 476, 674, 675, 676, 677, 678, 679, 680, 681, 682, 683, 684, 685, 686, 687, 688, 707, 708] (by decide +kernel) (by decide +kernel)) (goodIn_sub (fun _ h => List.mem_append_left _ (List.mem_append_left _ (List.mem_append_left _ (List.mem_append_right _ h)))) (by decide +kernel))
set_option maxRecDepth 20000 in
theorem gL_law_L_guess : GoodIn wsL_law (va_wsS RL 119 yL_guess wsL_guess) := goodIn_app (goodIn_of _ (by decide +kernel)) ggL_law_L_guess
set_option maxRecDepth 20000 in
theorem ggL_law_X3_guess : GoodIn wsL_law wsX3_guess := goodIn_r _ [480, 156, 481, 158, 159, 5, 160, 161, 162, 309, 310, 311, 312, 157, 58, 61, 482, 483, 484, 485, 181, 182, 486, 487, 488, 489, 301, 302, 303, 304, 167, 177, 178, 179, 180, 56, 490, 491, 492, 689, 690, 691, 692, 693, 694, 695, 696, 697, 698, 699, 700, 701, 702, 703, 704, 705, 706] (by decide +kernel) (by decide +kernel)
set_option maxRecDepth 20000 in
theorem gL_law_X3_guess : GoodIn wsL_law (wsV RL 121 RX3 yX3_guess wsX3_guess) := goodIn_app (goodIn_of _ (by decide +kernel)) ggL_law_X3_guess
set_option maxRecDepth 20000 in
theorem ggL_law_L_looks : GoodIn wsL_law wsL_looks := goodIn_ca (goodIn_r _ [495, 69, 496, 497, 498, 2, 499, 75, 76, 77, 78, 79, 80, 81, 464, 465, 466, 467, 16, 19, 88, 89, 90, 15, 91, 44, 92, 93, 94, 95, 43, 96, 97, 98, 99, 500, 501, 502, 503, 28, 504, 505, 40, 506, 507, 508, 509, 468, 469, 470, 471, 21, 472, 20, 214, 245, 246, 247, 248, 473, 474, 475, 476, 250, 251, 252, 253, 249, 100, 101, 102, 103, 674, 675, 676, 677, 678, 679, 680, 681, 682, 683, 684, 685, 686, 687, 688, 707, 708] (by decide +kernel) (by decide +kernel)) (goodIn_sub (fun _ h => List.mem_append_left _ (List.mem_append_left _ (List.mem_append_left _ (List.mem_append_right _ h)))) (by decide +kernel))
set_option maxRecDepth 20000 in
theorem gL_law_L_looks : GoodIn wsL_law (va_wsS RL 122 yL_looks wsL_looks) := goodIn_app (goodIn_of _ (by decide +kernel)) ggL_law_L_looks
set_option maxRecDepth 20000 in
theorem ggL_law_X3_looks : GoodIn wsL_law wsX3_looks := goodIn_r _ [513, 156, 56, 61, 514, 58, 158, 159, 5, 160, 161, 162, 309, 310, 311, 312, 157, 482, 483, 484, 485, 181, 182, 486, 487, 488, 489, 301, 302, 303, 304, 167, 177, 178, 179, 180, 490, 491, 492, 689, 690, 691, 692, 693, 694, 695, 696, 697, 698, 699, 700, 701, 702, 703, 704, 705, 706] (by decide +kernel) (by decide +kernel)
set_option maxRecDepth 20000 in
theorem gL_law_X3_looks : GoodIn wsL_law (wsV RL 124 RX3 yX3_looks wsX3_looks) := goodIn_app (goodIn_of _ (by decide +kernel)) ggL_law_X3_looks
set_option maxRecDepth 20000 in
theorem ggL_law_X2_worstError : GoodIn wsL_law wsX2_worstError := goodIn_r _ [518, 19, 16, 519, 520, 40, 521, 504, 505, 506, 100, 101, 102, 15, 103, 44, 250, 251, 252, 2, 253, 249, 97, 98, 99, 43, 214, 93, 94, 95, 96, 468, 469, 470, 471, 21, 472, 20, 245, 246, 247, 248, 473, 474, 475, 476, 674, 675, 676, 677, 678, 679, 680, 681, 682, 683, 684, 685, 686, 687, 688, 707, 708] (by decide +kernel) (by decide +kernel)
set_option maxRecDepth 20000 in
theorem gL_law_X2_worstError : GoodIn wsL_law (wsV RL 125 RX2 yX2_worstError wsX2_worstError) := goodIn_app (goodIn_of _ (by decide +kernel)) ggL_law_X2_worstError
set_option maxRecDepth 20000 in
theorem ggL_law_X3_worstError : GoodIn wsL_law wsX3_worstError := goodIn_r _ [525, 156, 167, 58, 309, 310, 311, 5, 312, 157, 61, 482, 483, 484, 485, 181, 182, 486, 487, 488, 489, 301, 302, 303, 304, 177, 178, 179, 180, 56, 490, 491, 492, 689, 690, 691, 692, 693, 694, 695, 696, 697, 698, 699, 700, 701, 702, 703, 704, 705, 706] (by decide +kernel) (by decide +kernel)
end
section
set_option maxRecDepth 20000 in
theorem gL_law_X3_worstError : GoodIn wsL_law (wsV RL 128 RX3 yX3_worstError wsX3_worstError) := goodIn_app (goodIn_of _ (by decide +kernel)) ggL_law_X3_worstError
set_option maxRecDepth 20000 in
theorem ggL_law_X2_pieces : GoodIn wsL_law wsX2_pieces := goodIn_r _ [529, 19, 100, 101, 102, 15, 103, 44, 674, 675, 676, 677, 678, 679, 680, 681, 682, 683, 684, 685, 686, 687, 688, 707, 708] (by decide +kernel) (by decide +kernel)
set_option maxRecDepth 20000 in
theorem gL_law_X2_pieces : GoodIn wsL_law (wsV RL 129 RX2 yX2_pieces wsX2_pieces) := goodIn_app (goodIn_of _ (by decide +kernel)) ggL_law_X2_pieces
set_option maxRecDepth 20000 in
theorem ggL_law_X3_pieces : GoodIn wsL_law wsX3_pieces := goodIn_r _ [533, 156, 157, 689, 690, 691, 692, 693, 694, 695, 696, 697, 698, 699, 700, 701, 702, 703, 704, 705, 706] (by decide +kernel) (by decide +kernel)
set_option maxRecDepth 20000 in
theorem gL_law_X3_pieces : GoodIn wsL_law (wsV RL 132 RX3 yX3_pieces wsX3_pieces) := goodIn_app (goodIn_of _ (by decide +kernel)) ggL_law_X3_pieces
set_option maxRecDepth 20000 in
theorem ggL_law_L_start : GoodIn wsL_law wsL_start := goodIn_ca (goodIn_r _ [536, 411, 537, 538, 539, 2, 540, 19, 541, 542, 543, 544, 416, 417, 249, 97, 98, 15, 99, 44, 43, 214, 93, 94, 95, 96, 674, 675, 676, 677, 678, 679, 680, 681, 682, 683, 684, 685, 686, 687, 688, 707, 708] (by decide +kernel) (by decide +kernel)) (goodIn_sub (fun _ h => List.mem_append_right _ h) (by decide +kernel))
set_option maxRecDepth 20000 in
theorem gL_law_L_start : GoodIn wsL_law (va_wsS RL 133 yL_start wsL_start) := goodIn_app (goodIn_of _ (by decide +kernel)) ggL_law_L_start
set_option maxRecDepth 20000 in
theorem ggL_law_X3_start : GoodIn wsL_law wsX3_start := goodIn_r _ [548, 61, 549, 550, 551, 5, 552, 157, 156, 689, 690, 691, 692, 693, 694, 695, 696, 697, 698, 699, 700, 701, 702, 703, 704, 705, 706] (by decide +kernel) (by decide +kernel)
set_option maxRecDepth 20000 in
theorem gL_law_X3_start : GoodIn wsL_law (wsV RL 135 RX3 yX3_start wsX3_start) := goodIn_app (goodIn_of _ (by decide +kernel)) ggL_law_X3_start
set_option maxRecDepth 20000 in
theorem ggL_law_L_firstKey : GoodIn wsL_law wsL_firstKey := goodIn_ca (goodIn_r _ [555, 411, 556, 557, 558, 2, 559, 541, 542, 543, 544, 416, 417, 19, 249, 97, 98, 15, 99, 44, 43, 245, 246, 247, 248, 16, 214, 93, 94, 95, 96, 674, 675, 676, 677, 678, 679, 680, 681, 682, 683, 684, 685, 686, 687, 688, 707, 708] (by decide +kernel) (by decide +kernel)) (goodIn_sub (fun _ h => List.mem_append_right _ h) (by decide +kernel))
set_option maxRecDepth 20000 in
theorem gL_law_L_firstKey : GoodIn wsL_law (va_wsS RL 136 yL_firstKey wsL_firstKey) := goodIn_app (goodIn_of _ (by decide +kernel)) ggL_law_L_firstKey
set_option maxRecDepth 20000 in
theorem ggL_law_X3_firstKey : GoodIn wsL_law wsX3_firstKey := goodIn_r _ [563, 58, 61, 549, 550, 551, 5, 552, 157, 156, 689, 690, 691, 692, 693, 694, 695, 696, 697, 698, 699, 700, 701, 702, 703, 704, 705, 706] (by decide +kernel) (by decide +kernel)
set_option maxRecDepth 20000 in
theorem gL_law_X3_firstKey : GoodIn wsL_law (wsV RL 138 RX3 yX3_firstKey wsX3_firstKey) := goodIn_app (goodIn_of _ (by decide +kernel)) ggL_law_X3_firstKey
set_option maxRecDepth 20000 in
theorem ggL_law_L_rise : GoodIn wsL_law wsL_rise := goodIn_ca (goodIn_r _ [566, 411, 567, 568, 569, 2, 570, 20, 541, 542, 543, 544, 416, 417, 19, 249, 97, 98, 15, 99, 44, 43, 214, 93, 94, 95, 96, 674, 675, 676, 677, 678, 679, 680, 681, 682, 683, 684, 685, 686, 687, 688, 707, 708] (by decide +kernel) (by decide +kernel)) (goodIn_sub (fun _ h => List.mem_append_right _ h) (by decide +kernel))
set_option maxRecDepth 20000 in
theorem gL_law_L_rise : GoodIn wsL_law (va_wsS RL 139 yL_rise wsL_rise) := goodIn_app (goodIn_of _ (by decide +kernel)) ggL_law_L_rise
set_option maxRecDepth 20000 in
theorem ggL_law_X3_rise : GoodIn wsL_law wsX3_rise := goodIn_r _ [574, 549, 550, 551, 5, 552, 157, 156, 575, 576, 577, 578, 181, 486, 487, 488, 489, 58, 61, 182, 301, 302, 303, 304, 167, 177, 178, 179, 180, 56, 490, 491, 492, 689, 690, 691, 692, 693, 694, 695, 696, 697, 698, 699, 700, 701, 702, 703, 704, 705, 706] (by decide +kernel) (by decide +kernel)
set_option maxRecDepth 20000 in
theorem gL_law_X3_rise : GoodIn wsL_law (wsV RL 141 RX3 yX3_rise wsX3_rise) := goodIn_app (goodIn_of _ (by decide +kernel)) ggL_law_X3_rise
set_option maxRecDepth 20000 in
theorem ggL_law_L_run : GoodIn wsL_law wsL_run := goodIn_ca (goodIn_r _ [581, 411, 582, 583, 584, 2, 585, 21, 541, 542, 543, 544, 416, 417, 19, 249, 97, 98, 15, 99, 44, 43, 214, 93, 94, 95, 96, 674, 675, 676, 677, 678, 679, 680, 681, 682, 683, 684, 685, 686, 687, 688, 707, 708] (by decide +kernel) (by decide +kernel)) (goodIn_sub (fun _ h => List.mem_append_right _ h) (by decide +kernel))
set_option maxRecDepth 20000 in
theorem gL_law_L_run : GoodIn wsL_law (va_wsS RL 142 yL_run wsL_run) := goodIn_app (goodIn_of _ (by decide +kernel)) ggL_law_L_run
set_option maxRecDepth 20000 in
theorem ggL_law_X3_run : GoodIn wsL_law wsX3_run := goodIn_r _ [589, 549, 550, 551, 5, 552, 157, 156, 590, 591, 592, 593, 182, 486, 487, 488, 489, 58, 61, 181, 301, 302, 303, 304, 167, 177, 178, 179, 180, 56, 490, 491, 492, 689, 690, 691, 692, 693, 694, 695, 696, 697, 698, 699, 700, 701, 702, 703, 704, 705, 706] (by decide +kernel) (by decide +kernel)
set_option maxRecDepth 20000 in
theorem gL_law_X3_run : GoodIn wsL_law (wsV RL 144 RX3 yX3_run wsX3_run) := goodIn_app (goodIn_of _ (by decide +kernel)) ggL_law_X3_run
set_option maxRecDepth 20000 in
theorem ggL_law_X2_slopes : GoodIn wsL_law wsX2_slopes := goodIn_r _ [597, 19, 100, 101, 102, 15, 103, 44, 598, 599, 600, 2, 601, 602, 603, 604, 605, 20, 21, 214, 93, 94, 95, 43, 96, 97, 98, 99, 674, 675, 676, 677, 678, 679, 680, 681, 682, 683, 684, 685, 686, 687, 688, 707, 708] (by decide +kernel) (by decide +kernel)
set_option maxRecDepth 20000 in
theorem gL_law_X2_slopes : GoodIn wsL_law (wsV RL 145 RX2 yX2_slopes wsX2_slopes) := goodIn_app (goodIn_of _ (by decide +kernel)) ggL_law_X2_slopes
set_option maxRecDepth 20000 in
theorem ggL_law_X3_slopes : GoodIn wsL_law wsX3_slopes := goodIn_r _ [609, 156, 157, 610, 611, 612, 5, 613, 575, 576, 577, 578, 181, 486, 487, 488, 489, 58, 61, 182, 301, 302, 303, 304, 167, 177, 178, 179, 180, 56, 490, 491, 492, 590, 591, 592, 593, 689, 690, 691, 692, 693, 694, 695, 696, 697, 698, 699, 700, 701, 702, 703, 704, 705, 706] (by decide +kernel) (by decide +kernel)
set_option maxRecDepth 20000 in
theorem gL_law_X3_slopes : GoodIn wsL_law (wsV RL 148 RX3 yX3_slopes wsX3_slopes) := goodIn_app (goodIn_of _ (by decide +kernel)) ggL_law_X3_slopes
set_option maxRecDepth 20000 in
theorem ggL_law_X2_commonest : GoodIn wsL_law wsX2_commonest := goodIn_r _ [617, 19, 100, 101, 102, 15, 103, 44, 618, 619, 620, 2, 621, 602, 603, 604, 605, 20, 21, 214, 93, 94, 95, 43, 96, 97, 98, 99, 674, 675, 676, 677, 678, 679, 680, 681, 682, 683, 684, 685, 686, 687, 688, 707, 708] (by decide +kernel) (by decide +kernel)
set_option maxRecDepth 20000 in
theorem gL_law_X2_commonest : GoodIn wsL_law (wsV RL 149 RX2 yX2_commonest wsX2_commonest) := goodIn_app (goodIn_of _ (by decide +kernel)) ggL_law_X2_commonest
set_option maxRecDepth 20000 in
theorem ggL_law_X3_commonest : GoodIn wsL_law wsX3_commonest := goodIn_r _ [625, 156, 157, 610, 611, 612, 5, 613, 575, 576, 577, 578, 181, 486, 487, 488, 489, 58, 61, 182, 301, 302, 303, 304, 167, 177, 178, 179, 180, 56, 490, 491, 492, 590, 591, 592, 593, 689, 690, 691, 692, 693, 694, 695, 696, 697, 698, 699, 700, 701, 702, 703, 704, 705, 706] (by decide +kernel) (by decide +kernel)
set_option maxRecDepth 20000 in
theorem gL_law_X3_commonest : GoodIn wsL_law (wsV RL 152 RX3 yX3_commonest wsX3_commonest) := goodIn_app (goodIn_of _ (by decide +kernel)) ggL_law_X3_commonest
set_option maxRecDepth 20000 in
theorem ggL_law_X2_buffered : GoodIn wsL_law wsX2_buffered := goodIn_r _ [629, 18, 100, 101, 102, 15, 103, 44, 674, 675, 676, 677, 678, 679, 680, 681, 682, 683, 684, 685, 686, 687, 688, 707, 708] (by decide +kernel) (by decide +kernel)
set_option maxRecDepth 20000 in
theorem gL_law_X2_buffered : GoodIn wsL_law (wsV RL 153 RX2 yX2_buffered wsX2_buffered) := goodIn_app (goodIn_of _ (by decide +kernel)) ggL_law_X2_buffered
set_option maxRecDepth 20000 in
theorem ggL_law_X3_buffered : GoodIn wsL_law wsX3_buffered := goodIn_r _ [633, 156, 168, 689, 690, 691, 692, 693, 694, 695, 696, 697, 698, 699, 700, 701, 702, 703, 704, 705, 706] (by decide +kernel) (by decide +kernel)
set_option maxRecDepth 20000 in
theorem gL_law_X3_buffered : GoodIn wsL_law (wsV RL 156 RX3 yX3_buffered wsX3_buffered) := goodIn_app (goodIn_of _ (by decide +kernel)) ggL_law_X3_buffered
set_option maxRecDepth 20000 in
theorem ggL_law_X2_marked : GoodIn wsL_law wsX2_marked := goodIn_r _ [637, 30, 674, 675, 676, 677, 678, 679, 680, 681, 682, 683, 684, 685, 686, 687, 688] (by decide +kernel) (by decide +kernel)
set_option maxRecDepth 20000 in
theorem gL_law_X2_marked : GoodIn wsL_law (wsV RL 157 RX2 yX2_marked wsX2_marked) := goodIn_app (goodIn_of _ (by decide +kernel)) ggL_law_X2_marked
set_option maxRecDepth 20000 in
theorem ggL_law_X3_marked : GoodIn wsL_law wsX3_marked := goodIn_r _ [641, 156, 167, 60, 689, 690, 691, 692, 693, 694, 695, 696, 697, 698, 699, 700, 701, 702, 703, 704, 705, 706] (by decide +kernel) (by decide +kernel)
set_option maxRecDepth 20000 in
theorem gL_law_X3_marked : GoodIn wsL_law (wsV RL 160 RX3 yX3_marked wsX3_marked) := goodIn_app (goodIn_of _ (by decide +kernel)) ggL_law_X3_marked
set_option maxRecDepth 20000 in
theorem ggL_law_X2_rowSize : GoodIn wsL_law wsX2_rowSize := goodIn_r _ [645, 16, 100, 101, 102, 15, 103, 44, 674, 675, 676, 677, 678, 679, 680, 681, 682, 683, 684, 685, 686, 687, 688, 707, 708] (by decide +kernel) (by decide +kernel)
set_option maxRecDepth 20000 in
theorem gL_law_X2_rowSize : GoodIn wsL_law (wsV RL 161 RX2 yX2_rowSize wsX2_rowSize) := goodIn_app (goodIn_of _ (by decide +kernel)) ggL_law_X2_rowSize
set_option maxRecDepth 20000 in
theorem ggL_law_X3_rowSize : GoodIn wsL_law wsX3_rowSize := goodIn_r _ [649, 156, 167, 689, 690, 691, 692, 693, 694, 695, 696, 697, 698, 699, 700, 701, 702, 703, 704, 705, 706] (by decide +kernel) (by decide +kernel)
set_option maxRecDepth 20000 in
theorem gL_law_X3_rowSize : GoodIn wsL_law (wsV RL 164 RX3 yX3_rowSize wsX3_rowSize) := goodIn_app (goodIn_of _ (by decide +kernel)) ggL_law_X3_rowSize
set_option maxRecDepth 20000 in
theorem ggL_law_X2_merges : GoodIn wsL_law wsX2_merges := goodIn_r _ [653, 31, 674, 675, 676, 677, 678, 679, 680, 681, 682, 683, 684, 685, 686, 687, 688] (by decide +kernel) (by decide +kernel)
set_option maxRecDepth 20000 in
theorem gL_law_X2_merges : GoodIn wsL_law (wsV RL 165 RX2 yX2_merges wsX2_merges) := goodIn_app (goodIn_of _ (by decide +kernel)) ggL_law_X2_merges
set_option maxRecDepth 20000 in
theorem ggL_law_X3_merges : GoodIn wsL_law wsX3_merges := goodIn_r _ [657, 156, 296, 689, 690, 691, 692, 693, 694, 695, 696, 697, 698, 699, 700, 701, 702, 703, 704, 705, 706] (by decide +kernel) (by decide +kernel)
set_option maxRecDepth 20000 in
theorem gL_law_X3_merges : GoodIn wsL_law (wsV RL 168 RX3 yX3_merges wsX3_merges) := goodIn_app (goodIn_of _ (by decide +kernel)) ggL_law_X3_merges
set_option maxRecDepth 20000 in
theorem ggL_law_X2_splits : GoodIn wsL_law wsX2_splits := goodIn_r _ [661, 32, 674, 675, 676, 677, 678, 679, 680, 681, 682, 683, 684, 685, 686, 687, 688] (by decide +kernel) (by decide +kernel)
set_option maxRecDepth 20000 in
theorem gL_law_X2_splits : GoodIn wsL_law (wsV RL 169 RX2 yX2_splits wsX2_splits) := goodIn_app (goodIn_of _ (by decide +kernel)) ggL_law_X2_splits
set_option maxRecDepth 20000 in
theorem ggL_law_X3_splits : GoodIn wsL_law wsX3_splits := goodIn_r _ [665, 156, 295, 689, 690, 691, 692, 693, 694, 695, 696, 697, 698, 699, 700, 701, 702, 703, 704, 705, 706] (by decide +kernel) (by decide +kernel)
set_option maxRecDepth 20000 in
theorem gL_law_X3_splits : GoodIn wsL_law (wsV RL 172 RX3 yX3_splits wsX3_splits) := goodIn_app (goodIn_of _ (by decide +kernel)) ggL_law_X3_splits
set_option maxRecDepth 20000 in
theorem ggL_law_X2_joins : GoodIn wsL_law wsX2_joins := goodIn_r _ [669, 33, 674, 675, 676, 677, 678, 679, 680, 681, 682, 683, 684, 685, 686, 687, 688] (by decide +kernel) (by decide +kernel)
set_option maxRecDepth 20000 in
theorem gL_law_X2_joins : GoodIn wsL_law (wsV RL 173 RX2 yX2_joins wsX2_joins) := goodIn_app (goodIn_of _ (by decide +kernel)) ggL_law_X2_joins
set_option maxRecDepth 20000 in
theorem ggL_law_X3_joins : GoodIn wsL_law wsX3_joins := goodIn_r _ [673, 156, 325, 689, 690, 691, 692, 693, 694, 695, 696, 697, 698, 699, 700, 701, 702, 703, 704, 705, 706] (by decide +kernel) (by decide +kernel)
set_option maxRecDepth 20000 in
theorem gL_law_X3_joins : GoodIn wsL_law (wsV RL 176 RX3 yX3_joins wsX3_joins) := goodIn_app (goodIn_of _ (by decide +kernel)) ggL_law_X3_joins
theorem dL_law_0 : decode cL_law 0 = .ok (.new 8, 3) := by decide +kernel
theorem dL_law_3 : decode cL_law 3 = .ok (.dup, 1) := by decide +kernel
theorem dL_law_4 : decode cL_law 4 = .ok (.invokespecial 60, 3) := by decide +kernel
theorem dL_law_7 : decode cL_law 7 = .ok (.astore_n 1, 1) := by decide +kernel
theorem dL_law_8 : decode cL_law 8 = .ok (.new 61, 3) := by decide +kernel
theorem dL_law_11 : decode cL_law 11 = .ok (.dup, 1) := by decide +kernel
theorem dL_law_12 : decode cL_law 12 = .ok (.invokespecial 63, 3) := by decide +kernel
theorem dL_law_15 : decode cL_law 15 = .ok (.astore_n 2, 1) := by decide +kernel
theorem dL_law_16 : decode cL_law 16 = .ok (.iconst 1, 1) := by decide +kernel
theorem dL_law_17 : decode cL_law 17 = .ok (.newarray .long, 2) := by decide +kernel
theorem dL_law_19 : decode cL_law 19 = .ok (.astore_n 3, 1) := by decide +kernel
theorem dL_law_20 : decode cL_law 20 = .ok (.iconst 0, 1) := by decide +kernel
theorem dL_law_21 : decode cL_law 21 = .ok (.istore 4, 2) := by decide +kernel
theorem dL_law_23 : decode cL_law 23 = .ok (.iload 4, 2) := by decide +kernel
theorem dL_law_25 : decode cL_law 25 = .ok (.aload_n 0, 1) := by decide +kernel
theorem dL_law_26 : decode cL_law 26 = .ok (.arraylength, 1) := by decide +kernel
theorem dL_law_27 : decode cL_law 27 = .ok (.iconst 4, 1) := by decide +kernel
theorem dL_law_28 : decode cL_law 28 = .ok (.isub, 1) := by decide +kernel
theorem dL_law_29 : decode cL_law 29 = .ok (.if_icmp .gt 1176, 3) := by decide +kernel
theorem dL_law_32 : decode cL_law 32 = .ok (.aload_n 0, 1) := by decide +kernel
theorem dL_law_33 : decode cL_law 33 = .ok (.iload 4, 2) := by decide +kernel
theorem dL_law_35 : decode cL_law 35 = .ok (.iaload, 1) := by decide +kernel
theorem dL_law_36 : decode cL_law 36 = .ok (.bipush 31, 2) := by decide +kernel
theorem dL_law_38 : decode cL_law 38 = .ok (.iand, 1) := by decide +kernel
theorem dL_law_39 : decode cL_law 39 = .ok (.tableswitch 1160 0 28 #[129, 185, 265, 321, 377, 390, 458, 471, 496, 521, 577, 633, 670, 695, 750, 806, 819, 832, 888, 944, 1000, 1056, 1069, 1082, 1095, 1108, 1121, 1134, 1147], 129) := by decide +kernel
theorem dL_law_168 : decode cL_law 168 = .ok (.aload_n 1, 1) := by decide +kernel
theorem dL_law_169 : decode cL_law 169 = .ok (.aload_n 0, 1) := by decide +kernel
theorem dL_law_170 : decode cL_law 170 = .ok (.iload 4, 2) := by decide +kernel
theorem dL_law_172 : decode cL_law 172 = .ok (.iconst 1, 1) := by decide +kernel
theorem dL_law_173 : decode cL_law 173 = .ok (.iadd, 1) := by decide +kernel
theorem dL_law_174 : decode cL_law 174 = .ok (.iaload, 1) := by decide +kernel
theorem dL_law_175 : decode cL_law 175 = .ok (.aload_n 3, 1) := by decide +kernel
theorem dL_law_176 : decode cL_law 176 = .ok (.invokestatic 64, 3) := by decide +kernel
theorem dL_law_179 : decode cL_law 179 = .ok (.istore 5, 2) := by decide +kernel
theorem dL_law_181 : decode cL_law 181 = .ok (.aload_n 2, 1) := by decide +kernel
theorem dL_law_182 : decode cL_law 182 = .ok (.aload_n 0, 1) := by decide +kernel
theorem dL_law_183 : decode cL_law 183 = .ok (.iload 4, 2) := by decide +kernel
theorem dL_law_185 : decode cL_law 185 = .ok (.iconst 1, 1) := by decide +kernel
theorem dL_law_186 : decode cL_law 186 = .ok (.iadd, 1) := by decide +kernel
theorem dL_law_187 : decode cL_law 187 = .ok (.iaload, 1) := by decide +kernel
theorem dL_law_188 : decode cL_law 188 = .ok (.invokevirtual 69, 3) := by decide +kernel
theorem dL_law_191 : decode cL_law 191 = .ok (.istore 6, 2) := by decide +kernel
theorem dL_law_193 : decode cL_law 193 = .ok (.aload_n 2, 1) := by decide +kernel
theorem dL_law_194 : decode cL_law 194 = .ok (.invokevirtual 70, 3) := by decide +kernel
theorem dL_law_197 : decode cL_law 197 = .ok (.iload 5, 2) := by decide +kernel
theorem dL_law_199 : decode cL_law 199 = .ok (.if_icmp .eq 5, 3) := by decide +kernel
theorem dL_law_202 : decode cL_law 202 = .ok (.iconst 0, 1) := by decide +kernel
theorem dL_law_203 : decode cL_law 203 = .ok (.ireturn, 1) := by decide +kernel
theorem dL_law_204 : decode cL_law 204 = .ok (.iload 5, 2) := by decide +kernel
theorem dL_law_206 : decode cL_law 206 = .ok (.ifCond .ne 15, 3) := by decide +kernel
theorem dL_law_209 : decode cL_law 209 = .ok (.aload_n 3, 1) := by decide +kernel
theorem dL_law_210 : decode cL_law 210 = .ok (.iconst 0, 1) := by decide +kernel
theorem dL_law_211 : decode cL_law 211 = .ok (.laload, 1) := by decide +kernel
theorem dL_law_212 : decode cL_law 212 = .ok (.iload 6, 2) := by decide +kernel
theorem dL_law_214 : decode cL_law 214 = .ok (.i2l, 1) := by decide +kernel
theorem dL_law_215 : decode cL_law 215 = .ok (.lcmp, 1) := by decide +kernel
theorem dL_law_216 : decode cL_law 216 = .ok (.ifCond .eq 5, 3) := by decide +kernel
theorem dL_law_219 : decode cL_law 219 = .ok (.iconst 0, 1) := by decide +kernel
theorem dL_law_220 : decode cL_law 220 = .ok (.ireturn, 1) := by decide +kernel
theorem dL_law_221 : decode cL_law 221 = .ok (.goto 978, 3) := by decide +kernel
theorem dL_law_224 : decode cL_law 224 = .ok (.aload_n 1, 1) := by decide +kernel
theorem dL_law_225 : decode cL_law 225 = .ok (.aload_n 0, 1) := by decide +kernel
theorem dL_law_226 : decode cL_law 226 = .ok (.iload 4, 2) := by decide +kernel
theorem dL_law_228 : decode cL_law 228 = .ok (.iconst 1, 1) := by decide +kernel
theorem dL_law_229 : decode cL_law 229 = .ok (.iadd, 1) := by decide +kernel
theorem dL_law_230 : decode cL_law 230 = .ok (.iaload, 1) := by decide +kernel
theorem dL_law_231 : decode cL_law 231 = .ok (.aload_n 0, 1) := by decide +kernel
theorem dL_law_232 : decode cL_law 232 = .ok (.iload 4, 2) := by decide +kernel
theorem dL_law_234 : decode cL_law 234 = .ok (.iconst 2, 1) := by decide +kernel
theorem dL_law_235 : decode cL_law 235 = .ok (.iadd, 1) := by decide +kernel
theorem dL_law_236 : decode cL_law 236 = .ok (.iaload, 1) := by decide +kernel
theorem dL_law_237 : decode cL_law 237 = .ok (.aload_n 0, 1) := by decide +kernel
theorem dL_law_238 : decode cL_law 238 = .ok (.iload 4, 2) := by decide +kernel
theorem dL_law_240 : decode cL_law 240 = .ok (.iconst 3, 1) := by decide +kernel
theorem dL_law_241 : decode cL_law 241 = .ok (.iadd, 1) := by decide +kernel
theorem dL_law_242 : decode cL_law 242 = .ok (.iaload, 1) := by decide +kernel
theorem dL_law_243 : decode cL_law 243 = .ok (.aload_n 3, 1) := by decide +kernel
theorem dL_law_244 : decode cL_law 244 = .ok (.invokestatic 74, 3) := by decide +kernel
theorem dL_law_247 : decode cL_law 247 = .ok (.istore 5, 2) := by decide +kernel
theorem dL_law_249 : decode cL_law 249 = .ok (.aload_n 2, 1) := by decide +kernel
theorem dL_law_250 : decode cL_law 250 = .ok (.aload_n 0, 1) := by decide +kernel
theorem dL_law_251 : decode cL_law 251 = .ok (.iload 4, 2) := by decide +kernel
theorem dL_law_253 : decode cL_law 253 = .ok (.iconst 1, 1) := by decide +kernel
theorem dL_law_254 : decode cL_law 254 = .ok (.iadd, 1) := by decide +kernel
theorem dL_law_255 : decode cL_law 255 = .ok (.iaload, 1) := by decide +kernel
theorem dL_law_256 : decode cL_law 256 = .ok (.aload_n 0, 1) := by decide +kernel
theorem dL_law_257 : decode cL_law 257 = .ok (.iload 4, 2) := by decide +kernel
theorem dL_law_259 : decode cL_law 259 = .ok (.iconst 2, 1) := by decide +kernel
theorem dL_law_260 : decode cL_law 260 = .ok (.iadd, 1) := by decide +kernel
theorem dL_law_261 : decode cL_law 261 = .ok (.iaload, 1) := by decide +kernel
theorem dL_law_262 : decode cL_law 262 = .ok (.aload_n 0, 1) := by decide +kernel
theorem dL_law_263 : decode cL_law 263 = .ok (.iload 4, 2) := by decide +kernel
theorem dL_law_265 : decode cL_law 265 = .ok (.iconst 3, 1) := by decide +kernel
theorem dL_law_266 : decode cL_law 266 = .ok (.iadd, 1) := by decide +kernel
theorem dL_law_267 : decode cL_law 267 = .ok (.iaload, 1) := by decide +kernel
theorem dL_law_268 : decode cL_law 268 = .ok (.invokevirtual 77, 3) := by decide +kernel
theorem dL_law_271 : decode cL_law 271 = .ok (.istore 6, 2) := by decide +kernel
theorem dL_law_273 : decode cL_law 273 = .ok (.aload_n 2, 1) := by decide +kernel
theorem dL_law_274 : decode cL_law 274 = .ok (.invokevirtual 70, 3) := by decide +kernel
theorem dL_law_277 : decode cL_law 277 = .ok (.iload 5, 2) := by decide +kernel
theorem dL_law_279 : decode cL_law 279 = .ok (.if_icmp .eq 5, 3) := by decide +kernel
theorem dL_law_282 : decode cL_law 282 = .ok (.iconst 0, 1) := by decide +kernel
theorem dL_law_283 : decode cL_law 283 = .ok (.ireturn, 1) := by decide +kernel
theorem dL_law_284 : decode cL_law 284 = .ok (.iload 5, 2) := by decide +kernel
theorem dL_law_286 : decode cL_law 286 = .ok (.ifCond .ne 15, 3) := by decide +kernel
theorem dL_law_289 : decode cL_law 289 = .ok (.aload_n 3, 1) := by decide +kernel
theorem dL_law_290 : decode cL_law 290 = .ok (.iconst 0, 1) := by decide +kernel
theorem dL_law_291 : decode cL_law 291 = .ok (.laload, 1) := by decide +kernel
theorem dL_law_292 : decode cL_law 292 = .ok (.iload 6, 2) := by decide +kernel
theorem dL_law_294 : decode cL_law 294 = .ok (.i2l, 1) := by decide +kernel
theorem dL_law_295 : decode cL_law 295 = .ok (.lcmp, 1) := by decide +kernel
theorem dL_law_296 : decode cL_law 296 = .ok (.ifCond .eq 5, 3) := by decide +kernel
theorem dL_law_299 : decode cL_law 299 = .ok (.iconst 0, 1) := by decide +kernel
theorem dL_law_300 : decode cL_law 300 = .ok (.ireturn, 1) := by decide +kernel
theorem dL_law_301 : decode cL_law 301 = .ok (.goto 898, 3) := by decide +kernel
theorem dL_law_304 : decode cL_law 304 = .ok (.aload_n 1, 1) := by decide +kernel
theorem dL_law_305 : decode cL_law 305 = .ok (.aload_n 0, 1) := by decide +kernel
theorem dL_law_306 : decode cL_law 306 = .ok (.iload 4, 2) := by decide +kernel
theorem dL_law_308 : decode cL_law 308 = .ok (.iconst 1, 1) := by decide +kernel
theorem dL_law_309 : decode cL_law 309 = .ok (.iadd, 1) := by decide +kernel
theorem dL_law_310 : decode cL_law 310 = .ok (.iaload, 1) := by decide +kernel
theorem dL_law_311 : decode cL_law 311 = .ok (.aload_n 3, 1) := by decide +kernel
theorem dL_law_312 : decode cL_law 312 = .ok (.invokestatic 78, 3) := by decide +kernel
theorem dL_law_315 : decode cL_law 315 = .ok (.istore 5, 2) := by decide +kernel
theorem dL_law_317 : decode cL_law 317 = .ok (.aload_n 2, 1) := by decide +kernel
theorem dL_law_318 : decode cL_law 318 = .ok (.aload_n 0, 1) := by decide +kernel
theorem dL_law_319 : decode cL_law 319 = .ok (.iload 4, 2) := by decide +kernel
theorem dL_law_321 : decode cL_law 321 = .ok (.iconst 1, 1) := by decide +kernel
theorem dL_law_322 : decode cL_law 322 = .ok (.iadd, 1) := by decide +kernel
theorem dL_law_323 : decode cL_law 323 = .ok (.iaload, 1) := by decide +kernel
theorem dL_law_324 : decode cL_law 324 = .ok (.invokevirtual 80, 3) := by decide +kernel
theorem dL_law_327 : decode cL_law 327 = .ok (.istore 6, 2) := by decide +kernel
theorem dL_law_329 : decode cL_law 329 = .ok (.aload_n 2, 1) := by decide +kernel
theorem dL_law_330 : decode cL_law 330 = .ok (.invokevirtual 70, 3) := by decide +kernel
theorem dL_law_333 : decode cL_law 333 = .ok (.iload 5, 2) := by decide +kernel
theorem dL_law_335 : decode cL_law 335 = .ok (.if_icmp .eq 5, 3) := by decide +kernel
theorem dL_law_338 : decode cL_law 338 = .ok (.iconst 0, 1) := by decide +kernel
theorem dL_law_339 : decode cL_law 339 = .ok (.ireturn, 1) := by decide +kernel
theorem dL_law_340 : decode cL_law 340 = .ok (.iload 5, 2) := by decide +kernel
theorem dL_law_342 : decode cL_law 342 = .ok (.ifCond .ne 15, 3) := by decide +kernel
theorem dL_law_345 : decode cL_law 345 = .ok (.aload_n 3, 1) := by decide +kernel
theorem dL_law_346 : decode cL_law 346 = .ok (.iconst 0, 1) := by decide +kernel
theorem dL_law_347 : decode cL_law 347 = .ok (.laload, 1) := by decide +kernel
theorem dL_law_348 : decode cL_law 348 = .ok (.iload 6, 2) := by decide +kernel
theorem dL_law_350 : decode cL_law 350 = .ok (.i2l, 1) := by decide +kernel
theorem dL_law_351 : decode cL_law 351 = .ok (.lcmp, 1) := by decide +kernel
theorem dL_law_352 : decode cL_law 352 = .ok (.ifCond .eq 5, 3) := by decide +kernel
theorem dL_law_355 : decode cL_law 355 = .ok (.iconst 0, 1) := by decide +kernel
theorem dL_law_356 : decode cL_law 356 = .ok (.ireturn, 1) := by decide +kernel
theorem dL_law_357 : decode cL_law 357 = .ok (.goto 842, 3) := by decide +kernel
theorem dL_law_360 : decode cL_law 360 = .ok (.aload_n 1, 1) := by decide +kernel
theorem dL_law_361 : decode cL_law 361 = .ok (.aload_n 0, 1) := by decide +kernel
theorem dL_law_362 : decode cL_law 362 = .ok (.iload 4, 2) := by decide +kernel
theorem dL_law_364 : decode cL_law 364 = .ok (.iconst 1, 1) := by decide +kernel
theorem dL_law_365 : decode cL_law 365 = .ok (.iadd, 1) := by decide +kernel
theorem dL_law_366 : decode cL_law 366 = .ok (.iaload, 1) := by decide +kernel
theorem dL_law_367 : decode cL_law 367 = .ok (.aload_n 3, 1) := by decide +kernel
theorem dL_law_368 : decode cL_law 368 = .ok (.invokestatic 81, 3) := by decide +kernel
theorem dL_law_371 : decode cL_law 371 = .ok (.istore 5, 2) := by decide +kernel
theorem dL_law_373 : decode cL_law 373 = .ok (.aload_n 2, 1) := by decide +kernel
theorem dL_law_374 : decode cL_law 374 = .ok (.aload_n 0, 1) := by decide +kernel
theorem dL_law_375 : decode cL_law 375 = .ok (.iload 4, 2) := by decide +kernel
theorem dL_law_377 : decode cL_law 377 = .ok (.iconst 1, 1) := by decide +kernel
theorem dL_law_378 : decode cL_law 378 = .ok (.iadd, 1) := by decide +kernel
theorem dL_law_379 : decode cL_law 379 = .ok (.iaload, 1) := by decide +kernel
theorem dL_law_380 : decode cL_law 380 = .ok (.invokevirtual 83, 3) := by decide +kernel
theorem dL_law_383 : decode cL_law 383 = .ok (.istore 6, 2) := by decide +kernel
theorem dL_law_385 : decode cL_law 385 = .ok (.aload_n 2, 1) := by decide +kernel
theorem dL_law_386 : decode cL_law 386 = .ok (.invokevirtual 70, 3) := by decide +kernel
theorem dL_law_389 : decode cL_law 389 = .ok (.iload 5, 2) := by decide +kernel
theorem dL_law_391 : decode cL_law 391 = .ok (.if_icmp .eq 5, 3) := by decide +kernel
theorem dL_law_394 : decode cL_law 394 = .ok (.iconst 0, 1) := by decide +kernel
theorem dL_law_395 : decode cL_law 395 = .ok (.ireturn, 1) := by decide +kernel
theorem dL_law_396 : decode cL_law 396 = .ok (.iload 5, 2) := by decide +kernel
theorem dL_law_398 : decode cL_law 398 = .ok (.ifCond .ne 15, 3) := by decide +kernel
theorem dL_law_401 : decode cL_law 401 = .ok (.aload_n 3, 1) := by decide +kernel
theorem dL_law_402 : decode cL_law 402 = .ok (.iconst 0, 1) := by decide +kernel
theorem dL_law_403 : decode cL_law 403 = .ok (.laload, 1) := by decide +kernel
theorem dL_law_404 : decode cL_law 404 = .ok (.iload 6, 2) := by decide +kernel
theorem dL_law_406 : decode cL_law 406 = .ok (.i2l, 1) := by decide +kernel
theorem dL_law_407 : decode cL_law 407 = .ok (.lcmp, 1) := by decide +kernel
theorem dL_law_408 : decode cL_law 408 = .ok (.ifCond .eq 5, 3) := by decide +kernel
theorem dL_law_411 : decode cL_law 411 = .ok (.iconst 0, 1) := by decide +kernel
theorem dL_law_412 : decode cL_law 412 = .ok (.ireturn, 1) := by decide +kernel
theorem dL_law_413 : decode cL_law 413 = .ok (.goto 786, 3) := by decide +kernel
theorem dL_law_416 : decode cL_law 416 = .ok (.aload_n 1, 1) := by decide +kernel
theorem dL_law_417 : decode cL_law 417 = .ok (.invokevirtual 84, 3) := by decide +kernel
theorem dL_law_420 : decode cL_law 420 = .ok (.aload_n 2, 1) := by decide +kernel
theorem dL_law_421 : decode cL_law 421 = .ok (.invokevirtual 87, 3) := by decide +kernel
theorem dL_law_424 : decode cL_law 424 = .ok (.if_icmp .eq 775, 3) := by decide +kernel
theorem dL_law_427 : decode cL_law 427 = .ok (.iconst 0, 1) := by decide +kernel
theorem dL_law_428 : decode cL_law 428 = .ok (.ireturn, 1) := by decide +kernel
theorem dL_law_429 : decode cL_law 429 = .ok (.aload_n 1, 1) := by decide +kernel
theorem dL_law_430 : decode cL_law 430 = .ok (.aload_n 0, 1) := by decide +kernel
theorem dL_law_431 : decode cL_law 431 = .ok (.iload 4, 2) := by decide +kernel
theorem dL_law_433 : decode cL_law 433 = .ok (.iconst 1, 1) := by decide +kernel
theorem dL_law_434 : decode cL_law 434 = .ok (.iadd, 1) := by decide +kernel
theorem dL_law_435 : decode cL_law 435 = .ok (.iaload, 1) := by decide +kernel
theorem dL_law_436 : decode cL_law 436 = .ok (.aload_n 0, 1) := by decide +kernel
theorem dL_law_437 : decode cL_law 437 = .ok (.iload 4, 2) := by decide +kernel
theorem dL_law_439 : decode cL_law 439 = .ok (.iconst 2, 1) := by decide +kernel
theorem dL_law_440 : decode cL_law 440 = .ok (.iadd, 1) := by decide +kernel
theorem dL_law_441 : decode cL_law 441 = .ok (.iaload, 1) := by decide +kernel
theorem dL_law_442 : decode cL_law 442 = .ok (.aload_n 3, 1) := by decide +kernel
theorem dL_law_443 : decode cL_law 443 = .ok (.invokestatic 88, 3) := by decide +kernel
theorem dL_law_446 : decode cL_law 446 = .ok (.istore 5, 2) := by decide +kernel
theorem dL_law_448 : decode cL_law 448 = .ok (.aload_n 2, 1) := by decide +kernel
theorem dL_law_449 : decode cL_law 449 = .ok (.aload_n 0, 1) := by decide +kernel
theorem dL_law_450 : decode cL_law 450 = .ok (.iload 4, 2) := by decide +kernel
theorem dL_law_452 : decode cL_law 452 = .ok (.iconst 1, 1) := by decide +kernel
theorem dL_law_453 : decode cL_law 453 = .ok (.iadd, 1) := by decide +kernel
theorem dL_law_454 : decode cL_law 454 = .ok (.iaload, 1) := by decide +kernel
theorem dL_law_455 : decode cL_law 455 = .ok (.aload_n 0, 1) := by decide +kernel
theorem dL_law_456 : decode cL_law 456 = .ok (.iload 4, 2) := by decide +kernel
theorem dL_law_458 : decode cL_law 458 = .ok (.iconst 2, 1) := by decide +kernel
theorem dL_law_459 : decode cL_law 459 = .ok (.iadd, 1) := by decide +kernel
theorem dL_law_460 : decode cL_law 460 = .ok (.iaload, 1) := by decide +kernel
theorem dL_law_461 : decode cL_law 461 = .ok (.invokevirtual 91, 3) := by decide +kernel
theorem dL_law_464 : decode cL_law 464 = .ok (.istore 6, 2) := by decide +kernel
theorem dL_law_466 : decode cL_law 466 = .ok (.aload_n 2, 1) := by decide +kernel
theorem dL_law_467 : decode cL_law 467 = .ok (.invokevirtual 70, 3) := by decide +kernel
theorem dL_law_470 : decode cL_law 470 = .ok (.iload 5, 2) := by decide +kernel
theorem dL_law_472 : decode cL_law 472 = .ok (.if_icmp .eq 5, 3) := by decide +kernel
theorem dL_law_475 : decode cL_law 475 = .ok (.iconst 0, 1) := by decide +kernel
theorem dL_law_476 : decode cL_law 476 = .ok (.ireturn, 1) := by decide +kernel
theorem dL_law_477 : decode cL_law 477 = .ok (.iload 5, 2) := by decide +kernel
theorem dL_law_479 : decode cL_law 479 = .ok (.ifCond .ne 15, 3) := by decide +kernel
theorem dL_law_482 : decode cL_law 482 = .ok (.aload_n 3, 1) := by decide +kernel
theorem dL_law_483 : decode cL_law 483 = .ok (.iconst 0, 1) := by decide +kernel
theorem dL_law_484 : decode cL_law 484 = .ok (.laload, 1) := by decide +kernel
theorem dL_law_485 : decode cL_law 485 = .ok (.iload 6, 2) := by decide +kernel
theorem dL_law_487 : decode cL_law 487 = .ok (.i2l, 1) := by decide +kernel
theorem dL_law_488 : decode cL_law 488 = .ok (.lcmp, 1) := by decide +kernel
theorem dL_law_489 : decode cL_law 489 = .ok (.ifCond .eq 5, 3) := by decide +kernel
theorem dL_law_492 : decode cL_law 492 = .ok (.iconst 0, 1) := by decide +kernel
theorem dL_law_493 : decode cL_law 493 = .ok (.ireturn, 1) := by decide +kernel
theorem dL_law_494 : decode cL_law 494 = .ok (.goto 705, 3) := by decide +kernel
theorem dL_law_497 : decode cL_law 497 = .ok (.aload_n 1, 1) := by decide +kernel
theorem dL_law_498 : decode cL_law 498 = .ok (.invokevirtual 92, 3) := by decide +kernel
theorem dL_law_501 : decode cL_law 501 = .ok (.aload_n 2, 1) := by decide +kernel
theorem dL_law_502 : decode cL_law 502 = .ok (.invokevirtual 95, 3) := by decide +kernel
theorem dL_law_505 : decode cL_law 505 = .ok (.if_icmp .eq 694, 3) := by decide +kernel
theorem dL_law_508 : decode cL_law 508 = .ok (.iconst 0, 1) := by decide +kernel
theorem dL_law_509 : decode cL_law 509 = .ok (.ireturn, 1) := by decide +kernel
theorem dL_law_510 : decode cL_law 510 = .ok (.aload_n 1, 1) := by decide +kernel
theorem dL_law_511 : decode cL_law 511 = .ok (.aload_n 0, 1) := by decide +kernel
theorem dL_law_512 : decode cL_law 512 = .ok (.iload 4, 2) := by decide +kernel
theorem dL_law_514 : decode cL_law 514 = .ok (.iconst 1, 1) := by decide +kernel
theorem dL_law_515 : decode cL_law 515 = .ok (.iadd, 1) := by decide +kernel
theorem dL_law_516 : decode cL_law 516 = .ok (.iaload, 1) := by decide +kernel
theorem dL_law_517 : decode cL_law 517 = .ok (.invokevirtual 96, 3) := by decide +kernel
theorem dL_law_520 : decode cL_law 520 = .ok (.aload_n 2, 1) := by decide +kernel
theorem dL_law_521 : decode cL_law 521 = .ok (.aload_n 0, 1) := by decide +kernel
theorem dL_law_522 : decode cL_law 522 = .ok (.iload 4, 2) := by decide +kernel
theorem dL_law_524 : decode cL_law 524 = .ok (.iconst 1, 1) := by decide +kernel
theorem dL_law_525 : decode cL_law 525 = .ok (.iadd, 1) := by decide +kernel
theorem dL_law_526 : decode cL_law 526 = .ok (.iaload, 1) := by decide +kernel
theorem dL_law_527 : decode cL_law 527 = .ok (.invokevirtual 100, 3) := by decide +kernel
theorem dL_law_530 : decode cL_law 530 = .ok (.if_icmp .eq 669, 3) := by decide +kernel
theorem dL_law_533 : decode cL_law 533 = .ok (.iconst 0, 1) := by decide +kernel
theorem dL_law_534 : decode cL_law 534 = .ok (.ireturn, 1) := by decide +kernel
theorem dL_law_535 : decode cL_law 535 = .ok (.aload_n 1, 1) := by decide +kernel
theorem dL_law_536 : decode cL_law 536 = .ok (.aload_n 0, 1) := by decide +kernel
theorem dL_law_537 : decode cL_law 537 = .ok (.iload 4, 2) := by decide +kernel
theorem dL_law_539 : decode cL_law 539 = .ok (.iconst 1, 1) := by decide +kernel
theorem dL_law_540 : decode cL_law 540 = .ok (.iadd, 1) := by decide +kernel
theorem dL_law_541 : decode cL_law 541 = .ok (.iaload, 1) := by decide +kernel
theorem dL_law_542 : decode cL_law 542 = .ok (.invokevirtual 101, 3) := by decide +kernel
theorem dL_law_545 : decode cL_law 545 = .ok (.aload_n 2, 1) := by decide +kernel
theorem dL_law_546 : decode cL_law 546 = .ok (.aload_n 0, 1) := by decide +kernel
theorem dL_law_547 : decode cL_law 547 = .ok (.iload 4, 2) := by decide +kernel
theorem dL_law_549 : decode cL_law 549 = .ok (.iconst 1, 1) := by decide +kernel
theorem dL_law_550 : decode cL_law 550 = .ok (.iadd, 1) := by decide +kernel
theorem dL_law_551 : decode cL_law 551 = .ok (.iaload, 1) := by decide +kernel
theorem dL_law_552 : decode cL_law 552 = .ok (.invokevirtual 104, 3) := by decide +kernel
theorem dL_law_555 : decode cL_law 555 = .ok (.if_icmp .eq 644, 3) := by decide +kernel
theorem dL_law_558 : decode cL_law 558 = .ok (.iconst 0, 1) := by decide +kernel
theorem dL_law_559 : decode cL_law 559 = .ok (.ireturn, 1) := by decide +kernel
theorem dL_law_560 : decode cL_law 560 = .ok (.aload_n 1, 1) := by decide +kernel
theorem dL_law_561 : decode cL_law 561 = .ok (.aload_n 0, 1) := by decide +kernel
theorem dL_law_562 : decode cL_law 562 = .ok (.iload 4, 2) := by decide +kernel
theorem dL_law_564 : decode cL_law 564 = .ok (.iconst 1, 1) := by decide +kernel
theorem dL_law_565 : decode cL_law 565 = .ok (.iadd, 1) := by decide +kernel
theorem dL_law_566 : decode cL_law 566 = .ok (.iaload, 1) := by decide +kernel
theorem dL_law_567 : decode cL_law 567 = .ok (.aload_n 3, 1) := by decide +kernel
theorem dL_law_568 : decode cL_law 568 = .ok (.invokestatic 105, 3) := by decide +kernel
theorem dL_law_571 : decode cL_law 571 = .ok (.istore 5, 2) := by decide +kernel
theorem dL_law_573 : decode cL_law 573 = .ok (.aload_n 2, 1) := by decide +kernel
theorem dL_law_574 : decode cL_law 574 = .ok (.aload_n 0, 1) := by decide +kernel
theorem dL_law_575 : decode cL_law 575 = .ok (.iload 4, 2) := by decide +kernel
theorem dL_law_577 : decode cL_law 577 = .ok (.iconst 1, 1) := by decide +kernel
theorem dL_law_578 : decode cL_law 578 = .ok (.iadd, 1) := by decide +kernel
theorem dL_law_579 : decode cL_law 579 = .ok (.iaload, 1) := by decide +kernel
theorem dL_law_580 : decode cL_law 580 = .ok (.invokevirtual 107, 3) := by decide +kernel
theorem dL_law_583 : decode cL_law 583 = .ok (.istore 6, 2) := by decide +kernel
theorem dL_law_585 : decode cL_law 585 = .ok (.aload_n 2, 1) := by decide +kernel
theorem dL_law_586 : decode cL_law 586 = .ok (.invokevirtual 70, 3) := by decide +kernel
theorem dL_law_589 : decode cL_law 589 = .ok (.iload 5, 2) := by decide +kernel
theorem dL_law_591 : decode cL_law 591 = .ok (.if_icmp .eq 5, 3) := by decide +kernel
theorem dL_law_594 : decode cL_law 594 = .ok (.iconst 0, 1) := by decide +kernel
theorem dL_law_595 : decode cL_law 595 = .ok (.ireturn, 1) := by decide +kernel
theorem dL_law_596 : decode cL_law 596 = .ok (.iload 5, 2) := by decide +kernel
theorem dL_law_598 : decode cL_law 598 = .ok (.ifCond .ne 15, 3) := by decide +kernel
theorem dL_law_601 : decode cL_law 601 = .ok (.aload_n 3, 1) := by decide +kernel
theorem dL_law_602 : decode cL_law 602 = .ok (.iconst 0, 1) := by decide +kernel
theorem dL_law_603 : decode cL_law 603 = .ok (.laload, 1) := by decide +kernel
theorem dL_law_604 : decode cL_law 604 = .ok (.iload 6, 2) := by decide +kernel
theorem dL_law_606 : decode cL_law 606 = .ok (.i2l, 1) := by decide +kernel
theorem dL_law_607 : decode cL_law 607 = .ok (.lcmp, 1) := by decide +kernel
theorem dL_law_608 : decode cL_law 608 = .ok (.ifCond .eq 5, 3) := by decide +kernel
theorem dL_law_611 : decode cL_law 611 = .ok (.iconst 0, 1) := by decide +kernel
theorem dL_law_612 : decode cL_law 612 = .ok (.ireturn, 1) := by decide +kernel
theorem dL_law_613 : decode cL_law 613 = .ok (.goto 586, 3) := by decide +kernel
theorem dL_law_616 : decode cL_law 616 = .ok (.aload_n 1, 1) := by decide +kernel
theorem dL_law_617 : decode cL_law 617 = .ok (.aload_n 0, 1) := by decide +kernel
theorem dL_law_618 : decode cL_law 618 = .ok (.iload 4, 2) := by decide +kernel
theorem dL_law_620 : decode cL_law 620 = .ok (.iconst 1, 1) := by decide +kernel
theorem dL_law_621 : decode cL_law 621 = .ok (.iadd, 1) := by decide +kernel
theorem dL_law_622 : decode cL_law 622 = .ok (.iaload, 1) := by decide +kernel
theorem dL_law_623 : decode cL_law 623 = .ok (.aload_n 3, 1) := by decide +kernel
theorem dL_law_624 : decode cL_law 624 = .ok (.invokestatic 108, 3) := by decide +kernel
theorem dL_law_627 : decode cL_law 627 = .ok (.istore 5, 2) := by decide +kernel
theorem dL_law_629 : decode cL_law 629 = .ok (.aload_n 2, 1) := by decide +kernel
theorem dL_law_630 : decode cL_law 630 = .ok (.aload_n 0, 1) := by decide +kernel
theorem dL_law_631 : decode cL_law 631 = .ok (.iload 4, 2) := by decide +kernel
theorem dL_law_633 : decode cL_law 633 = .ok (.iconst 1, 1) := by decide +kernel
theorem dL_law_634 : decode cL_law 634 = .ok (.iadd, 1) := by decide +kernel
theorem dL_law_635 : decode cL_law 635 = .ok (.iaload, 1) := by decide +kernel
theorem dL_law_636 : decode cL_law 636 = .ok (.invokevirtual 110, 3) := by decide +kernel
theorem dL_law_639 : decode cL_law 639 = .ok (.istore 6, 2) := by decide +kernel
theorem dL_law_641 : decode cL_law 641 = .ok (.aload_n 2, 1) := by decide +kernel
theorem dL_law_642 : decode cL_law 642 = .ok (.invokevirtual 70, 3) := by decide +kernel
theorem dL_law_645 : decode cL_law 645 = .ok (.iload 5, 2) := by decide +kernel
theorem dL_law_647 : decode cL_law 647 = .ok (.if_icmp .eq 5, 3) := by decide +kernel
theorem dL_law_650 : decode cL_law 650 = .ok (.iconst 0, 1) := by decide +kernel
theorem dL_law_651 : decode cL_law 651 = .ok (.ireturn, 1) := by decide +kernel
theorem dL_law_652 : decode cL_law 652 = .ok (.iload 5, 2) := by decide +kernel
theorem dL_law_654 : decode cL_law 654 = .ok (.ifCond .ne 15, 3) := by decide +kernel
theorem dL_law_657 : decode cL_law 657 = .ok (.aload_n 3, 1) := by decide +kernel
theorem dL_law_658 : decode cL_law 658 = .ok (.iconst 0, 1) := by decide +kernel
theorem dL_law_659 : decode cL_law 659 = .ok (.laload, 1) := by decide +kernel
theorem dL_law_660 : decode cL_law 660 = .ok (.iload 6, 2) := by decide +kernel
theorem dL_law_662 : decode cL_law 662 = .ok (.i2l, 1) := by decide +kernel
theorem dL_law_663 : decode cL_law 663 = .ok (.lcmp, 1) := by decide +kernel
theorem dL_law_664 : decode cL_law 664 = .ok (.ifCond .eq 5, 3) := by decide +kernel
theorem dL_law_667 : decode cL_law 667 = .ok (.iconst 0, 1) := by decide +kernel
theorem dL_law_668 : decode cL_law 668 = .ok (.ireturn, 1) := by decide +kernel
theorem dL_law_669 : decode cL_law 669 = .ok (.goto 530, 3) := by decide +kernel
theorem dL_law_672 : decode cL_law 672 = .ok (.aload_n 1, 1) := by decide +kernel
theorem dL_law_673 : decode cL_law 673 = .ok (.aload_n 0, 1) := by decide +kernel
theorem dL_law_674 : decode cL_law 674 = .ok (.iload 4, 2) := by decide +kernel
theorem dL_law_676 : decode cL_law 676 = .ok (.iconst 1, 1) := by decide +kernel
theorem dL_law_677 : decode cL_law 677 = .ok (.iadd, 1) := by decide +kernel
theorem dL_law_678 : decode cL_law 678 = .ok (.iaload, 1) := by decide +kernel
theorem dL_law_679 : decode cL_law 679 = .ok (.aload_n 0, 1) := by decide +kernel
theorem dL_law_680 : decode cL_law 680 = .ok (.iload 4, 2) := by decide +kernel
theorem dL_law_682 : decode cL_law 682 = .ok (.iconst 2, 1) := by decide +kernel
theorem dL_law_683 : decode cL_law 683 = .ok (.iadd, 1) := by decide +kernel
theorem dL_law_684 : decode cL_law 684 = .ok (.iaload, 1) := by decide +kernel
theorem dL_law_685 : decode cL_law 685 = .ok (.invokevirtual 111, 3) := by decide +kernel
theorem dL_law_688 : decode cL_law 688 = .ok (.aload_n 2, 1) := by decide +kernel
theorem dL_law_689 : decode cL_law 689 = .ok (.aload_n 0, 1) := by decide +kernel
theorem dL_law_690 : decode cL_law 690 = .ok (.iload 4, 2) := by decide +kernel
theorem dL_law_692 : decode cL_law 692 = .ok (.iconst 1, 1) := by decide +kernel
theorem dL_law_693 : decode cL_law 693 = .ok (.iadd, 1) := by decide +kernel
theorem dL_law_694 : decode cL_law 694 = .ok (.iaload, 1) := by decide +kernel
theorem dL_law_695 : decode cL_law 695 = .ok (.aload_n 0, 1) := by decide +kernel
theorem dL_law_696 : decode cL_law 696 = .ok (.iload 4, 2) := by decide +kernel
theorem dL_law_698 : decode cL_law 698 = .ok (.iconst 2, 1) := by decide +kernel
theorem dL_law_699 : decode cL_law 699 = .ok (.iadd, 1) := by decide +kernel
theorem dL_law_700 : decode cL_law 700 = .ok (.iaload, 1) := by decide +kernel
theorem dL_law_701 : decode cL_law 701 = .ok (.invokevirtual 114, 3) := by decide +kernel
theorem dL_law_704 : decode cL_law 704 = .ok (.if_icmp .eq 495, 3) := by decide +kernel
theorem dL_law_707 : decode cL_law 707 = .ok (.iconst 0, 1) := by decide +kernel
theorem dL_law_708 : decode cL_law 708 = .ok (.ireturn, 1) := by decide +kernel
theorem dL_law_709 : decode cL_law 709 = .ok (.aload_n 1, 1) := by decide +kernel
theorem dL_law_710 : decode cL_law 710 = .ok (.aload_n 0, 1) := by decide +kernel
theorem dL_law_711 : decode cL_law 711 = .ok (.iload 4, 2) := by decide +kernel
theorem dL_law_713 : decode cL_law 713 = .ok (.iconst 1, 1) := by decide +kernel
theorem dL_law_714 : decode cL_law 714 = .ok (.iadd, 1) := by decide +kernel
theorem dL_law_715 : decode cL_law 715 = .ok (.iaload, 1) := by decide +kernel
theorem dL_law_716 : decode cL_law 716 = .ok (.invokevirtual 115, 3) := by decide +kernel
theorem dL_law_719 : decode cL_law 719 = .ok (.aload_n 2, 1) := by decide +kernel
theorem dL_law_720 : decode cL_law 720 = .ok (.aload_n 0, 1) := by decide +kernel
theorem dL_law_721 : decode cL_law 721 = .ok (.iload 4, 2) := by decide +kernel
theorem dL_law_723 : decode cL_law 723 = .ok (.iconst 1, 1) := by decide +kernel
theorem dL_law_724 : decode cL_law 724 = .ok (.iadd, 1) := by decide +kernel
theorem dL_law_725 : decode cL_law 725 = .ok (.iaload, 1) := by decide +kernel
theorem dL_law_726 : decode cL_law 726 = .ok (.invokevirtual 118, 3) := by decide +kernel
theorem dL_law_729 : decode cL_law 729 = .ok (.if_icmp .eq 470, 3) := by decide +kernel
theorem dL_law_732 : decode cL_law 732 = .ok (.iconst 0, 1) := by decide +kernel
theorem dL_law_733 : decode cL_law 733 = .ok (.ireturn, 1) := by decide +kernel
theorem dL_law_734 : decode cL_law 734 = .ok (.aload_n 1, 1) := by decide +kernel
theorem dL_law_735 : decode cL_law 735 = .ok (.aload_n 0, 1) := by decide +kernel
theorem dL_law_736 : decode cL_law 736 = .ok (.iload 4, 2) := by decide +kernel
theorem dL_law_738 : decode cL_law 738 = .ok (.iconst 1, 1) := by decide +kernel
theorem dL_law_739 : decode cL_law 739 = .ok (.iadd, 1) := by decide +kernel
theorem dL_law_740 : decode cL_law 740 = .ok (.iaload, 1) := by decide +kernel
theorem dL_law_741 : decode cL_law 741 = .ok (.aload_n 3, 1) := by decide +kernel
theorem dL_law_742 : decode cL_law 742 = .ok (.invokestatic 119, 3) := by decide +kernel
theorem dL_law_745 : decode cL_law 745 = .ok (.istore 5, 2) := by decide +kernel
theorem dL_law_747 : decode cL_law 747 = .ok (.aload_n 2, 1) := by decide +kernel
theorem dL_law_748 : decode cL_law 748 = .ok (.aload_n 0, 1) := by decide +kernel
theorem dL_law_749 : decode cL_law 749 = .ok (.iload 4, 2) := by decide +kernel
theorem dL_law_751 : decode cL_law 751 = .ok (.iconst 1, 1) := by decide +kernel
theorem dL_law_752 : decode cL_law 752 = .ok (.iadd, 1) := by decide +kernel
theorem dL_law_753 : decode cL_law 753 = .ok (.iaload, 1) := by decide +kernel
theorem dL_law_754 : decode cL_law 754 = .ok (.invokevirtual 121, 3) := by decide +kernel
theorem dL_law_757 : decode cL_law 757 = .ok (.lstore 6, 2) := by decide +kernel
theorem dL_law_759 : decode cL_law 759 = .ok (.aload_n 2, 1) := by decide +kernel
theorem dL_law_760 : decode cL_law 760 = .ok (.invokevirtual 70, 3) := by decide +kernel
theorem dL_law_763 : decode cL_law 763 = .ok (.iload 5, 2) := by decide +kernel
theorem dL_law_765 : decode cL_law 765 = .ok (.if_icmp .eq 5, 3) := by decide +kernel
theorem dL_law_768 : decode cL_law 768 = .ok (.iconst 0, 1) := by decide +kernel
theorem dL_law_769 : decode cL_law 769 = .ok (.ireturn, 1) := by decide +kernel
theorem dL_law_770 : decode cL_law 770 = .ok (.iload 5, 2) := by decide +kernel
theorem dL_law_772 : decode cL_law 772 = .ok (.ifCond .ne 14, 3) := by decide +kernel
theorem dL_law_775 : decode cL_law 775 = .ok (.aload_n 3, 1) := by decide +kernel
theorem dL_law_776 : decode cL_law 776 = .ok (.iconst 0, 1) := by decide +kernel
theorem dL_law_777 : decode cL_law 777 = .ok (.laload, 1) := by decide +kernel
theorem dL_law_778 : decode cL_law 778 = .ok (.lload 6, 2) := by decide +kernel
theorem dL_law_780 : decode cL_law 780 = .ok (.lcmp, 1) := by decide +kernel
theorem dL_law_781 : decode cL_law 781 = .ok (.ifCond .eq 5, 3) := by decide +kernel
theorem dL_law_784 : decode cL_law 784 = .ok (.iconst 0, 1) := by decide +kernel
theorem dL_law_785 : decode cL_law 785 = .ok (.ireturn, 1) := by decide +kernel
theorem dL_law_786 : decode cL_law 786 = .ok (.goto 413, 3) := by decide +kernel
theorem dL_law_789 : decode cL_law 789 = .ok (.aload_n 1, 1) := by decide +kernel
theorem dL_law_790 : decode cL_law 790 = .ok (.aload_n 0, 1) := by decide +kernel
theorem dL_law_791 : decode cL_law 791 = .ok (.iload 4, 2) := by decide +kernel
theorem dL_law_793 : decode cL_law 793 = .ok (.iconst 1, 1) := by decide +kernel
theorem dL_law_794 : decode cL_law 794 = .ok (.iadd, 1) := by decide +kernel
theorem dL_law_795 : decode cL_law 795 = .ok (.iaload, 1) := by decide +kernel
theorem dL_law_796 : decode cL_law 796 = .ok (.aload_n 3, 1) := by decide +kernel
theorem dL_law_797 : decode cL_law 797 = .ok (.invokestatic 122, 3) := by decide +kernel
theorem dL_law_800 : decode cL_law 800 = .ok (.istore 5, 2) := by decide +kernel
theorem dL_law_802 : decode cL_law 802 = .ok (.aload_n 2, 1) := by decide +kernel
theorem dL_law_803 : decode cL_law 803 = .ok (.aload_n 0, 1) := by decide +kernel
theorem dL_law_804 : decode cL_law 804 = .ok (.iload 4, 2) := by decide +kernel
theorem dL_law_806 : decode cL_law 806 = .ok (.iconst 1, 1) := by decide +kernel
theorem dL_law_807 : decode cL_law 807 = .ok (.iadd, 1) := by decide +kernel
theorem dL_law_808 : decode cL_law 808 = .ok (.iaload, 1) := by decide +kernel
theorem dL_law_809 : decode cL_law 809 = .ok (.invokevirtual 124, 3) := by decide +kernel
theorem dL_law_812 : decode cL_law 812 = .ok (.istore 6, 2) := by decide +kernel
theorem dL_law_814 : decode cL_law 814 = .ok (.aload_n 2, 1) := by decide +kernel
theorem dL_law_815 : decode cL_law 815 = .ok (.invokevirtual 70, 3) := by decide +kernel
theorem dL_law_818 : decode cL_law 818 = .ok (.iload 5, 2) := by decide +kernel
theorem dL_law_820 : decode cL_law 820 = .ok (.if_icmp .eq 5, 3) := by decide +kernel
theorem dL_law_823 : decode cL_law 823 = .ok (.iconst 0, 1) := by decide +kernel
theorem dL_law_824 : decode cL_law 824 = .ok (.ireturn, 1) := by decide +kernel
theorem dL_law_825 : decode cL_law 825 = .ok (.iload 5, 2) := by decide +kernel
theorem dL_law_827 : decode cL_law 827 = .ok (.ifCond .ne 15, 3) := by decide +kernel
theorem dL_law_830 : decode cL_law 830 = .ok (.aload_n 3, 1) := by decide +kernel
theorem dL_law_831 : decode cL_law 831 = .ok (.iconst 0, 1) := by decide +kernel
theorem dL_law_832 : decode cL_law 832 = .ok (.laload, 1) := by decide +kernel
theorem dL_law_833 : decode cL_law 833 = .ok (.iload 6, 2) := by decide +kernel
theorem dL_law_835 : decode cL_law 835 = .ok (.i2l, 1) := by decide +kernel
theorem dL_law_836 : decode cL_law 836 = .ok (.lcmp, 1) := by decide +kernel
theorem dL_law_837 : decode cL_law 837 = .ok (.ifCond .eq 5, 3) := by decide +kernel
theorem dL_law_840 : decode cL_law 840 = .ok (.iconst 0, 1) := by decide +kernel
theorem dL_law_841 : decode cL_law 841 = .ok (.ireturn, 1) := by decide +kernel
theorem dL_law_842 : decode cL_law 842 = .ok (.goto 357, 3) := by decide +kernel
theorem dL_law_845 : decode cL_law 845 = .ok (.aload_n 1, 1) := by decide +kernel
theorem dL_law_846 : decode cL_law 846 = .ok (.invokevirtual 125, 3) := by decide +kernel
theorem dL_law_849 : decode cL_law 849 = .ok (.aload_n 2, 1) := by decide +kernel
theorem dL_law_850 : decode cL_law 850 = .ok (.invokevirtual 128, 3) := by decide +kernel
theorem dL_law_853 : decode cL_law 853 = .ok (.if_icmp .eq 346, 3) := by decide +kernel
theorem dL_law_856 : decode cL_law 856 = .ok (.iconst 0, 1) := by decide +kernel
theorem dL_law_857 : decode cL_law 857 = .ok (.ireturn, 1) := by decide +kernel
theorem dL_law_858 : decode cL_law 858 = .ok (.aload_n 1, 1) := by decide +kernel
theorem dL_law_859 : decode cL_law 859 = .ok (.invokevirtual 129, 3) := by decide +kernel
theorem dL_law_862 : decode cL_law 862 = .ok (.aload_n 2, 1) := by decide +kernel
theorem dL_law_863 : decode cL_law 863 = .ok (.invokevirtual 132, 3) := by decide +kernel
theorem dL_law_866 : decode cL_law 866 = .ok (.if_icmp .eq 333, 3) := by decide +kernel
theorem dL_law_869 : decode cL_law 869 = .ok (.iconst 0, 1) := by decide +kernel
theorem dL_law_870 : decode cL_law 870 = .ok (.ireturn, 1) := by decide +kernel
theorem dL_law_871 : decode cL_law 871 = .ok (.aload_n 1, 1) := by decide +kernel
theorem dL_law_872 : decode cL_law 872 = .ok (.aload_n 0, 1) := by decide +kernel
theorem dL_law_873 : decode cL_law 873 = .ok (.iload 4, 2) := by decide +kernel
theorem dL_law_875 : decode cL_law 875 = .ok (.iconst 1, 1) := by decide +kernel
theorem dL_law_876 : decode cL_law 876 = .ok (.iadd, 1) := by decide +kernel
theorem dL_law_877 : decode cL_law 877 = .ok (.iaload, 1) := by decide +kernel
theorem dL_law_878 : decode cL_law 878 = .ok (.aload_n 3, 1) := by decide +kernel
theorem dL_law_879 : decode cL_law 879 = .ok (.invokestatic 133, 3) := by decide +kernel
theorem dL_law_882 : decode cL_law 882 = .ok (.istore 5, 2) := by decide +kernel
theorem dL_law_884 : decode cL_law 884 = .ok (.aload_n 2, 1) := by decide +kernel
theorem dL_law_885 : decode cL_law 885 = .ok (.aload_n 0, 1) := by decide +kernel
theorem dL_law_886 : decode cL_law 886 = .ok (.iload 4, 2) := by decide +kernel
theorem dL_law_888 : decode cL_law 888 = .ok (.iconst 1, 1) := by decide +kernel
theorem dL_law_889 : decode cL_law 889 = .ok (.iadd, 1) := by decide +kernel
theorem dL_law_890 : decode cL_law 890 = .ok (.iaload, 1) := by decide +kernel
theorem dL_law_891 : decode cL_law 891 = .ok (.invokevirtual 135, 3) := by decide +kernel
theorem dL_law_894 : decode cL_law 894 = .ok (.istore 6, 2) := by decide +kernel
theorem dL_law_896 : decode cL_law 896 = .ok (.aload_n 2, 1) := by decide +kernel
theorem dL_law_897 : decode cL_law 897 = .ok (.invokevirtual 70, 3) := by decide +kernel
theorem dL_law_900 : decode cL_law 900 = .ok (.iload 5, 2) := by decide +kernel
theorem dL_law_902 : decode cL_law 902 = .ok (.if_icmp .eq 5, 3) := by decide +kernel
theorem dL_law_905 : decode cL_law 905 = .ok (.iconst 0, 1) := by decide +kernel
theorem dL_law_906 : decode cL_law 906 = .ok (.ireturn, 1) := by decide +kernel
theorem dL_law_907 : decode cL_law 907 = .ok (.iload 5, 2) := by decide +kernel
theorem dL_law_909 : decode cL_law 909 = .ok (.ifCond .ne 15, 3) := by decide +kernel
theorem dL_law_912 : decode cL_law 912 = .ok (.aload_n 3, 1) := by decide +kernel
theorem dL_law_913 : decode cL_law 913 = .ok (.iconst 0, 1) := by decide +kernel
theorem dL_law_914 : decode cL_law 914 = .ok (.laload, 1) := by decide +kernel
theorem dL_law_915 : decode cL_law 915 = .ok (.iload 6, 2) := by decide +kernel
theorem dL_law_917 : decode cL_law 917 = .ok (.i2l, 1) := by decide +kernel
theorem dL_law_918 : decode cL_law 918 = .ok (.lcmp, 1) := by decide +kernel
theorem dL_law_919 : decode cL_law 919 = .ok (.ifCond .eq 5, 3) := by decide +kernel
theorem dL_law_922 : decode cL_law 922 = .ok (.iconst 0, 1) := by decide +kernel
theorem dL_law_923 : decode cL_law 923 = .ok (.ireturn, 1) := by decide +kernel
theorem dL_law_924 : decode cL_law 924 = .ok (.goto 275, 3) := by decide +kernel
theorem dL_law_927 : decode cL_law 927 = .ok (.aload_n 1, 1) := by decide +kernel
theorem dL_law_928 : decode cL_law 928 = .ok (.aload_n 0, 1) := by decide +kernel
theorem dL_law_929 : decode cL_law 929 = .ok (.iload 4, 2) := by decide +kernel
theorem dL_law_931 : decode cL_law 931 = .ok (.iconst 1, 1) := by decide +kernel
theorem dL_law_932 : decode cL_law 932 = .ok (.iadd, 1) := by decide +kernel
theorem dL_law_933 : decode cL_law 933 = .ok (.iaload, 1) := by decide +kernel
theorem dL_law_934 : decode cL_law 934 = .ok (.aload_n 3, 1) := by decide +kernel
theorem dL_law_935 : decode cL_law 935 = .ok (.invokestatic 136, 3) := by decide +kernel
theorem dL_law_938 : decode cL_law 938 = .ok (.istore 5, 2) := by decide +kernel
theorem dL_law_940 : decode cL_law 940 = .ok (.aload_n 2, 1) := by decide +kernel
theorem dL_law_941 : decode cL_law 941 = .ok (.aload_n 0, 1) := by decide +kernel
theorem dL_law_942 : decode cL_law 942 = .ok (.iload 4, 2) := by decide +kernel
theorem dL_law_944 : decode cL_law 944 = .ok (.iconst 1, 1) := by decide +kernel
theorem dL_law_945 : decode cL_law 945 = .ok (.iadd, 1) := by decide +kernel
theorem dL_law_946 : decode cL_law 946 = .ok (.iaload, 1) := by decide +kernel
theorem dL_law_947 : decode cL_law 947 = .ok (.invokevirtual 138, 3) := by decide +kernel
theorem dL_law_950 : decode cL_law 950 = .ok (.istore 6, 2) := by decide +kernel
theorem dL_law_952 : decode cL_law 952 = .ok (.aload_n 2, 1) := by decide +kernel
theorem dL_law_953 : decode cL_law 953 = .ok (.invokevirtual 70, 3) := by decide +kernel
theorem dL_law_956 : decode cL_law 956 = .ok (.iload 5, 2) := by decide +kernel
theorem dL_law_958 : decode cL_law 958 = .ok (.if_icmp .eq 5, 3) := by decide +kernel
theorem dL_law_961 : decode cL_law 961 = .ok (.iconst 0, 1) := by decide +kernel
theorem dL_law_962 : decode cL_law 962 = .ok (.ireturn, 1) := by decide +kernel
theorem dL_law_963 : decode cL_law 963 = .ok (.iload 5, 2) := by decide +kernel
theorem dL_law_965 : decode cL_law 965 = .ok (.ifCond .ne 15, 3) := by decide +kernel
theorem dL_law_968 : decode cL_law 968 = .ok (.aload_n 3, 1) := by decide +kernel
theorem dL_law_969 : decode cL_law 969 = .ok (.iconst 0, 1) := by decide +kernel
theorem dL_law_970 : decode cL_law 970 = .ok (.laload, 1) := by decide +kernel
theorem dL_law_971 : decode cL_law 971 = .ok (.iload 6, 2) := by decide +kernel
theorem dL_law_973 : decode cL_law 973 = .ok (.i2l, 1) := by decide +kernel
theorem dL_law_974 : decode cL_law 974 = .ok (.lcmp, 1) := by decide +kernel
theorem dL_law_975 : decode cL_law 975 = .ok (.ifCond .eq 5, 3) := by decide +kernel
theorem dL_law_978 : decode cL_law 978 = .ok (.iconst 0, 1) := by decide +kernel
theorem dL_law_979 : decode cL_law 979 = .ok (.ireturn, 1) := by decide +kernel
theorem dL_law_980 : decode cL_law 980 = .ok (.goto 219, 3) := by decide +kernel
theorem dL_law_983 : decode cL_law 983 = .ok (.aload_n 1, 1) := by decide +kernel
theorem dL_law_984 : decode cL_law 984 = .ok (.aload_n 0, 1) := by decide +kernel
theorem dL_law_985 : decode cL_law 985 = .ok (.iload 4, 2) := by decide +kernel
theorem dL_law_987 : decode cL_law 987 = .ok (.iconst 1, 1) := by decide +kernel
theorem dL_law_988 : decode cL_law 988 = .ok (.iadd, 1) := by decide +kernel
theorem dL_law_989 : decode cL_law 989 = .ok (.iaload, 1) := by decide +kernel
theorem dL_law_990 : decode cL_law 990 = .ok (.aload_n 3, 1) := by decide +kernel
theorem dL_law_991 : decode cL_law 991 = .ok (.invokestatic 139, 3) := by decide +kernel
theorem dL_law_994 : decode cL_law 994 = .ok (.istore 5, 2) := by decide +kernel
theorem dL_law_996 : decode cL_law 996 = .ok (.aload_n 2, 1) := by decide +kernel
theorem dL_law_997 : decode cL_law 997 = .ok (.aload_n 0, 1) := by decide +kernel
theorem dL_law_998 : decode cL_law 998 = .ok (.iload 4, 2) := by decide +kernel
theorem dL_law_1000 : decode cL_law 1000 = .ok (.iconst 1, 1) := by decide +kernel
theorem dL_law_1001 : decode cL_law 1001 = .ok (.iadd, 1) := by decide +kernel
theorem dL_law_1002 : decode cL_law 1002 = .ok (.iaload, 1) := by decide +kernel
theorem dL_law_1003 : decode cL_law 1003 = .ok (.invokevirtual 141, 3) := by decide +kernel
theorem dL_law_1006 : decode cL_law 1006 = .ok (.istore 6, 2) := by decide +kernel
theorem dL_law_1008 : decode cL_law 1008 = .ok (.aload_n 2, 1) := by decide +kernel
theorem dL_law_1009 : decode cL_law 1009 = .ok (.invokevirtual 70, 3) := by decide +kernel
theorem dL_law_1012 : decode cL_law 1012 = .ok (.iload 5, 2) := by decide +kernel
theorem dL_law_1014 : decode cL_law 1014 = .ok (.if_icmp .eq 5, 3) := by decide +kernel
theorem dL_law_1017 : decode cL_law 1017 = .ok (.iconst 0, 1) := by decide +kernel
theorem dL_law_1018 : decode cL_law 1018 = .ok (.ireturn, 1) := by decide +kernel
theorem dL_law_1019 : decode cL_law 1019 = .ok (.iload 5, 2) := by decide +kernel
theorem dL_law_1021 : decode cL_law 1021 = .ok (.ifCond .ne 15, 3) := by decide +kernel
theorem dL_law_1024 : decode cL_law 1024 = .ok (.aload_n 3, 1) := by decide +kernel
theorem dL_law_1025 : decode cL_law 1025 = .ok (.iconst 0, 1) := by decide +kernel
theorem dL_law_1026 : decode cL_law 1026 = .ok (.laload, 1) := by decide +kernel
theorem dL_law_1027 : decode cL_law 1027 = .ok (.iload 6, 2) := by decide +kernel
theorem dL_law_1029 : decode cL_law 1029 = .ok (.i2l, 1) := by decide +kernel
theorem dL_law_1030 : decode cL_law 1030 = .ok (.lcmp, 1) := by decide +kernel
theorem dL_law_1031 : decode cL_law 1031 = .ok (.ifCond .eq 5, 3) := by decide +kernel
theorem dL_law_1034 : decode cL_law 1034 = .ok (.iconst 0, 1) := by decide +kernel
theorem dL_law_1035 : decode cL_law 1035 = .ok (.ireturn, 1) := by decide +kernel
theorem dL_law_1036 : decode cL_law 1036 = .ok (.goto 163, 3) := by decide +kernel
theorem dL_law_1039 : decode cL_law 1039 = .ok (.aload_n 1, 1) := by decide +kernel
theorem dL_law_1040 : decode cL_law 1040 = .ok (.aload_n 0, 1) := by decide +kernel
theorem dL_law_1041 : decode cL_law 1041 = .ok (.iload 4, 2) := by decide +kernel
theorem dL_law_1043 : decode cL_law 1043 = .ok (.iconst 1, 1) := by decide +kernel
theorem dL_law_1044 : decode cL_law 1044 = .ok (.iadd, 1) := by decide +kernel
theorem dL_law_1045 : decode cL_law 1045 = .ok (.iaload, 1) := by decide +kernel
theorem dL_law_1046 : decode cL_law 1046 = .ok (.aload_n 3, 1) := by decide +kernel
theorem dL_law_1047 : decode cL_law 1047 = .ok (.invokestatic 142, 3) := by decide +kernel
theorem dL_law_1050 : decode cL_law 1050 = .ok (.istore 5, 2) := by decide +kernel
theorem dL_law_1052 : decode cL_law 1052 = .ok (.aload_n 2, 1) := by decide +kernel
theorem dL_law_1053 : decode cL_law 1053 = .ok (.aload_n 0, 1) := by decide +kernel
theorem dL_law_1054 : decode cL_law 1054 = .ok (.iload 4, 2) := by decide +kernel
theorem dL_law_1056 : decode cL_law 1056 = .ok (.iconst 1, 1) := by decide +kernel
theorem dL_law_1057 : decode cL_law 1057 = .ok (.iadd, 1) := by decide +kernel
theorem dL_law_1058 : decode cL_law 1058 = .ok (.iaload, 1) := by decide +kernel
theorem dL_law_1059 : decode cL_law 1059 = .ok (.invokevirtual 144, 3) := by decide +kernel
theorem dL_law_1062 : decode cL_law 1062 = .ok (.istore 6, 2) := by decide +kernel
theorem dL_law_1064 : decode cL_law 1064 = .ok (.aload_n 2, 1) := by decide +kernel
theorem dL_law_1065 : decode cL_law 1065 = .ok (.invokevirtual 70, 3) := by decide +kernel
theorem dL_law_1068 : decode cL_law 1068 = .ok (.iload 5, 2) := by decide +kernel
theorem dL_law_1070 : decode cL_law 1070 = .ok (.if_icmp .eq 5, 3) := by decide +kernel
theorem dL_law_1073 : decode cL_law 1073 = .ok (.iconst 0, 1) := by decide +kernel
theorem dL_law_1074 : decode cL_law 1074 = .ok (.ireturn, 1) := by decide +kernel
theorem dL_law_1075 : decode cL_law 1075 = .ok (.iload 5, 2) := by decide +kernel
theorem dL_law_1077 : decode cL_law 1077 = .ok (.ifCond .ne 15, 3) := by decide +kernel
theorem dL_law_1080 : decode cL_law 1080 = .ok (.aload_n 3, 1) := by decide +kernel
theorem dL_law_1081 : decode cL_law 1081 = .ok (.iconst 0, 1) := by decide +kernel
theorem dL_law_1082 : decode cL_law 1082 = .ok (.laload, 1) := by decide +kernel
theorem dL_law_1083 : decode cL_law 1083 = .ok (.iload 6, 2) := by decide +kernel
theorem dL_law_1085 : decode cL_law 1085 = .ok (.i2l, 1) := by decide +kernel
theorem dL_law_1086 : decode cL_law 1086 = .ok (.lcmp, 1) := by decide +kernel
theorem dL_law_1087 : decode cL_law 1087 = .ok (.ifCond .eq 5, 3) := by decide +kernel
theorem dL_law_1090 : decode cL_law 1090 = .ok (.iconst 0, 1) := by decide +kernel
theorem dL_law_1091 : decode cL_law 1091 = .ok (.ireturn, 1) := by decide +kernel
theorem dL_law_1092 : decode cL_law 1092 = .ok (.goto 107, 3) := by decide +kernel
theorem dL_law_1095 : decode cL_law 1095 = .ok (.aload_n 1, 1) := by decide +kernel
theorem dL_law_1096 : decode cL_law 1096 = .ok (.invokevirtual 145, 3) := by decide +kernel
theorem dL_law_1099 : decode cL_law 1099 = .ok (.aload_n 2, 1) := by decide +kernel
theorem dL_law_1100 : decode cL_law 1100 = .ok (.invokevirtual 148, 3) := by decide +kernel
theorem dL_law_1103 : decode cL_law 1103 = .ok (.if_icmp .eq 96, 3) := by decide +kernel
theorem dL_law_1106 : decode cL_law 1106 = .ok (.iconst 0, 1) := by decide +kernel
theorem dL_law_1107 : decode cL_law 1107 = .ok (.ireturn, 1) := by decide +kernel
theorem dL_law_1108 : decode cL_law 1108 = .ok (.aload_n 1, 1) := by decide +kernel
theorem dL_law_1109 : decode cL_law 1109 = .ok (.invokevirtual 149, 3) := by decide +kernel
theorem dL_law_1112 : decode cL_law 1112 = .ok (.aload_n 2, 1) := by decide +kernel
theorem dL_law_1113 : decode cL_law 1113 = .ok (.invokevirtual 152, 3) := by decide +kernel
theorem dL_law_1116 : decode cL_law 1116 = .ok (.if_icmp .eq 83, 3) := by decide +kernel
theorem dL_law_1119 : decode cL_law 1119 = .ok (.iconst 0, 1) := by decide +kernel
theorem dL_law_1120 : decode cL_law 1120 = .ok (.ireturn, 1) := by decide +kernel
theorem dL_law_1121 : decode cL_law 1121 = .ok (.aload_n 1, 1) := by decide +kernel
theorem dL_law_1122 : decode cL_law 1122 = .ok (.invokevirtual 153, 3) := by decide +kernel
theorem dL_law_1125 : decode cL_law 1125 = .ok (.aload_n 2, 1) := by decide +kernel
theorem dL_law_1126 : decode cL_law 1126 = .ok (.invokevirtual 156, 3) := by decide +kernel
theorem dL_law_1129 : decode cL_law 1129 = .ok (.if_icmp .eq 70, 3) := by decide +kernel
theorem dL_law_1132 : decode cL_law 1132 = .ok (.iconst 0, 1) := by decide +kernel
theorem dL_law_1133 : decode cL_law 1133 = .ok (.ireturn, 1) := by decide +kernel
theorem dL_law_1134 : decode cL_law 1134 = .ok (.aload_n 1, 1) := by decide +kernel
theorem dL_law_1135 : decode cL_law 1135 = .ok (.invokevirtual 157, 3) := by decide +kernel
theorem dL_law_1138 : decode cL_law 1138 = .ok (.aload_n 2, 1) := by decide +kernel
theorem dL_law_1139 : decode cL_law 1139 = .ok (.invokevirtual 160, 3) := by decide +kernel
theorem dL_law_1142 : decode cL_law 1142 = .ok (.if_icmp .eq 57, 3) := by decide +kernel
theorem dL_law_1145 : decode cL_law 1145 = .ok (.iconst 0, 1) := by decide +kernel
theorem dL_law_1146 : decode cL_law 1146 = .ok (.ireturn, 1) := by decide +kernel
theorem dL_law_1147 : decode cL_law 1147 = .ok (.aload_n 1, 1) := by decide +kernel
theorem dL_law_1148 : decode cL_law 1148 = .ok (.invokevirtual 161, 3) := by decide +kernel
theorem dL_law_1151 : decode cL_law 1151 = .ok (.aload_n 2, 1) := by decide +kernel
theorem dL_law_1152 : decode cL_law 1152 = .ok (.invokevirtual 164, 3) := by decide +kernel
end
section
theorem dL_law_1155 : decode cL_law 1155 = .ok (.if_icmp .eq 44, 3) := by decide +kernel
theorem dL_law_1158 : decode cL_law 1158 = .ok (.iconst 0, 1) := by decide +kernel
theorem dL_law_1159 : decode cL_law 1159 = .ok (.ireturn, 1) := by decide +kernel
theorem dL_law_1160 : decode cL_law 1160 = .ok (.aload_n 1, 1) := by decide +kernel
theorem dL_law_1161 : decode cL_law 1161 = .ok (.invokevirtual 165, 3) := by decide +kernel
theorem dL_law_1164 : decode cL_law 1164 = .ok (.aload_n 2, 1) := by decide +kernel
theorem dL_law_1165 : decode cL_law 1165 = .ok (.invokevirtual 168, 3) := by decide +kernel
theorem dL_law_1168 : decode cL_law 1168 = .ok (.if_icmp .eq 31, 3) := by decide +kernel
theorem dL_law_1171 : decode cL_law 1171 = .ok (.iconst 0, 1) := by decide +kernel
theorem dL_law_1172 : decode cL_law 1172 = .ok (.ireturn, 1) := by decide +kernel
theorem dL_law_1173 : decode cL_law 1173 = .ok (.aload_n 1, 1) := by decide +kernel
theorem dL_law_1174 : decode cL_law 1174 = .ok (.invokevirtual 169, 3) := by decide +kernel
theorem dL_law_1177 : decode cL_law 1177 = .ok (.aload_n 2, 1) := by decide +kernel
theorem dL_law_1178 : decode cL_law 1178 = .ok (.invokevirtual 172, 3) := by decide +kernel
theorem dL_law_1181 : decode cL_law 1181 = .ok (.if_icmp .eq 18, 3) := by decide +kernel
theorem dL_law_1184 : decode cL_law 1184 = .ok (.iconst 0, 1) := by decide +kernel
theorem dL_law_1185 : decode cL_law 1185 = .ok (.ireturn, 1) := by decide +kernel
theorem dL_law_1186 : decode cL_law 1186 = .ok (.aload_n 1, 1) := by decide +kernel
theorem dL_law_1187 : decode cL_law 1187 = .ok (.invokevirtual 173, 3) := by decide +kernel
theorem dL_law_1190 : decode cL_law 1190 = .ok (.aload_n 2, 1) := by decide +kernel
theorem dL_law_1191 : decode cL_law 1191 = .ok (.invokevirtual 176, 3) := by decide +kernel
theorem dL_law_1194 : decode cL_law 1194 = .ok (.if_icmp .eq 5, 3) := by decide +kernel
theorem dL_law_1197 : decode cL_law 1197 = .ok (.iconst 0, 1) := by decide +kernel
theorem dL_law_1198 : decode cL_law 1198 = .ok (.ireturn, 1) := by decide +kernel
theorem dL_law_1199 : decode cL_law 1199 = .ok (.iinc 4 4, 3) := by decide +kernel
theorem dL_law_1202 : decode cL_law 1202 = .ok (.goto (-1179), 3) := by decide +kernel
theorem dL_law_1205 : decode cL_law 1205 = .ok (.iconst 1, 1) := by decide +kernel
theorem dL_law_1206 : decode cL_law 1206 = .ok (.ireturn, 1) := by decide +kernel
abbrev vwCl : List vw_C := [(RX0, TX0, 2), (RX1, TX1, 7), (RX2, TX2, 15), (RX3, TX3, 18)]
end
