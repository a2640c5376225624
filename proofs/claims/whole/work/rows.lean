section
-- ===== PART A: goes FIRST, ahead of the names: the tables' words, and 'selects' of the private methods out of them =====
/-- a private method of a class that the tables say can be made, by its rows of tables_1 -/
def lw_okq (q : MethodName × Nat) : Prop := (q.1.cls ≠ "java/lang/invoke/MethodHandle" ∧ q.1.cls ≠ "java/lang/invoke/VarHandle") ∧ Cond.instantiable q.1.cls q.2 ∈ tables_1 ∧ Cond.privateMethod q.1 ∈ tables_1 ∧ Cond.instanceMethod q.1 ∈ tables_1
theorem lw_p0 : lw_okq (⟨"PolyominoCover", "prepareChange", "()V"⟩, 13) := ⟨⟨by decide +kernel, by decide +kernel⟩, List.mem_of_getElem? (i := 18) (by decide +kernel), List.mem_of_getElem? (i := 368) (by decide +kernel), List.mem_of_getElem? (i := 369) (by decide +kernel)⟩
theorem lw_p1 : lw_okq (⟨"PolyominoCover$History", "slotAfterOldest", "(I)LPolyominoCover$Problem;"⟩, 3) := ⟨⟨by decide +kernel, by decide +kernel⟩, List.mem_of_getElem? (i := 86) (by decide +kernel), List.mem_of_getElem? (i := 376) (by decide +kernel), List.mem_of_getElem? (i := 377) (by decide +kernel)⟩
theorem lw_p2 : lw_okq (⟨"PolyominoCover$Problem", "copyPiece", "(ILPolyominoCover$Problem;I)V"⟩, 10) := ⟨⟨by decide +kernel, by decide +kernel⟩, List.mem_of_getElem? (i := 26) (by decide +kernel), List.mem_of_getElem? (i := 384) (by decide +kernel), List.mem_of_getElem? (i := 385) (by decide +kernel)⟩
theorem lw_p3 : lw_okq (⟨"PolyominoCover", "forgetDerived", "()V"⟩, 13) := ⟨⟨by decide +kernel, by decide +kernel⟩, List.mem_of_getElem? (i := 18) (by decide +kernel), List.mem_of_getElem? (i := 410) (by decide +kernel), List.mem_of_getElem? (i := 411) (by decide +kernel)⟩
theorem lw_p4 : lw_okq (⟨"PolyominoCover", "placeAll", "()V"⟩, 13) := ⟨⟨by decide +kernel, by decide +kernel⟩, List.mem_of_getElem? (i := 18) (by decide +kernel), List.mem_of_getElem? (i := 523) (by decide +kernel), List.mem_of_getElem? (i := 524) (by decide +kernel)⟩
theorem lw_p5 : lw_okq (⟨"PolyominoCover$Forms", "insertTurns", "(III)V"⟩, 2) := ⟨⟨by decide +kernel, by decide +kernel⟩, List.mem_of_getElem? (i := 137) (by decide +kernel), List.mem_of_getElem? (i := 535) (by decide +kernel), List.mem_of_getElem? (i := 536) (by decide +kernel)⟩
theorem lw_p6 : lw_okq (⟨"PolyominoCover$Forms", "insert", "(II)V"⟩, 2) := ⟨⟨by decide +kernel, by decide +kernel⟩, List.mem_of_getElem? (i := 137) (by decide +kernel), List.mem_of_getElem? (i := 539) (by decide +kernel), List.mem_of_getElem? (i := 540) (by decide +kernel)⟩
theorem lw_p7 : lw_okq (⟨"PolyominoCover$Placements", "fillForm", "(LPolyominoCover$Problem;III)V"⟩, 6) := ⟨⟨by decide +kernel, by decide +kernel⟩, List.mem_of_getElem? (i := 150) (by decide +kernel), List.mem_of_getElem? (i := 569) (by decide +kernel), List.mem_of_getElem? (i := 570) (by decide +kernel)⟩
theorem lw_p8 : lw_okq (⟨"PolyominoCover$Placements", "fillOrder", "()V"⟩, 6) := ⟨⟨by decide +kernel, by decide +kernel⟩, List.mem_of_getElem? (i := 150) (by decide +kernel), List.mem_of_getElem? (i := 591) (by decide +kernel), List.mem_of_getElem? (i := 592) (by decide +kernel)⟩
theorem lw_p9 : lw_okq (⟨"PolyominoCover$Symmetries", "fillNext", "(LPolyominoCover$Problem;I)Z"⟩, 2) := ⟨⟨by decide +kernel, by decide +kernel⟩, List.mem_of_getElem? (i := 184) (by decide +kernel), List.mem_of_getElem? (i := 609) (by decide +kernel), List.mem_of_getElem? (i := 610) (by decide +kernel)⟩
theorem lw_p10 : lw_okq (⟨"PolyominoCover$Reader", "readBoard", "()Z"⟩, 7) := ⟨⟨by decide +kernel, by decide +kernel⟩, List.mem_of_getElem? (i := 106) (by decide +kernel), List.mem_of_getElem? (i := 688) (by decide +kernel), List.mem_of_getElem? (i := 689) (by decide +kernel)⟩
theorem lw_p11 : lw_okq (⟨"PolyominoCover$Reader", "readRows", "(IZ)Z"⟩, 7) := ⟨⟨by decide +kernel, by decide +kernel⟩, List.mem_of_getElem? (i := 106) (by decide +kernel), List.mem_of_getElem? (i := 692) (by decide +kernel), List.mem_of_getElem? (i := 693) (by decide +kernel)⟩
theorem lw_p12 : lw_okq (⟨"PolyominoCover$Reader", "readRow", "(IZ)I"⟩, 7) := ⟨⟨by decide +kernel, by decide +kernel⟩, List.mem_of_getElem? (i := 106) (by decide +kernel), List.mem_of_getElem? (i := 696) (by decide +kernel), List.mem_of_getElem? (i := 697) (by decide +kernel)⟩
theorem lw_p13 : lw_okq (⟨"PolyominoCover$Reader", "readCell", "(II)Z"⟩, 7) := ⟨⟨by decide +kernel, by decide +kernel⟩, List.mem_of_getElem? (i := 106) (by decide +kernel), List.mem_of_getElem? (i := 700) (by decide +kernel), List.mem_of_getElem? (i := 701) (by decide +kernel)⟩
theorem lw_p14 : lw_okq (⟨"PolyominoCover$Reader", "look", "()I"⟩, 7) := ⟨⟨by decide +kernel, by decide +kernel⟩, List.mem_of_getElem? (i := 106) (by decide +kernel), List.mem_of_getElem? (i := 704) (by decide +kernel), List.mem_of_getElem? (i := 705) (by decide +kernel)⟩
theorem lw_p15 : lw_okq (⟨"PolyominoCover$Reader", "readSquare", "(II)Z"⟩, 7) := ⟨⟨by decide +kernel, by decide +kernel⟩, List.mem_of_getElem? (i := 106) (by decide +kernel), List.mem_of_getElem? (i := 710) (by decide +kernel), List.mem_of_getElem? (i := 711) (by decide +kernel)⟩
def lw_privs_1 : List (MethodName × Nat) := [(⟨"PolyominoCover", "prepareChange", "()V"⟩, 13), (⟨"PolyominoCover$History", "slotAfterOldest", "(I)LPolyominoCover$Problem;"⟩, 3), (⟨"PolyominoCover$Problem", "copyPiece", "(ILPolyominoCover$Problem;I)V"⟩, 10), (⟨"PolyominoCover", "forgetDerived", "()V"⟩, 13), (⟨"PolyominoCover", "placeAll", "()V"⟩, 13), (⟨"PolyominoCover$Forms", "insertTurns", "(III)V"⟩, 2), (⟨"PolyominoCover$Forms", "insert", "(II)V"⟩, 2), (⟨"PolyominoCover$Placements", "fillForm", "(LPolyominoCover$Problem;III)V"⟩, 6), (⟨"PolyominoCover$Placements", "fillOrder", "()V"⟩, 6), (⟨"PolyominoCover$Symmetries", "fillNext", "(LPolyominoCover$Problem;I)Z"⟩, 2), (⟨"PolyominoCover$Reader", "readBoard", "()Z"⟩, 7), (⟨"PolyominoCover$Reader", "readRows", "(IZ)Z"⟩, 7), (⟨"PolyominoCover$Reader", "readRow", "(IZ)I"⟩, 7), (⟨"PolyominoCover$Reader", "readCell", "(II)Z"⟩, 7), (⟨"PolyominoCover$Reader", "look", "()I"⟩, 7), (⟨"PolyominoCover$Reader", "readSquare", "(II)Z"⟩, 7)]
theorem lw_r1 : ∀ q ∈ lw_privs_1, lw_okq q := List.forall_mem_cons.mpr ⟨lw_p0, List.forall_mem_cons.mpr ⟨lw_p1, List.forall_mem_cons.mpr ⟨lw_p2, List.forall_mem_cons.mpr ⟨lw_p3, List.forall_mem_cons.mpr ⟨lw_p4, List.forall_mem_cons.mpr ⟨lw_p5, List.forall_mem_cons.mpr ⟨lw_p6, List.forall_mem_cons.mpr ⟨lw_p7, List.forall_mem_cons.mpr ⟨lw_p8, List.forall_mem_cons.mpr ⟨lw_p9, List.forall_mem_cons.mpr ⟨lw_p10, List.forall_mem_cons.mpr ⟨lw_p11, List.forall_mem_cons.mpr ⟨lw_p12, List.forall_mem_cons.mpr ⟨lw_p13, List.forall_mem_cons.mpr ⟨lw_p14, List.forall_mem_cons.mpr ⟨lw_p15, fun _ h => absurd h List.not_mem_nil⟩⟩⟩⟩⟩⟩⟩⟩⟩⟩⟩⟩⟩⟩⟩⟩
theorem lw_p16 : lw_okq (⟨"PolyominoCover$Reader", "readPiece", "()Z"⟩, 7) := ⟨⟨by decide +kernel, by decide +kernel⟩, List.mem_of_getElem? (i := 106) (by decide +kernel), List.mem_of_getElem? (i := 714) (by decide +kernel), List.mem_of_getElem? (i := 715) (by decide +kernel)⟩
theorem lw_p17 : lw_okq (⟨"PolyominoCover$Reader", "readOptions", "()Z"⟩, 7) := ⟨⟨by decide +kernel, by decide +kernel⟩, List.mem_of_getElem? (i := 106) (by decide +kernel), List.mem_of_getElem? (i := 719) (by decide +kernel), List.mem_of_getElem? (i := 720) (by decide +kernel)⟩
theorem lw_p18 : lw_okq (⟨"PolyominoCover$Reader", "readDigit", "(I)I"⟩, 7) := ⟨⟨by decide +kernel, by decide +kernel⟩, List.mem_of_getElem? (i := 106) (by decide +kernel), List.mem_of_getElem? (i := 723) (by decide +kernel), List.mem_of_getElem? (i := 724) (by decide +kernel)⟩
theorem lw_p19 : lw_okq (⟨"PolyominoCover", "searchAll", "()V"⟩, 13) := ⟨⟨by decide +kernel, by decide +kernel⟩, List.mem_of_getElem? (i := 18) (by decide +kernel), List.mem_of_getElem? (i := 741) (by decide +kernel), List.mem_of_getElem? (i := 742) (by decide +kernel)⟩
theorem lw_p20 : lw_okq (⟨"PolyominoCover$Walk", "openLevel", "()V"⟩, 16) := ⟨⟨by decide +kernel, by decide +kernel⟩, List.mem_of_getElem? (i := 199) (by decide +kernel), List.mem_of_getElem? (i := 759) (by decide +kernel), List.mem_of_getElem? (i := 760) (by decide +kernel)⟩
theorem lw_p21 : lw_okq (⟨"PolyominoCover$Walk", "isCover", "()Z"⟩, 16) := ⟨⟨by decide +kernel, by decide +kernel⟩, List.mem_of_getElem? (i := 199) (by decide +kernel), List.mem_of_getElem? (i := 771) (by decide +kernel), List.mem_of_getElem? (i := 772) (by decide +kernel)⟩
theorem lw_p22 : lw_okq (⟨"PolyominoCover$Walk", "nextThatFits", "()I"⟩, 16) := ⟨⟨by decide +kernel, by decide +kernel⟩, List.mem_of_getElem? (i := 199) (by decide +kernel), List.mem_of_getElem? (i := 775) (by decide +kernel), List.mem_of_getElem? (i := 776) (by decide +kernel)⟩
theorem lw_p23 : lw_okq (⟨"PolyominoCover$Walk", "isAllowed", "(IJ)Z"⟩, 16) := ⟨⟨by decide +kernel, by decide +kernel⟩, List.mem_of_getElem? (i := 199) (by decide +kernel), List.mem_of_getElem? (i := 781) (by decide +kernel), List.mem_of_getElem? (i := 782) (by decide +kernel)⟩
theorem lw_p24 : lw_okq (⟨"PolyominoCover$Walk", "around", "(J)J"⟩, 16) := ⟨⟨by decide +kernel, by decide +kernel⟩, List.mem_of_getElem? (i := 199) (by decide +kernel), List.mem_of_getElem? (i := 786) (by decide +kernel), List.mem_of_getElem? (i := 787) (by decide +kernel)⟩
theorem lw_p25 : lw_okq (⟨"PolyominoCover$Walk", "stepBack", "()V"⟩, 16) := ⟨⟨by decide +kernel, by decide +kernel⟩, List.mem_of_getElem? (i := 199) (by decide +kernel), List.mem_of_getElem? (i := 790) (by decide +kernel), List.mem_of_getElem? (i := 791) (by decide +kernel)⟩
theorem lw_p26 : lw_okq (⟨"PolyominoCover$Walk", "change", "(II)V"⟩, 16) := ⟨⟨by decide +kernel, by decide +kernel⟩, List.mem_of_getElem? (i := 199) (by decide +kernel), List.mem_of_getElem? (i := 794) (by decide +kernel), List.mem_of_getElem? (i := 795) (by decide +kernel)⟩
theorem lw_p27 : lw_okq (⟨"PolyominoCover$Walk", "stepOn", "(I)V"⟩, 16) := ⟨⟨by decide +kernel, by decide +kernel⟩, List.mem_of_getElem? (i := 199) (by decide +kernel), List.mem_of_getElem? (i := 798) (by decide +kernel), List.mem_of_getElem? (i := 799) (by decide +kernel)⟩
theorem lw_p28 : lw_okq (⟨"PolyominoCover", "whyNoCover", "()I"⟩, 13) := ⟨⟨by decide +kernel, by decide +kernel⟩, List.mem_of_getElem? (i := 18) (by decide +kernel), List.mem_of_getElem? (i := 818) (by decide +kernel), List.mem_of_getElem? (i := 819) (by decide +kernel)⟩
theorem lw_p29 : lw_okq (⟨"PolyominoCover$Covers", "beginsAt", "(II)Z"⟩, 8) := ⟨⟨by decide +kernel, by decide +kernel⟩, List.mem_of_getElem? (i := 259) (by decide +kernel), List.mem_of_getElem? (i := 840) (by decide +kernel), List.mem_of_getElem? (i := 841) (by decide +kernel)⟩
theorem lw_p30 : lw_okq (⟨"PolyominoCover$Covers", "isLikeEarlier", "(I)Z"⟩, 8) := ⟨⟨by decide +kernel, by decide +kernel⟩, List.mem_of_getElem? (i := 259) (by decide +kernel), List.mem_of_getElem? (i := 855) (by decide +kernel), List.mem_of_getElem? (i := 856) (by decide +kernel)⟩
theorem lw_p31 : lw_okq (⟨"PolyominoCover$Covers", "isMapped", "(III)Z"⟩, 8) := ⟨⟨by decide +kernel, by decide +kernel⟩, List.mem_of_getElem? (i := 259) (by decide +kernel), List.mem_of_getElem? (i := 863) (by decide +kernel), List.mem_of_getElem? (i := 864) (by decide +kernel)⟩
def lw_privs_2 : List (MethodName × Nat) := [(⟨"PolyominoCover$Reader", "readPiece", "()Z"⟩, 7), (⟨"PolyominoCover$Reader", "readOptions", "()Z"⟩, 7), (⟨"PolyominoCover$Reader", "readDigit", "(I)I"⟩, 7), (⟨"PolyominoCover", "searchAll", "()V"⟩, 13), (⟨"PolyominoCover$Walk", "openLevel", "()V"⟩, 16), (⟨"PolyominoCover$Walk", "isCover", "()Z"⟩, 16), (⟨"PolyominoCover$Walk", "nextThatFits", "()I"⟩, 16), (⟨"PolyominoCover$Walk", "isAllowed", "(IJ)Z"⟩, 16), (⟨"PolyominoCover$Walk", "around", "(J)J"⟩, 16), (⟨"PolyominoCover$Walk", "stepBack", "()V"⟩, 16), (⟨"PolyominoCover$Walk", "change", "(II)V"⟩, 16), (⟨"PolyominoCover$Walk", "stepOn", "(I)V"⟩, 16), (⟨"PolyominoCover", "whyNoCover", "()I"⟩, 13), (⟨"PolyominoCover$Covers", "beginsAt", "(II)Z"⟩, 8), (⟨"PolyominoCover$Covers", "isLikeEarlier", "(I)Z"⟩, 8), (⟨"PolyominoCover$Covers", "isMapped", "(III)Z"⟩, 8)]
theorem lw_r2 : ∀ q ∈ lw_privs_2, lw_okq q := List.forall_mem_cons.mpr ⟨lw_p16, List.forall_mem_cons.mpr ⟨lw_p17, List.forall_mem_cons.mpr ⟨lw_p18, List.forall_mem_cons.mpr ⟨lw_p19, List.forall_mem_cons.mpr ⟨lw_p20, List.forall_mem_cons.mpr ⟨lw_p21, List.forall_mem_cons.mpr ⟨lw_p22, List.forall_mem_cons.mpr ⟨lw_p23, List.forall_mem_cons.mpr ⟨lw_p24, List.forall_mem_cons.mpr ⟨lw_p25, List.forall_mem_cons.mpr ⟨lw_p26, List.forall_mem_cons.mpr ⟨lw_p27, List.forall_mem_cons.mpr ⟨lw_p28, List.forall_mem_cons.mpr ⟨lw_p29, List.forall_mem_cons.mpr ⟨lw_p30, List.forall_mem_cons.mpr ⟨lw_p31, fun _ h => absurd h List.not_mem_nil⟩⟩⟩⟩⟩⟩⟩⟩⟩⟩⟩⟩⟩⟩⟩⟩
theorem lw_p32 : lw_okq (⟨"PolyominoCover", "siftAll", "()V"⟩, 13) := ⟨⟨by decide +kernel, by decide +kernel⟩, List.mem_of_getElem? (i := 18) (by decide +kernel), List.mem_of_getElem? (i := 885) (by decide +kernel), List.mem_of_getElem? (i := 886) (by decide +kernel)⟩
theorem lw_p33 : lw_okq (⟨"PolyominoCover$Sieve", "strikeSome", "(LPolyominoCover$Placements;)Z"⟩, 1) := ⟨⟨by decide +kernel, by decide +kernel⟩, List.mem_of_getElem? (i := 294) (by decide +kernel), List.mem_of_getElem? (i := 893) (by decide +kernel), List.mem_of_getElem? (i := 894) (by decide +kernel)⟩
theorem lw_p34 : lw_okq (⟨"PolyominoCover$Sieve", "limitOf", "(LPolyominoCover$Placements;)I"⟩, 1) := ⟨⟨by decide +kernel, by decide +kernel⟩, List.mem_of_getElem? (i := 294) (by decide +kernel), List.mem_of_getElem? (i := 897) (by decide +kernel), List.mem_of_getElem? (i := 898) (by decide +kernel)⟩
theorem lw_p35 : lw_okq (⟨"PolyominoCover$Sieve", "leavesAllCoverable", "(LPolyominoCover$Placements;I)Z"⟩, 1) := ⟨⟨by decide +kernel, by decide +kernel⟩, List.mem_of_getElem? (i := 294) (by decide +kernel), List.mem_of_getElem? (i := 902) (by decide +kernel), List.mem_of_getElem? (i := 903) (by decide +kernel)⟩
theorem lw_p36 : lw_okq (⟨"PolyominoCover$Weights", "weighCells", "(LPolyominoCover$Problem;II)V"⟩, 3) := ⟨⟨by decide +kernel, by decide +kernel⟩, List.mem_of_getElem? (i := 305) (by decide +kernel), List.mem_of_getElem? (i := 929) (by decide +kernel), List.mem_of_getElem? (i := 930) (by decide +kernel)⟩
theorem lw_p37 : lw_okq (⟨"PolyominoCover$Weights", "rest", "(I)I"⟩, 3) := ⟨⟨by decide +kernel, by decide +kernel⟩, List.mem_of_getElem? (i := 305) (by decide +kernel), List.mem_of_getElem? (i := 935) (by decide +kernel), List.mem_of_getElem? (i := 936) (by decide +kernel)⟩
theorem lw_p38 : lw_okq (⟨"PolyominoCover$Weights", "weighPieces", "(LPolyominoCover$Placements;)V"⟩, 3) := ⟨⟨by decide +kernel, by decide +kernel⟩, List.mem_of_getElem? (i := 305) (by decide +kernel), List.mem_of_getElem? (i := 939) (by decide +kernel), List.mem_of_getElem? (i := 940) (by decide +kernel)⟩
theorem lw_p39 : lw_okq (⟨"PolyominoCover$Weights", "weightOf", "(J)I"⟩, 3) := ⟨⟨by decide +kernel, by decide +kernel⟩, List.mem_of_getElem? (i := 305) (by decide +kernel), List.mem_of_getElem? (i := 945) (by decide +kernel), List.mem_of_getElem? (i := 946) (by decide +kernel)⟩
theorem lw_p40 : lw_okq (⟨"PolyominoCover$Weights", "addAll", "(II)I"⟩, 3) := ⟨⟨by decide +kernel, by decide +kernel⟩, List.mem_of_getElem? (i := 305) (by decide +kernel), List.mem_of_getElem? (i := 954) (by decide +kernel), List.mem_of_getElem? (i := 955) (by decide +kernel)⟩
theorem lw_p41 : lw_okq (⟨"PolyominoCoverModel", "note", "()V"⟩, 38) := ⟨⟨by decide +kernel, by decide +kernel⟩, List.mem_of_getElem? (i := 970) (by decide +kernel), List.mem_of_getElem? (i := 1103) (by decide +kernel), List.mem_of_getElem? (i := 1104) (by decide +kernel)⟩
theorem lw_p42 : lw_okq (⟨"PolyominoCoverModel", "isCell", "(I)Z"⟩, 38) := ⟨⟨by decide +kernel, by decide +kernel⟩, List.mem_of_getElem? (i := 970) (by decide +kernel), List.mem_of_getElem? (i := 1111) (by decide +kernel), List.mem_of_getElem? (i := 1112) (by decide +kernel)⟩
theorem lw_p43 : lw_okq (⟨"PolyominoCoverModel", "cells", "()I"⟩, 38) := ⟨⟨by decide +kernel, by decide +kernel⟩, List.mem_of_getElem? (i := 970) (by decide +kernel), List.mem_of_getElem? (i := 1115) (by decide +kernel), List.mem_of_getElem? (i := 1116) (by decide +kernel)⟩
theorem lw_p44 : lw_okq (⟨"PolyominoCoverModel", "isOpen", "(I)Z"⟩, 38) := ⟨⟨by decide +kernel, by decide +kernel⟩, List.mem_of_getElem? (i := 970) (by decide +kernel), List.mem_of_getElem? (i := 1119) (by decide +kernel), List.mem_of_getElem? (i := 1120) (by decide +kernel)⟩
theorem lw_p45 : lw_okq (⟨"PolyominoCoverModel", "opens", "()I"⟩, 38) := ⟨⟨by decide +kernel, by decide +kernel⟩, List.mem_of_getElem? (i := 970) (by decide +kernel), List.mem_of_getElem? (i := 1123) (by decide +kernel), List.mem_of_getElem? (i := 1124) (by decide +kernel)⟩
theorem lw_p46 : lw_okq (⟨"PolyominoCoverModel", "adds", "(IIII)V"⟩, 38) := ⟨⟨by decide +kernel, by decide +kernel⟩, List.mem_of_getElem? (i := 970) (by decide +kernel), List.mem_of_getElem? (i := 1146) (by decide +kernel), List.mem_of_getElem? (i := 1147) (by decide +kernel)⟩
theorem lw_p47 : lw_okq (⟨"PolyominoCoverModel", "isPiece", "(I)Z"⟩, 38) := ⟨⟨by decide +kernel, by decide +kernel⟩, List.mem_of_getElem? (i := 970) (by decide +kernel), List.mem_of_getElem? (i := 1157) (by decide +kernel), List.mem_of_getElem? (i := 1158) (by decide +kernel)⟩
def lw_privs_3 : List (MethodName × Nat) := [(⟨"PolyominoCover", "siftAll", "()V"⟩, 13), (⟨"PolyominoCover$Sieve", "strikeSome", "(LPolyominoCover$Placements;)Z"⟩, 1), (⟨"PolyominoCover$Sieve", "limitOf", "(LPolyominoCover$Placements;)I"⟩, 1), (⟨"PolyominoCover$Sieve", "leavesAllCoverable", "(LPolyominoCover$Placements;I)Z"⟩, 1), (⟨"PolyominoCover$Weights", "weighCells", "(LPolyominoCover$Problem;II)V"⟩, 3), (⟨"PolyominoCover$Weights", "rest", "(I)I"⟩, 3), (⟨"PolyominoCover$Weights", "weighPieces", "(LPolyominoCover$Placements;)V"⟩, 3), (⟨"PolyominoCover$Weights", "weightOf", "(J)I"⟩, 3), (⟨"PolyominoCover$Weights", "addAll", "(II)I"⟩, 3), (⟨"PolyominoCoverModel", "note", "()V"⟩, 38), (⟨"PolyominoCoverModel", "isCell", "(I)Z"⟩, 38), (⟨"PolyominoCoverModel", "cells", "()I"⟩, 38), (⟨"PolyominoCoverModel", "isOpen", "(I)Z"⟩, 38), (⟨"PolyominoCoverModel", "opens", "()I"⟩, 38), (⟨"PolyominoCoverModel", "adds", "(IIII)V"⟩, 38), (⟨"PolyominoCoverModel", "isPiece", "(I)Z"⟩, 38)]
theorem lw_r3 : ∀ q ∈ lw_privs_3, lw_okq q := List.forall_mem_cons.mpr ⟨lw_p32, List.forall_mem_cons.mpr ⟨lw_p33, List.forall_mem_cons.mpr ⟨lw_p34, List.forall_mem_cons.mpr ⟨lw_p35, List.forall_mem_cons.mpr ⟨lw_p36, List.forall_mem_cons.mpr ⟨lw_p37, List.forall_mem_cons.mpr ⟨lw_p38, List.forall_mem_cons.mpr ⟨lw_p39, List.forall_mem_cons.mpr ⟨lw_p40, List.forall_mem_cons.mpr ⟨lw_p41, List.forall_mem_cons.mpr ⟨lw_p42, List.forall_mem_cons.mpr ⟨lw_p43, List.forall_mem_cons.mpr ⟨lw_p44, List.forall_mem_cons.mpr ⟨lw_p45, List.forall_mem_cons.mpr ⟨lw_p46, List.forall_mem_cons.mpr ⟨lw_p47, fun _ h => absurd h List.not_mem_nil⟩⟩⟩⟩⟩⟩⟩⟩⟩⟩⟩⟩⟩⟩⟩⟩
theorem lw_p48 : lw_okq (⟨"PolyominoCoverModel", "sets", "(IIZ)I"⟩, 38) := ⟨⟨by decide +kernel, by decide +kernel⟩, List.mem_of_getElem? (i := 970) (by decide +kernel), List.mem_of_getElem? (i := 1165) (by decide +kernel), List.mem_of_getElem? (i := 1166) (by decide +kernel)⟩
theorem lw_p49 : lw_okq (⟨"PolyominoCoverModel", "its", "(II)I"⟩, 38) := ⟨⟨by decide +kernel, by decide +kernel⟩, List.mem_of_getElem? (i := 970) (by decide +kernel), List.mem_of_getElem? (i := 1181) (by decide +kernel), List.mem_of_getElem? (i := 1182) (by decide +kernel)⟩
theorem lw_p50 : lw_okq (⟨"PolyominoCoverModel", "findsPlacements", "()V"⟩, 38) := ⟨⟨by decide +kernel, by decide +kernel⟩, List.mem_of_getElem? (i := 970) (by decide +kernel), List.mem_of_getElem? (i := 1185) (by decide +kernel), List.mem_of_getElem? (i := 1186) (by decide +kernel)⟩
theorem lw_p51 : lw_okq (⟨"PolyominoCoverModel", "findsForms", "(I)V"⟩, 38) := ⟨⟨by decide +kernel, by decide +kernel⟩, List.mem_of_getElem? (i := 970) (by decide +kernel), List.mem_of_getElem? (i := 1189) (by decide +kernel), List.mem_of_getElem? (i := 1190) (by decide +kernel)⟩
theorem lw_p52 : lw_okq (⟨"PolyominoCoverModel", "addsForm", "(I)V"⟩, 38) := ⟨⟨by decide +kernel, by decide +kernel⟩, List.mem_of_getElem? (i := 970) (by decide +kernel), List.mem_of_getElem? (i := 1193) (by decide +kernel), List.mem_of_getElem? (i := 1194) (by decide +kernel)⟩
theorem lw_p53 : lw_okq (⟨"PolyominoCoverModel", "cellsOf", "(IIII)J"⟩, 38) := ⟨⟨by decide +kernel, by decide +kernel⟩, List.mem_of_getElem? (i := 970) (by decide +kernel), List.mem_of_getElem? (i := 1200) (by decide +kernel), List.mem_of_getElem? (i := 1201) (by decide +kernel)⟩
theorem lw_p54 : lw_okq (⟨"PolyominoCoverModel", "isSymmetry", "(I)Z"⟩, 38) := ⟨⟨by decide +kernel, by decide +kernel⟩, List.mem_of_getElem? (i := 970) (by decide +kernel), List.mem_of_getElem? (i := 1207) (by decide +kernel), List.mem_of_getElem? (i := 1208) (by decide +kernel)⟩
theorem lw_p55 : lw_okq (⟨"PolyominoCoverModel", "image", "(II)I"⟩, 38) := ⟨⟨by decide +kernel, by decide +kernel⟩, List.mem_of_getElem? (i := 970) (by decide +kernel), List.mem_of_getElem? (i := 1211) (by decide +kernel), List.mem_of_getElem? (i := 1212) (by decide +kernel)⟩
theorem lw_p56 : lw_okq (⟨"PolyominoCoverModel", "placementsOf", "(I)I"⟩, 38) := ⟨⟨by decide +kernel, by decide +kernel⟩, List.mem_of_getElem? (i := 970) (by decide +kernel), List.mem_of_getElem? (i := 1223) (by decide +kernel), List.mem_of_getElem? (i := 1224) (by decide +kernel)⟩
theorem lw_p57 : lw_okq (⟨"PolyominoCoverModel", "has", "(II)Z"⟩, 38) := ⟨⟨by decide +kernel, by decide +kernel⟩, List.mem_of_getElem? (i := 970) (by decide +kernel), List.mem_of_getElem? (i := 1235) (by decide +kernel), List.mem_of_getElem? (i := 1236) (by decide +kernel)⟩
theorem lw_p58 : lw_okq (⟨"PolyominoCoverModel", "readsRows", "(Z)V"⟩, 38) := ⟨⟨by decide +kernel, by decide +kernel⟩, List.mem_of_getElem? (i := 970) (by decide +kernel), List.mem_of_getElem? (i := 1251) (by decide +kernel), List.mem_of_getElem? (i := 1252) (by decide +kernel)⟩
theorem lw_p59 : lw_okq (⟨"PolyominoCoverModel", "here", "()I"⟩, 38) := ⟨⟨by decide +kernel, by decide +kernel⟩, List.mem_of_getElem? (i := 970) (by decide +kernel), List.mem_of_getElem? (i := 1255) (by decide +kernel), List.mem_of_getElem? (i := 1256) (by decide +kernel)⟩
theorem lw_p60 : lw_okq (⟨"PolyominoCoverModel", "isInRow", "(IZ)Z"⟩, 38) := ⟨⟨by decide +kernel, by decide +kernel⟩, List.mem_of_getElem? (i := 970) (by decide +kernel), List.mem_of_getElem? (i := 1259) (by decide +kernel), List.mem_of_getElem? (i := 1260) (by decide +kernel)⟩
theorem lw_p61 : lw_okq (⟨"PolyominoCoverModel", "readsPiece", "()V"⟩, 38) := ⟨⟨by decide +kernel, by decide +kernel⟩, List.mem_of_getElem? (i := 970) (by decide +kernel), List.mem_of_getElem? (i := 1266) (by decide +kernel), List.mem_of_getElem? (i := 1267) (by decide +kernel)⟩
theorem lw_p62 : lw_okq (⟨"PolyominoCoverModel", "readsOption", "()V"⟩, 38) := ⟨⟨by decide +kernel, by decide +kernel⟩, List.mem_of_getElem? (i := 970) (by decide +kernel), List.mem_of_getElem? (i := 1270) (by decide +kernel), List.mem_of_getElem? (i := 1271) (by decide +kernel)⟩
theorem lw_p63 : lw_okq (⟨"PolyominoCoverModel", "exchanges", "()V"⟩, 38) := ⟨⟨by decide +kernel, by decide +kernel⟩, List.mem_of_getElem? (i := 970) (by decide +kernel), List.mem_of_getElem? (i := 1274) (by decide +kernel), List.mem_of_getElem? (i := 1275) (by decide +kernel)⟩
def lw_privs_4 : List (MethodName × Nat) := [(⟨"PolyominoCoverModel", "sets", "(IIZ)I"⟩, 38), (⟨"PolyominoCoverModel", "its", "(II)I"⟩, 38), (⟨"PolyominoCoverModel", "findsPlacements", "()V"⟩, 38), (⟨"PolyominoCoverModel", "findsForms", "(I)V"⟩, 38), (⟨"PolyominoCoverModel", "addsForm", "(I)V"⟩, 38), (⟨"PolyominoCoverModel", "cellsOf", "(IIII)J"⟩, 38), (⟨"PolyominoCoverModel", "isSymmetry", "(I)Z"⟩, 38), (⟨"PolyominoCoverModel", "image", "(II)I"⟩, 38), (⟨"PolyominoCoverModel", "placementsOf", "(I)I"⟩, 38), (⟨"PolyominoCoverModel", "has", "(II)Z"⟩, 38), (⟨"PolyominoCoverModel", "readsRows", "(Z)V"⟩, 38), (⟨"PolyominoCoverModel", "here", "()I"⟩, 38), (⟨"PolyominoCoverModel", "isInRow", "(IZ)Z"⟩, 38), (⟨"PolyominoCoverModel", "readsPiece", "()V"⟩, 38), (⟨"PolyominoCoverModel", "readsOption", "()V"⟩, 38), (⟨"PolyominoCoverModel", "exchanges", "()V"⟩, 38)]
theorem lw_r4 : ∀ q ∈ lw_privs_4, lw_okq q := List.forall_mem_cons.mpr ⟨lw_p48, List.forall_mem_cons.mpr ⟨lw_p49, List.forall_mem_cons.mpr ⟨lw_p50, List.forall_mem_cons.mpr ⟨lw_p51, List.forall_mem_cons.mpr ⟨lw_p52, List.forall_mem_cons.mpr ⟨lw_p53, List.forall_mem_cons.mpr ⟨lw_p54, List.forall_mem_cons.mpr ⟨lw_p55, List.forall_mem_cons.mpr ⟨lw_p56, List.forall_mem_cons.mpr ⟨lw_p57, List.forall_mem_cons.mpr ⟨lw_p58, List.forall_mem_cons.mpr ⟨lw_p59, List.forall_mem_cons.mpr ⟨lw_p60, List.forall_mem_cons.mpr ⟨lw_p61, List.forall_mem_cons.mpr ⟨lw_p62, List.forall_mem_cons.mpr ⟨lw_p63, fun _ h => absurd h List.not_mem_nil⟩⟩⟩⟩⟩⟩⟩⟩⟩⟩⟩⟩⟩⟩⟩⟩
theorem lw_p64 : lw_okq (⟨"PolyominoCoverModel", "searches", "()V"⟩, 38) := ⟨⟨by decide +kernel, by decide +kernel⟩, List.mem_of_getElem? (i := 970) (by decide +kernel), List.mem_of_getElem? (i := 1282) (by decide +kernel), List.mem_of_getElem? (i := 1283) (by decide +kernel)⟩
theorem lw_p65 : lw_okq (⟨"PolyominoCoverModel", "begins", "()V"⟩, 38) := ⟨⟨by decide +kernel, by decide +kernel⟩, List.mem_of_getElem? (i := 970) (by decide +kernel), List.mem_of_getElem? (i := 1286) (by decide +kernel), List.mem_of_getElem? (i := 1287) (by decide +kernel)⟩
theorem lw_p66 : lw_okq (⟨"PolyominoCoverModel", "goesOn", "()Z"⟩, 38) := ⟨⟨by decide +kernel, by decide +kernel⟩, List.mem_of_getElem? (i := 970) (by decide +kernel), List.mem_of_getElem? (i := 1290) (by decide +kernel), List.mem_of_getElem? (i := 1291) (by decide +kernel)⟩
theorem lw_p67 : lw_okq (⟨"PolyominoCoverModel", "all", "()J"⟩, 38) := ⟨⟨by decide +kernel, by decide +kernel⟩, List.mem_of_getElem? (i := 970) (by decide +kernel), List.mem_of_getElem? (i := 1294) (by decide +kernel), List.mem_of_getElem? (i := 1295) (by decide +kernel)⟩
theorem lw_p68 : lw_okq (⟨"PolyominoCoverModel", "goesBack", "()V"⟩, 38) := ⟨⟨by decide +kernel, by decide +kernel⟩, List.mem_of_getElem? (i := 970) (by decide +kernel), List.mem_of_getElem? (i := 1298) (by decide +kernel), List.mem_of_getElem? (i := 1299) (by decide +kernel)⟩
theorem lw_p69 : lw_okq (⟨"PolyominoCoverModel", "turns", "(IZ)V"⟩, 38) := ⟨⟨by decide +kernel, by decide +kernel⟩, List.mem_of_getElem? (i := 970) (by decide +kernel), List.mem_of_getElem? (i := 1302) (by decide +kernel), List.mem_of_getElem? (i := 1303) (by decide +kernel)⟩
theorem lw_p70 : lw_okq (⟨"PolyominoCoverModel", "isCover", "()Z"⟩, 38) := ⟨⟨by decide +kernel, by decide +kernel⟩, List.mem_of_getElem? (i := 970) (by decide +kernel), List.mem_of_getElem? (i := 1306) (by decide +kernel), List.mem_of_getElem? (i := 1307) (by decide +kernel)⟩
theorem lw_p71 : lw_okq (⟨"PolyominoCoverModel", "fits", "(I)Z"⟩, 38) := ⟨⟨by decide +kernel, by decide +kernel⟩, List.mem_of_getElem? (i := 970) (by decide +kernel), List.mem_of_getElem? (i := 1311) (by decide +kernel), List.mem_of_getElem? (i := 1312) (by decide +kernel)⟩
theorem lw_p72 : lw_okq (⟨"PolyominoCoverModel", "beside", "(J)J"⟩, 38) := ⟨⟨by decide +kernel, by decide +kernel⟩, List.mem_of_getElem? (i := 970) (by decide +kernel), List.mem_of_getElem? (i := 1315) (by decide +kernel), List.mem_of_getElem? (i := 1316) (by decide +kernel)⟩
theorem lw_p73 : lw_okq (⟨"PolyominoCoverModel", "seeks", "(I)I"⟩, 38) := ⟨⟨by decide +kernel, by decide +kernel⟩, List.mem_of_getElem? (i := 970) (by decide +kernel), List.mem_of_getElem? (i := 1327) (by decide +kernel), List.mem_of_getElem? (i := 1328) (by decide +kernel)⟩
theorem lw_p74 : lw_okq (⟨"PolyominoCoverModel", "labelsAll", "(I)V"⟩, 38) := ⟨⟨by decide +kernel, by decide +kernel⟩, List.mem_of_getElem? (i := 970) (by decide +kernel), List.mem_of_getElem? (i := 1343) (by decide +kernel), List.mem_of_getElem? (i := 1344) (by decide +kernel)⟩
theorem lw_p75 : lw_okq (⟨"PolyominoCoverModel", "labels", "(II)V"⟩, 38) := ⟨⟨by decide +kernel, by decide +kernel⟩, List.mem_of_getElem? (i := 970) (by decide +kernel), List.mem_of_getElem? (i := 1347) (by decide +kernel), List.mem_of_getElem? (i := 1348) (by decide +kernel)⟩
theorem lw_p76 : lw_okq (⟨"PolyominoCoverModel", "areAlike", "(II)Z"⟩, 38) := ⟨⟨by decide +kernel, by decide +kernel⟩, List.mem_of_getElem? (i := 970) (by decide +kernel), List.mem_of_getElem? (i := 1351) (by decide +kernel), List.mem_of_getElem? (i := 1352) (by decide +kernel)⟩
theorem lw_p77 : lw_okq (⟨"PolyominoCoverModel", "strikes", "()V"⟩, 38) := ⟨⟨by decide +kernel, by decide +kernel⟩, List.mem_of_getElem? (i := 970) (by decide +kernel), List.mem_of_getElem? (i := 1363) (by decide +kernel), List.mem_of_getElem? (i := 1364) (by decide +kernel)⟩
theorem lw_p78 : lw_okq (⟨"PolyominoCoverModel", "isUseless", "(I)Z"⟩, 38) := ⟨⟨by decide +kernel, by decide +kernel⟩, List.mem_of_getElem? (i := 970) (by decide +kernel), List.mem_of_getElem? (i := 1367) (by decide +kernel), List.mem_of_getElem? (i := 1368) (by decide +kernel)⟩
theorem lw_p79 : lw_okq (⟨"PolyominoCoverModel", "isProof", "(III)Z"⟩, 38) := ⟨⟨by decide +kernel, by decide +kernel⟩, List.mem_of_getElem? (i := 970) (by decide +kernel), List.mem_of_getElem? (i := 1379) (by decide +kernel), List.mem_of_getElem? (i := 1380) (by decide +kernel)⟩
def lw_privs_5 : List (MethodName × Nat) := [(⟨"PolyominoCoverModel", "searches", "()V"⟩, 38), (⟨"PolyominoCoverModel", "begins", "()V"⟩, 38), (⟨"PolyominoCoverModel", "goesOn", "()Z"⟩, 38), (⟨"PolyominoCoverModel", "all", "()J"⟩, 38), (⟨"PolyominoCoverModel", "goesBack", "()V"⟩, 38), (⟨"PolyominoCoverModel", "turns", "(IZ)V"⟩, 38), (⟨"PolyominoCoverModel", "isCover", "()Z"⟩, 38), (⟨"PolyominoCoverModel", "fits", "(I)Z"⟩, 38), (⟨"PolyominoCoverModel", "beside", "(J)J"⟩, 38), (⟨"PolyominoCoverModel", "seeks", "(I)I"⟩, 38), (⟨"PolyominoCoverModel", "labelsAll", "(I)V"⟩, 38), (⟨"PolyominoCoverModel", "labels", "(II)V"⟩, 38), (⟨"PolyominoCoverModel", "areAlike", "(II)Z"⟩, 38), (⟨"PolyominoCoverModel", "strikes", "()V"⟩, 38), (⟨"PolyominoCoverModel", "isUseless", "(I)Z"⟩, 38), (⟨"PolyominoCoverModel", "isProof", "(III)Z"⟩, 38)]
theorem lw_r5 : ∀ q ∈ lw_privs_5, lw_okq q := List.forall_mem_cons.mpr ⟨lw_p64, List.forall_mem_cons.mpr ⟨lw_p65, List.forall_mem_cons.mpr ⟨lw_p66, List.forall_mem_cons.mpr ⟨lw_p67, List.forall_mem_cons.mpr ⟨lw_p68, List.forall_mem_cons.mpr ⟨lw_p69, List.forall_mem_cons.mpr ⟨lw_p70, List.forall_mem_cons.mpr ⟨lw_p71, List.forall_mem_cons.mpr ⟨lw_p72, List.forall_mem_cons.mpr ⟨lw_p73, List.forall_mem_cons.mpr ⟨lw_p74, List.forall_mem_cons.mpr ⟨lw_p75, List.forall_mem_cons.mpr ⟨lw_p76, List.forall_mem_cons.mpr ⟨lw_p77, List.forall_mem_cons.mpr ⟨lw_p78, List.forall_mem_cons.mpr ⟨lw_p79, fun _ h => absurd h List.not_mem_nil⟩⟩⟩⟩⟩⟩⟩⟩⟩⟩⟩⟩⟩⟩⟩⟩
theorem lw_p80 : lw_okq (⟨"PolyominoCoverModel", "weights", "(IIII)I"⟩, 38) := ⟨⟨by decide +kernel, by decide +kernel⟩, List.mem_of_getElem? (i := 970) (by decide +kernel), List.mem_of_getElem? (i := 1383) (by decide +kernel), List.mem_of_getElem? (i := 1384) (by decide +kernel)⟩
theorem lw_p81 : lw_okq (⟨"PolyominoCoverModel", "weight", "(JIII)I"⟩, 38) := ⟨⟨by decide +kernel, by decide +kernel⟩, List.mem_of_getElem? (i := 970) (by decide +kernel), List.mem_of_getElem? (i := 1387) (by decide +kernel), List.mem_of_getElem? (i := 1388) (by decide +kernel)⟩
def lw_privs_6 : List (MethodName × Nat) := [(⟨"PolyominoCoverModel", "weights", "(IIII)I"⟩, 38), (⟨"PolyominoCoverModel", "weight", "(JIII)I"⟩, 38)]
theorem lw_r6 : ∀ q ∈ lw_privs_6, lw_okq q := List.forall_mem_cons.mpr ⟨lw_p80, List.forall_mem_cons.mpr ⟨lw_p81, fun _ h => absurd h List.not_mem_nil⟩⟩
def lw_privs : List (MethodName × Nat) := lw_privs_1 ++ (lw_privs_2 ++ (lw_privs_3 ++ (lw_privs_4 ++ (lw_privs_5 ++ (lw_privs_6)))))
def lw_tbl : List Cond := k2_sels lw_privs ++ tables_1
theorem lw_privs_ok : ∀ q ∈ lw_privs, lw_okq q := by
  show ∀ q ∈ lw_privs_1 ++ (lw_privs_2 ++ (lw_privs_3 ++ (lw_privs_4 ++ (lw_privs_5 ++ (lw_privs_6))))), lw_okq q
  exact List.forall_mem_append.mpr ⟨lw_r1, List.forall_mem_append.mpr ⟨lw_r2, List.forall_mem_append.mpr ⟨lw_r3, List.forall_mem_append.mpr ⟨lw_r4, List.forall_mem_append.mpr ⟨lw_r5, lw_r6⟩⟩⟩⟩⟩
end
section
-- the kit's printed names (starting text), the words by their places, links and method descriptors (printed by wip/whole/gennames.py)
theorem goodIn_r {big : List Cond} (ws : List Cond) (ps : List Nat) (hp : ws = ps.filterMap (fun i => big[i]?)) (h : ws.all goodWord = true) : GoodIn big ws := by
  intro w hw
  have h1 := List.all_eq_true.mp h w hw
  rw [hp] at hw
  obtain ⟨i, -, hi⟩ := List.mem_filterMap.mp hw
  have hm : w ∈ big := by first | exact List.mem_of_getElem? hi | exact List.getElem?_mem hi
  exact ⟨hm, good_of_word h1⟩
theorem goodIn_app {big a b : List Cond} (ha : GoodIn big a) (hb : GoodIn big b) : GoodIn big (a ++ b) := fun w h => (List.mem_append.mp h).elim (ha w) (hb w)
theorem goodIn_ca {big a b : List Cond} {c : Cond} (ha : GoodIn big (c :: a)) (hb : GoodIn big b) : GoodIn big (c :: (a ++ b)) := fun w h => (List.mem_cons.mp h).elim (fun e => ha w (List.mem_cons.mpr (Or.inl e))) (fun h => (List.mem_append.mp h).elim (fun h => ha w (List.mem_cons.mpr (Or.inr h))) (hb w))
theorem goodIn_sub {big ws : List Cond} (hm : ∀ w ∈ ws, w ∈ big) (h : ws.all goodWord = true) : GoodIn big ws := fun w hw => ⟨hm w hw, good_of_word (List.all_eq_true.mp h w hw)⟩
def RX0 : String := "PolyominoCover$Covers"
def TX0 : u_T := fun k => match k with
  | 0 => ("PolyominoCover$Covers", "walk", "LPolyominoCover$Walk;", true)
  | 1 => ("PolyominoCover$Covers", "placements", "LPolyominoCover$Placements;", true)
  | 2 => ("PolyominoCover$Covers", "symmetries", "LPolyominoCover$Symmetries;", true)
  | 3 => ("PolyominoCover$Covers", "rows", "[I", true)
  | 4 => ("PolyominoCover$Covers", "size", "I", false)
  | 5 => ("PolyominoCover$Covers", "tryCount", "I", false)
  | 6 => ("PolyominoCover$Covers", "least", "I", false)
  | _ => ("PolyominoCover$Covers", "finished", "Z", false)
def tyX0 : Nat → FieldType := fun k => match k with
  | 0 => .object "PolyominoCover$Walk"
  | 1 => .object "PolyominoCover$Placements"
  | 2 => .object "PolyominoCover$Symmetries"
  | 3 => .array .int
  | 4 => .int
  | 5 => .int
  | 6 => .int
  | _ => .boolean
abbrev wsX00 : List Cond := u_ws RX0 TX0 8
theorem nmX0 : ∀ a, a < 8 → ∀ b, b < 8 → a ≠ b → (TX0 a).2.1 ≠ (TX0 b).2.1 := by decide +kernel
theorem tyX0_ok : ∀ k, k < 8 → parseFieldDescriptor (TX0 k).2.2.1 = some (tyX0 k) := by decide +kernel
abbrev cX0_init : ByteArray := prog_2_method_1_code
def yX0_init : MethodName := ⟨RX0, "<init>", "(LPolyominoCover$Walk;LPolyominoCover$Placements;LPolyominoCover$Symmetries;)V"⟩
abbrev cX0_collect : ByteArray := prog_2_method_2_code
def yX0_collect : MethodName := ⟨RX0, "collect", "()V"⟩
abbrev cX0_rowOf : ByteArray := prog_2_method_3_code
def yX0_rowOf : MethodName := ⟨RX0, "rowOf", "(II)I"⟩
abbrev cX0_placementAt : ByteArray := prog_2_method_4_code
def yX0_placementAt : MethodName := ⟨RX0, "placementAt", "(II)I"⟩
abbrev cX0_beginsAt : ByteArray := prog_2_method_5_code
def yX0_beginsAt : MethodName := ⟨RX0, "beginsAt", "(II)Z"⟩
abbrev cX0_usesOf : ByteArray := prog_2_method_6_code
def yX0_usesOf : MethodName := ⟨RX0, "usesOf", "(II)I"⟩
abbrev cX0_classCount : ByteArray := prog_2_method_7_code
def yX0_classCount : MethodName := ⟨RX0, "classCount", "()I"⟩
abbrev cX0_isLikeEarlier : ByteArray := prog_2_method_8_code
def yX0_isLikeEarlier : MethodName := ⟨RX0, "isLikeEarlier", "(I)Z"⟩
abbrev cX0_areAlike : ByteArray := prog_2_method_9_code
def yX0_areAlike : MethodName := ⟨RX0, "areAlike", "(II)Z"⟩
abbrev cX0_isMapped : ByteArray := prog_2_method_10_code
def yX0_isMapped : MethodName := ⟨RX0, "isMapped", "(III)Z"⟩
def RX1 : String := "PolyominoCover$Forms"
def TX1 : u_T := fun k => match k with
  | 0 => ("PolyominoCover$Forms", "shapes", "[I", true)
  | _ => ("PolyominoCover$Forms", "sizes", "[I", true)
def tyX1 : Nat → FieldType := fun k => match k with
  | 0 => .array .int
  | _ => .array .int
abbrev wsX10 : List Cond := u_ws RX1 TX1 2
theorem nmX1 : ∀ a, a < 2 → ∀ b, b < 2 → a ≠ b → (TX1 a).2.1 ≠ (TX1 b).2.1 := by decide +kernel
theorem tyX1_ok : ∀ k, k < 2 → parseFieldDescriptor (TX1 k).2.2.1 = some (tyX1 k) := by decide +kernel
abbrev cX1_init : ByteArray := prog_3_method_1_code
def yX1_init : MethodName := ⟨RX1, "<init>", "()V"⟩
abbrev cX1_fill : ByteArray := prog_3_method_2_code
def yX1_fill : MethodName := ⟨RX1, "fill", "(LPolyominoCover$Problem;)V"⟩
abbrev cX1_insertTurns : ByteArray := prog_3_method_3_code
def yX1_insertTurns : MethodName := ⟨RX1, "insertTurns", "(III)V"⟩
abbrev cX1_insert : ByteArray := prog_3_method_4_code
def yX1_insert : MethodName := ⟨RX1, "insert", "(II)V"⟩
abbrev cX1_sizeOf : ByteArray := prog_3_method_5_code
def yX1_sizeOf : MethodName := ⟨RX1, "sizeOf", "(I)I"⟩
abbrev cX1_shapeOf : ByteArray := prog_3_method_6_code
def yX1_shapeOf : MethodName := ⟨RX1, "shapeOf", "(II)I"⟩
def RX2 : String := "PolyominoCover$History"
def TX2 : u_T := fun k => match k with
  | 0 => ("PolyominoCover$History", "ring", "[LPolyominoCover$Problem;", true)
  | 1 => ("PolyominoCover$History", "oldest", "I", false)
  | _ => ("PolyominoCover$History", "size", "I", false)
def tyX2 : Nat → FieldType := fun k => match k with
  | 0 => .array (.object "PolyominoCover$Problem")
  | 1 => .int
  | _ => .int
abbrev wsX20 : List Cond := u_ws RX2 TX2 3
theorem nmX2 : ∀ a, a < 3 → ∀ b, b < 3 → a ≠ b → (TX2 a).2.1 ≠ (TX2 b).2.1 := by decide +kernel
theorem tyX2_ok : ∀ k, k < 3 → parseFieldDescriptor (TX2 k).2.2.1 = some (tyX2 k) := by decide +kernel
abbrev cX2_init : ByteArray := prog_4_method_1_code
def yX2_init : MethodName := ⟨RX2, "<init>", "()V"⟩
abbrev cX2_save : ByteArray := prog_4_method_2_code
def yX2_save : MethodName := ⟨RX2, "save", "(LPolyominoCover$Problem;)V"⟩
abbrev cX2_restore : ByteArray := prog_4_method_3_code
def yX2_restore : MethodName := ⟨RX2, "restore", "(LPolyominoCover$Problem;)V"⟩
abbrev cX2_slotAfterOldest : ByteArray := prog_4_method_4_code
def yX2_slotAfterOldest : MethodName := ⟨RX2, "slotAfterOldest", "(I)LPolyominoCover$Problem;"⟩
def RX3 : String := "PolyominoCover$Placements"
def TX3 : u_T := fun k => match k with
  | 0 => ("PolyominoCover$Placements", "masks", "[J", true)
  | 1 => ("PolyominoCover$Placements", "codes", "[I", true)
  | 2 => ("PolyominoCover$Placements", "order", "[I", true)
  | 3 => ("PolyominoCover$Placements", "starts", "[I", true)
  | 4 => ("PolyominoCover$Placements", "size", "I", false)
  | _ => ("PolyominoCover$Placements", "open", "J", false)
def tyX3 : Nat → FieldType := fun k => match k with
  | 0 => .array .long
  | 1 => .array .int
  | 2 => .array .int
  | 3 => .array .int
  | 4 => .int
  | _ => .long
abbrev wsX30 : List Cond := u_ws RX3 TX3 6
theorem nmX3 : ∀ a, a < 6 → ∀ b, b < 6 → a ≠ b → (TX3 a).2.1 ≠ (TX3 b).2.1 := by decide +kernel
theorem tyX3_ok : ∀ k, k < 6 → parseFieldDescriptor (TX3 k).2.2.1 = some (tyX3 k) := by decide +kernel
abbrev cX3_init : ByteArray := prog_5_method_1_code
def yX3_init : MethodName := ⟨RX3, "<init>", "()V"⟩
abbrev cX3_fill : ByteArray := prog_5_method_2_code
def yX3_fill : MethodName := ⟨RX3, "fill", "(LPolyominoCover$Problem;LPolyominoCover$Forms;)V"⟩
abbrev cX3_fillForm : ByteArray := prog_5_method_3_code
def yX3_fillForm : MethodName := ⟨RX3, "fillForm", "(LPolyominoCover$Problem;III)V"⟩
abbrev cX3_lay : ByteArray := prog_5_method_4_code
def yX3_lay : MethodName := ⟨RX3, "lay", "(LPolyominoCover$Problem;III)J"⟩
abbrev cX3_fillOrder : ByteArray := prog_5_method_5_code
def yX3_fillOrder : MethodName := ⟨RX3, "fillOrder", "()V"⟩
abbrev cX3_maskOf : ByteArray := prog_5_method_6_code
def yX3_maskOf : MethodName := ⟨RX3, "maskOf", "(I)J"⟩
abbrev cX3_pieceOf : ByteArray := prog_5_method_7_code
def yX3_pieceOf : MethodName := ⟨RX3, "pieceOf", "(I)I"⟩
abbrev cX3_formOf : ByteArray := prog_5_method_8_code
def yX3_formOf : MethodName := ⟨RX3, "formOf", "(I)I"⟩
abbrev cX3_cornerOf : ByteArray := prog_5_method_9_code
def yX3_cornerOf : MethodName := ⟨RX3, "cornerOf", "(I)I"⟩
abbrev cX3_sizeOf : ByteArray := prog_5_method_10_code
def yX3_sizeOf : MethodName := ⟨RX3, "sizeOf", "(I)I"⟩
def RX4 : String := "PolyominoCover$Problem"
def TX4 : u_T := fun k => match k with
  | 0 => ("PolyominoCover$Problem", "width", "I", false)
  | 1 => ("PolyominoCover$Problem", "height", "I", false)
  | 2 => ("PolyominoCover$Problem", "mode", "I", false)
  | 3 => ("PolyominoCover$Problem", "rule", "I", false)
  | 4 => ("PolyominoCover$Problem", "pieceCount", "I", false)
  | 5 => ("PolyominoCover$Problem", "cells", "[I", true)
  | 6 => ("PolyominoCover$Problem", "shapes", "[I", true)
  | 7 => ("PolyominoCover$Problem", "freedoms", "[I", true)
  | 8 => ("PolyominoCover$Problem", "colours", "[I", true)
  | _ => ("PolyominoCover$Problem", "copies", "[I", true)
def tyX4 : Nat → FieldType := fun k => match k with
  | 0 => .int
  | 1 => .int
  | 2 => .int
  | 3 => .int
  | 4 => .int
  | 5 => .array .int
  | 6 => .array .int
  | 7 => .array .int
  | 8 => .array .int
  | _ => .array .int
abbrev wsX40 : List Cond := u_ws RX4 TX4 10
theorem nmX4 : ∀ a, a < 10 → ∀ b, b < 10 → a ≠ b → (TX4 a).2.1 ≠ (TX4 b).2.1 := by decide +kernel
theorem tyX4_ok : ∀ k, k < 10 → parseFieldDescriptor (TX4 k).2.2.1 = some (tyX4 k) := by decide +kernel
abbrev cX4_init : ByteArray := prog_6_method_1_code
def yX4_init : MethodName := ⟨RX4, "<init>", "()V"⟩
abbrev cX4_copyFrom : ByteArray := prog_6_method_2_code
def yX4_copyFrom : MethodName := ⟨RX4, "copyFrom", "(LPolyominoCover$Problem;)V"⟩
abbrev cX4_copyPiece : ByteArray := prog_6_method_3_code
def yX4_copyPiece : MethodName := ⟨RX4, "copyPiece", "(ILPolyominoCover$Problem;I)V"⟩
abbrev cX4_makeBoard : ByteArray := prog_6_method_4_code
def yX4_makeBoard : MethodName := ⟨RX4, "makeBoard", "(II)V"⟩
abbrev cX4_cellCount : ByteArray := prog_6_method_5_code
def yX4_cellCount : MethodName := ⟨RX4, "cellCount", "()I"⟩
abbrev cX4_hasCell : ByteArray := prog_6_method_6_code
def yX4_hasCell : MethodName := ⟨RX4, "hasCell", "(I)Z"⟩
abbrev cX4_cellAt : ByteArray := prog_6_method_7_code
def yX4_cellAt : MethodName := ⟨RX4, "cellAt", "(I)I"⟩
abbrev cX4_putCell : ByteArray := prog_6_method_8_code
def yX4_putCell : MethodName := ⟨RX4, "putCell", "(II)V"⟩
abbrev cX4_isHole : ByteArray := prog_6_method_9_code
def yX4_isHole : MethodName := ⟨RX4, "isHole", "(I)Z"⟩
abbrev cX4_columnOf : ByteArray := prog_6_method_10_code
def yX4_columnOf : MethodName := ⟨RX4, "columnOf", "(I)I"⟩
abbrev cX4_rowOf : ByteArray := prog_6_method_11_code
def yX4_rowOf : MethodName := ⟨RX4, "rowOf", "(I)I"⟩
abbrev cX4_openCount : ByteArray := prog_6_method_12_code
def yX4_openCount : MethodName := ⟨RX4, "openCount", "()I"⟩
abbrev cX4_openMask : ByteArray := prog_6_method_13_code
def yX4_openMask : MethodName := ⟨RX4, "openMask", "()J"⟩
abbrev cX4_takesColour : ByteArray := prog_6_method_14_code
def yX4_takesColour : MethodName := ⟨RX4, "takesColour", "(II)Z"⟩
abbrev cX4_hasPiece : ByteArray := prog_6_method_15_code
def yX4_hasPiece : MethodName := ⟨RX4, "hasPiece", "(I)Z"⟩
abbrev cX4_shapeOf : ByteArray := prog_6_method_16_code
def yX4_shapeOf : MethodName := ⟨RX4, "shapeOf", "(I)I"⟩
abbrev cX4_freedomOf : ByteArray := prog_6_method_17_code
def yX4_freedomOf : MethodName := ⟨RX4, "freedomOf", "(I)I"⟩
abbrev cX4_colourOf : ByteArray := prog_6_method_18_code
def yX4_colourOf : MethodName := ⟨RX4, "colourOf", "(I)I"⟩
abbrev cX4_copiesOf : ByteArray := prog_6_method_19_code
def yX4_copiesOf : MethodName := ⟨RX4, "copiesOf", "(I)I"⟩
abbrev cX4_append : ByteArray := prog_6_method_20_code
def yX4_append : MethodName := ⟨RX4, "append", "(IIII)V"⟩
abbrev cX4_dropPiece : ByteArray := prog_6_method_21_code
def yX4_dropPiece : MethodName := ⟨RX4, "dropPiece", "(I)V"⟩
abbrev cX4_copyCount : ByteArray := prog_6_method_22_code
def yX4_copyCount : MethodName := ⟨RX4, "copyCount", "()I"⟩
abbrev cX4_squareCount : ByteArray := prog_6_method_23_code
def yX4_squareCount : MethodName := ⟨RX4, "squareCount", "()I"⟩
def RX5 : String := "PolyominoCover$Reader"
def TX5 : u_T := fun k => match k with
  | 0 => ("PolyominoCover$Reader", "characters", "[I", true)
  | 1 => ("PolyominoCover$Reader", "length", "I", false)
  | 2 => ("PolyominoCover$Reader", "draft", "LPolyominoCover$Problem;", true)
  | 3 => ("PolyominoCover$Reader", "position", "I", false)
  | 4 => ("PolyominoCover$Reader", "columns", "I", false)
  | 5 => ("PolyominoCover$Reader", "rows", "I", false)
  | _ => ("PolyominoCover$Reader", "shape", "I", false)
def tyX5 : Nat → FieldType := fun k => match k with
  | 0 => .array .int
  | 1 => .int
  | 2 => .object "PolyominoCover$Problem"
  | 3 => .int
  | 4 => .int
  | 5 => .int
  | _ => .int
abbrev wsX50 : List Cond := u_ws RX5 TX5 7
theorem nmX5 : ∀ a, a < 7 → ∀ b, b < 7 → a ≠ b → (TX5 a).2.1 ≠ (TX5 b).2.1 := by decide +kernel
theorem tyX5_ok : ∀ k, k < 7 → parseFieldDescriptor (TX5 k).2.2.1 = some (tyX5 k) := by decide +kernel
abbrev cX5_init : ByteArray := prog_7_method_1_code
def yX5_init : MethodName := ⟨RX5, "<init>", "()V"⟩
abbrev cX5_append : ByteArray := prog_7_method_2_code
def yX5_append : MethodName := ⟨RX5, "append", "(I)V"⟩
abbrev cX5_handOver : ByteArray := prog_7_method_3_code
def yX5_handOver : MethodName := ⟨RX5, "handOver", "(LPolyominoCover$Problem;)V"⟩
abbrev cX5_read : ByteArray := prog_7_method_4_code
def yX5_read : MethodName := ⟨RX5, "read", "()I"⟩
abbrev cX5_look : ByteArray := prog_7_method_5_code
def yX5_look : MethodName := ⟨RX5, "look", "()I"⟩
abbrev cX5_readBoard : ByteArray := prog_7_method_6_code
def yX5_readBoard : MethodName := ⟨RX5, "readBoard", "()Z"⟩
abbrev cX5_readRows : ByteArray := prog_7_method_7_code
def yX5_readRows : MethodName := ⟨RX5, "readRows", "(IZ)Z"⟩
abbrev cX5_readRow : ByteArray := prog_7_method_8_code
def yX5_readRow : MethodName := ⟨RX5, "readRow", "(IZ)I"⟩
abbrev cX5_readCell : ByteArray := prog_7_method_9_code
def yX5_readCell : MethodName := ⟨RX5, "readCell", "(II)Z"⟩
abbrev cX5_readSquare : ByteArray := prog_7_method_10_code
def yX5_readSquare : MethodName := ⟨RX5, "readSquare", "(II)Z"⟩
abbrev cX5_readPiece : ByteArray := prog_7_method_11_code
def yX5_readPiece : MethodName := ⟨RX5, "readPiece", "()Z"⟩
abbrev cX5_readOptions : ByteArray := prog_7_method_12_code
def yX5_readOptions : MethodName := ⟨RX5, "readOptions", "()Z"⟩
abbrev cX5_readDigit : ByteArray := prog_7_method_13_code
def yX5_readDigit : MethodName := ⟨RX5, "readDigit", "(I)I"⟩
def RX6 : String := "PolyominoCover$Shapes"
def TX6 : u_T := fun k => match k with
  | _ => ("", "", "", false)
def tyX6 : Nat → FieldType := fun k => match k with
  | _ => .int
abbrev wsX60 : List Cond := u_ws RX6 TX6 0
theorem nmX6 : ∀ a, a < 0 → ∀ b, b < 0 → a ≠ b → (TX6 a).2.1 ≠ (TX6 b).2.1 := by decide +kernel
theorem tyX6_ok : ∀ k, k < 0 → parseFieldDescriptor (TX6 k).2.2.1 = some (tyX6 k) := by decide +kernel
abbrev cX6_isShape : ByteArray := prog_8_method_2_code
def yX6_isShape : MethodName := ⟨RX6, "isShape", "(I)Z"⟩
abbrev cX6_hangsTogether : ByteArray := prog_8_method_3_code
def yX6_hangsTogether : MethodName := ⟨RX6, "hangsTogether", "(I)Z"⟩
abbrev cX6_normalize : ByteArray := prog_8_method_4_code
def yX6_normalize : MethodName := ⟨RX6, "normalize", "(I)I"⟩
abbrev cX6_turn : ByteArray := prog_8_method_5_code
def yX6_turn : MethodName := ⟨RX6, "turn", "(I)I"⟩
abbrev cX6_mirror : ByteArray := prog_8_method_6_code
def yX6_mirror : MethodName := ⟨RX6, "mirror", "(I)I"⟩
abbrev cX6_hasSquare : ByteArray := prog_8_method_7_code
def yX6_hasSquare : MethodName := ⟨RX6, "hasSquare", "(II)Z"⟩
def RX7 : String := "PolyominoCover$Sieve"
def TX7 : u_T := fun k => match k with
  | _ => ("PolyominoCover$Sieve", "struck", "[Z", true)
def tyX7 : Nat → FieldType := fun k => match k with
  | _ => .array .boolean
abbrev wsX70 : List Cond := u_ws RX7 TX7 1
theorem nmX7 : ∀ a, a < 1 → ∀ b, b < 1 → a ≠ b → (TX7 a).2.1 ≠ (TX7 b).2.1 := by decide +kernel
theorem tyX7_ok : ∀ k, k < 1 → parseFieldDescriptor (TX7 k).2.2.1 = some (tyX7 k) := by decide +kernel
abbrev cX7_init : ByteArray := prog_9_method_1_code
def yX7_init : MethodName := ⟨RX7, "<init>", "()V"⟩
abbrev cX7_sift : ByteArray := prog_9_method_2_code
def yX7_sift : MethodName := ⟨RX7, "sift", "(LPolyominoCover$Placements;)V"⟩
abbrev cX7_strikeSome : ByteArray := prog_9_method_3_code
def yX7_strikeSome : MethodName := ⟨RX7, "strikeSome", "(LPolyominoCover$Placements;)Z"⟩
abbrev cX7_limitOf : ByteArray := prog_9_method_4_code
def yX7_limitOf : MethodName := ⟨RX7, "limitOf", "(LPolyominoCover$Placements;)I"⟩
abbrev cX7_leavesAllCoverable : ByteArray := prog_9_method_5_code
def yX7_leavesAllCoverable : MethodName := ⟨RX7, "leavesAllCoverable", "(LPolyominoCover$Placements;I)Z"⟩
abbrev cX7_leftOfPiece : ByteArray := prog_9_method_6_code
def yX7_leftOfPiece : MethodName := ⟨RX7, "leftOfPiece", "(LPolyominoCover$Placements;I)I"⟩
abbrev cX7_leftAtCell : ByteArray := prog_9_method_7_code
def yX7_leftAtCell : MethodName := ⟨RX7, "leftAtCell", "(LPolyominoCover$Placements;I)I"⟩
def RX8 : String := "PolyominoCover$Symmetries"
def TX8 : u_T := fun k => match k with
  | 0 => ("PolyominoCover$Symmetries", "images", "[I", true)
  | _ => ("PolyominoCover$Symmetries", "size", "I", false)
def tyX8 : Nat → FieldType := fun k => match k with
  | 0 => .array .int
  | _ => .int
abbrev wsX80 : List Cond := u_ws RX8 TX8 2
theorem nmX8 : ∀ a, a < 2 → ∀ b, b < 2 → a ≠ b → (TX8 a).2.1 ≠ (TX8 b).2.1 := by decide +kernel
theorem tyX8_ok : ∀ k, k < 2 → parseFieldDescriptor (TX8 k).2.2.1 = some (tyX8 k) := by decide +kernel
abbrev cX8_init : ByteArray := prog_10_method_1_code
def yX8_init : MethodName := ⟨RX8, "<init>", "()V"⟩
abbrev cX8_fill : ByteArray := prog_10_method_2_code
def yX8_fill : MethodName := ⟨RX8, "fill", "(LPolyominoCover$Problem;)V"⟩
abbrev cX8_fillNext : ByteArray := prog_10_method_3_code
def yX8_fillNext : MethodName := ⟨RX8, "fillNext", "(LPolyominoCover$Problem;I)Z"⟩
abbrev cX8_mapCell : ByteArray := prog_10_method_4_code
def yX8_mapCell : MethodName := ⟨RX8, "mapCell", "(LPolyominoCover$Problem;II)I"⟩
abbrev cX8_imageOf : ByteArray := prog_10_method_5_code
def yX8_imageOf : MethodName := ⟨RX8, "imageOf", "(II)I"⟩
def RX9 : String := "PolyominoCover$Walk"
def TX9 : u_T := fun k => match k with
  | 0 => ("PolyominoCover$Walk", "problem", "LPolyominoCover$Problem;", true)
  | 1 => ("PolyominoCover$Walk", "placements", "LPolyominoCover$Placements;", true)
  | 2 => ("PolyominoCover$Walk", "chosen", "[I", true)
  | 3 => ("PolyominoCover$Walk", "next", "[I", true)
  | 4 => ("PolyominoCover$Walk", "copiesLeft", "[I", true)
  | 5 => ("PolyominoCover$Walk", "takenByColour", "[J", true)
  | 6 => ("PolyominoCover$Walk", "taken", "J", false)
  | 7 => ("PolyominoCover$Walk", "leftColumn", "J", false)
  | 8 => ("PolyominoCover$Walk", "rightColumn", "J", false)
  | 9 => ("PolyominoCover$Walk", "level", "I", false)
  | 10 => ("PolyominoCover$Walk", "copyCount", "I", false)
  | 11 => ("PolyominoCover$Walk", "tryCount", "I", false)
  | 12 => ("PolyominoCover$Walk", "coverCount", "I", false)
  | 13 => ("PolyominoCover$Walk", "unseen", "Z", false)
  | 14 => ("PolyominoCover$Walk", "over", "Z", false)
  | _ => ("PolyominoCover$Walk", "unfinished", "Z", false)
def tyX9 : Nat → FieldType := fun k => match k with
  | 0 => .object "PolyominoCover$Problem"
  | 1 => .object "PolyominoCover$Placements"
  | 2 => .array .int
  | 3 => .array .int
  | 4 => .array .int
  | 5 => .array .long
  | 6 => .long
  | 7 => .long
  | 8 => .long
  | 9 => .int
  | 10 => .int
  | 11 => .int
  | 12 => .int
  | 13 => .boolean
  | 14 => .boolean
  | _ => .boolean
abbrev wsX90 : List Cond := u_ws RX9 TX9 16
theorem nmX9 : ∀ a, a < 16 → ∀ b, b < 16 → a ≠ b → (TX9 a).2.1 ≠ (TX9 b).2.1 := by decide +kernel
theorem tyX9_ok : ∀ k, k < 16 → parseFieldDescriptor (TX9 k).2.2.1 = some (tyX9 k) := by decide +kernel
abbrev cX9_init : ByteArray := prog_11_method_1_code
def yX9_init : MethodName := ⟨RX9, "<init>", "(LPolyominoCover$Problem;LPolyominoCover$Placements;)V"⟩
abbrev cX9_begin : ByteArray := prog_11_method_2_code
def yX9_begin : MethodName := ⟨RX9, "begin", "()V"⟩
abbrev cX9_advance : ByteArray := prog_11_method_3_code
def yX9_advance : MethodName := ⟨RX9, "advance", "()Z"⟩
abbrev cX9_isCover : ByteArray := prog_11_method_4_code
def yX9_isCover : MethodName := ⟨RX9, "isCover", "()Z"⟩
abbrev cX9_stepOn : ByteArray := prog_11_method_5_code
def yX9_stepOn : MethodName := ⟨RX9, "stepOn", "(I)V"⟩
abbrev cX9_stepBack : ByteArray := prog_11_method_6_code
def yX9_stepBack : MethodName := ⟨RX9, "stepBack", "()V"⟩
abbrev cX9_openLevel : ByteArray := prog_11_method_7_code
def yX9_openLevel : MethodName := ⟨RX9, "openLevel", "()V"⟩
abbrev cX9_nextThatFits : ByteArray := prog_11_method_8_code
def yX9_nextThatFits : MethodName := ⟨RX9, "nextThatFits", "()I"⟩
abbrev cX9_isAllowed : ByteArray := prog_11_method_9_code
def yX9_isAllowed : MethodName := ⟨RX9, "isAllowed", "(IJ)Z"⟩
abbrev cX9_around : ByteArray := prog_11_method_10_code
def yX9_around : MethodName := ⟨RX9, "around", "(J)J"⟩
abbrev cX9_change : ByteArray := prog_11_method_11_code
def yX9_change : MethodName := ⟨RX9, "change", "(II)V"⟩
abbrev cX9_writeTo : ByteArray := prog_11_method_12_code
def yX9_writeTo : MethodName := ⟨RX9, "writeTo", "([II)V"⟩
def RX10 : String := "PolyominoCover$Weights"
def TX10 : u_T := fun k => match k with
  | 0 => ("PolyominoCover$Weights", "ofCells", "[I", true)
  | 1 => ("PolyominoCover$Weights", "ofPieces", "[I", true)
  | _ => ("PolyominoCover$Weights", "modulus", "I", false)
def tyX10 : Nat → FieldType := fun k => match k with
  | 0 => .array .int
  | 1 => .array .int
  | _ => .int
abbrev wsX100 : List Cond := u_ws RX10 TX10 3
theorem nmX10 : ∀ a, a < 3 → ∀ b, b < 3 → a ≠ b → (TX10 a).2.1 ≠ (TX10 b).2.1 := by decide +kernel
theorem tyX10_ok : ∀ k, k < 3 → parseFieldDescriptor (TX10 k).2.2.1 = some (tyX10 k) := by decide +kernel
abbrev cX10_init : ByteArray := prog_12_method_1_code
def yX10_init : MethodName := ⟨RX10, "<init>", "()V"⟩
abbrev cX10_excludeCover : ByteArray := prog_12_method_2_code
def yX10_excludeCover : MethodName := ⟨RX10, "excludeCover", "(LPolyominoCover$Problem;LPolyominoCover$Placements;III)Z"⟩
abbrev cX10_weighCells : ByteArray := prog_12_method_3_code
def yX10_weighCells : MethodName := ⟨RX10, "weighCells", "(LPolyominoCover$Problem;II)V"⟩
abbrev cX10_weighPieces : ByteArray := prog_12_method_4_code
def yX10_weighPieces : MethodName := ⟨RX10, "weighPieces", "(LPolyominoCover$Placements;)V"⟩
abbrev cX10_weightOf : ByteArray := prog_12_method_5_code
def yX10_weightOf : MethodName := ⟨RX10, "weightOf", "(J)I"⟩
abbrev cX10_rest : ByteArray := prog_12_method_6_code
def yX10_rest : MethodName := ⟨RX10, "rest", "(I)I"⟩
abbrev cX10_addAll : ByteArray := prog_12_method_7_code
def yX10_addAll : MethodName := ⟨RX10, "addAll", "(II)I"⟩
def RX11 : String := "PolyominoCover"
def TX11 : u_T := fun k => match k with
  | 0 => ("PolyominoCover", "problem", "LPolyominoCover$Problem;", true)
  | 1 => ("PolyominoCover", "history", "LPolyominoCover$History;", true)
  | 2 => ("PolyominoCover", "reader", "LPolyominoCover$Reader;", true)
  | 3 => ("PolyominoCover", "forms", "LPolyominoCover$Forms;", true)
  | 4 => ("PolyominoCover", "placements", "LPolyominoCover$Placements;", true)
  | 5 => ("PolyominoCover", "symmetries", "LPolyominoCover$Symmetries;", true)
  | 6 => ("PolyominoCover", "walk", "LPolyominoCover$Walk;", true)
  | 7 => ("PolyominoCover", "found", "LPolyominoCover$Covers;", true)
  | 8 => ("PolyominoCover", "sieve", "LPolyominoCover$Sieve;", true)
  | 9 => ("PolyominoCover", "weights", "LPolyominoCover$Weights;", true)
  | 10 => ("PolyominoCover", "placed", "Z", false)
  | 11 => ("PolyominoCover", "searched", "Z", false)
  | _ => ("PolyominoCover", "sifted", "Z", false)
def tyX11 : Nat → FieldType := fun k => match k with
  | 0 => .object "PolyominoCover$Problem"
  | 1 => .object "PolyominoCover$History"
  | 2 => .object "PolyominoCover$Reader"
  | 3 => .object "PolyominoCover$Forms"
  | 4 => .object "PolyominoCover$Placements"
  | 5 => .object "PolyominoCover$Symmetries"
  | 6 => .object "PolyominoCover$Walk"
  | 7 => .object "PolyominoCover$Covers"
  | 8 => .object "PolyominoCover$Sieve"
  | 9 => .object "PolyominoCover$Weights"
  | 10 => .boolean
  | 11 => .boolean
  | _ => .boolean
abbrev wsX110 : List Cond := u_ws RX11 TX11 13
theorem nmX11 : ∀ a, a < 13 → ∀ b, b < 13 → a ≠ b → (TX11 a).2.1 ≠ (TX11 b).2.1 := by decide +kernel
theorem tyX11_ok : ∀ k, k < 13 → parseFieldDescriptor (TX11 k).2.2.1 = some (tyX11 k) := by decide +kernel
abbrev cX11_init : ByteArray := prog_1_method_1_code
def yX11_init : MethodName := ⟨RX11, "<init>", "()V"⟩
abbrev cX11_setBoard : ByteArray := prog_1_method_2_code
def yX11_setBoard : MethodName := ⟨RX11, "setBoard", "(II)I"⟩
abbrev cX11_setHole : ByteArray := prog_1_method_3_code
def yX11_setHole : MethodName := ⟨RX11, "setHole", "(II)I"⟩
abbrev cX11_setColour : ByteArray := prog_1_method_4_code
def yX11_setColour : MethodName := ⟨RX11, "setColour", "(II)I"⟩
abbrev cX11_addPiece : ByteArray := prog_1_method_5_code
def yX11_addPiece : MethodName := ⟨RX11, "addPiece", "(III)I"⟩
abbrev cX11_removePiece : ByteArray := prog_1_method_6_code
def yX11_removePiece : MethodName := ⟨RX11, "removePiece", "(I)I"⟩
abbrev cX11_setCopies : ByteArray := prog_1_method_7_code
def yX11_setCopies : MethodName := ⟨RX11, "setCopies", "(II)I"⟩
abbrev cX11_setMode : ByteArray := prog_1_method_8_code
def yX11_setMode : MethodName := ⟨RX11, "setMode", "(I)I"⟩
abbrev cX11_setRule : ByteArray := prog_1_method_9_code
def yX11_setRule : MethodName := ⟨RX11, "setRule", "(I)I"⟩
abbrev cX11_count : ByteArray := prog_1_method_10_code
def yX11_count : MethodName := ⟨RX11, "count", "(I)I"⟩
abbrev cX11_colour : ByteArray := prog_1_method_11_code
def yX11_colour : MethodName := ⟨RX11, "colour", "(I)I"⟩
abbrev cX11_piece : ByteArray := prog_1_method_12_code
def yX11_piece : MethodName := ⟨RX11, "piece", "(II)I"⟩
abbrev cX11_form : ByteArray := prog_1_method_13_code
def yX11_form : MethodName := ⟨RX11, "form", "(II)I"⟩
abbrev cX11_placement : ByteArray := prog_1_method_14_code
def yX11_placement : MethodName := ⟨RX11, "placement", "(II)I"⟩
abbrev cX11_appendCharacter : ByteArray := prog_1_method_15_code
def yX11_appendCharacter : MethodName := ⟨RX11, "appendCharacter", "(I)I"⟩
abbrev cX11_clearText : ByteArray := prog_1_method_16_code
def yX11_clearText : MethodName := ⟨RX11, "clearText", "()I"⟩
abbrev cX11_load : ByteArray := prog_1_method_17_code
def yX11_load : MethodName := ⟨RX11, "load", "()I"⟩
abbrev cX11_covers : ByteArray := prog_1_method_18_code
def yX11_covers : MethodName := ⟨RX11, "covers", "()I"⟩
abbrev cX11_tries : ByteArray := prog_1_method_19_code
def yX11_tries : MethodName := ⟨RX11, "tries", "()I"⟩
abbrev cX11_coverAt : ByteArray := prog_1_method_20_code
def yX11_coverAt : MethodName := ⟨RX11, "coverAt", "(II)I"⟩
abbrev cX11_used : ByteArray := prog_1_method_21_code
def yX11_used : MethodName := ⟨RX11, "used", "(II)I"⟩
abbrev cX11_classes : ByteArray := prog_1_method_22_code
def yX11_classes : MethodName := ⟨RX11, "classes", "()I"⟩
abbrev cX11_alike : ByteArray := prog_1_method_23_code
def yX11_alike : MethodName := ⟨RX11, "alike", "(II)I"⟩
abbrev cX11_fewest : ByteArray := prog_1_method_24_code
def yX11_fewest : MethodName := ⟨RX11, "fewest", "()I"⟩
abbrev cX11_useful : ByteArray := prog_1_method_25_code
def yX11_useful : MethodName := ⟨RX11, "useful", "(I)I"⟩
abbrev cX11_usefulAt : ByteArray := prog_1_method_26_code
def yX11_usefulAt : MethodName := ⟨RX11, "usefulAt", "(I)I"⟩
abbrev cX11_proves : ByteArray := prog_1_method_27_code
def yX11_proves : MethodName := ⟨RX11, "proves", "(III)I"⟩
abbrev cX11_proof : ByteArray := prog_1_method_28_code
def yX11_proof : MethodName := ⟨RX11, "proof", "()I"⟩
abbrev cX11_undo : ByteArray := prog_1_method_29_code
def yX11_undo : MethodName := ⟨RX11, "undo", "()I"⟩
abbrev cX11_prepareChange : ByteArray := prog_1_method_30_code
def yX11_prepareChange : MethodName := ⟨RX11, "prepareChange", "()V"⟩
abbrev cX11_forgetDerived : ByteArray := prog_1_method_31_code
def yX11_forgetDerived : MethodName := ⟨RX11, "forgetDerived", "()V"⟩
abbrev cX11_placeAll : ByteArray := prog_1_method_32_code
def yX11_placeAll : MethodName := ⟨RX11, "placeAll", "()V"⟩
abbrev cX11_searchAll : ByteArray := prog_1_method_33_code
def yX11_searchAll : MethodName := ⟨RX11, "searchAll", "()V"⟩
abbrev cX11_siftAll : ByteArray := prog_1_method_34_code
def yX11_siftAll : MethodName := ⟨RX11, "siftAll", "()V"⟩
abbrev cX11_whyNoCover : ByteArray := prog_1_method_35_code
def yX11_whyNoCover : MethodName := ⟨RX11, "whyNoCover", "()I"⟩
abbrev cX11_isWithin : ByteArray := prog_1_method_36_code
def yX11_isWithin : MethodName := ⟨RX11, "isWithin", "(III)Z"⟩
abbrev cX11_at : ByteArray := prog_1_method_37_code
def yX11_at : MethodName := ⟨RX11, "at", "([II)I"⟩
abbrev cX11_put : ByteArray := prog_1_method_38_code
def yX11_put : MethodName := ⟨RX11, "put", "([III)V"⟩
abbrev cX11_smallestCell : ByteArray := prog_1_method_39_code
def yX11_smallestCell : MethodName := ⟨RX11, "smallestCell", "(J)I"⟩
abbrev cX11_greatestCell : ByteArray := prog_1_method_40_code
def yX11_greatestCell : MethodName := ⟨RX11, "greatestCell", "(J)I"⟩
abbrev cX11_holds : ByteArray := prog_1_method_41_code
def yX11_holds : MethodName := ⟨RX11, "holds", "(JI)Z"⟩
def RX12 : String := "PolyominoCoverModel"
def TX12 : u_T := fun k => match k with
  | 0 => ("PolyominoCoverModel", "s", "[I", true)
  | 1 => ("PolyominoCoverModel", "past", "[I", true)
  | 2 => ("PolyominoCoverModel", "pasts", "I", false)
  | 3 => ("PolyominoCoverModel", "text", "[B", true)
  | 4 => ("PolyominoCoverModel", "typed", "I", false)
  | 5 => ("PolyominoCoverModel", "form", "[I", true)
  | 6 => ("PolyominoCoverModel", "forms", "I", false)
  | 7 => ("PolyominoCoverModel", "ofPiece", "[I", true)
  | 8 => ("PolyominoCoverModel", "ofForm", "[I", true)
  | 9 => ("PolyominoCoverModel", "corner", "[I", true)
  | 10 => ("PolyominoCoverModel", "bits", "[J", true)
  | 11 => ("PolyominoCoverModel", "least", "[I", true)
  | 12 => ("PolyominoCoverModel", "placements", "I", false)
  | 13 => ("PolyominoCoverModel", "at", "I", false)
  | 14 => ("PolyominoCoverModel", "isWrong", "Z", false)
  | 15 => ("PolyominoCoverModel", "before", "[I", true)
  | 16 => ("PolyominoCoverModel", "length", "I", false)
  | 17 => ("PolyominoCoverModel", "rows", "I", false)
  | 18 => ("PolyominoCoverModel", "column", "I", false)
  | 19 => ("PolyominoCoverModel", "shape", "I", false)
  | 20 => ("PolyominoCoverModel", "grid", "[I", true)
  | 21 => ("PolyominoCoverModel", "freedom", "I", false)
  | 22 => ("PolyominoCoverModel", "tint", "I", false)
  | 23 => ("PolyominoCoverModel", "copies", "I", false)
  | 24 => ("PolyominoCoverModel", "put", "[I", true)
  | 25 => ("PolyominoCoverModel", "from", "[I", true)
  | 26 => ("PolyominoCoverModel", "puts", "I", false)
  | 27 => ("PolyominoCoverModel", "covered", "J", false)
  | 28 => ("PolyominoCoverModel", "tinted", "[J", true)
  | 29 => ("PolyominoCoverModel", "left", "[I", true)
  | 30 => ("PolyominoCoverModel", "tried", "I", false)
  | 31 => ("PolyominoCoverModel", "found", "I", false)
  | 32 => ("PolyominoCoverModel", "isCut", "Z", false)
  | 33 => ("PolyominoCoverModel", "isOver", "Z", false)
  | 34 => ("PolyominoCoverModel", "isFresh", "Z", false)
  | 35 => ("PolyominoCoverModel", "fewestPut", "I", false)
  | 36 => ("PolyominoCoverModel", "labels", "[I", true)
  | _ => ("PolyominoCoverModel", "isOut", "[Z", true)
def tyX12 : Nat → FieldType := fun k => match k with
  | 0 => .array .int
  | 1 => .array .int
  | 2 => .int
  | 3 => .array .byte
  | 4 => .int
  | 5 => .array .int
  | 6 => .int
  | 7 => .array .int
  | 8 => .array .int
  | 9 => .array .int
  | 10 => .array .long
  | 11 => .array .int
  | 12 => .int
  | 13 => .int
  | 14 => .boolean
  | 15 => .array .int
  | 16 => .int
  | 17 => .int
  | 18 => .int
  | 19 => .int
  | 20 => .array .int
  | 21 => .int
  | 22 => .int
  | 23 => .int
  | 24 => .array .int
  | 25 => .array .int
  | 26 => .int
  | 27 => .long
  | 28 => .array .long
  | 29 => .array .int
  | 30 => .int
  | 31 => .int
  | 32 => .boolean
  | 33 => .boolean
  | 34 => .boolean
  | 35 => .int
  | 36 => .array .int
  | _ => .array .boolean
abbrev wsX120 : List Cond := u_ws RX12 TX12 38
theorem nmX12 : ∀ a, a < 38 → ∀ b, b < 38 → a ≠ b → (TX12 a).2.1 ≠ (TX12 b).2.1 := by decide +kernel
theorem tyX12_ok : ∀ k, k < 38 → parseFieldDescriptor (TX12 k).2.2.1 = some (tyX12 k) := by decide +kernel
abbrev cX12_init : ByteArray := prog_14_method_1_code
def yX12_init : MethodName := ⟨RX12, "<init>", "()V"⟩
abbrev cX12_in : ByteArray := prog_14_method_3_code
def yX12_in : MethodName := ⟨RX12, "in", "(III)Z"⟩
abbrev cX12_note : ByteArray := prog_14_method_4_code
def yX12_note : MethodName := ⟨RX12, "note", "()V"⟩
abbrev cX12_undo : ByteArray := prog_14_method_5_code
def yX12_undo : MethodName := ⟨RX12, "undo", "()I"⟩
abbrev cX12_cells : ByteArray := prog_14_method_6_code
def yX12_cells : MethodName := ⟨RX12, "cells", "()I"⟩
abbrev cX12_isCell : ByteArray := prog_14_method_7_code
def yX12_isCell : MethodName := ⟨RX12, "isCell", "(I)Z"⟩
abbrev cX12_isOpen : ByteArray := prog_14_method_8_code
def yX12_isOpen : MethodName := ⟨RX12, "isOpen", "(I)Z"⟩
abbrev cX12_isPiece : ByteArray := prog_14_method_9_code
def yX12_isPiece : MethodName := ⟨RX12, "isPiece", "(I)Z"⟩
abbrev cX12_its : ByteArray := prog_14_method_10_code
def yX12_its : MethodName := ⟨RX12, "its", "(II)I"⟩
abbrev cX12_opens : ByteArray := prog_14_method_11_code
def yX12_opens : MethodName := ⟨RX12, "opens", "()I"⟩
abbrev cX12_squares : ByteArray := prog_14_method_12_code
def yX12_squares : MethodName := ⟨RX12, "squares", "(I)I"⟩
abbrev cX12_normal : ByteArray := prog_14_method_13_code
def yX12_normal : MethodName := ⟨RX12, "normal", "(I)I"⟩
abbrev cX12_grown : ByteArray := prog_14_method_14_code
def yX12_grown : MethodName := ⟨RX12, "grown", "(I)I"⟩
abbrev cX12_isShape : ByteArray := prog_14_method_15_code
def yX12_isShape : MethodName := ⟨RX12, "isShape", "(I)Z"⟩
abbrev cX12_changed : ByteArray := prog_14_method_16_code
def yX12_changed : MethodName := ⟨RX12, "changed", "(II)I"⟩
abbrev cX12_addsForm : ByteArray := prog_14_method_17_code
def yX12_addsForm : MethodName := ⟨RX12, "addsForm", "(I)V"⟩
abbrev cX12_findsForms : ByteArray := prog_14_method_18_code
def yX12_findsForms : MethodName := ⟨RX12, "findsForms", "(I)V"⟩
abbrev cX12_cellsOf : ByteArray := prog_14_method_19_code
def yX12_cellsOf : MethodName := ⟨RX12, "cellsOf", "(IIII)J"⟩
abbrev cX12_lowest : ByteArray := prog_14_method_20_code
def yX12_lowest : MethodName := ⟨RX12, "lowest", "(J)I"⟩
abbrev cX12_findsPlacements : ByteArray := prog_14_method_21_code
def yX12_findsPlacements : MethodName := ⟨RX12, "findsPlacements", "()V"⟩
abbrev cX12_placementsOf : ByteArray := prog_14_method_22_code
def yX12_placementsOf : MethodName := ⟨RX12, "placementsOf", "(I)I"⟩
abbrev cX12_has : ByteArray := prog_14_method_23_code
def yX12_has : MethodName := ⟨RX12, "has", "(II)Z"⟩
abbrev cX12_setBoard : ByteArray := prog_14_method_24_code
def yX12_setBoard : MethodName := ⟨RX12, "setBoard", "(II)I"⟩
abbrev cX12_setHole : ByteArray := prog_14_method_25_code
def yX12_setHole : MethodName := ⟨RX12, "setHole", "(II)I"⟩
abbrev cX12_setColour : ByteArray := prog_14_method_26_code
def yX12_setColour : MethodName := ⟨RX12, "setColour", "(II)I"⟩
abbrev cX12_adds : ByteArray := prog_14_method_27_code
def yX12_adds : MethodName := ⟨RX12, "adds", "(IIII)V"⟩
abbrev cX12_addPiece : ByteArray := prog_14_method_28_code
def yX12_addPiece : MethodName := ⟨RX12, "addPiece", "(III)I"⟩
abbrev cX12_removePiece : ByteArray := prog_14_method_29_code
def yX12_removePiece : MethodName := ⟨RX12, "removePiece", "(I)I"⟩
abbrev cX12_sets : ByteArray := prog_14_method_30_code
def yX12_sets : MethodName := ⟨RX12, "sets", "(IIZ)I"⟩
abbrev cX12_setCopies : ByteArray := prog_14_method_31_code
def yX12_setCopies : MethodName := ⟨RX12, "setCopies", "(II)I"⟩
abbrev cX12_setMode : ByteArray := prog_14_method_32_code
def yX12_setMode : MethodName := ⟨RX12, "setMode", "(I)I"⟩
abbrev cX12_setRule : ByteArray := prog_14_method_33_code
def yX12_setRule : MethodName := ⟨RX12, "setRule", "(I)I"⟩
abbrev cX12_count : ByteArray := prog_14_method_34_code
def yX12_count : MethodName := ⟨RX12, "count", "(I)I"⟩
abbrev cX12_colour : ByteArray := prog_14_method_35_code
def yX12_colour : MethodName := ⟨RX12, "colour", "(I)I"⟩
abbrev cX12_piece : ByteArray := prog_14_method_36_code
def yX12_piece : MethodName := ⟨RX12, "piece", "(II)I"⟩
abbrev cX12_form : ByteArray := prog_14_method_37_code
def yX12_form : MethodName := ⟨RX12, "form", "(II)I"⟩
abbrev cX12_placement : ByteArray := prog_14_method_38_code
def yX12_placement : MethodName := ⟨RX12, "placement", "(II)I"⟩
abbrev cX12_appendCharacter : ByteArray := prog_14_method_39_code
def yX12_appendCharacter : MethodName := ⟨RX12, "appendCharacter", "(I)I"⟩
abbrev cX12_clearText : ByteArray := prog_14_method_40_code
def yX12_clearText : MethodName := ⟨RX12, "clearText", "()I"⟩
abbrev cX12_here : ByteArray := prog_14_method_41_code
def yX12_here : MethodName := ⟨RX12, "here", "()I"⟩
abbrev cX12_isInRow : ByteArray := prog_14_method_42_code
def yX12_isInRow : MethodName := ⟨RX12, "isInRow", "(IZ)Z"⟩
abbrev cX12_readsRows : ByteArray := prog_14_method_43_code
def yX12_readsRows : MethodName := ⟨RX12, "readsRows", "(Z)V"⟩
abbrev cX12_isPart : ByteArray := prog_14_method_44_code
def yX12_isPart : MethodName := ⟨RX12, "isPart", "(IZ)Z"⟩
abbrev cX12_readsOption : ByteArray := prog_14_method_45_code
def yX12_readsOption : MethodName := ⟨RX12, "readsOption", "()V"⟩
abbrev cX12_readsPiece : ByteArray := prog_14_method_46_code
def yX12_readsPiece : MethodName := ⟨RX12, "readsPiece", "()V"⟩
abbrev cX12_exchanges : ByteArray := prog_14_method_47_code
def yX12_exchanges : MethodName := ⟨RX12, "exchanges", "()V"⟩
abbrev cX12_load : ByteArray := prog_14_method_48_code
def yX12_load : MethodName := ⟨RX12, "load", "()I"⟩
abbrev cX12_all : ByteArray := prog_14_method_49_code
def yX12_all : MethodName := ⟨RX12, "all", "()J"⟩
abbrev cX12_beside : ByteArray := prog_14_method_50_code
def yX12_beside : MethodName := ⟨RX12, "beside", "(J)J"⟩
abbrev cX12_fits : ByteArray := prog_14_method_51_code
def yX12_fits : MethodName := ⟨RX12, "fits", "(I)Z"⟩
abbrev cX12_turns : ByteArray := prog_14_method_52_code
def yX12_turns : MethodName := ⟨RX12, "turns", "(IZ)V"⟩
abbrev cX12_begins : ByteArray := prog_14_method_53_code
def yX12_begins : MethodName := ⟨RX12, "begins", "()V"⟩
abbrev cX12_isCover : ByteArray := prog_14_method_54_code
def yX12_isCover : MethodName := ⟨RX12, "isCover", "()Z"⟩
abbrev cX12_goesBack : ByteArray := prog_14_method_55_code
def yX12_goesBack : MethodName := ⟨RX12, "goesBack", "()V"⟩
abbrev cX12_goesOn : ByteArray := prog_14_method_56_code
def yX12_goesOn : MethodName := ⟨RX12, "goesOn", "()Z"⟩
abbrev cX12_searches : ByteArray := prog_14_method_57_code
def yX12_searches : MethodName := ⟨RX12, "searches", "()V"⟩
abbrev cX12_seeks : ByteArray := prog_14_method_58_code
def yX12_seeks : MethodName := ⟨RX12, "seeks", "(I)I"⟩
abbrev cX12_covers : ByteArray := prog_14_method_59_code
def yX12_covers : MethodName := ⟨RX12, "covers", "()I"⟩
abbrev cX12_tries : ByteArray := prog_14_method_60_code
def yX12_tries : MethodName := ⟨RX12, "tries", "()I"⟩
abbrev cX12_coverAt : ByteArray := prog_14_method_61_code
def yX12_coverAt : MethodName := ⟨RX12, "coverAt", "(II)I"⟩
abbrev cX12_used : ByteArray := prog_14_method_62_code
def yX12_used : MethodName := ⟨RX12, "used", "(II)I"⟩
abbrev cX12_fewest : ByteArray := prog_14_method_63_code
def yX12_fewest : MethodName := ⟨RX12, "fewest", "()I"⟩
abbrev cX12_image : ByteArray := prog_14_method_64_code
def yX12_image : MethodName := ⟨RX12, "image", "(II)I"⟩
abbrev cX12_isSymmetry : ByteArray := prog_14_method_65_code
def yX12_isSymmetry : MethodName := ⟨RX12, "isSymmetry", "(I)Z"⟩
abbrev cX12_labels : ByteArray := prog_14_method_66_code
def yX12_labels : MethodName := ⟨RX12, "labels", "(II)V"⟩
abbrev cX12_labelsAll : ByteArray := prog_14_method_67_code
def yX12_labelsAll : MethodName := ⟨RX12, "labelsAll", "(I)V"⟩
abbrev cX12_areAlike : ByteArray := prog_14_method_68_code
def yX12_areAlike : MethodName := ⟨RX12, "areAlike", "(II)Z"⟩
abbrev cX12_classes : ByteArray := prog_14_method_69_code
def yX12_classes : MethodName := ⟨RX12, "classes", "()I"⟩
abbrev cX12_alike : ByteArray := prog_14_method_70_code
def yX12_alike : MethodName := ⟨RX12, "alike", "(II)I"⟩
abbrev cX12_isUseless : ByteArray := prog_14_method_71_code
def yX12_isUseless : MethodName := ⟨RX12, "isUseless", "(I)Z"⟩
abbrev cX12_strikes : ByteArray := prog_14_method_72_code
def yX12_strikes : MethodName := ⟨RX12, "strikes", "()V"⟩
abbrev cX12_useful : ByteArray := prog_14_method_73_code
def yX12_useful : MethodName := ⟨RX12, "useful", "(I)I"⟩
abbrev cX12_usefulAt : ByteArray := prog_14_method_74_code
def yX12_usefulAt : MethodName := ⟨RX12, "usefulAt", "(I)I"⟩
abbrev cX12_weight : ByteArray := prog_14_method_75_code
def yX12_weight : MethodName := ⟨RX12, "weight", "(JIII)I"⟩
abbrev cX12_weights : ByteArray := prog_14_method_76_code
def yX12_weights : MethodName := ⟨RX12, "weights", "(IIII)I"⟩
abbrev cX12_isProof : ByteArray := prog_14_method_77_code
def yX12_isProof : MethodName := ⟨RX12, "isProof", "(III)Z"⟩
abbrev cX12_proves : ByteArray := prog_14_method_78_code
def yX12_proves : MethodName := ⟨RX12, "proves", "(III)I"⟩
abbrev cX12_proof : ByteArray := prog_14_method_79_code
def yX12_proof : MethodName := ⟨RX12, "proof", "()I"⟩
def RJ6 : String := "java/lang/Integer"
def TJ6 : u_T := fun k => match k with
  | _ => ("", "", "", false)
def tyJ6 : Nat → FieldType := fun k => match k with
  | _ => .int
abbrev wsJ60 : List Cond := u_ws RJ6 TJ6 0
theorem nmJ6 : ∀ a, a < 0 → ∀ b, b < 0 → a ≠ b → (TJ6 a).2.1 ≠ (TJ6 b).2.1 := by decide +kernel
theorem tyJ6_ok : ∀ k, k < 0 → parseFieldDescriptor (TJ6 k).2.2.1 = some (tyJ6 k) := by decide +kernel
abbrev cJ6_bitCount_0f7a4 : ByteArray := prog_15_method_49_code
def yJ6_bitCount_0f7a4 : MethodName := ⟨RJ6, "bitCount", "(I)I"⟩
def RJ13 : String := "java/lang/Long"
def TJ13 : u_T := fun k => match k with
  | _ => ("", "", "", false)
def tyJ13 : Nat → FieldType := fun k => match k with
  | _ => .int
abbrev wsJ130 : List Cond := u_ws RJ13 TJ13 0
theorem nmJ13 : ∀ a, a < 0 → ∀ b, b < 0 → a ≠ b → (TJ13 a).2.1 ≠ (TJ13 b).2.1 := by decide +kernel
theorem tyJ13_ok : ∀ k, k < 0 → parseFieldDescriptor (TJ13 k).2.2.1 = some (tyJ13 k) := by decide +kernel
abbrev cJ13_bitCount_95d88 : ByteArray := prog_16_method_50_code
def yJ13_bitCount_95d88 : MethodName := ⟨RJ13, "bitCount", "(J)I"⟩
def RJ9 : String := "java/lang/Math"
def TJ9 : u_T := fun k => match k with
  | _ => ("", "", "", false)
def tyJ9 : Nat → FieldType := fun k => match k with
  | _ => .int
abbrev wsJ90 : List Cond := u_ws RJ9 TJ9 0
theorem nmJ9 : ∀ a, a < 0 → ∀ b, b < 0 → a ≠ b → (TJ9 a).2.1 ≠ (TJ9 b).2.1 := by decide +kernel
theorem tyJ9_ok : ∀ k, k < 0 → parseFieldDescriptor (TJ9 k).2.2.1 = some (tyJ9 k) := by decide +kernel
abbrev cJ9_max_7cf53 : ByteArray := prog_17_method_65_code
def yJ9_max_7cf53 : MethodName := ⟨RJ9, "max", "(II)I"⟩
abbrev cJ9_min_7cf53 : ByteArray := prog_17_method_69_code
def yJ9_min_7cf53 : MethodName := ⟨RJ9, "min", "(II)I"⟩
def RL : String := "PolyominoCoverLaw"
abbrev cL_law : ByteArray := code
def yL_law : MethodName := ⟨RL, "law", "([I)Z"⟩
abbrev vwCl : List vw_C := [(RX0, TX0, 8), (RX1, TX1, 2), (RX2, TX2, 3), (RX3, TX3, 6), (RX4, TX4, 10), (RX5, TX5, 7), (RX7, TX7, 1), (RX8, TX8, 2), (RX9, TX9, 16), (RX10, TX10, 3), (RX11, TX11, 13), (RX12, TX12, 38)]
def gt : List Cond := lw_tbl.filter goodWord
def isNest : Cond → Bool := fun w => match w with | .fieldLinkNest .. => true | .methodLinkNest .. => true | _ => false
def nt : List Cond := lw_tbl.filter isNest
theorem gt_at {i : Nat} {w : Cond} (h : lw_tbl[i]? = some w) (hg : goodWord w = true) : w ∈ gt := List.mem_filter.mpr ⟨List.mem_of_getElem? h, hg⟩
theorem nt_at {i : Nat} {w : Cond} (h : lw_tbl[i]? = some w) (hg : isNest w = true) : w ∈ nt := List.mem_filter.mpr ⟨List.mem_of_getElem? h, hg⟩
theorem inX0 : ∀ w ∈ u_ws RX0 TX0 8, w ∈ gt := fun w h => by
  have q := goodIn_r (big := lw_tbl) (u_ws RX0 TX0 8) [358, 360, 362, 364, 366, 368, 370, 372] (by decide +kernel) (by decide +kernel) w h
  exact List.mem_filter.mpr ⟨q.1, by
    have q2 : (u_ws RX0 TX0 8).all goodWord = true := by decide +kernel
    exact List.all_eq_true.mp q2 w h⟩
theorem inX1 : ∀ w ∈ u_ws RX1 TX1 2, w ∈ gt := fun w h => by
  have q := goodIn_r (big := lw_tbl) (u_ws RX1 TX1 2) [226, 228] (by decide +kernel) (by decide +kernel) w h
  exact List.mem_filter.mpr ⟨q.1, by
    have q2 : (u_ws RX1 TX1 2).all goodWord = true := by decide +kernel
    exact List.all_eq_true.mp q2 w h⟩
theorem inX2 : ∀ w ∈ u_ws RX2 TX2 3, w ∈ gt := fun w h => by
  have q := goodIn_r (big := lw_tbl) (u_ws RX2 TX2 3) [180, 182, 184] (by decide +kernel) (by decide +kernel) w h
  exact List.mem_filter.mpr ⟨q.1, by
    have q2 : (u_ws RX2 TX2 3).all goodWord = true := by decide +kernel
    exact List.all_eq_true.mp q2 w h⟩
theorem inX3 : ∀ w ∈ u_ws RX3 TX3 6, w ∈ gt := fun w h => by
  have q := goodIn_r (big := lw_tbl) (u_ws RX3 TX3 6) [251, 253, 255, 257, 259, 261] (by decide +kernel) (by decide +kernel) w h
  exact List.mem_filter.mpr ⟨q.1, by
    have q2 : (u_ws RX3 TX3 6).all goodWord = true := by decide +kernel
    exact List.all_eq_true.mp q2 w h⟩
theorem inX4 : ∀ w ∈ u_ws RX4 TX4 10, w ∈ gt := fun w h => by
  have q := goodIn_r (big := lw_tbl) (u_ws RX4 TX4 10) [145, 147, 149, 151, 153, 155, 157, 159, 161, 163] (by decide +kernel) (by decide +kernel) w h
  exact List.mem_filter.mpr ⟨q.1, by
    have q2 : (u_ws RX4 TX4 10).all goodWord = true := by decide +kernel
    exact List.all_eq_true.mp q2 w h⟩
theorem inX5 : ∀ w ∈ u_ws RX5 TX5 7, w ∈ gt := fun w h => by
  have q := goodIn_r (big := lw_tbl) (u_ws RX5 TX5 7) [203, 205, 207, 209, 211, 213, 215] (by decide +kernel) (by decide +kernel) w h
  exact List.mem_filter.mpr ⟨q.1, by
    have q2 : (u_ws RX5 TX5 7).all goodWord = true := by decide +kernel
    exact List.all_eq_true.mp q2 w h⟩
theorem inX7 : ∀ w ∈ u_ws RX7 TX7 1, w ∈ gt := fun w h => by
  have q := goodIn_r (big := lw_tbl) (u_ws RX7 TX7 1) [382] (by decide +kernel) (by decide +kernel) w h
  exact List.mem_filter.mpr ⟨q.1, by
    have q2 : (u_ws RX7 TX7 1).all goodWord = true := by decide +kernel
    exact List.all_eq_true.mp q2 w h⟩
theorem inX8 : ∀ w ∈ u_ws RX8 TX8 2, w ∈ gt := fun w h => by
  have q := goodIn_r (big := lw_tbl) (u_ws RX8 TX8 2) [275, 277] (by decide +kernel) (by decide +kernel) w h
  exact List.mem_filter.mpr ⟨q.1, by
    have q2 : (u_ws RX8 TX8 2).all goodWord = true := by decide +kernel
    exact List.all_eq_true.mp q2 w h⟩
theorem inX9 : ∀ w ∈ u_ws RX9 TX9 16, w ∈ gt := fun w h => by
  have q := goodIn_r (big := lw_tbl) (u_ws RX9 TX9 16) [307, 309, 311, 313, 315, 317, 319, 321, 323, 325, 327, 329, 331, 333, 335, 337] (by decide +kernel) (by decide +kernel) w h
  exact List.mem_filter.mpr ⟨q.1, by
    have q2 : (u_ws RX9 TX9 16).all goodWord = true := by decide +kernel
    exact List.all_eq_true.mp q2 w h⟩
theorem inX10 : ∀ w ∈ u_ws RX10 TX10 3, w ∈ gt := fun w h => by
  have q := goodIn_r (big := lw_tbl) (u_ws RX10 TX10 3) [395, 397, 399] (by decide +kernel) (by decide +kernel) w h
  exact List.mem_filter.mpr ⟨q.1, by
    have q2 : (u_ws RX10 TX10 3).all goodWord = true := by decide +kernel
    exact List.all_eq_true.mp q2 w h⟩
theorem inX11 : ∀ w ∈ u_ws RX11 TX11 13, w ∈ gt := fun w h => by
  have q := goodIn_r (big := lw_tbl) (u_ws RX11 TX11 13) [415, 417, 419, 421, 423, 425, 427, 429, 431, 433, 435, 437, 439] (by decide +kernel) (by decide +kernel) w h
  exact List.mem_filter.mpr ⟨q.1, by
    have q2 : (u_ws RX11 TX11 13).all goodWord = true := by decide +kernel
    exact List.all_eq_true.mp q2 w h⟩
theorem inX12 : ∀ w ∈ u_ws RX12 TX12 38, w ∈ gt := fun w h => by
  have q := goodIn_r (big := lw_tbl) (u_ws RX12 TX12 38) [1095, 1097, 1099, 1101, 1103, 1105, 1107, 1109, 1111, 1113, 1115, 1117, 1119, 1121, 1123, 1125, 1127, 1129, 1131, 1133, 1135, 1137, 1139, 1141, 1143, 1145, 1147, 1149, 1151, 1153, 1155, 1157, 1159, 1161, 1163, 1165, 1167, 1169] (by decide +kernel) (by decide +kernel) w h
  exact List.mem_filter.mpr ⟨q.1, by
    have q2 : (u_ws RX12 TX12 38).all goodWord = true := by decide +kernel
    exact List.all_eq_true.mp q2 w h⟩
abbrev MD : Type := MethodName × ByteArray × Nat × Option FieldType × Nat × Nat
def lkF (own : String) (idx : Nat) (T : u_T) (k : Nat) : Prop := Cond.fieldLink own idx (T k).1 (T k).2.1 (T k).2.2.1 ∈ gt ∨ ∃ host, Cond.fieldLinkNest own idx (T k).1 (T k).2.1 (T k).2.2.1 host ∈ nt
def gfl (own : String) (idx ci k : Nat) : Prop := ∃ (C : String) (T : u_T) (N : Nat), vwCl[ci]? = some (C, T, N) ∧ k < N ∧ (∀ w ∈ u_ws C T N, w ∈ gt) ∧ lkF own idx T k
def pfl (own : String) (idx ci k : Nat) (ty : FieldType) : Prop := ∃ (C : String) (T : u_T) (N : Nat) (ty0 : Nat → FieldType), vwCl[ci]? = some (C, T, N) ∧ k < N ∧ (∀ w ∈ u_ws C T N, w ∈ gt) ∧ (∀ k, k < N → parseFieldDescriptor (T k).2.2.1 = some (ty0 k)) ∧ (∀ a, a < N → ∀ b, b < N → a ≠ b → (T a).2.1 ≠ (T b).2.1) ∧ (T k).2.2.2 = false ∧ parseFieldDescriptor (T k).2.2.1 = some ty ∧ lkF own idx T k
def pfF (own : String) (idx ci k : Nat) (ty : FieldType) : Prop := ∃ (C : String) (T : u_T) (N : Nat) (ty0 : Nat → FieldType), vwCl[ci]? = some (C, T, N) ∧ k < N ∧ (∀ w ∈ u_ws C T N, w ∈ gt) ∧ (∀ k, k < N → parseFieldDescriptor (T k).2.2.1 = some (ty0 k)) ∧ (∀ a, a < N → ∀ b, b < N → a ≠ b → (T a).2.1 ≠ (T b).2.1) ∧ (T k).2.2.2 = true ∧ (T k).1 = own ∧ parseFieldDescriptor (T k).2.2.1 = some ty ∧ Cond.fieldLink own idx (T k).1 (T k).2.1 (T k).2.2.1 ∈ gt
def lkM (own : String) (idx : Nat) (y : MethodName) : Prop := Cond.methodLink own idx y ∈ gt ∨ ∃ host, Cond.methodLinkNest own idx y host ∈ nt
def mOK (Mj : MD) (n : Nat) : Prop := Cond.code Mj.1 Mj.2.1 Mj.2.2.1 Mj.2.2.2.1 ∈ gt ∧ Cond.initialized Mj.1.cls ∈ gt ∧ Mj.1.cls ≠ "java/lang/invoke/MethodHandle" ∧ Mj.1.cls ≠ "java/lang/invoke/VarHandle" ∧ (parseMethodDescriptor Mj.1.desc).map (fun d => d.parameters.length) = some n ∧ plainName Mj.1.cls = true
def mVl (own : String) (idx : Nat) (Mj : MD) (n ci : Nat) : Prop := lkM own idx Mj.1 ∧ mOK Mj n ∧ Cond.instanceMethod Mj.1 ∈ gt ∧ Cond.selects Mj.1.cls Mj.1 Mj.1 ∈ gt ∧ ∃ (T : u_T) (N : Nat), vwCl[ci]? = some (Mj.1.cls, T, N)
def mSl (own : String) (idx : Nat) (Mj : MD) (n : Nat) : Prop := lkM own idx Mj.1 ∧ mOK Mj n ∧ Cond.static Mj.1 ∈ gt
def mIl (own : String) (idx : Nat) (Mj : MD) (n : Nat) : Prop := lkM own idx Mj.1 ∧ mOK Mj n ∧ Cond.instanceMethod Mj.1 ∈ gt ∧ Mj.1.name = "<init>" ∧ Mj.2.2.2.1 = none
abbrev MX11_init : MD := (yX11_init, cX11_init, 1, none, 3, 61)
abbrev MX4_init : MD := (yX4_init, cX4_init, 1, none, 1, 20)
abbrev MX2_init : MD := (yX2_init, cX2_init, 2, none, 2, 40)
abbrev MX5_init : MD := (yX5_init, cX5_init, 1, none, 2, 40)
abbrev MX1_init : MD := (yX1_init, cX1_init, 1, none, 1, 20)
abbrev MX3_init : MD := (yX3_init, cX3_init, 1, none, 1, 20)
abbrev MX8_init : MD := (yX8_init, cX8_init, 1, none, 1, 20)
abbrev MX9_init : MD := (yX9_init, cX9_init, 3, none, 1, 20)
abbrev MX0_init : MD := (yX0_init, cX0_init, 4, none, 1, 20)
abbrev MX7_init : MD := (yX7_init, cX7_init, 1, none, 1, 20)
abbrev MX10_init : MD := (yX10_init, cX10_init, 1, none, 1, 20)
abbrev MX11_setBoard : MD := (yX11_setBoard, cX11_setBoard, 3, (some .int), 6, 129)
abbrev MX11_isWithin : MD := (yX11_isWithin, cX11_isWithin, 3, (some .boolean), 0, 0)
abbrev MX11_prepareChange : MD := (yX11_prepareChange, cX11_prepareChange, 1, none, 5, 109)
abbrev MX2_save : MD := (yX2_save, cX2_save, 3, none, 4, 87)
abbrev MX2_slotAfterOldest : MD := (yX2_slotAfterOldest, cX2_slotAfterOldest, 3, (some (.object "PolyominoCover$Problem")), 0, 0)
abbrev MX4_copyFrom : MD := (yX4_copyFrom, cX4_copyFrom, 3, none, 3, 65)
abbrev MX4_copyPiece : MD := (yX4_copyPiece, cX4_copyPiece, 4, none, 2, 42)
abbrev MX4_shapeOf : MD := (yX4_shapeOf, cX4_shapeOf, 2, (some .int), 1, 21)
abbrev MX11_at : MD := (yX11_at, cX11_at, 2, (some .int), 0, 0)
abbrev MX11_put : MD := (yX11_put, cX11_put, 3, none, 0, 0)
abbrev MX4_freedomOf : MD := (yX4_freedomOf, cX4_freedomOf, 2, (some .int), 1, 21)
abbrev MX4_colourOf : MD := (yX4_colourOf, cX4_colourOf, 2, (some .int), 1, 21)
abbrev MX4_copiesOf : MD := (yX4_copiesOf, cX4_copiesOf, 2, (some .int), 1, 21)
abbrev MX11_forgetDerived : MD := (yX11_forgetDerived, cX11_forgetDerived, 1, none, 0, 0)
abbrev MX4_makeBoard : MD := (yX4_makeBoard, cX4_makeBoard, 4, none, 0, 0)
abbrev MX4_cellCount : MD := (yX4_cellCount, cX4_cellCount, 1, (some .int), 0, 0)
abbrev MX11_setHole : MD := (yX11_setHole, cX11_setHole, 3, (some .int), 6, 129)
abbrev MX4_hasCell : MD := (yX4_hasCell, cX4_hasCell, 2, (some .boolean), 1, 20)
abbrev MX4_isHole : MD := (yX4_isHole, cX4_isHole, 2, (some .boolean), 2, 42)
abbrev MX4_cellAt : MD := (yX4_cellAt, cX4_cellAt, 2, (some .int), 1, 21)
abbrev MX4_putCell : MD := (yX4_putCell, cX4_putCell, 3, none, 1, 22)
abbrev MX4_openCount : MD := (yX4_openCount, cX4_openCount, 1, (some .int), 4, 86)
abbrev MX4_openMask : MD := (yX4_openMask, cX4_openMask, 4, (some .long), 3, 63)
abbrev MJ13_bitCount_95d88 : MD := (yJ13_bitCount_95d88, cJ13_bitCount_95d88, 2, (some .int), 0, 0)
abbrev MX11_setColour : MD := (yX11_setColour, cX11_setColour, 4, (some .int), 6, 129)
abbrev MX11_addPiece : MD := (yX11_addPiece, cX11_addPiece, 4, (some .int), 6, 129)
abbrev MX6_isShape : MD := (yX6_isShape, cX6_isShape, 2, (some .boolean), 1, 26)
abbrev MJ6_bitCount_0f7a4 : MD := (yJ6_bitCount_0f7a4, cJ6_bitCount_0f7a4, 1, (some .int), 0, 0)
abbrev MX6_hangsTogether : MD := (yX6_hangsTogether, cX6_hangsTogether, 7, (some .boolean), 0, 0)
abbrev MX6_normalize : MD := (yX6_normalize, cX6_normalize, 3, (some .int), 0, 0)
abbrev MX4_append : MD := (yX4_append, cX4_append, 5, none, 1, 22)
abbrev MX11_removePiece : MD := (yX11_removePiece, cX11_removePiece, 2, (some .int), 6, 129)
abbrev MX4_hasPiece : MD := (yX4_hasPiece, cX4_hasPiece, 2, (some .boolean), 0, 0)
abbrev MX4_dropPiece : MD := (yX4_dropPiece, cX4_dropPiece, 3, none, 3, 65)
abbrev MX11_setCopies : MD := (yX11_setCopies, cX11_setCopies, 4, (some .int), 6, 129)
abbrev MX11_setMode : MD := (yX11_setMode, cX11_setMode, 3, (some .int), 6, 129)
abbrev MX11_setRule : MD := (yX11_setRule, cX11_setRule, 3, (some .int), 6, 129)
abbrev MX11_count : MD := (yX11_count, cX11_count, 2, (some .int), 6, 147)
abbrev MX4_squareCount : MD := (yX4_squareCount, cX4_squareCount, 3, (some .int), 2, 42)
abbrev MX11_placeAll : MD := (yX11_placeAll, cX11_placeAll, 1, none, 5, 127)
abbrev MX1_fill : MD := (yX1_fill, cX1_fill, 5, none, 4, 92)
abbrev MX1_insertTurns : MD := (yX1_insertTurns, cX1_insertTurns, 6, none, 3, 67)
abbrev MX1_insert : MD := (yX1_insert, cX1_insert, 5, none, 2, 43)
abbrev MX1_sizeOf : MD := (yX1_sizeOf, cX1_sizeOf, 2, (some .int), 1, 21)
abbrev MX1_shapeOf : MD := (yX1_shapeOf, cX1_shapeOf, 3, (some .int), 1, 21)
abbrev MX6_turn : MD := (yX6_turn, cX6_turn, 5, (some .int), 1, 22)
abbrev MX6_hasSquare : MD := (yX6_hasSquare, cX6_hasSquare, 2, (some .boolean), 0, 0)
abbrev MX6_mirror : MD := (yX6_mirror, cX6_mirror, 5, (some .int), 1, 22)
abbrev MX3_fill : MD := (yX3_fill, cX3_fill, 5, none, 4, 103)
abbrev MX3_fillForm : MD := (yX3_fillForm, cX3_fillForm, 9, none, 3, 75)
abbrev MX3_lay : MD := (yX3_lay, cX3_lay, 12, (some .long), 2, 44)
abbrev MX4_columnOf : MD := (yX4_columnOf, cX4_columnOf, 2, (some .int), 0, 0)
abbrev MX4_rowOf : MD := (yX4_rowOf, cX4_rowOf, 2, (some .int), 0, 0)
abbrev MX4_takesColour : MD := (yX4_takesColour, cX4_takesColour, 4, (some .boolean), 1, 21)
abbrev MX3_fillOrder : MD := (yX3_fillOrder, cX3_fillOrder, 4, none, 2, 42)
abbrev MX3_maskOf : MD := (yX3_maskOf, cX3_maskOf, 2, (some .long), 0, 0)
abbrev MX11_smallestCell : MD := (yX11_smallestCell, cX11_smallestCell, 2, (some .int), 1, 21)
abbrev MX8_fill : MD := (yX8_fill, cX8_fill, 4, none, 3, 69)
abbrev MX8_fillNext : MD := (yX8_fillNext, cX8_fillNext, 5, (some .boolean), 2, 45)
abbrev MX8_mapCell : MD := (yX8_mapCell, cX8_mapCell, 5, (some .int), 1, 21)
abbrev MX11_colour : MD := (yX11_colour, cX11_colour, 2, (some .int), 3, 63)
abbrev MX11_piece : MD := (yX11_piece, cX11_piece, 3, (some .int), 6, 147)
abbrev MX3_sizeOf : MD := (yX3_sizeOf, cX3_sizeOf, 4, (some .int), 2, 42)
abbrev MX3_pieceOf : MD := (yX3_pieceOf, cX3_pieceOf, 2, (some .int), 1, 21)
abbrev MX11_form : MD := (yX11_form, cX11_form, 3, (some .int), 6, 147)
abbrev MX11_placement : MD := (yX11_placement, cX11_placement, 3, (some .int), 6, 147)
abbrev MX3_formOf : MD := (yX3_formOf, cX3_formOf, 2, (some .int), 1, 21)
abbrev MX3_cornerOf : MD := (yX3_cornerOf, cX3_cornerOf, 2, (some .int), 1, 21)
abbrev MX11_greatestCell : MD := (yX11_greatestCell, cX11_greatestCell, 3, (some .int), 1, 22)
abbrev MX11_holds : MD := (yX11_holds, cX11_holds, 3, (some .boolean), 0, 0)
abbrev MX11_appendCharacter : MD := (yX11_appendCharacter, cX11_appendCharacter, 2, (some .int), 1, 22)
abbrev MX5_append : MD := (yX5_append, cX5_append, 2, none, 0, 0)
abbrev MX11_clearText : MD := (yX11_clearText, cX11_clearText, 2, (some .int), 0, 0)
abbrev MX11_load : MD := (yX11_load, cX11_load, 2, (some .int), 7, 156)
abbrev MX5_read : MD := (yX5_read, cX5_read, 2, (some .int), 6, 135)
abbrev MX5_readBoard : MD := (yX5_readBoard, cX5_readBoard, 1, (some .boolean), 5, 115)
abbrev MX5_readRows : MD := (yX5_readRows, cX5_readRows, 5, (some .boolean), 4, 91)
abbrev MX5_readRow : MD := (yX5_readRow, cX5_readRow, 4, (some .int), 3, 68)
abbrev MX5_readCell : MD := (yX5_readCell, cX5_readCell, 5, (some .boolean), 2, 44)
abbrev MX5_look : MD := (yX5_look, cX5_look, 2, (some .int), 0, 0)
abbrev MX5_readSquare : MD := (yX5_readSquare, cX5_readSquare, 4, (some .boolean), 1, 21)
abbrev MX5_readPiece : MD := (yX5_readPiece, cX5_readPiece, 1, (some .boolean), 5, 115)
abbrev MX5_readOptions : MD := (yX5_readOptions, cX5_readOptions, 6, (some .boolean), 2, 46)
abbrev MX5_readDigit : MD := (yX5_readDigit, cX5_readDigit, 3, (some .int), 1, 21)
abbrev MJ9_max_7cf53 : MD := (yJ9_max_7cf53, cJ9_max_7cf53, 2, (some .int), 0, 0)
abbrev MX5_handOver : MD := (yX5_handOver, cX5_handOver, 2, none, 4, 87)
abbrev MX11_covers : MD := (yX11_covers, cX11_covers, 1, (some .int), 7, 167)
abbrev MX11_searchAll : MD := (yX11_searchAll, cX11_searchAll, 1, none, 6, 147)
abbrev MX0_collect : MD := (yX0_collect, cX0_collect, 2, none, 5, 115)
abbrev MX9_begin : MD := (yX9_begin, cX9_begin, 2, none, 3, 64)
abbrev MX4_copyCount : MD := (yX4_copyCount, cX4_copyCount, 3, (some .int), 2, 42)
abbrev MX9_openLevel : MD := (yX9_openLevel, cX9_openLevel, 2, none, 2, 42)
abbrev MX9_advance : MD := (yX9_advance, cX9_advance, 4, (some .boolean), 4, 92)
abbrev MX9_isCover : MD := (yX9_isCover, cX9_isCover, 1, (some .boolean), 0, 0)
abbrev MX9_nextThatFits : MD := (yX9_nextThatFits, cX9_nextThatFits, 7, (some .int), 3, 66)
abbrev MX9_isAllowed : MD := (yX9_isAllowed, cX9_isAllowed, 5, (some .boolean), 2, 42)
abbrev MX9_around : MD := (yX9_around, cX9_around, 7, (some .long), 0, 0)
abbrev MX9_stepBack : MD := (yX9_stepBack, cX9_stepBack, 1, none, 3, 68)
abbrev MX9_change : MD := (yX9_change, cX9_change, 7, none, 2, 42)
abbrev MX9_stepOn : MD := (yX9_stepOn, cX9_stepOn, 2, none, 3, 68)
abbrev MX9_writeTo : MD := (yX9_writeTo, cX9_writeTo, 8, none, 2, 42)
abbrev MJ9_min_7cf53 : MD := (yJ9_min_7cf53, cJ9_min_7cf53, 2, (some .int), 0, 0)
abbrev MX11_tries : MD := (yX11_tries, cX11_tries, 1, (some .int), 7, 167)
abbrev MX11_coverAt : MD := (yX11_coverAt, cX11_coverAt, 3, (some .int), 7, 167)
abbrev MX11_whyNoCover : MD := (yX11_whyNoCover, cX11_whyNoCover, 1, (some .int), 0, 0)
abbrev MX0_rowOf : MD := (yX0_rowOf, cX0_rowOf, 4, (some .int), 5, 115)
abbrev MX0_placementAt : MD := (yX0_placementAt, cX0_placementAt, 3, (some .int), 1, 21)
abbrev MX11_used : MD := (yX11_used, cX11_used, 3, (some .int), 7, 167)
abbrev MX0_usesOf : MD := (yX0_usesOf, cX0_usesOf, 6, (some .int), 3, 64)
abbrev MX0_beginsAt : MD := (yX0_beginsAt, cX0_beginsAt, 3, (some .boolean), 2, 42)
abbrev MX11_classes : MD := (yX11_classes, cX11_classes, 1, (some .int), 7, 167)
abbrev MX0_classCount : MD := (yX0_classCount, cX0_classCount, 3, (some .int), 5, 115)
abbrev MX0_isLikeEarlier : MD := (yX0_isLikeEarlier, cX0_isLikeEarlier, 3, (some .boolean), 4, 93)
abbrev MX0_areAlike : MD := (yX0_areAlike, cX0_areAlike, 4, (some .boolean), 3, 70)
abbrev MX0_isMapped : MD := (yX0_isMapped, cX0_isMapped, 8, (some .boolean), 2, 43)
abbrev MX8_imageOf : MD := (yX8_imageOf, cX8_imageOf, 3, (some .int), 1, 21)
abbrev MX11_alike : MD := (yX11_alike, cX11_alike, 3, (some .int), 7, 167)
abbrev MX11_fewest : MD := (yX11_fewest, cX11_fewest, 1, (some .int), 7, 167)
abbrev MX11_useful : MD := (yX11_useful, cX11_useful, 2, (some .int), 7, 167)
abbrev MX11_siftAll : MD := (yX11_siftAll, cX11_siftAll, 1, none, 6, 147)
abbrev MX7_sift : MD := (yX7_sift, cX7_sift, 4, none, 4, 95)
abbrev MX7_strikeSome : MD := (yX7_strikeSome, cX7_strikeSome, 4, (some .boolean), 3, 72)
abbrev MX7_limitOf : MD := (yX7_limitOf, cX7_limitOf, 2, (some .int), 1, 21)
abbrev MX7_leavesAllCoverable : MD := (yX7_leavesAllCoverable, cX7_leavesAllCoverable, 11, (some .boolean), 2, 42)
abbrev MX7_leftOfPiece : MD := (yX7_leftOfPiece, cX7_leftOfPiece, 5, (some .int), 2, 42)
abbrev MX11_usefulAt : MD := (yX11_usefulAt, cX11_usefulAt, 2, (some .int), 7, 167)
abbrev MX7_leftAtCell : MD := (yX7_leftAtCell, cX7_leftAtCell, 5, (some .int), 2, 42)
abbrev MX11_proves : MD := (yX11_proves, cX11_proves, 4, (some .int), 6, 147)
abbrev MX10_excludeCover : MD := (yX10_excludeCover, cX10_excludeCover, 10, (some .boolean), 4, 90)
abbrev MX10_weighCells : MD := (yX10_weighCells, cX10_weighCells, 5, none, 1, 21)
abbrev MX10_rest : MD := (yX10_rest, cX10_rest, 2, (some .int), 0, 0)
abbrev MX10_weighPieces : MD := (yX10_weighPieces, cX10_weighPieces, 5, none, 3, 66)
abbrev MX10_weightOf : MD := (yX10_weightOf, cX10_weightOf, 5, (some .int), 2, 42)
abbrev MX10_addAll : MD := (yX10_addAll, cX10_addAll, 6, (some .int), 1, 21)
abbrev MX11_proof : MD := (yX11_proof, cX11_proof, 4, (some .int), 6, 147)
abbrev MX11_undo : MD := (yX11_undo, cX11_undo, 1, (some .int), 5, 109)
abbrev MX2_restore : MD := (yX2_restore, cX2_restore, 3, none, 4, 87)
abbrev MX12_init : MD := (yX12_init, cX12_init, 1, none, 1, 20)
abbrev MX12_undo : MD := (yX12_undo, cX12_undo, 2, (some .int), 0, 0)
abbrev MX12_setBoard : MD := (yX12_setBoard, cX12_setBoard, 4, (some .int), 1, 22)
abbrev MX12_in : MD := (yX12_in, cX12_in, 3, (some .boolean), 0, 0)
abbrev MX12_note : MD := (yX12_note, cX12_note, 2, none, 0, 0)
abbrev MX12_setHole : MD := (yX12_setHole, cX12_setHole, 3, (some .int), 2, 43)
abbrev MX12_isCell : MD := (yX12_isCell, cX12_isCell, 2, (some .boolean), 1, 22)
abbrev MX12_cells : MD := (yX12_cells, cX12_cells, 1, (some .int), 0, 0)
abbrev MX12_isOpen : MD := (yX12_isOpen, cX12_isOpen, 2, (some .boolean), 0, 0)
abbrev MX12_opens : MD := (yX12_opens, cX12_opens, 3, (some .int), 1, 21)
abbrev MX12_setColour : MD := (yX12_setColour, cX12_setColour, 4, (some .int), 2, 43)
abbrev MX12_addPiece : MD := (yX12_addPiece, cX12_addPiece, 4, (some .int), 2, 46)
abbrev MX12_isShape : MD := (yX12_isShape, cX12_isShape, 3, (some .boolean), 1, 22)
abbrev MX12_squares : MD := (yX12_squares, cX12_squares, 3, (some .int), 0, 0)
abbrev MX12_grown : MD := (yX12_grown, cX12_grown, 3, (some .int), 0, 0)
abbrev MX12_adds : MD := (yX12_adds, cX12_adds, 6, none, 1, 21)
abbrev MX12_normal : MD := (yX12_normal, cX12_normal, 2, (some .int), 0, 0)
abbrev MX12_removePiece : MD := (yX12_removePiece, cX12_removePiece, 3, (some .int), 2, 43)
abbrev MX12_isPiece : MD := (yX12_isPiece, cX12_isPiece, 2, (some .boolean), 1, 22)
abbrev MX12_setCopies : MD := (yX12_setCopies, cX12_setCopies, 3, (some .int), 2, 45)
abbrev MX12_sets : MD := (yX12_sets, cX12_sets, 5, (some .int), 1, 21)
abbrev MX12_setMode : MD := (yX12_setMode, cX12_setMode, 2, (some .int), 2, 45)
abbrev MX12_setRule : MD := (yX12_setRule, cX12_setRule, 2, (some .int), 2, 45)
abbrev MX12_count : MD := (yX12_count, cX12_count, 4, (some .int), 4, 95)
abbrev MX12_its : MD := (yX12_its, cX12_its, 3, (some .int), 0, 0)
abbrev MX12_findsPlacements : MD := (yX12_findsPlacements, cX12_findsPlacements, 6, none, 3, 70)
abbrev MX12_findsForms : MD := (yX12_findsForms, cX12_findsForms, 5, none, 2, 46)
abbrev MX12_addsForm : MD := (yX12_addsForm, cX12_addsForm, 4, none, 0, 0)
abbrev MX12_changed : MD := (yX12_changed, cX12_changed, 6, (some .int), 1, 21)
abbrev MX12_cellsOf : MD := (yX12_cellsOf, cX12_cellsOf, 11, (some .long), 1, 21)
abbrev MX12_lowest : MD := (yX12_lowest, cX12_lowest, 3, (some .int), 0, 0)
abbrev MX12_isSymmetry : MD := (yX12_isSymmetry, cX12_isSymmetry, 4, (some .boolean), 1, 24)
abbrev MX12_image : MD := (yX12_image, cX12_image, 5, (some .int), 0, 0)
abbrev MX12_colour : MD := (yX12_colour, cX12_colour, 2, (some .int), 2, 43)
abbrev MX12_piece : MD := (yX12_piece, cX12_piece, 4, (some .int), 5, 118)
abbrev MX12_placementsOf : MD := (yX12_placementsOf, cX12_placementsOf, 4, (some .int), 4, 95)
abbrev MX12_form : MD := (yX12_form, cX12_form, 3, (some .int), 3, 70)
abbrev MX12_placement : MD := (yX12_placement, cX12_placement, 5, (some .int), 4, 95)
abbrev MX12_has : MD := (yX12_has, cX12_has, 3, (some .boolean), 0, 0)
abbrev MX12_appendCharacter : MD := (yX12_appendCharacter, cX12_appendCharacter, 2, (some .int), 1, 22)
abbrev MX12_clearText : MD := (yX12_clearText, cX12_clearText, 2, (some .int), 0, 0)
abbrev MX12_load : MD := (yX12_load, cX12_load, 3, (some .int), 4, 93)
abbrev MX12_readsRows : MD := (yX12_readsRows, cX12_readsRows, 8, none, 2, 46)
abbrev MX12_here : MD := (yX12_here, cX12_here, 1, (some .int), 0, 0)
abbrev MX12_isInRow : MD := (yX12_isInRow, cX12_isInRow, 5, (some .boolean), 1, 22)
abbrev MX12_isPart : MD := (yX12_isPart, cX12_isPart, 2, (some .boolean), 1, 22)
abbrev MX12_readsPiece : MD := (yX12_readsPiece, cX12_readsPiece, 1, none, 3, 73)
abbrev MX12_readsOption : MD := (yX12_readsOption, cX12_readsOption, 3, none, 1, 22)
abbrev MX12_exchanges : MD := (yX12_exchanges, cX12_exchanges, 3, none, 0, 0)
abbrev MX12_covers : MD := (yX12_covers, cX12_covers, 1, (some .int), 6, 136)
abbrev MX12_searches : MD := (yX12_searches, cX12_searches, 1, none, 5, 116)
abbrev MX12_begins : MD := (yX12_begins, cX12_begins, 2, none, 4, 95)
abbrev MX12_goesOn : MD := (yX12_goesOn, cX12_goesOn, 5, (some .boolean), 3, 69)
abbrev MX12_all : MD := (yX12_all, cX12_all, 4, (some .long), 1, 21)
abbrev MX12_goesBack : MD := (yX12_goesBack, cX12_goesBack, 1, none, 2, 44)
abbrev MX12_turns : MD := (yX12_turns, cX12_turns, 3, none, 1, 22)
abbrev MX12_isCover : MD := (yX12_isCover, cX12_isCover, 3, (some .boolean), 0, 0)
abbrev MX12_fits : MD := (yX12_fits, cX12_fits, 4, (some .boolean), 2, 46)
abbrev MX12_beside : MD := (yX12_beside, cX12_beside, 7, (some .long), 1, 20)
abbrev MX12_tries : MD := (yX12_tries, cX12_tries, 1, (some .int), 6, 136)
abbrev MX12_coverAt : MD := (yX12_coverAt, cX12_coverAt, 5, (some .int), 6, 138)
abbrev MX12_seeks : MD := (yX12_seeks, cX12_seeks, 3, (some .int), 5, 116)
abbrev MX12_used : MD := (yX12_used, cX12_used, 4, (some .int), 6, 138)
abbrev MX12_fewest : MD := (yX12_fewest, cX12_fewest, 1, (some .int), 6, 136)
abbrev MX12_classes : MD := (yX12_classes, cX12_classes, 4, (some .int), 6, 136)
abbrev MX12_labelsAll : MD := (yX12_labelsAll, cX12_labelsAll, 3, none, 2, 51)
abbrev MX12_labels : MD := (yX12_labels, cX12_labels, 8, none, 1, 24)
abbrev MX12_areAlike : MD := (yX12_areAlike, cX12_areAlike, 7, (some .boolean), 2, 47)
abbrev MX12_alike : MD := (yX12_alike, cX12_alike, 4, (some .int), 6, 138)
abbrev MX12_useful : MD := (yX12_useful, cX12_useful, 4, (some .int), 5, 117)
abbrev MX12_strikes : MD := (yX12_strikes, cX12_strikes, 3, none, 4, 95)
abbrev MX12_isUseless : MD := (yX12_isUseless, cX12_isUseless, 6, (some .boolean), 1, 22)
abbrev MX12_usefulAt : MD := (yX12_usefulAt, cX12_usefulAt, 4, (some .int), 5, 117)
abbrev MX12_proves : MD := (yX12_proves, cX12_proves, 4, (some .int), 4, 103)
abbrev MX12_isProof : MD := (yX12_isProof, cX12_isProof, 11, (some .boolean), 3, 73)
abbrev MX12_weights : MD := (yX12_weights, cX12_weights, 7, (some .int), 2, 47)
abbrev MX12_weight : MD := (yX12_weight, cX12_weight, 8, (some .int), 1, 20)
abbrev MX12_proof : MD := (yX12_proof, cX12_proof, 4, (some .int), 4, 103)
theorem ok_MX11_init : mOK MX11_init 0 := ⟨gt_at (i := 103) (by decide +kernel) (by decide +kernel), gt_at (i := 83) (by decide +kernel) (by decide +kernel), by decide +kernel, by decide +kernel, by decide +kernel, by decide +kernel⟩
theorem ok_MX4_init : mOK MX4_init 0 := ⟨gt_at (i := 111) (by decide +kernel) (by decide +kernel), gt_at (i := 84) (by decide +kernel) (by decide +kernel), by decide +kernel, by decide +kernel, by decide +kernel, by decide +kernel⟩
theorem ok_MX2_init : mOK MX2_init 0 := ⟨gt_at (i := 171) (by decide +kernel) (by decide +kernel), gt_at (i := 85) (by decide +kernel) (by decide +kernel), by decide +kernel, by decide +kernel, by decide +kernel, by decide +kernel⟩
theorem ok_MX5_init : mOK MX5_init 0 := ⟨gt_at (i := 191) (by decide +kernel) (by decide +kernel), gt_at (i := 86) (by decide +kernel) (by decide +kernel), by decide +kernel, by decide +kernel, by decide +kernel, by decide +kernel⟩
theorem ok_MX1_init : mOK MX1_init 0 := ⟨gt_at (i := 222) (by decide +kernel) (by decide +kernel), gt_at (i := 87) (by decide +kernel) (by decide +kernel), by decide +kernel, by decide +kernel, by decide +kernel, by decide +kernel⟩
theorem ok_MX3_init : mOK MX3_init 0 := ⟨gt_at (i := 235) (by decide +kernel) (by decide +kernel), gt_at (i := 88) (by decide +kernel) (by decide +kernel), by decide +kernel, by decide +kernel, by decide +kernel, by decide +kernel⟩
theorem ok_MX8_init : mOK MX8_init 0 := ⟨gt_at (i := 269) (by decide +kernel) (by decide +kernel), gt_at (i := 89) (by decide +kernel) (by decide +kernel), by decide +kernel, by decide +kernel, by decide +kernel, by decide +kernel⟩
theorem ok_MX9_init : mOK MX9_init 2 := ⟨gt_at (i := 284) (by decide +kernel) (by decide +kernel), gt_at (i := 90) (by decide +kernel) (by decide +kernel), by decide +kernel, by decide +kernel, by decide +kernel, by decide +kernel⟩
theorem ok_MX0_init : mOK MX0_init 3 := ⟨gt_at (i := 344) (by decide +kernel) (by decide +kernel), gt_at (i := 91) (by decide +kernel) (by decide +kernel), by decide +kernel, by decide +kernel, by decide +kernel, by decide +kernel⟩
theorem ok_MX7_init : mOK MX7_init 0 := ⟨gt_at (i := 379) (by decide +kernel) (by decide +kernel), gt_at (i := 92) (by decide +kernel) (by decide +kernel), by decide +kernel, by decide +kernel, by decide +kernel, by decide +kernel⟩
theorem ok_MX10_init : mOK MX10_init 0 := ⟨gt_at (i := 390) (by decide +kernel) (by decide +kernel), gt_at (i := 93) (by decide +kernel) (by decide +kernel), by decide +kernel, by decide +kernel, by decide +kernel, by decide +kernel⟩
theorem ok_MX11_setBoard : mOK MX11_setBoard 2 := ⟨gt_at (i := 445) (by decide +kernel) (by decide +kernel), gt_at (i := 83) (by decide +kernel) (by decide +kernel), by decide +kernel, by decide +kernel, by decide +kernel, by decide +kernel⟩
theorem ok_MX11_isWithin : mOK MX11_isWithin 3 := ⟨gt_at (i := 448) (by decide +kernel) (by decide +kernel), gt_at (i := 83) (by decide +kernel) (by decide +kernel), by decide +kernel, by decide +kernel, by decide +kernel, by decide +kernel⟩
theorem ok_MX11_prepareChange : mOK MX11_prepareChange 0 := ⟨gt_at (i := 452) (by decide +kernel) (by decide +kernel), gt_at (i := 83) (by decide +kernel) (by decide +kernel), by decide +kernel, by decide +kernel, by decide +kernel, by decide +kernel⟩
theorem ok_MX2_save : mOK MX2_save 1 := ⟨gt_at (i := 456) (by decide +kernel) (by decide +kernel), gt_at (i := 85) (by decide +kernel) (by decide +kernel), by decide +kernel, by decide +kernel, by decide +kernel, by decide +kernel⟩
theorem ok_MX2_slotAfterOldest : mOK MX2_slotAfterOldest 1 := ⟨gt_at (i := 460) (by decide +kernel) (by decide +kernel), gt_at (i := 85) (by decide +kernel) (by decide +kernel), by decide +kernel, by decide +kernel, by decide +kernel, by decide +kernel⟩
theorem ok_MX4_copyFrom : mOK MX4_copyFrom 1 := ⟨gt_at (i := 464) (by decide +kernel) (by decide +kernel), gt_at (i := 84) (by decide +kernel) (by decide +kernel), by decide +kernel, by decide +kernel, by decide +kernel, by decide +kernel⟩
theorem ok_MX4_copyPiece : mOK MX4_copyPiece 3 := ⟨gt_at (i := 468) (by decide +kernel) (by decide +kernel), gt_at (i := 84) (by decide +kernel) (by decide +kernel), by decide +kernel, by decide +kernel, by decide +kernel, by decide +kernel⟩
theorem ok_MX4_shapeOf : mOK MX4_shapeOf 1 := ⟨gt_at (i := 472) (by decide +kernel) (by decide +kernel), gt_at (i := 84) (by decide +kernel) (by decide +kernel), by decide +kernel, by decide +kernel, by decide +kernel, by decide +kernel⟩
theorem ok_MX11_at : mOK MX11_at 2 := ⟨gt_at (i := 475) (by decide +kernel) (by decide +kernel), gt_at (i := 83) (by decide +kernel) (by decide +kernel), by decide +kernel, by decide +kernel, by decide +kernel, by decide +kernel⟩
theorem ok_MX11_put : mOK MX11_put 3 := ⟨gt_at (i := 478) (by decide +kernel) (by decide +kernel), gt_at (i := 83) (by decide +kernel) (by decide +kernel), by decide +kernel, by decide +kernel, by decide +kernel, by decide +kernel⟩
theorem ok_MX4_freedomOf : mOK MX4_freedomOf 1 := ⟨gt_at (i := 482) (by decide +kernel) (by decide +kernel), gt_at (i := 84) (by decide +kernel) (by decide +kernel), by decide +kernel, by decide +kernel, by decide +kernel, by decide +kernel⟩
theorem ok_MX4_colourOf : mOK MX4_colourOf 1 := ⟨gt_at (i := 486) (by decide +kernel) (by decide +kernel), gt_at (i := 84) (by decide +kernel) (by decide +kernel), by decide +kernel, by decide +kernel, by decide +kernel, by decide +kernel⟩
theorem ok_MX4_copiesOf : mOK MX4_copiesOf 1 := ⟨gt_at (i := 490) (by decide +kernel) (by decide +kernel), gt_at (i := 84) (by decide +kernel) (by decide +kernel), by decide +kernel, by decide +kernel, by decide +kernel, by decide +kernel⟩
theorem ok_MX11_forgetDerived : mOK MX11_forgetDerived 0 := ⟨gt_at (i := 494) (by decide +kernel) (by decide +kernel), gt_at (i := 83) (by decide +kernel) (by decide +kernel), by decide +kernel, by decide +kernel, by decide +kernel, by decide +kernel⟩
theorem ok_MX4_makeBoard : mOK MX4_makeBoard 2 := ⟨gt_at (i := 498) (by decide +kernel) (by decide +kernel), gt_at (i := 84) (by decide +kernel) (by decide +kernel), by decide +kernel, by decide +kernel, by decide +kernel, by decide +kernel⟩
theorem ok_MX4_cellCount : mOK MX4_cellCount 0 := ⟨gt_at (i := 502) (by decide +kernel) (by decide +kernel), gt_at (i := 84) (by decide +kernel) (by decide +kernel), by decide +kernel, by decide +kernel, by decide +kernel, by decide +kernel⟩
theorem ok_MX11_setHole : mOK MX11_setHole 2 := ⟨gt_at (i := 506) (by decide +kernel) (by decide +kernel), gt_at (i := 83) (by decide +kernel) (by decide +kernel), by decide +kernel, by decide +kernel, by decide +kernel, by decide +kernel⟩
theorem ok_MX4_hasCell : mOK MX4_hasCell 1 := ⟨gt_at (i := 510) (by decide +kernel) (by decide +kernel), gt_at (i := 84) (by decide +kernel) (by decide +kernel), by decide +kernel, by decide +kernel, by decide +kernel, by decide +kernel⟩
theorem ok_MX4_isHole : mOK MX4_isHole 1 := ⟨gt_at (i := 515) (by decide +kernel) (by decide +kernel), gt_at (i := 84) (by decide +kernel) (by decide +kernel), by decide +kernel, by decide +kernel, by decide +kernel, by decide +kernel⟩
theorem ok_MX4_cellAt : mOK MX4_cellAt 1 := ⟨gt_at (i := 519) (by decide +kernel) (by decide +kernel), gt_at (i := 84) (by decide +kernel) (by decide +kernel), by decide +kernel, by decide +kernel, by decide +kernel, by decide +kernel⟩
theorem ok_MX4_putCell : mOK MX4_putCell 2 := ⟨gt_at (i := 523) (by decide +kernel) (by decide +kernel), gt_at (i := 84) (by decide +kernel) (by decide +kernel), by decide +kernel, by decide +kernel, by decide +kernel, by decide +kernel⟩
theorem ok_MX4_openCount : mOK MX4_openCount 0 := ⟨gt_at (i := 527) (by decide +kernel) (by decide +kernel), gt_at (i := 84) (by decide +kernel) (by decide +kernel), by decide +kernel, by decide +kernel, by decide +kernel, by decide +kernel⟩
theorem ok_MX4_openMask : mOK MX4_openMask 0 := ⟨gt_at (i := 531) (by decide +kernel) (by decide +kernel), gt_at (i := 84) (by decide +kernel) (by decide +kernel), by decide +kernel, by decide +kernel, by decide +kernel, by decide +kernel⟩
theorem ok_MJ13_bitCount_95d88 : mOK MJ13_bitCount_95d88 1 := ⟨gt_at (i := 535) (by decide +kernel) (by decide +kernel), gt_at (i := 95) (by decide +kernel) (by decide +kernel), by decide +kernel, by decide +kernel, by decide +kernel, by decide +kernel⟩
theorem ok_MX11_setColour : mOK MX11_setColour 2 := ⟨gt_at (i := 542) (by decide +kernel) (by decide +kernel), gt_at (i := 83) (by decide +kernel) (by decide +kernel), by decide +kernel, by decide +kernel, by decide +kernel, by decide +kernel⟩
theorem ok_MX11_addPiece : mOK MX11_addPiece 3 := ⟨gt_at (i := 547) (by decide +kernel) (by decide +kernel), gt_at (i := 83) (by decide +kernel) (by decide +kernel), by decide +kernel, by decide +kernel, by decide +kernel, by decide +kernel⟩
theorem ok_MX6_isShape : mOK MX6_isShape 1 := ⟨gt_at (i := 550) (by decide +kernel) (by decide +kernel), gt_at (i := 96) (by decide +kernel) (by decide +kernel), by decide +kernel, by decide +kernel, by decide +kernel, by decide +kernel⟩
theorem ok_MJ6_bitCount_0f7a4 : mOK MJ6_bitCount_0f7a4 1 := ⟨gt_at (i := 554) (by decide +kernel) (by decide +kernel), gt_at (i := 97) (by decide +kernel) (by decide +kernel), by decide +kernel, by decide +kernel, by decide +kernel, by decide +kernel⟩
theorem ok_MX6_hangsTogether : mOK MX6_hangsTogether 1 := ⟨gt_at (i := 560) (by decide +kernel) (by decide +kernel), gt_at (i := 96) (by decide +kernel) (by decide +kernel), by decide +kernel, by decide +kernel, by decide +kernel, by decide +kernel⟩
theorem ok_MX6_normalize : mOK MX6_normalize 1 := ⟨gt_at (i := 564) (by decide +kernel) (by decide +kernel), gt_at (i := 96) (by decide +kernel) (by decide +kernel), by decide +kernel, by decide +kernel, by decide +kernel, by decide +kernel⟩
theorem ok_MX4_append : mOK MX4_append 4 := ⟨gt_at (i := 568) (by decide +kernel) (by decide +kernel), gt_at (i := 84) (by decide +kernel) (by decide +kernel), by decide +kernel, by decide +kernel, by decide +kernel, by decide +kernel⟩
theorem ok_MX11_removePiece : mOK MX11_removePiece 1 := ⟨gt_at (i := 572) (by decide +kernel) (by decide +kernel), gt_at (i := 83) (by decide +kernel) (by decide +kernel), by decide +kernel, by decide +kernel, by decide +kernel, by decide +kernel⟩
theorem ok_MX4_hasPiece : mOK MX4_hasPiece 1 := ⟨gt_at (i := 576) (by decide +kernel) (by decide +kernel), gt_at (i := 84) (by decide +kernel) (by decide +kernel), by decide +kernel, by decide +kernel, by decide +kernel, by decide +kernel⟩
theorem ok_MX4_dropPiece : mOK MX4_dropPiece 1 := ⟨gt_at (i := 580) (by decide +kernel) (by decide +kernel), gt_at (i := 84) (by decide +kernel) (by decide +kernel), by decide +kernel, by decide +kernel, by decide +kernel, by decide +kernel⟩
theorem ok_MX11_setCopies : mOK MX11_setCopies 2 := ⟨gt_at (i := 584) (by decide +kernel) (by decide +kernel), gt_at (i := 83) (by decide +kernel) (by decide +kernel), by decide +kernel, by decide +kernel, by decide +kernel, by decide +kernel⟩
theorem ok_MX11_setMode : mOK MX11_setMode 1 := ⟨gt_at (i := 590) (by decide +kernel) (by decide +kernel), gt_at (i := 83) (by decide +kernel) (by decide +kernel), by decide +kernel, by decide +kernel, by decide +kernel, by decide +kernel⟩
theorem ok_MX11_setRule : mOK MX11_setRule 1 := ⟨gt_at (i := 594) (by decide +kernel) (by decide +kernel), gt_at (i := 83) (by decide +kernel) (by decide +kernel), by decide +kernel, by decide +kernel, by decide +kernel, by decide +kernel⟩
theorem ok_MX11_count : mOK MX11_count 1 := ⟨gt_at (i := 598) (by decide +kernel) (by decide +kernel), gt_at (i := 83) (by decide +kernel) (by decide +kernel), by decide +kernel, by decide +kernel, by decide +kernel, by decide +kernel⟩
theorem ok_MX4_squareCount : mOK MX4_squareCount 0 := ⟨gt_at (i := 602) (by decide +kernel) (by decide +kernel), gt_at (i := 84) (by decide +kernel) (by decide +kernel), by decide +kernel, by decide +kernel, by decide +kernel, by decide +kernel⟩
theorem ok_MX11_placeAll : mOK MX11_placeAll 0 := ⟨gt_at (i := 607) (by decide +kernel) (by decide +kernel), gt_at (i := 83) (by decide +kernel) (by decide +kernel), by decide +kernel, by decide +kernel, by decide +kernel, by decide +kernel⟩
theorem ok_MX1_fill : mOK MX1_fill 1 := ⟨gt_at (i := 611) (by decide +kernel) (by decide +kernel), gt_at (i := 87) (by decide +kernel) (by decide +kernel), by decide +kernel, by decide +kernel, by decide +kernel, by decide +kernel⟩
theorem ok_MX1_insertTurns : mOK MX1_insertTurns 3 := ⟨gt_at (i := 619) (by decide +kernel) (by decide +kernel), gt_at (i := 87) (by decide +kernel) (by decide +kernel), by decide +kernel, by decide +kernel, by decide +kernel, by decide +kernel⟩
theorem ok_MX1_insert : mOK MX1_insert 2 := ⟨gt_at (i := 623) (by decide +kernel) (by decide +kernel), gt_at (i := 87) (by decide +kernel) (by decide +kernel), by decide +kernel, by decide +kernel, by decide +kernel, by decide +kernel⟩
theorem ok_MX1_sizeOf : mOK MX1_sizeOf 1 := ⟨gt_at (i := 627) (by decide +kernel) (by decide +kernel), gt_at (i := 87) (by decide +kernel) (by decide +kernel), by decide +kernel, by decide +kernel, by decide +kernel, by decide +kernel⟩
theorem ok_MX1_shapeOf : mOK MX1_shapeOf 2 := ⟨gt_at (i := 632) (by decide +kernel) (by decide +kernel), gt_at (i := 87) (by decide +kernel) (by decide +kernel), by decide +kernel, by decide +kernel, by decide +kernel, by decide +kernel⟩
theorem ok_MX6_turn : mOK MX6_turn 1 := ⟨gt_at (i := 635) (by decide +kernel) (by decide +kernel), gt_at (i := 96) (by decide +kernel) (by decide +kernel), by decide +kernel, by decide +kernel, by decide +kernel, by decide +kernel⟩
theorem ok_MX6_hasSquare : mOK MX6_hasSquare 2 := ⟨gt_at (i := 638) (by decide +kernel) (by decide +kernel), gt_at (i := 96) (by decide +kernel) (by decide +kernel), by decide +kernel, by decide +kernel, by decide +kernel, by decide +kernel⟩
theorem ok_MX6_mirror : mOK MX6_mirror 1 := ⟨gt_at (i := 642) (by decide +kernel) (by decide +kernel), gt_at (i := 96) (by decide +kernel) (by decide +kernel), by decide +kernel, by decide +kernel, by decide +kernel, by decide +kernel⟩
theorem ok_MX3_fill : mOK MX3_fill 2 := ⟨gt_at (i := 646) (by decide +kernel) (by decide +kernel), gt_at (i := 88) (by decide +kernel) (by decide +kernel), by decide +kernel, by decide +kernel, by decide +kernel, by decide +kernel⟩
theorem ok_MX3_fillForm : mOK MX3_fillForm 4 := ⟨gt_at (i := 653) (by decide +kernel) (by decide +kernel), gt_at (i := 88) (by decide +kernel) (by decide +kernel), by decide +kernel, by decide +kernel, by decide +kernel, by decide +kernel⟩
theorem ok_MX3_lay : mOK MX3_lay 4 := ⟨gt_at (i := 658) (by decide +kernel) (by decide +kernel), gt_at (i := 88) (by decide +kernel) (by decide +kernel), by decide +kernel, by decide +kernel, by decide +kernel, by decide +kernel⟩
theorem ok_MX4_columnOf : mOK MX4_columnOf 1 := ⟨gt_at (i := 662) (by decide +kernel) (by decide +kernel), gt_at (i := 84) (by decide +kernel) (by decide +kernel), by decide +kernel, by decide +kernel, by decide +kernel, by decide +kernel⟩
theorem ok_MX4_rowOf : mOK MX4_rowOf 1 := ⟨gt_at (i := 666) (by decide +kernel) (by decide +kernel), gt_at (i := 84) (by decide +kernel) (by decide +kernel), by decide +kernel, by decide +kernel, by decide +kernel, by decide +kernel⟩
theorem ok_MX4_takesColour : mOK MX4_takesColour 2 := ⟨gt_at (i := 671) (by decide +kernel) (by decide +kernel), gt_at (i := 84) (by decide +kernel) (by decide +kernel), by decide +kernel, by decide +kernel, by decide +kernel, by decide +kernel⟩
theorem ok_MX3_fillOrder : mOK MX3_fillOrder 0 := ⟨gt_at (i := 675) (by decide +kernel) (by decide +kernel), gt_at (i := 88) (by decide +kernel) (by decide +kernel), by decide +kernel, by decide +kernel, by decide +kernel, by decide +kernel⟩
theorem ok_MX3_maskOf : mOK MX3_maskOf 1 := ⟨gt_at (i := 679) (by decide +kernel) (by decide +kernel), gt_at (i := 88) (by decide +kernel) (by decide +kernel), by decide +kernel, by decide +kernel, by decide +kernel, by decide +kernel⟩
theorem ok_MX11_smallestCell : mOK MX11_smallestCell 1 := ⟨gt_at (i := 682) (by decide +kernel) (by decide +kernel), gt_at (i := 83) (by decide +kernel) (by decide +kernel), by decide +kernel, by decide +kernel, by decide +kernel, by decide +kernel⟩
theorem ok_MX8_fill : mOK MX8_fill 1 := ⟨gt_at (i := 689) (by decide +kernel) (by decide +kernel), gt_at (i := 89) (by decide +kernel) (by decide +kernel), by decide +kernel, by decide +kernel, by decide +kernel, by decide +kernel⟩
theorem ok_MX8_fillNext : mOK MX8_fillNext 2 := ⟨gt_at (i := 693) (by decide +kernel) (by decide +kernel), gt_at (i := 89) (by decide +kernel) (by decide +kernel), by decide +kernel, by decide +kernel, by decide +kernel, by decide +kernel⟩
theorem ok_MX8_mapCell : mOK MX8_mapCell 3 := ⟨gt_at (i := 697) (by decide +kernel) (by decide +kernel), gt_at (i := 89) (by decide +kernel) (by decide +kernel), by decide +kernel, by decide +kernel, by decide +kernel, by decide +kernel⟩
theorem ok_MX11_colour : mOK MX11_colour 1 := ⟨gt_at (i := 705) (by decide +kernel) (by decide +kernel), gt_at (i := 83) (by decide +kernel) (by decide +kernel), by decide +kernel, by decide +kernel, by decide +kernel, by decide +kernel⟩
theorem ok_MX11_piece : mOK MX11_piece 2 := ⟨gt_at (i := 709) (by decide +kernel) (by decide +kernel), gt_at (i := 83) (by decide +kernel) (by decide +kernel), by decide +kernel, by decide +kernel, by decide +kernel, by decide +kernel⟩
theorem ok_MX3_sizeOf : mOK MX3_sizeOf 1 := ⟨gt_at (i := 718) (by decide +kernel) (by decide +kernel), gt_at (i := 88) (by decide +kernel) (by decide +kernel), by decide +kernel, by decide +kernel, by decide +kernel, by decide +kernel⟩
theorem ok_MX3_pieceOf : mOK MX3_pieceOf 1 := ⟨gt_at (i := 722) (by decide +kernel) (by decide +kernel), gt_at (i := 88) (by decide +kernel) (by decide +kernel), by decide +kernel, by decide +kernel, by decide +kernel, by decide +kernel⟩
theorem ok_MX11_form : mOK MX11_form 2 := ⟨gt_at (i := 726) (by decide +kernel) (by decide +kernel), gt_at (i := 83) (by decide +kernel) (by decide +kernel), by decide +kernel, by decide +kernel, by decide +kernel, by decide +kernel⟩
theorem ok_MX11_placement : mOK MX11_placement 2 := ⟨gt_at (i := 731) (by decide +kernel) (by decide +kernel), gt_at (i := 83) (by decide +kernel) (by decide +kernel), by decide +kernel, by decide +kernel, by decide +kernel, by decide +kernel⟩
theorem ok_MX3_formOf : mOK MX3_formOf 1 := ⟨gt_at (i := 736) (by decide +kernel) (by decide +kernel), gt_at (i := 88) (by decide +kernel) (by decide +kernel), by decide +kernel, by decide +kernel, by decide +kernel, by decide +kernel⟩
theorem ok_MX3_cornerOf : mOK MX3_cornerOf 1 := ⟨gt_at (i := 740) (by decide +kernel) (by decide +kernel), gt_at (i := 88) (by decide +kernel) (by decide +kernel), by decide +kernel, by decide +kernel, by decide +kernel, by decide +kernel⟩
theorem ok_MX11_greatestCell : mOK MX11_greatestCell 1 := ⟨gt_at (i := 745) (by decide +kernel) (by decide +kernel), gt_at (i := 83) (by decide +kernel) (by decide +kernel), by decide +kernel, by decide +kernel, by decide +kernel, by decide +kernel⟩
theorem ok_MX11_holds : mOK MX11_holds 2 := ⟨gt_at (i := 748) (by decide +kernel) (by decide +kernel), gt_at (i := 83) (by decide +kernel) (by decide +kernel), by decide +kernel, by decide +kernel, by decide +kernel, by decide +kernel⟩
theorem ok_MX11_appendCharacter : mOK MX11_appendCharacter 1 := ⟨gt_at (i := 752) (by decide +kernel) (by decide +kernel), gt_at (i := 83) (by decide +kernel) (by decide +kernel), by decide +kernel, by decide +kernel, by decide +kernel, by decide +kernel⟩
theorem ok_MX5_append : mOK MX5_append 1 := ⟨gt_at (i := 756) (by decide +kernel) (by decide +kernel), gt_at (i := 86) (by decide +kernel) (by decide +kernel), by decide +kernel, by decide +kernel, by decide +kernel, by decide +kernel⟩
theorem ok_MX11_clearText : mOK MX11_clearText 0 := ⟨gt_at (i := 760) (by decide +kernel) (by decide +kernel), gt_at (i := 83) (by decide +kernel) (by decide +kernel), by decide +kernel, by decide +kernel, by decide +kernel, by decide +kernel⟩
theorem ok_MX11_load : mOK MX11_load 0 := ⟨gt_at (i := 764) (by decide +kernel) (by decide +kernel), gt_at (i := 83) (by decide +kernel) (by decide +kernel), by decide +kernel, by decide +kernel, by decide +kernel, by decide +kernel⟩
theorem ok_MX5_read : mOK MX5_read 0 := ⟨gt_at (i := 768) (by decide +kernel) (by decide +kernel), gt_at (i := 86) (by decide +kernel) (by decide +kernel), by decide +kernel, by decide +kernel, by decide +kernel, by decide +kernel⟩
theorem ok_MX5_readBoard : mOK MX5_readBoard 0 := ⟨gt_at (i := 772) (by decide +kernel) (by decide +kernel), gt_at (i := 86) (by decide +kernel) (by decide +kernel), by decide +kernel, by decide +kernel, by decide +kernel, by decide +kernel⟩
theorem ok_MX5_readRows : mOK MX5_readRows 2 := ⟨gt_at (i := 776) (by decide +kernel) (by decide +kernel), gt_at (i := 86) (by decide +kernel) (by decide +kernel), by decide +kernel, by decide +kernel, by decide +kernel, by decide +kernel⟩
theorem ok_MX5_readRow : mOK MX5_readRow 2 := ⟨gt_at (i := 780) (by decide +kernel) (by decide +kernel), gt_at (i := 86) (by decide +kernel) (by decide +kernel), by decide +kernel, by decide +kernel, by decide +kernel, by decide +kernel⟩
theorem ok_MX5_readCell : mOK MX5_readCell 2 := ⟨gt_at (i := 784) (by decide +kernel) (by decide +kernel), gt_at (i := 86) (by decide +kernel) (by decide +kernel), by decide +kernel, by decide +kernel, by decide +kernel, by decide +kernel⟩
theorem ok_MX5_look : mOK MX5_look 0 := ⟨gt_at (i := 788) (by decide +kernel) (by decide +kernel), gt_at (i := 86) (by decide +kernel) (by decide +kernel), by decide +kernel, by decide +kernel, by decide +kernel, by decide +kernel⟩
theorem ok_MX5_readSquare : mOK MX5_readSquare 2 := ⟨gt_at (i := 794) (by decide +kernel) (by decide +kernel), gt_at (i := 86) (by decide +kernel) (by decide +kernel), by decide +kernel, by decide +kernel, by decide +kernel, by decide +kernel⟩
theorem ok_MX5_readPiece : mOK MX5_readPiece 0 := ⟨gt_at (i := 798) (by decide +kernel) (by decide +kernel), gt_at (i := 86) (by decide +kernel) (by decide +kernel), by decide +kernel, by decide +kernel, by decide +kernel, by decide +kernel⟩
theorem ok_MX5_readOptions : mOK MX5_readOptions 0 := ⟨gt_at (i := 803) (by decide +kernel) (by decide +kernel), gt_at (i := 86) (by decide +kernel) (by decide +kernel), by decide +kernel, by decide +kernel, by decide +kernel, by decide +kernel⟩
theorem ok_MX5_readDigit : mOK MX5_readDigit 1 := ⟨gt_at (i := 807) (by decide +kernel) (by decide +kernel), gt_at (i := 86) (by decide +kernel) (by decide +kernel), by decide +kernel, by decide +kernel, by decide +kernel, by decide +kernel⟩
theorem ok_MX5_handOver : mOK MX5_handOver 1 := ⟨gt_at (i := 816) (by decide +kernel) (by decide +kernel), gt_at (i := 86) (by decide +kernel) (by decide +kernel), by decide +kernel, by decide +kernel, by decide +kernel, by decide +kernel⟩
theorem ok_MX11_covers : mOK MX11_covers 0 := ⟨gt_at (i := 821) (by decide +kernel) (by decide +kernel), gt_at (i := 83) (by decide +kernel) (by decide +kernel), by decide +kernel, by decide +kernel, by decide +kernel, by decide +kernel⟩
theorem ok_MX11_searchAll : mOK MX11_searchAll 0 := ⟨gt_at (i := 825) (by decide +kernel) (by decide +kernel), gt_at (i := 83) (by decide +kernel) (by decide +kernel), by decide +kernel, by decide +kernel, by decide +kernel, by decide +kernel⟩
theorem ok_MX0_collect : mOK MX0_collect 0 := ⟨gt_at (i := 829) (by decide +kernel) (by decide +kernel), gt_at (i := 91) (by decide +kernel) (by decide +kernel), by decide +kernel, by decide +kernel, by decide +kernel, by decide +kernel⟩
theorem ok_MX9_begin : mOK MX9_begin 0 := ⟨gt_at (i := 833) (by decide +kernel) (by decide +kernel), gt_at (i := 90) (by decide +kernel) (by decide +kernel), by decide +kernel, by decide +kernel, by decide +kernel, by decide +kernel⟩
theorem ok_MX4_copyCount : mOK MX4_copyCount 0 := ⟨gt_at (i := 839) (by decide +kernel) (by decide +kernel), gt_at (i := 84) (by decide +kernel) (by decide +kernel), by decide +kernel, by decide +kernel, by decide +kernel, by decide +kernel⟩
theorem ok_MX9_openLevel : mOK MX9_openLevel 0 := ⟨gt_at (i := 843) (by decide +kernel) (by decide +kernel), gt_at (i := 90) (by decide +kernel) (by decide +kernel), by decide +kernel, by decide +kernel, by decide +kernel, by decide +kernel⟩
theorem ok_MX9_advance : mOK MX9_advance 0 := ⟨gt_at (i := 850) (by decide +kernel) (by decide +kernel), gt_at (i := 90) (by decide +kernel) (by decide +kernel), by decide +kernel, by decide +kernel, by decide +kernel, by decide +kernel⟩
theorem ok_MX9_isCover : mOK MX9_isCover 0 := ⟨gt_at (i := 855) (by decide +kernel) (by decide +kernel), gt_at (i := 90) (by decide +kernel) (by decide +kernel), by decide +kernel, by decide +kernel, by decide +kernel, by decide +kernel⟩
theorem ok_MX9_nextThatFits : mOK MX9_nextThatFits 0 := ⟨gt_at (i := 859) (by decide +kernel) (by decide +kernel), gt_at (i := 90) (by decide +kernel) (by decide +kernel), by decide +kernel, by decide +kernel, by decide +kernel, by decide +kernel⟩
theorem ok_MX9_isAllowed : mOK MX9_isAllowed 2 := ⟨gt_at (i := 865) (by decide +kernel) (by decide +kernel), gt_at (i := 90) (by decide +kernel) (by decide +kernel), by decide +kernel, by decide +kernel, by decide +kernel, by decide +kernel⟩
theorem ok_MX9_around : mOK MX9_around 1 := ⟨gt_at (i := 870) (by decide +kernel) (by decide +kernel), gt_at (i := 90) (by decide +kernel) (by decide +kernel), by decide +kernel, by decide +kernel, by decide +kernel, by decide +kernel⟩
theorem ok_MX9_stepBack : mOK MX9_stepBack 0 := ⟨gt_at (i := 874) (by decide +kernel) (by decide +kernel), gt_at (i := 90) (by decide +kernel) (by decide +kernel), by decide +kernel, by decide +kernel, by decide +kernel, by decide +kernel⟩
theorem ok_MX9_change : mOK MX9_change 2 := ⟨gt_at (i := 878) (by decide +kernel) (by decide +kernel), gt_at (i := 90) (by decide +kernel) (by decide +kernel), by decide +kernel, by decide +kernel, by decide +kernel, by decide +kernel⟩
theorem ok_MX9_stepOn : mOK MX9_stepOn 1 := ⟨gt_at (i := 882) (by decide +kernel) (by decide +kernel), gt_at (i := 90) (by decide +kernel) (by decide +kernel), by decide +kernel, by decide +kernel, by decide +kernel, by decide +kernel⟩
theorem ok_MX9_writeTo : mOK MX9_writeTo 2 := ⟨gt_at (i := 886) (by decide +kernel) (by decide +kernel), gt_at (i := 90) (by decide +kernel) (by decide +kernel), by decide +kernel, by decide +kernel, by decide +kernel, by decide +kernel⟩
theorem ok_MX11_tries : mOK MX11_tries 0 := ⟨gt_at (i := 894) (by decide +kernel) (by decide +kernel), gt_at (i := 83) (by decide +kernel) (by decide +kernel), by decide +kernel, by decide +kernel, by decide +kernel, by decide +kernel⟩
theorem ok_MX11_coverAt : mOK MX11_coverAt 2 := ⟨gt_at (i := 898) (by decide +kernel) (by decide +kernel), gt_at (i := 83) (by decide +kernel) (by decide +kernel), by decide +kernel, by decide +kernel, by decide +kernel, by decide +kernel⟩
theorem ok_MX11_whyNoCover : mOK MX11_whyNoCover 0 := ⟨gt_at (i := 902) (by decide +kernel) (by decide +kernel), gt_at (i := 83) (by decide +kernel) (by decide +kernel), by decide +kernel, by decide +kernel, by decide +kernel, by decide +kernel⟩
theorem ok_MX0_rowOf : mOK MX0_rowOf 2 := ⟨gt_at (i := 906) (by decide +kernel) (by decide +kernel), gt_at (i := 91) (by decide +kernel) (by decide +kernel), by decide +kernel, by decide +kernel, by decide +kernel, by decide +kernel⟩
theorem ok_MX0_placementAt : mOK MX0_placementAt 2 := ⟨gt_at (i := 910) (by decide +kernel) (by decide +kernel), gt_at (i := 91) (by decide +kernel) (by decide +kernel), by decide +kernel, by decide +kernel, by decide +kernel, by decide +kernel⟩
theorem ok_MX11_used : mOK MX11_used 2 := ⟨gt_at (i := 915) (by decide +kernel) (by decide +kernel), gt_at (i := 83) (by decide +kernel) (by decide +kernel), by decide +kernel, by decide +kernel, by decide +kernel, by decide +kernel⟩
theorem ok_MX0_usesOf : mOK MX0_usesOf 2 := ⟨gt_at (i := 919) (by decide +kernel) (by decide +kernel), gt_at (i := 91) (by decide +kernel) (by decide +kernel), by decide +kernel, by decide +kernel, by decide +kernel, by decide +kernel⟩
theorem ok_MX0_beginsAt : mOK MX0_beginsAt 2 := ⟨gt_at (i := 924) (by decide +kernel) (by decide +kernel), gt_at (i := 91) (by decide +kernel) (by decide +kernel), by decide +kernel, by decide +kernel, by decide +kernel, by decide +kernel⟩
theorem ok_MX11_classes : mOK MX11_classes 0 := ⟨gt_at (i := 931) (by decide +kernel) (by decide +kernel), gt_at (i := 83) (by decide +kernel) (by decide +kernel), by decide +kernel, by decide +kernel, by decide +kernel, by decide +kernel⟩
theorem ok_MX0_classCount : mOK MX0_classCount 0 := ⟨gt_at (i := 935) (by decide +kernel) (by decide +kernel), gt_at (i := 91) (by decide +kernel) (by decide +kernel), by decide +kernel, by decide +kernel, by decide +kernel, by decide +kernel⟩
theorem ok_MX0_isLikeEarlier : mOK MX0_isLikeEarlier 1 := ⟨gt_at (i := 939) (by decide +kernel) (by decide +kernel), gt_at (i := 91) (by decide +kernel) (by decide +kernel), by decide +kernel, by decide +kernel, by decide +kernel, by decide +kernel⟩
theorem ok_MX0_areAlike : mOK MX0_areAlike 2 := ⟨gt_at (i := 943) (by decide +kernel) (by decide +kernel), gt_at (i := 91) (by decide +kernel) (by decide +kernel), by decide +kernel, by decide +kernel, by decide +kernel, by decide +kernel⟩
theorem ok_MX0_isMapped : mOK MX0_isMapped 3 := ⟨gt_at (i := 947) (by decide +kernel) (by decide +kernel), gt_at (i := 91) (by decide +kernel) (by decide +kernel), by decide +kernel, by decide +kernel, by decide +kernel, by decide +kernel⟩
theorem ok_MX8_imageOf : mOK MX8_imageOf 2 := ⟨gt_at (i := 951) (by decide +kernel) (by decide +kernel), gt_at (i := 89) (by decide +kernel) (by decide +kernel), by decide +kernel, by decide +kernel, by decide +kernel, by decide +kernel⟩
theorem ok_MX11_alike : mOK MX11_alike 2 := ⟨gt_at (i := 956) (by decide +kernel) (by decide +kernel), gt_at (i := 83) (by decide +kernel) (by decide +kernel), by decide +kernel, by decide +kernel, by decide +kernel, by decide +kernel⟩
theorem ok_MX11_fewest : mOK MX11_fewest 0 := ⟨gt_at (i := 961) (by decide +kernel) (by decide +kernel), gt_at (i := 83) (by decide +kernel) (by decide +kernel), by decide +kernel, by decide +kernel, by decide +kernel, by decide +kernel⟩
theorem ok_MX11_useful : mOK MX11_useful 1 := ⟨gt_at (i := 965) (by decide +kernel) (by decide +kernel), gt_at (i := 83) (by decide +kernel) (by decide +kernel), by decide +kernel, by decide +kernel, by decide +kernel, by decide +kernel⟩
theorem ok_MX11_siftAll : mOK MX11_siftAll 0 := ⟨gt_at (i := 969) (by decide +kernel) (by decide +kernel), gt_at (i := 83) (by decide +kernel) (by decide +kernel), by decide +kernel, by decide +kernel, by decide +kernel, by decide +kernel⟩
theorem ok_MX7_sift : mOK MX7_sift 1 := ⟨gt_at (i := 973) (by decide +kernel) (by decide +kernel), gt_at (i := 92) (by decide +kernel) (by decide +kernel), by decide +kernel, by decide +kernel, by decide +kernel, by decide +kernel⟩
theorem ok_MX7_strikeSome : mOK MX7_strikeSome 1 := ⟨gt_at (i := 977) (by decide +kernel) (by decide +kernel), gt_at (i := 92) (by decide +kernel) (by decide +kernel), by decide +kernel, by decide +kernel, by decide +kernel, by decide +kernel⟩
theorem ok_MX7_limitOf : mOK MX7_limitOf 1 := ⟨gt_at (i := 981) (by decide +kernel) (by decide +kernel), gt_at (i := 92) (by decide +kernel) (by decide +kernel), by decide +kernel, by decide +kernel, by decide +kernel, by decide +kernel⟩
theorem ok_MX7_leavesAllCoverable : mOK MX7_leavesAllCoverable 2 := ⟨gt_at (i := 986) (by decide +kernel) (by decide +kernel), gt_at (i := 92) (by decide +kernel) (by decide +kernel), by decide +kernel, by decide +kernel, by decide +kernel, by decide +kernel⟩
theorem ok_MX7_leftOfPiece : mOK MX7_leftOfPiece 2 := ⟨gt_at (i := 991) (by decide +kernel) (by decide +kernel), gt_at (i := 92) (by decide +kernel) (by decide +kernel), by decide +kernel, by decide +kernel, by decide +kernel, by decide +kernel⟩
theorem ok_MX11_usefulAt : mOK MX11_usefulAt 1 := ⟨gt_at (i := 996) (by decide +kernel) (by decide +kernel), gt_at (i := 83) (by decide +kernel) (by decide +kernel), by decide +kernel, by decide +kernel, by decide +kernel, by decide +kernel⟩
theorem ok_MX7_leftAtCell : mOK MX7_leftAtCell 2 := ⟨gt_at (i := 1000) (by decide +kernel) (by decide +kernel), gt_at (i := 92) (by decide +kernel) (by decide +kernel), by decide +kernel, by decide +kernel, by decide +kernel, by decide +kernel⟩
theorem ok_MX11_proves : mOK MX11_proves 3 := ⟨gt_at (i := 1005) (by decide +kernel) (by decide +kernel), gt_at (i := 83) (by decide +kernel) (by decide +kernel), by decide +kernel, by decide +kernel, by decide +kernel, by decide +kernel⟩
theorem ok_MX10_excludeCover : mOK MX10_excludeCover 5 := ⟨gt_at (i := 1009) (by decide +kernel) (by decide +kernel), gt_at (i := 93) (by decide +kernel) (by decide +kernel), by decide +kernel, by decide +kernel, by decide +kernel, by decide +kernel⟩
theorem ok_MX10_weighCells : mOK MX10_weighCells 3 := ⟨gt_at (i := 1013) (by decide +kernel) (by decide +kernel), gt_at (i := 93) (by decide +kernel) (by decide +kernel), by decide +kernel, by decide +kernel, by decide +kernel, by decide +kernel⟩
theorem ok_MX10_rest : mOK MX10_rest 1 := ⟨gt_at (i := 1019) (by decide +kernel) (by decide +kernel), gt_at (i := 93) (by decide +kernel) (by decide +kernel), by decide +kernel, by decide +kernel, by decide +kernel, by decide +kernel⟩
theorem ok_MX10_weighPieces : mOK MX10_weighPieces 1 := ⟨gt_at (i := 1023) (by decide +kernel) (by decide +kernel), gt_at (i := 93) (by decide +kernel) (by decide +kernel), by decide +kernel, by decide +kernel, by decide +kernel, by decide +kernel⟩
theorem ok_MX10_weightOf : mOK MX10_weightOf 1 := ⟨gt_at (i := 1029) (by decide +kernel) (by decide +kernel), gt_at (i := 93) (by decide +kernel) (by decide +kernel), by decide +kernel, by decide +kernel, by decide +kernel, by decide +kernel⟩
theorem ok_MX10_addAll : mOK MX10_addAll 2 := ⟨gt_at (i := 1038) (by decide +kernel) (by decide +kernel), gt_at (i := 93) (by decide +kernel) (by decide +kernel), by decide +kernel, by decide +kernel, by decide +kernel, by decide +kernel⟩
theorem ok_MX11_proof : mOK MX11_proof 0 := ⟨gt_at (i := 1042) (by decide +kernel) (by decide +kernel), gt_at (i := 83) (by decide +kernel) (by decide +kernel), by decide +kernel, by decide +kernel, by decide +kernel, by decide +kernel⟩
theorem ok_MX11_undo : mOK MX11_undo 0 := ⟨gt_at (i := 1046) (by decide +kernel) (by decide +kernel), gt_at (i := 83) (by decide +kernel) (by decide +kernel), by decide +kernel, by decide +kernel, by decide +kernel, by decide +kernel⟩
theorem ok_MX2_restore : mOK MX2_restore 1 := ⟨gt_at (i := 1050) (by decide +kernel) (by decide +kernel), gt_at (i := 85) (by decide +kernel) (by decide +kernel), by decide +kernel, by decide +kernel, by decide +kernel, by decide +kernel⟩
theorem ok_MX12_init : mOK MX12_init 0 := ⟨gt_at (i := 1055) (by decide +kernel) (by decide +kernel), gt_at (i := 94) (by decide +kernel) (by decide +kernel), by decide +kernel, by decide +kernel, by decide +kernel, by decide +kernel⟩
theorem ok_MX12_undo : mOK MX12_undo 0 := ⟨gt_at (i := 1176) (by decide +kernel) (by decide +kernel), gt_at (i := 94) (by decide +kernel) (by decide +kernel), by decide +kernel, by decide +kernel, by decide +kernel, by decide +kernel⟩
theorem ok_MX12_setBoard : mOK MX12_setBoard 2 := ⟨gt_at (i := 1180) (by decide +kernel) (by decide +kernel), gt_at (i := 94) (by decide +kernel) (by decide +kernel), by decide +kernel, by decide +kernel, by decide +kernel, by decide +kernel⟩
theorem ok_MX12_in : mOK MX12_in 3 := ⟨gt_at (i := 1183) (by decide +kernel) (by decide +kernel), gt_at (i := 94) (by decide +kernel) (by decide +kernel), by decide +kernel, by decide +kernel, by decide +kernel, by decide +kernel⟩
theorem ok_MX12_note : mOK MX12_note 0 := ⟨gt_at (i := 1187) (by decide +kernel) (by decide +kernel), gt_at (i := 94) (by decide +kernel) (by decide +kernel), by decide +kernel, by decide +kernel, by decide +kernel, by decide +kernel⟩
theorem ok_MX12_setHole : mOK MX12_setHole 2 := ⟨gt_at (i := 1191) (by decide +kernel) (by decide +kernel), gt_at (i := 94) (by decide +kernel) (by decide +kernel), by decide +kernel, by decide +kernel, by decide +kernel, by decide +kernel⟩
theorem ok_MX12_isCell : mOK MX12_isCell 1 := ⟨gt_at (i := 1195) (by decide +kernel) (by decide +kernel), gt_at (i := 94) (by decide +kernel) (by decide +kernel), by decide +kernel, by decide +kernel, by decide +kernel, by decide +kernel⟩
theorem ok_MX12_cells : mOK MX12_cells 0 := ⟨gt_at (i := 1199) (by decide +kernel) (by decide +kernel), gt_at (i := 94) (by decide +kernel) (by decide +kernel), by decide +kernel, by decide +kernel, by decide +kernel, by decide +kernel⟩
theorem ok_MX12_isOpen : mOK MX12_isOpen 1 := ⟨gt_at (i := 1203) (by decide +kernel) (by decide +kernel), gt_at (i := 94) (by decide +kernel) (by decide +kernel), by decide +kernel, by decide +kernel, by decide +kernel, by decide +kernel⟩
theorem ok_MX12_opens : mOK MX12_opens 0 := ⟨gt_at (i := 1207) (by decide +kernel) (by decide +kernel), gt_at (i := 94) (by decide +kernel) (by decide +kernel), by decide +kernel, by decide +kernel, by decide +kernel, by decide +kernel⟩
theorem ok_MX12_setColour : mOK MX12_setColour 2 := ⟨gt_at (i := 1211) (by decide +kernel) (by decide +kernel), gt_at (i := 94) (by decide +kernel) (by decide +kernel), by decide +kernel, by decide +kernel, by decide +kernel, by decide +kernel⟩
theorem ok_MX12_addPiece : mOK MX12_addPiece 3 := ⟨gt_at (i := 1215) (by decide +kernel) (by decide +kernel), gt_at (i := 94) (by decide +kernel) (by decide +kernel), by decide +kernel, by decide +kernel, by decide +kernel, by decide +kernel⟩
theorem ok_MX12_isShape : mOK MX12_isShape 1 := ⟨gt_at (i := 1218) (by decide +kernel) (by decide +kernel), gt_at (i := 94) (by decide +kernel) (by decide +kernel), by decide +kernel, by decide +kernel, by decide +kernel, by decide +kernel⟩
theorem ok_MX12_squares : mOK MX12_squares 1 := ⟨gt_at (i := 1222) (by decide +kernel) (by decide +kernel), gt_at (i := 94) (by decide +kernel) (by decide +kernel), by decide +kernel, by decide +kernel, by decide +kernel, by decide +kernel⟩
theorem ok_MX12_grown : mOK MX12_grown 1 := ⟨gt_at (i := 1225) (by decide +kernel) (by decide +kernel), gt_at (i := 94) (by decide +kernel) (by decide +kernel), by decide +kernel, by decide +kernel, by decide +kernel, by decide +kernel⟩
theorem ok_MX12_adds : mOK MX12_adds 4 := ⟨gt_at (i := 1230) (by decide +kernel) (by decide +kernel), gt_at (i := 94) (by decide +kernel) (by decide +kernel), by decide +kernel, by decide +kernel, by decide +kernel, by decide +kernel⟩
theorem ok_MX12_normal : mOK MX12_normal 1 := ⟨gt_at (i := 1233) (by decide +kernel) (by decide +kernel), gt_at (i := 94) (by decide +kernel) (by decide +kernel), by decide +kernel, by decide +kernel, by decide +kernel, by decide +kernel⟩
theorem ok_MX12_removePiece : mOK MX12_removePiece 1 := ⟨gt_at (i := 1237) (by decide +kernel) (by decide +kernel), gt_at (i := 94) (by decide +kernel) (by decide +kernel), by decide +kernel, by decide +kernel, by decide +kernel, by decide +kernel⟩
theorem ok_MX12_isPiece : mOK MX12_isPiece 1 := ⟨gt_at (i := 1241) (by decide +kernel) (by decide +kernel), gt_at (i := 94) (by decide +kernel) (by decide +kernel), by decide +kernel, by decide +kernel, by decide +kernel, by decide +kernel⟩
theorem ok_MX12_setCopies : mOK MX12_setCopies 2 := ⟨gt_at (i := 1245) (by decide +kernel) (by decide +kernel), gt_at (i := 94) (by decide +kernel) (by decide +kernel), by decide +kernel, by decide +kernel, by decide +kernel, by decide +kernel⟩
theorem ok_MX12_sets : mOK MX12_sets 3 := ⟨gt_at (i := 1249) (by decide +kernel) (by decide +kernel), gt_at (i := 94) (by decide +kernel) (by decide +kernel), by decide +kernel, by decide +kernel, by decide +kernel, by decide +kernel⟩
theorem ok_MX12_setMode : mOK MX12_setMode 1 := ⟨gt_at (i := 1253) (by decide +kernel) (by decide +kernel), gt_at (i := 94) (by decide +kernel) (by decide +kernel), by decide +kernel, by decide +kernel, by decide +kernel, by decide +kernel⟩
theorem ok_MX12_setRule : mOK MX12_setRule 1 := ⟨gt_at (i := 1257) (by decide +kernel) (by decide +kernel), gt_at (i := 94) (by decide +kernel) (by decide +kernel), by decide +kernel, by decide +kernel, by decide +kernel, by decide +kernel⟩
theorem ok_MX12_count : mOK MX12_count 1 := ⟨gt_at (i := 1261) (by decide +kernel) (by decide +kernel), gt_at (i := 94) (by decide +kernel) (by decide +kernel), by decide +kernel, by decide +kernel, by decide +kernel, by decide +kernel⟩
theorem ok_MX12_its : mOK MX12_its 2 := ⟨gt_at (i := 1265) (by decide +kernel) (by decide +kernel), gt_at (i := 94) (by decide +kernel) (by decide +kernel), by decide +kernel, by decide +kernel, by decide +kernel, by decide +kernel⟩
theorem ok_MX12_findsPlacements : mOK MX12_findsPlacements 0 := ⟨gt_at (i := 1269) (by decide +kernel) (by decide +kernel), gt_at (i := 94) (by decide +kernel) (by decide +kernel), by decide +kernel, by decide +kernel, by decide +kernel, by decide +kernel⟩
theorem ok_MX12_findsForms : mOK MX12_findsForms 1 := ⟨gt_at (i := 1273) (by decide +kernel) (by decide +kernel), gt_at (i := 94) (by decide +kernel) (by decide +kernel), by decide +kernel, by decide +kernel, by decide +kernel, by decide +kernel⟩
theorem ok_MX12_addsForm : mOK MX12_addsForm 1 := ⟨gt_at (i := 1277) (by decide +kernel) (by decide +kernel), gt_at (i := 94) (by decide +kernel) (by decide +kernel), by decide +kernel, by decide +kernel, by decide +kernel, by decide +kernel⟩
theorem ok_MX12_changed : mOK MX12_changed 2 := ⟨gt_at (i := 1280) (by decide +kernel) (by decide +kernel), gt_at (i := 94) (by decide +kernel) (by decide +kernel), by decide +kernel, by decide +kernel, by decide +kernel, by decide +kernel⟩
theorem ok_MX12_cellsOf : mOK MX12_cellsOf 4 := ⟨gt_at (i := 1284) (by decide +kernel) (by decide +kernel), gt_at (i := 94) (by decide +kernel) (by decide +kernel), by decide +kernel, by decide +kernel, by decide +kernel, by decide +kernel⟩
theorem ok_MX12_lowest : mOK MX12_lowest 1 := ⟨gt_at (i := 1287) (by decide +kernel) (by decide +kernel), gt_at (i := 94) (by decide +kernel) (by decide +kernel), by decide +kernel, by decide +kernel, by decide +kernel, by decide +kernel⟩
theorem ok_MX12_isSymmetry : mOK MX12_isSymmetry 1 := ⟨gt_at (i := 1291) (by decide +kernel) (by decide +kernel), gt_at (i := 94) (by decide +kernel) (by decide +kernel), by decide +kernel, by decide +kernel, by decide +kernel, by decide +kernel⟩
theorem ok_MX12_image : mOK MX12_image 2 := ⟨gt_at (i := 1295) (by decide +kernel) (by decide +kernel), gt_at (i := 94) (by decide +kernel) (by decide +kernel), by decide +kernel, by decide +kernel, by decide +kernel, by decide +kernel⟩
theorem ok_MX12_colour : mOK MX12_colour 1 := ⟨gt_at (i := 1299) (by decide +kernel) (by decide +kernel), gt_at (i := 94) (by decide +kernel) (by decide +kernel), by decide +kernel, by decide +kernel, by decide +kernel, by decide +kernel⟩
theorem ok_MX12_piece : mOK MX12_piece 2 := ⟨gt_at (i := 1303) (by decide +kernel) (by decide +kernel), gt_at (i := 94) (by decide +kernel) (by decide +kernel), by decide +kernel, by decide +kernel, by decide +kernel, by decide +kernel⟩
theorem ok_MX12_placementsOf : mOK MX12_placementsOf 1 := ⟨gt_at (i := 1307) (by decide +kernel) (by decide +kernel), gt_at (i := 94) (by decide +kernel) (by decide +kernel), by decide +kernel, by decide +kernel, by decide +kernel, by decide +kernel⟩
theorem ok_MX12_form : mOK MX12_form 2 := ⟨gt_at (i := 1311) (by decide +kernel) (by decide +kernel), gt_at (i := 94) (by decide +kernel) (by decide +kernel), by decide +kernel, by decide +kernel, by decide +kernel, by decide +kernel⟩
theorem ok_MX12_placement : mOK MX12_placement 2 := ⟨gt_at (i := 1315) (by decide +kernel) (by decide +kernel), gt_at (i := 94) (by decide +kernel) (by decide +kernel), by decide +kernel, by decide +kernel, by decide +kernel, by decide +kernel⟩
theorem ok_MX12_has : mOK MX12_has 2 := ⟨gt_at (i := 1319) (by decide +kernel) (by decide +kernel), gt_at (i := 94) (by decide +kernel) (by decide +kernel), by decide +kernel, by decide +kernel, by decide +kernel, by decide +kernel⟩
theorem ok_MX12_appendCharacter : mOK MX12_appendCharacter 1 := ⟨gt_at (i := 1323) (by decide +kernel) (by decide +kernel), gt_at (i := 94) (by decide +kernel) (by decide +kernel), by decide +kernel, by decide +kernel, by decide +kernel, by decide +kernel⟩
theorem ok_MX12_clearText : mOK MX12_clearText 0 := ⟨gt_at (i := 1327) (by decide +kernel) (by decide +kernel), gt_at (i := 94) (by decide +kernel) (by decide +kernel), by decide +kernel, by decide +kernel, by decide +kernel, by decide +kernel⟩
theorem ok_MX12_load : mOK MX12_load 0 := ⟨gt_at (i := 1331) (by decide +kernel) (by decide +kernel), gt_at (i := 94) (by decide +kernel) (by decide +kernel), by decide +kernel, by decide +kernel, by decide +kernel, by decide +kernel⟩
theorem ok_MX12_readsRows : mOK MX12_readsRows 1 := ⟨gt_at (i := 1335) (by decide +kernel) (by decide +kernel), gt_at (i := 94) (by decide +kernel) (by decide +kernel), by decide +kernel, by decide +kernel, by decide +kernel, by decide +kernel⟩
theorem ok_MX12_here : mOK MX12_here 0 := ⟨gt_at (i := 1339) (by decide +kernel) (by decide +kernel), gt_at (i := 94) (by decide +kernel) (by decide +kernel), by decide +kernel, by decide +kernel, by decide +kernel, by decide +kernel⟩
theorem ok_MX12_isInRow : mOK MX12_isInRow 2 := ⟨gt_at (i := 1343) (by decide +kernel) (by decide +kernel), gt_at (i := 94) (by decide +kernel) (by decide +kernel), by decide +kernel, by decide +kernel, by decide +kernel, by decide +kernel⟩
theorem ok_MX12_isPart : mOK MX12_isPart 2 := ⟨gt_at (i := 1346) (by decide +kernel) (by decide +kernel), gt_at (i := 94) (by decide +kernel) (by decide +kernel), by decide +kernel, by decide +kernel, by decide +kernel, by decide +kernel⟩
theorem ok_MX12_readsPiece : mOK MX12_readsPiece 0 := ⟨gt_at (i := 1350) (by decide +kernel) (by decide +kernel), gt_at (i := 94) (by decide +kernel) (by decide +kernel), by decide +kernel, by decide +kernel, by decide +kernel, by decide +kernel⟩
theorem ok_MX12_readsOption : mOK MX12_readsOption 0 := ⟨gt_at (i := 1354) (by decide +kernel) (by decide +kernel), gt_at (i := 94) (by decide +kernel) (by decide +kernel), by decide +kernel, by decide +kernel, by decide +kernel, by decide +kernel⟩
theorem ok_MX12_exchanges : mOK MX12_exchanges 0 := ⟨gt_at (i := 1358) (by decide +kernel) (by decide +kernel), gt_at (i := 94) (by decide +kernel) (by decide +kernel), by decide +kernel, by decide +kernel, by decide +kernel, by decide +kernel⟩
theorem ok_MX12_covers : mOK MX12_covers 0 := ⟨gt_at (i := 1362) (by decide +kernel) (by decide +kernel), gt_at (i := 94) (by decide +kernel) (by decide +kernel), by decide +kernel, by decide +kernel, by decide +kernel, by decide +kernel⟩
theorem ok_MX12_searches : mOK MX12_searches 0 := ⟨gt_at (i := 1366) (by decide +kernel) (by decide +kernel), gt_at (i := 94) (by decide +kernel) (by decide +kernel), by decide +kernel, by decide +kernel, by decide +kernel, by decide +kernel⟩
theorem ok_MX12_begins : mOK MX12_begins 0 := ⟨gt_at (i := 1370) (by decide +kernel) (by decide +kernel), gt_at (i := 94) (by decide +kernel) (by decide +kernel), by decide +kernel, by decide +kernel, by decide +kernel, by decide +kernel⟩
theorem ok_MX12_goesOn : mOK MX12_goesOn 0 := ⟨gt_at (i := 1374) (by decide +kernel) (by decide +kernel), gt_at (i := 94) (by decide +kernel) (by decide +kernel), by decide +kernel, by decide +kernel, by decide +kernel, by decide +kernel⟩
theorem ok_MX12_all : mOK MX12_all 0 := ⟨gt_at (i := 1378) (by decide +kernel) (by decide +kernel), gt_at (i := 94) (by decide +kernel) (by decide +kernel), by decide +kernel, by decide +kernel, by decide +kernel, by decide +kernel⟩
theorem ok_MX12_goesBack : mOK MX12_goesBack 0 := ⟨gt_at (i := 1382) (by decide +kernel) (by decide +kernel), gt_at (i := 94) (by decide +kernel) (by decide +kernel), by decide +kernel, by decide +kernel, by decide +kernel, by decide +kernel⟩
theorem ok_MX12_turns : mOK MX12_turns 2 := ⟨gt_at (i := 1386) (by decide +kernel) (by decide +kernel), gt_at (i := 94) (by decide +kernel) (by decide +kernel), by decide +kernel, by decide +kernel, by decide +kernel, by decide +kernel⟩
theorem ok_MX12_isCover : mOK MX12_isCover 0 := ⟨gt_at (i := 1390) (by decide +kernel) (by decide +kernel), gt_at (i := 94) (by decide +kernel) (by decide +kernel), by decide +kernel, by decide +kernel, by decide +kernel, by decide +kernel⟩
theorem ok_MX12_fits : mOK MX12_fits 1 := ⟨gt_at (i := 1395) (by decide +kernel) (by decide +kernel), gt_at (i := 94) (by decide +kernel) (by decide +kernel), by decide +kernel, by decide +kernel, by decide +kernel, by decide +kernel⟩
theorem ok_MX12_beside : mOK MX12_beside 1 := ⟨gt_at (i := 1399) (by decide +kernel) (by decide +kernel), gt_at (i := 94) (by decide +kernel) (by decide +kernel), by decide +kernel, by decide +kernel, by decide +kernel, by decide +kernel⟩
theorem ok_MX12_tries : mOK MX12_tries 0 := ⟨gt_at (i := 1403) (by decide +kernel) (by decide +kernel), gt_at (i := 94) (by decide +kernel) (by decide +kernel), by decide +kernel, by decide +kernel, by decide +kernel, by decide +kernel⟩
theorem ok_MX12_coverAt : mOK MX12_coverAt 2 := ⟨gt_at (i := 1407) (by decide +kernel) (by decide +kernel), gt_at (i := 94) (by decide +kernel) (by decide +kernel), by decide +kernel, by decide +kernel, by decide +kernel, by decide +kernel⟩
theorem ok_MX12_seeks : mOK MX12_seeks 1 := ⟨gt_at (i := 1411) (by decide +kernel) (by decide +kernel), gt_at (i := 94) (by decide +kernel) (by decide +kernel), by decide +kernel, by decide +kernel, by decide +kernel, by decide +kernel⟩
theorem ok_MX12_used : mOK MX12_used 2 := ⟨gt_at (i := 1415) (by decide +kernel) (by decide +kernel), gt_at (i := 94) (by decide +kernel) (by decide +kernel), by decide +kernel, by decide +kernel, by decide +kernel, by decide +kernel⟩
theorem ok_MX12_fewest : mOK MX12_fewest 0 := ⟨gt_at (i := 1419) (by decide +kernel) (by decide +kernel), gt_at (i := 94) (by decide +kernel) (by decide +kernel), by decide +kernel, by decide +kernel, by decide +kernel, by decide +kernel⟩
theorem ok_MX12_classes : mOK MX12_classes 0 := ⟨gt_at (i := 1423) (by decide +kernel) (by decide +kernel), gt_at (i := 94) (by decide +kernel) (by decide +kernel), by decide +kernel, by decide +kernel, by decide +kernel, by decide +kernel⟩
theorem ok_MX12_labelsAll : mOK MX12_labelsAll 1 := ⟨gt_at (i := 1427) (by decide +kernel) (by decide +kernel), gt_at (i := 94) (by decide +kernel) (by decide +kernel), by decide +kernel, by decide +kernel, by decide +kernel, by decide +kernel⟩
theorem ok_MX12_labels : mOK MX12_labels 2 := ⟨gt_at (i := 1431) (by decide +kernel) (by decide +kernel), gt_at (i := 94) (by decide +kernel) (by decide +kernel), by decide +kernel, by decide +kernel, by decide +kernel, by decide +kernel⟩
theorem ok_MX12_areAlike : mOK MX12_areAlike 2 := ⟨gt_at (i := 1435) (by decide +kernel) (by decide +kernel), gt_at (i := 94) (by decide +kernel) (by decide +kernel), by decide +kernel, by decide +kernel, by decide +kernel, by decide +kernel⟩
theorem ok_MX12_alike : mOK MX12_alike 2 := ⟨gt_at (i := 1439) (by decide +kernel) (by decide +kernel), gt_at (i := 94) (by decide +kernel) (by decide +kernel), by decide +kernel, by decide +kernel, by decide +kernel, by decide +kernel⟩
theorem ok_MX12_useful : mOK MX12_useful 1 := ⟨gt_at (i := 1443) (by decide +kernel) (by decide +kernel), gt_at (i := 94) (by decide +kernel) (by decide +kernel), by decide +kernel, by decide +kernel, by decide +kernel, by decide +kernel⟩
theorem ok_MX12_strikes : mOK MX12_strikes 0 := ⟨gt_at (i := 1447) (by decide +kernel) (by decide +kernel), gt_at (i := 94) (by decide +kernel) (by decide +kernel), by decide +kernel, by decide +kernel, by decide +kernel, by decide +kernel⟩
theorem ok_MX12_isUseless : mOK MX12_isUseless 1 := ⟨gt_at (i := 1451) (by decide +kernel) (by decide +kernel), gt_at (i := 94) (by decide +kernel) (by decide +kernel), by decide +kernel, by decide +kernel, by decide +kernel, by decide +kernel⟩
theorem ok_MX12_usefulAt : mOK MX12_usefulAt 1 := ⟨gt_at (i := 1455) (by decide +kernel) (by decide +kernel), gt_at (i := 94) (by decide +kernel) (by decide +kernel), by decide +kernel, by decide +kernel, by decide +kernel, by decide +kernel⟩
theorem ok_MX12_proves : mOK MX12_proves 3 := ⟨gt_at (i := 1459) (by decide +kernel) (by decide +kernel), gt_at (i := 94) (by decide +kernel) (by decide +kernel), by decide +kernel, by decide +kernel, by decide +kernel, by decide +kernel⟩
theorem ok_MX12_isProof : mOK MX12_isProof 3 := ⟨gt_at (i := 1463) (by decide +kernel) (by decide +kernel), gt_at (i := 94) (by decide +kernel) (by decide +kernel), by decide +kernel, by decide +kernel, by decide +kernel, by decide +kernel⟩
theorem ok_MX12_weights : mOK MX12_weights 4 := ⟨gt_at (i := 1467) (by decide +kernel) (by decide +kernel), gt_at (i := 94) (by decide +kernel) (by decide +kernel), by decide +kernel, by decide +kernel, by decide +kernel, by decide +kernel⟩
theorem ok_MX12_weight : mOK MX12_weight 4 := ⟨gt_at (i := 1471) (by decide +kernel) (by decide +kernel), gt_at (i := 94) (by decide +kernel) (by decide +kernel), by decide +kernel, by decide +kernel, by decide +kernel, by decide +kernel⟩
theorem ok_MX12_proof : mOK MX12_proof 0 := ⟨gt_at (i := 1475) (by decide +kernel) (by decide +kernel), gt_at (i := 94) (by decide +kernel) (by decide +kernel), by decide +kernel, by decide +kernel, by decide +kernel, by decide +kernel⟩
theorem lmX11_11 : mIl RX11 11 MX4_init 0 := ⟨Or.inr ⟨RX11, nt_at (i := 109) (by decide +kernel) (by decide +kernel)⟩, ok_MX4_init, gt_at (i := 110) (by decide +kernel) (by decide +kernel), by decide +kernel, rfl⟩
theorem lmX11_18 : mIl RX11 18 MX2_init 0 := ⟨Or.inl (gt_at (i := 169) (by decide +kernel) (by decide +kernel)), ok_MX2_init, gt_at (i := 170) (by decide +kernel) (by decide +kernel), by decide +kernel, rfl⟩
theorem lmX11_25 : mIl RX11 25 MX5_init 0 := ⟨Or.inr ⟨RX11, nt_at (i := 189) (by decide +kernel) (by decide +kernel)⟩, ok_MX5_init, gt_at (i := 190) (by decide +kernel) (by decide +kernel), by decide +kernel, rfl⟩
theorem lmX11_32 : mIl RX11 32 MX1_init 0 := ⟨Or.inr ⟨RX11, nt_at (i := 220) (by decide +kernel) (by decide +kernel)⟩, ok_MX1_init, gt_at (i := 221) (by decide +kernel) (by decide +kernel), by decide +kernel, rfl⟩
theorem lmX11_39 : mIl RX11 39 MX3_init 0 := ⟨Or.inr ⟨RX11, nt_at (i := 233) (by decide +kernel) (by decide +kernel)⟩, ok_MX3_init, gt_at (i := 234) (by decide +kernel) (by decide +kernel), by decide +kernel, rfl⟩
theorem lmX11_46 : mIl RX11 46 MX8_init 0 := ⟨Or.inr ⟨RX11, nt_at (i := 267) (by decide +kernel) (by decide +kernel)⟩, ok_MX8_init, gt_at (i := 268) (by decide +kernel) (by decide +kernel), by decide +kernel, rfl⟩
theorem lmX11_53 : mIl RX11 53 MX9_init 2 := ⟨Or.inl (gt_at (i := 282) (by decide +kernel) (by decide +kernel)), ok_MX9_init, gt_at (i := 283) (by decide +kernel) (by decide +kernel), by decide +kernel, rfl⟩
theorem lmX11_62 : mIl RX11 62 MX0_init 3 := ⟨Or.inl (gt_at (i := 342) (by decide +kernel) (by decide +kernel)), ok_MX0_init, gt_at (i := 343) (by decide +kernel) (by decide +kernel), by decide +kernel, rfl⟩
theorem lmX11_71 : mIl RX11 71 MX7_init 0 := ⟨Or.inr ⟨RX11, nt_at (i := 377) (by decide +kernel) (by decide +kernel)⟩, ok_MX7_init, gt_at (i := 378) (by decide +kernel) (by decide +kernel), by decide +kernel, rfl⟩
theorem lmX11_78 : mIl RX11 78 MX10_init 0 := ⟨Or.inr ⟨RX11, nt_at (i := 388) (by decide +kernel) (by decide +kernel)⟩, ok_MX10_init, gt_at (i := 389) (by decide +kernel) (by decide +kernel), by decide +kernel, rfl⟩
theorem lmX11_93 : mSl RX11 93 MX11_isWithin 3 := ⟨Or.inl (gt_at (i := 446) (by decide +kernel) (by decide +kernel)), ok_MX11_isWithin, gt_at (i := 447) (by decide +kernel) (by decide +kernel)⟩
theorem lmX11_97 : mVl RX11 97 MX11_prepareChange 0 10 := ⟨Or.inl (gt_at (i := 449) (by decide +kernel) (by decide +kernel)), ok_MX11_prepareChange, gt_at (i := 451) (by decide +kernel) (by decide +kernel), gt_at (i := 0) (by decide +kernel) (by decide +kernel), _, _, rfl⟩
theorem lmX11_100 : mVl RX11 100 MX4_makeBoard 2 4 := ⟨Or.inl (gt_at (i := 495) (by decide +kernel) (by decide +kernel)), ok_MX4_makeBoard, gt_at (i := 496) (by decide +kernel) (by decide +kernel), gt_at (i := 497) (by decide +kernel) (by decide +kernel), _, _, rfl⟩
theorem lmX11_104 : mVl RX11 104 MX4_cellCount 0 4 := ⟨Or.inl (gt_at (i := 499) (by decide +kernel) (by decide +kernel)), ok_MX4_cellCount, gt_at (i := 500) (by decide +kernel) (by decide +kernel), gt_at (i := 501) (by decide +kernel) (by decide +kernel), _, _, rfl⟩
theorem lmX11_108 : mVl RX11 108 MX4_hasCell 1 4 := ⟨Or.inl (gt_at (i := 507) (by decide +kernel) (by decide +kernel)), ok_MX4_hasCell, gt_at (i := 508) (by decide +kernel) (by decide +kernel), gt_at (i := 509) (by decide +kernel) (by decide +kernel), _, _, rfl⟩
theorem lmX11_112 : mVl RX11 112 MX4_isHole 1 4 := ⟨Or.inl (gt_at (i := 512) (by decide +kernel) (by decide +kernel)), ok_MX4_isHole, gt_at (i := 513) (by decide +kernel) (by decide +kernel), gt_at (i := 514) (by decide +kernel) (by decide +kernel), _, _, rfl⟩
theorem lmX11_115 : mVl RX11 115 MX4_putCell 2 4 := ⟨Or.inl (gt_at (i := 520) (by decide +kernel) (by decide +kernel)), ok_MX4_putCell, gt_at (i := 521) (by decide +kernel) (by decide +kernel), gt_at (i := 522) (by decide +kernel) (by decide +kernel), _, _, rfl⟩
theorem lmX11_118 : mVl RX11 118 MX4_openCount 0 4 := ⟨Or.inl (gt_at (i := 524) (by decide +kernel) (by decide +kernel)), ok_MX4_openCount, gt_at (i := 525) (by decide +kernel) (by decide +kernel), gt_at (i := 526) (by decide +kernel) (by decide +kernel), _, _, rfl⟩
theorem lmX11_121 : mVl RX11 121 MX4_cellAt 1 4 := ⟨Or.inl (gt_at (i := 543) (by decide +kernel) (by decide +kernel)), ok_MX4_cellAt, gt_at (i := 517) (by decide +kernel) (by decide +kernel), gt_at (i := 518) (by decide +kernel) (by decide +kernel), _, _, rfl⟩
theorem lmX11_125 : mSl RX11 125 MX6_isShape 1 := ⟨Or.inl (gt_at (i := 548) (by decide +kernel) (by decide +kernel)), ok_MX6_isShape, gt_at (i := 549) (by decide +kernel) (by decide +kernel)⟩
theorem lmX11_134 : mSl RX11 134 MX6_normalize 1 := ⟨Or.inl (gt_at (i := 562) (by decide +kernel) (by decide +kernel)), ok_MX6_normalize, gt_at (i := 563) (by decide +kernel) (by decide +kernel)⟩
theorem lmX11_137 : mVl RX11 137 MX4_append 4 4 := ⟨Or.inl (gt_at (i := 565) (by decide +kernel) (by decide +kernel)), ok_MX4_append, gt_at (i := 566) (by decide +kernel) (by decide +kernel), gt_at (i := 567) (by decide +kernel) (by decide +kernel), _, _, rfl⟩
theorem lmX11_141 : mVl RX11 141 MX4_hasPiece 1 4 := ⟨Or.inl (gt_at (i := 573) (by decide +kernel) (by decide +kernel)), ok_MX4_hasPiece, gt_at (i := 574) (by decide +kernel) (by decide +kernel), gt_at (i := 575) (by decide +kernel) (by decide +kernel), _, _, rfl⟩
theorem lmX11_144 : mVl RX11 144 MX4_dropPiece 1 4 := ⟨Or.inl (gt_at (i := 577) (by decide +kernel) (by decide +kernel)), ok_MX4_dropPiece, gt_at (i := 578) (by decide +kernel) (by decide +kernel), gt_at (i := 579) (by decide +kernel) (by decide +kernel), _, _, rfl⟩
theorem lmX11_148 : mVl RX11 148 MX4_copiesOf 1 4 := ⟨Or.inl (gt_at (i := 585) (by decide +kernel) (by decide +kernel)), ok_MX4_copiesOf, gt_at (i := 488) (by decide +kernel) (by decide +kernel), gt_at (i := 489) (by decide +kernel) (by decide +kernel), _, _, rfl⟩
theorem lmX11_155 : mSl RX11 155 MX11_put 3 := ⟨Or.inl (gt_at (i := 586) (by decide +kernel) (by decide +kernel)), ok_MX11_put, gt_at (i := 477) (by decide +kernel) (by decide +kernel)⟩
theorem lmX11_171 : mVl RX11 171 MX4_squareCount 0 4 := ⟨Or.inl (gt_at (i := 599) (by decide +kernel) (by decide +kernel)), ok_MX4_squareCount, gt_at (i := 600) (by decide +kernel) (by decide +kernel), gt_at (i := 601) (by decide +kernel) (by decide +kernel), _, _, rfl⟩
theorem lmX11_174 : mVl RX11 174 MX11_placeAll 0 10 := ⟨Or.inl (gt_at (i := 604) (by decide +kernel) (by decide +kernel)), ok_MX11_placeAll, gt_at (i := 606) (by decide +kernel) (by decide +kernel), gt_at (i := 4) (by decide +kernel) (by decide +kernel), _, _, rfl⟩
theorem lmX11_182 : mVl RX11 182 MX4_shapeOf 1 4 := ⟨Or.inl (gt_at (i := 710) (by decide +kernel) (by decide +kernel)), ok_MX4_shapeOf, gt_at (i := 470) (by decide +kernel) (by decide +kernel), gt_at (i := 471) (by decide +kernel) (by decide +kernel), _, _, rfl⟩
theorem lmX11_185 : mVl RX11 185 MX4_freedomOf 1 4 := ⟨Or.inl (gt_at (i := 711) (by decide +kernel) (by decide +kernel)), ok_MX4_freedomOf, gt_at (i := 480) (by decide +kernel) (by decide +kernel), gt_at (i := 481) (by decide +kernel) (by decide +kernel), _, _, rfl⟩
theorem lmX11_188 : mVl RX11 188 MX4_colourOf 1 4 := ⟨Or.inl (gt_at (i := 712) (by decide +kernel) (by decide +kernel)), ok_MX4_colourOf, gt_at (i := 484) (by decide +kernel) (by decide +kernel), gt_at (i := 485) (by decide +kernel) (by decide +kernel), _, _, rfl⟩
theorem lmX11_191 : mSl RX11 191 MJ6_bitCount_0f7a4 1 := ⟨Or.inl (gt_at (i := 713) (by decide +kernel) (by decide +kernel)), ok_MJ6_bitCount_0f7a4, gt_at (i := 553) (by decide +kernel) (by decide +kernel)⟩
theorem lmX11_196 : mVl RX11 196 MX1_sizeOf 1 1 := ⟨Or.inl (gt_at (i := 714) (by decide +kernel) (by decide +kernel)), ok_MX1_sizeOf, gt_at (i := 625) (by decide +kernel) (by decide +kernel), gt_at (i := 626) (by decide +kernel) (by decide +kernel), _, _, rfl⟩
theorem lmX11_199 : mVl RX11 199 MX3_sizeOf 1 3 := ⟨Or.inl (gt_at (i := 715) (by decide +kernel) (by decide +kernel)), ok_MX3_sizeOf, gt_at (i := 716) (by decide +kernel) (by decide +kernel), gt_at (i := 717) (by decide +kernel) (by decide +kernel), _, _, rfl⟩
theorem lmX11_200 : mVl RX11 200 MX1_shapeOf 2 1 := ⟨Or.inl (gt_at (i := 727) (by decide +kernel) (by decide +kernel)), ok_MX1_shapeOf, gt_at (i := 630) (by decide +kernel) (by decide +kernel), gt_at (i := 631) (by decide +kernel) (by decide +kernel), _, _, rfl⟩
theorem lmX11_203 : mVl RX11 203 MX3_pieceOf 1 3 := ⟨Or.inl (gt_at (i := 732) (by decide +kernel) (by decide +kernel)), ok_MX3_pieceOf, gt_at (i := 720) (by decide +kernel) (by decide +kernel), gt_at (i := 721) (by decide +kernel) (by decide +kernel), _, _, rfl⟩
theorem lmX11_206 : mVl RX11 206 MX3_formOf 1 3 := ⟨Or.inl (gt_at (i := 733) (by decide +kernel) (by decide +kernel)), ok_MX3_formOf, gt_at (i := 734) (by decide +kernel) (by decide +kernel), gt_at (i := 735) (by decide +kernel) (by decide +kernel), _, _, rfl⟩
theorem lmX11_209 : mVl RX11 209 MX3_cornerOf 1 3 := ⟨Or.inl (gt_at (i := 737) (by decide +kernel) (by decide +kernel)), ok_MX3_cornerOf, gt_at (i := 738) (by decide +kernel) (by decide +kernel), gt_at (i := 739) (by decide +kernel) (by decide +kernel), _, _, rfl⟩
theorem lmX11_212 : mVl RX11 212 MX3_maskOf 1 3 := ⟨Or.inl (gt_at (i := 741) (by decide +kernel) (by decide +kernel)), ok_MX3_maskOf, gt_at (i := 677) (by decide +kernel) (by decide +kernel), gt_at (i := 678) (by decide +kernel) (by decide +kernel), _, _, rfl⟩
theorem lmX11_216 : mSl RX11 216 MX11_smallestCell 1 := ⟨Or.inl (gt_at (i := 742) (by decide +kernel) (by decide +kernel)), ok_MX11_smallestCell, gt_at (i := 681) (by decide +kernel) (by decide +kernel)⟩
theorem lmX11_220 : mSl RX11 220 MX11_greatestCell 1 := ⟨Or.inl (gt_at (i := 743) (by decide +kernel) (by decide +kernel)), ok_MX11_greatestCell, gt_at (i := 744) (by decide +kernel) (by decide +kernel)⟩
theorem lmX11_226 : mVl RX11 226 MX5_append 1 5 := ⟨Or.inl (gt_at (i := 753) (by decide +kernel) (by decide +kernel)), ok_MX5_append, gt_at (i := 754) (by decide +kernel) (by decide +kernel), gt_at (i := 755) (by decide +kernel) (by decide +kernel), _, _, rfl⟩
theorem lmX11_228 : mVl RX11 228 MX5_read 0 5 := ⟨Or.inl (gt_at (i := 765) (by decide +kernel) (by decide +kernel)), ok_MX5_read, gt_at (i := 766) (by decide +kernel) (by decide +kernel), gt_at (i := 767) (by decide +kernel) (by decide +kernel), _, _, rfl⟩
theorem lmX11_231 : mVl RX11 231 MX5_handOver 1 5 := ⟨Or.inl (gt_at (i := 813) (by decide +kernel) (by decide +kernel)), ok_MX5_handOver, gt_at (i := 814) (by decide +kernel) (by decide +kernel), gt_at (i := 815) (by decide +kernel) (by decide +kernel), _, _, rfl⟩
theorem lmX11_235 : mVl RX11 235 MX11_searchAll 0 10 := ⟨Or.inl (gt_at (i := 822) (by decide +kernel) (by decide +kernel)), ok_MX11_searchAll, gt_at (i := 824) (by decide +kernel) (by decide +kernel), gt_at (i := 19) (by decide +kernel) (by decide +kernel), _, _, rfl⟩
theorem lmX11_245 : mVl RX11 245 MX11_whyNoCover 0 10 := ⟨Or.inl (gt_at (i := 899) (by decide +kernel) (by decide +kernel)), ok_MX11_whyNoCover, gt_at (i := 901) (by decide +kernel) (by decide +kernel), gt_at (i := 28) (by decide +kernel) (by decide +kernel), _, _, rfl⟩
theorem lmX11_248 : mVl RX11 248 MX0_rowOf 2 0 := ⟨Or.inl (gt_at (i := 903) (by decide +kernel) (by decide +kernel)), ok_MX0_rowOf, gt_at (i := 904) (by decide +kernel) (by decide +kernel), gt_at (i := 905) (by decide +kernel) (by decide +kernel), _, _, rfl⟩
theorem lmX11_251 : mVl RX11 251 MX0_placementAt 2 0 := ⟨Or.inl (gt_at (i := 907) (by decide +kernel) (by decide +kernel)), ok_MX0_placementAt, gt_at (i := 908) (by decide +kernel) (by decide +kernel), gt_at (i := 909) (by decide +kernel) (by decide +kernel), _, _, rfl⟩
theorem lmX11_254 : mVl RX11 254 MX0_usesOf 2 0 := ⟨Or.inl (gt_at (i := 916) (by decide +kernel) (by decide +kernel)), ok_MX0_usesOf, gt_at (i := 917) (by decide +kernel) (by decide +kernel), gt_at (i := 918) (by decide +kernel) (by decide +kernel), _, _, rfl⟩
theorem lmX11_257 : mVl RX11 257 MX0_classCount 0 0 := ⟨Or.inl (gt_at (i := 932) (by decide +kernel) (by decide +kernel)), ok_MX0_classCount, gt_at (i := 933) (by decide +kernel) (by decide +kernel), gt_at (i := 934) (by decide +kernel) (by decide +kernel), _, _, rfl⟩
theorem lmX11_260 : mVl RX11 260 MX0_areAlike 2 0 := ⟨Or.inl (gt_at (i := 957) (by decide +kernel) (by decide +kernel)), ok_MX0_areAlike, gt_at (i := 941) (by decide +kernel) (by decide +kernel), gt_at (i := 942) (by decide +kernel) (by decide +kernel), _, _, rfl⟩
theorem lmX11_267 : mVl RX11 267 MX11_siftAll 0 10 := ⟨Or.inl (gt_at (i := 966) (by decide +kernel) (by decide +kernel)), ok_MX11_siftAll, gt_at (i := 968) (by decide +kernel) (by decide +kernel), gt_at (i := 32) (by decide +kernel) (by decide +kernel), _, _, rfl⟩
theorem lmX11_270 : mVl RX11 270 MX7_leftOfPiece 2 6 := ⟨Or.inl (gt_at (i := 988) (by decide +kernel) (by decide +kernel)), ok_MX7_leftOfPiece, gt_at (i := 989) (by decide +kernel) (by decide +kernel), gt_at (i := 990) (by decide +kernel) (by decide +kernel), _, _, rfl⟩
theorem lmX11_274 : mVl RX11 274 MX7_leftAtCell 2 6 := ⟨Or.inl (gt_at (i := 997) (by decide +kernel) (by decide +kernel)), ok_MX7_leftAtCell, gt_at (i := 998) (by decide +kernel) (by decide +kernel), gt_at (i := 999) (by decide +kernel) (by decide +kernel), _, _, rfl⟩
theorem lmX11_277 : mVl RX11 277 MX10_excludeCover 5 9 := ⟨Or.inl (gt_at (i := 1006) (by decide +kernel) (by decide +kernel)), ok_MX10_excludeCover, gt_at (i := 1007) (by decide +kernel) (by decide +kernel), gt_at (i := 1008) (by decide +kernel) (by decide +kernel), _, _, rfl⟩
theorem lmX11_281 : mVl RX11 281 MX11_forgetDerived 0 10 := ⟨Or.inl (gt_at (i := 491) (by decide +kernel) (by decide +kernel)), ok_MX11_forgetDerived, gt_at (i := 493) (by decide +kernel) (by decide +kernel), gt_at (i := 3) (by decide +kernel) (by decide +kernel), _, _, rfl⟩
theorem lmX11_284 : mVl RX11 284 MX2_restore 1 2 := ⟨Or.inl (gt_at (i := 1047) (by decide +kernel) (by decide +kernel)), ok_MX2_restore, gt_at (i := 1048) (by decide +kernel) (by decide +kernel), gt_at (i := 1049) (by decide +kernel) (by decide +kernel), _, _, rfl⟩
theorem lmX11_287 : mVl RX11 287 MX2_save 1 2 := ⟨Or.inl (gt_at (i := 453) (by decide +kernel) (by decide +kernel)), ok_MX2_save, gt_at (i := 454) (by decide +kernel) (by decide +kernel), gt_at (i := 455) (by decide +kernel) (by decide +kernel), _, _, rfl⟩
theorem lmX11_290 : mVl RX11 290 MX1_fill 1 1 := ⟨Or.inl (gt_at (i := 608) (by decide +kernel) (by decide +kernel)), ok_MX1_fill, gt_at (i := 609) (by decide +kernel) (by decide +kernel), gt_at (i := 610) (by decide +kernel) (by decide +kernel), _, _, rfl⟩
theorem lmX11_293 : mVl RX11 293 MX3_fill 2 3 := ⟨Or.inl (gt_at (i := 643) (by decide +kernel) (by decide +kernel)), ok_MX3_fill, gt_at (i := 644) (by decide +kernel) (by decide +kernel), gt_at (i := 645) (by decide +kernel) (by decide +kernel), _, _, rfl⟩
theorem lmX11_296 : mVl RX11 296 MX8_fill 1 7 := ⟨Or.inl (gt_at (i := 686) (by decide +kernel) (by decide +kernel)), ok_MX8_fill, gt_at (i := 687) (by decide +kernel) (by decide +kernel), gt_at (i := 688) (by decide +kernel) (by decide +kernel), _, _, rfl⟩
theorem lmX11_297 : mVl RX11 297 MX0_collect 0 0 := ⟨Or.inl (gt_at (i := 826) (by decide +kernel) (by decide +kernel)), ok_MX0_collect, gt_at (i := 827) (by decide +kernel) (by decide +kernel), gt_at (i := 828) (by decide +kernel) (by decide +kernel), _, _, rfl⟩
theorem lmX11_300 : mVl RX11 300 MX7_sift 1 6 := ⟨Or.inl (gt_at (i := 970) (by decide +kernel) (by decide +kernel)), ok_MX7_sift, gt_at (i := 971) (by decide +kernel) (by decide +kernel), gt_at (i := 972) (by decide +kernel) (by decide +kernel), _, _, rfl⟩
theorem lmX11_304 : mSl RX11 304 MJ13_bitCount_95d88 1 := ⟨Or.inl (gt_at (i := 683) (by decide +kernel) (by decide +kernel)), ok_MJ13_bitCount_95d88, gt_at (i := 534) (by decide +kernel) (by decide +kernel)⟩
theorem lmX11_308 : mSl RX11 308 MX11_holds 2 := ⟨Or.inl (gt_at (i := 746) (by decide +kernel) (by decide +kernel)), ok_MX11_holds, gt_at (i := 747) (by decide +kernel) (by decide +kernel)⟩
theorem lmX0_41 : mVl RX0 41 MX9_begin 0 8 := ⟨Or.inl (gt_at (i := 830) (by decide +kernel) (by decide +kernel)), ok_MX9_begin, gt_at (i := 831) (by decide +kernel) (by decide +kernel), gt_at (i := 832) (by decide +kernel) (by decide +kernel), _, _, rfl⟩
theorem lmX0_46 : mVl RX0 46 MX9_advance 0 8 := ⟨Or.inl (gt_at (i := 847) (by decide +kernel) (by decide +kernel)), ok_MX9_advance, gt_at (i := 848) (by decide +kernel) (by decide +kernel), gt_at (i := 849) (by decide +kernel) (by decide +kernel), _, _, rfl⟩
theorem lmX0_50 : mVl RX0 50 MX9_writeTo 2 8 := ⟨Or.inl (gt_at (i := 883) (by decide +kernel) (by decide +kernel)), ok_MX9_writeTo, gt_at (i := 884) (by decide +kernel) (by decide +kernel), gt_at (i := 885) (by decide +kernel) (by decide +kernel), _, _, rfl⟩
theorem lmX0_73 : mSl RX0 73 MX11_at 2 := ⟨Or.inr ⟨RX11, nt_at (i := 911) (by decide +kernel) (by decide +kernel)⟩, ok_MX11_at, gt_at (i := 474) (by decide +kernel) (by decide +kernel)⟩
theorem lmX0_77 : mVl RX0 77 MX3_maskOf 1 3 := ⟨Or.inl (gt_at (i := 925) (by decide +kernel) (by decide +kernel)), ok_MX3_maskOf, gt_at (i := 677) (by decide +kernel) (by decide +kernel), gt_at (i := 678) (by decide +kernel) (by decide +kernel), _, _, rfl⟩
theorem lmX0_83 : mSl RX0 83 MX11_smallestCell 1 := ⟨Or.inr ⟨RX11, nt_at (i := 926) (by decide +kernel) (by decide +kernel)⟩, ok_MX11_smallestCell, gt_at (i := 681) (by decide +kernel) (by decide +kernel)⟩
theorem lmX0_87 : mVl RX0 87 MX0_placementAt 2 0 := ⟨Or.inl (gt_at (i := 920) (by decide +kernel) (by decide +kernel)), ok_MX0_placementAt, gt_at (i := 908) (by decide +kernel) (by decide +kernel), gt_at (i := 909) (by decide +kernel) (by decide +kernel), _, _, rfl⟩
theorem lmX0_90 : mVl RX0 90 MX0_beginsAt 2 0 := ⟨Or.inl (gt_at (i := 921) (by decide +kernel) (by decide +kernel)), ok_MX0_beginsAt, gt_at (i := 923) (by decide +kernel) (by decide +kernel), gt_at (i := 29) (by decide +kernel) (by decide +kernel), _, _, rfl⟩
theorem lmX0_94 : mVl RX0 94 MX3_pieceOf 1 3 := ⟨Or.inl (gt_at (i := 927) (by decide +kernel) (by decide +kernel)), ok_MX3_pieceOf, gt_at (i := 720) (by decide +kernel) (by decide +kernel), gt_at (i := 721) (by decide +kernel) (by decide +kernel), _, _, rfl⟩
theorem lmX0_98 : mVl RX0 98 MX0_isLikeEarlier 1 0 := ⟨Or.inl (gt_at (i := 936) (by decide +kernel) (by decide +kernel)), ok_MX0_isLikeEarlier, gt_at (i := 938) (by decide +kernel) (by decide +kernel), gt_at (i := 30) (by decide +kernel) (by decide +kernel), _, _, rfl⟩
theorem lmX0_102 : mVl RX0 102 MX0_areAlike 2 0 := ⟨Or.inl (gt_at (i := 940) (by decide +kernel) (by decide +kernel)), ok_MX0_areAlike, gt_at (i := 941) (by decide +kernel) (by decide +kernel), gt_at (i := 942) (by decide +kernel) (by decide +kernel), _, _, rfl⟩
theorem lmX0_108 : mVl RX0 108 MX0_isMapped 3 0 := ⟨Or.inl (gt_at (i := 944) (by decide +kernel) (by decide +kernel)), ok_MX0_isMapped, gt_at (i := 946) (by decide +kernel) (by decide +kernel), gt_at (i := 31) (by decide +kernel) (by decide +kernel), _, _, rfl⟩
theorem lmX0_112 : mVl RX0 112 MX8_imageOf 2 7 := ⟨Or.inl (gt_at (i := 948) (by decide +kernel) (by decide +kernel)), ok_MX8_imageOf, gt_at (i := 949) (by decide +kernel) (by decide +kernel), gt_at (i := 950) (by decide +kernel) (by decide +kernel), _, _, rfl⟩
theorem lmX1_18 : mSl RX1 18 MX11_put 3 := ⟨Or.inr ⟨RX11, nt_at (i := 612) (by decide +kernel) (by decide +kernel)⟩, ok_MX11_put, gt_at (i := 477) (by decide +kernel) (by decide +kernel)⟩
theorem lmX1_22 : mVl RX1 22 MX4_hasPiece 1 4 := ⟨Or.inl (gt_at (i := 613) (by decide +kernel) (by decide +kernel)), ok_MX4_hasPiece, gt_at (i := 574) (by decide +kernel) (by decide +kernel), gt_at (i := 575) (by decide +kernel) (by decide +kernel), _, _, rfl⟩
theorem lmX1_28 : mVl RX1 28 MX4_shapeOf 1 4 := ⟨Or.inl (gt_at (i := 614) (by decide +kernel) (by decide +kernel)), ok_MX4_shapeOf, gt_at (i := 470) (by decide +kernel) (by decide +kernel), gt_at (i := 471) (by decide +kernel) (by decide +kernel), _, _, rfl⟩
theorem lmX1_32 : mVl RX1 32 MX4_freedomOf 1 4 := ⟨Or.inl (gt_at (i := 615) (by decide +kernel) (by decide +kernel)), ok_MX4_freedomOf, gt_at (i := 480) (by decide +kernel) (by decide +kernel), gt_at (i := 481) (by decide +kernel) (by decide +kernel), _, _, rfl⟩
theorem lmX1_35 : mVl RX1 35 MX1_insertTurns 3 1 := ⟨Or.inl (gt_at (i := 616) (by decide +kernel) (by decide +kernel)), ok_MX1_insertTurns, gt_at (i := 618) (by decide +kernel) (by decide +kernel), gt_at (i := 5) (by decide +kernel) (by decide +kernel), _, _, rfl⟩
theorem lmX1_39 : mSl RX1 39 MX6_mirror 1 := ⟨Or.inl (gt_at (i := 640) (by decide +kernel) (by decide +kernel)), ok_MX6_mirror, gt_at (i := 641) (by decide +kernel) (by decide +kernel)⟩
theorem lmX1_44 : mVl RX1 44 MX1_insert 2 1 := ⟨Or.inl (gt_at (i := 620) (by decide +kernel) (by decide +kernel)), ok_MX1_insert, gt_at (i := 622) (by decide +kernel) (by decide +kernel), gt_at (i := 6) (by decide +kernel) (by decide +kernel), _, _, rfl⟩
theorem lmX1_48 : mSl RX1 48 MX6_turn 1 := ⟨Or.inl (gt_at (i := 633) (by decide +kernel) (by decide +kernel)), ok_MX6_turn, gt_at (i := 634) (by decide +kernel) (by decide +kernel)⟩
theorem lmX1_51 : mVl RX1 51 MX1_sizeOf 1 1 := ⟨Or.inl (gt_at (i := 624) (by decide +kernel) (by decide +kernel)), ok_MX1_sizeOf, gt_at (i := 625) (by decide +kernel) (by decide +kernel), gt_at (i := 626) (by decide +kernel) (by decide +kernel), _, _, rfl⟩
theorem lmX1_54 : mVl RX1 54 MX1_shapeOf 2 1 := ⟨Or.inl (gt_at (i := 629) (by decide +kernel) (by decide +kernel)), ok_MX1_shapeOf, gt_at (i := 630) (by decide +kernel) (by decide +kernel), gt_at (i := 631) (by decide +kernel) (by decide +kernel), _, _, rfl⟩
theorem lmX1_57 : mSl RX1 57 MX11_at 2 := ⟨Or.inr ⟨RX11, nt_at (i := 628) (by decide +kernel) (by decide +kernel)⟩, ok_MX11_at, gt_at (i := 474) (by decide +kernel) (by decide +kernel)⟩
theorem lmX2_24 : mIl RX2 24 MX4_init 0 := ⟨Or.inr ⟨RX11, nt_at (i := 175) (by decide +kernel) (by decide +kernel)⟩, ok_MX4_init, gt_at (i := 110) (by decide +kernel) (by decide +kernel), by decide +kernel, rfl⟩
theorem lmX2_25 : mVl RX2 25 MX2_slotAfterOldest 1 2 := ⟨Or.inl (gt_at (i := 457) (by decide +kernel) (by decide +kernel)), ok_MX2_slotAfterOldest, gt_at (i := 459) (by decide +kernel) (by decide +kernel), gt_at (i := 1) (by decide +kernel) (by decide +kernel), _, _, rfl⟩
theorem lmX2_29 : mVl RX2 29 MX4_copyFrom 1 4 := ⟨Or.inl (gt_at (i := 461) (by decide +kernel) (by decide +kernel)), ok_MX4_copyFrom, gt_at (i := 462) (by decide +kernel) (by decide +kernel), gt_at (i := 463) (by decide +kernel) (by decide +kernel), _, _, rfl⟩
theorem lmX3_33 : mVl RX3 33 MX4_openMask 0 4 := ⟨Or.inl (gt_at (i := 647) (by decide +kernel) (by decide +kernel)), ok_MX4_openMask, gt_at (i := 529) (by decide +kernel) (by decide +kernel), gt_at (i := 530) (by decide +kernel) (by decide +kernel), _, _, rfl⟩
theorem lmX3_42 : mVl RX3 42 MX1_sizeOf 1 1 := ⟨Or.inl (gt_at (i := 648) (by decide +kernel) (by decide +kernel)), ok_MX1_sizeOf, gt_at (i := 625) (by decide +kernel) (by decide +kernel), gt_at (i := 626) (by decide +kernel) (by decide +kernel), _, _, rfl⟩
theorem lmX3_48 : mVl RX3 48 MX1_shapeOf 2 1 := ⟨Or.inl (gt_at (i := 649) (by decide +kernel) (by decide +kernel)), ok_MX1_shapeOf, gt_at (i := 630) (by decide +kernel) (by decide +kernel), gt_at (i := 631) (by decide +kernel) (by decide +kernel), _, _, rfl⟩
theorem lmX3_52 : mVl RX3 52 MX3_fillForm 4 3 := ⟨Or.inl (gt_at (i := 650) (by decide +kernel) (by decide +kernel)), ok_MX3_fillForm, gt_at (i := 652) (by decide +kernel) (by decide +kernel), gt_at (i := 7) (by decide +kernel) (by decide +kernel), _, _, rfl⟩
theorem lmX3_56 : mVl RX3 56 MX3_fillOrder 0 3 := ⟨Or.inl (gt_at (i := 672) (by decide +kernel) (by decide +kernel)), ok_MX3_fillOrder, gt_at (i := 674) (by decide +kernel) (by decide +kernel), gt_at (i := 8) (by decide +kernel) (by decide +kernel), _, _, rfl⟩
theorem lmX3_59 : mVl RX3 59 MX4_colourOf 1 4 := ⟨Or.inl (gt_at (i := 654) (by decide +kernel) (by decide +kernel)), ok_MX4_colourOf, gt_at (i := 484) (by decide +kernel) (by decide +kernel), gt_at (i := 485) (by decide +kernel) (by decide +kernel), _, _, rfl⟩
theorem lmX3_62 : mVl RX3 62 MX4_cellCount 0 4 := ⟨Or.inl (gt_at (i := 655) (by decide +kernel) (by decide +kernel)), ok_MX4_cellCount, gt_at (i := 500) (by decide +kernel) (by decide +kernel), gt_at (i := 501) (by decide +kernel) (by decide +kernel), _, _, rfl⟩
theorem lmX3_66 : mSl RX3 66 MX3_lay 4 := ⟨Or.inl (gt_at (i := 656) (by decide +kernel) (by decide +kernel)), ok_MX3_lay, gt_at (i := 657) (by decide +kernel) (by decide +kernel)⟩
theorem lmX3_70 : mVl RX3 70 MX4_columnOf 1 4 := ⟨Or.inl (gt_at (i := 659) (by decide +kernel) (by decide +kernel)), ok_MX4_columnOf, gt_at (i := 660) (by decide +kernel) (by decide +kernel), gt_at (i := 661) (by decide +kernel) (by decide +kernel), _, _, rfl⟩
theorem lmX3_73 : mVl RX3 73 MX4_rowOf 1 4 := ⟨Or.inl (gt_at (i := 663) (by decide +kernel) (by decide +kernel)), ok_MX4_rowOf, gt_at (i := 664) (by decide +kernel) (by decide +kernel), gt_at (i := 665) (by decide +kernel) (by decide +kernel), _, _, rfl⟩
theorem lmX3_76 : mSl RX3 76 MX6_hasSquare 2 := ⟨Or.inl (gt_at (i := 667) (by decide +kernel) (by decide +kernel)), ok_MX6_hasSquare, gt_at (i := 637) (by decide +kernel) (by decide +kernel)⟩
theorem lmX3_88 : mVl RX3 88 MX4_takesColour 2 4 := ⟨Or.inl (gt_at (i := 668) (by decide +kernel) (by decide +kernel)), ok_MX4_takesColour, gt_at (i := 669) (by decide +kernel) (by decide +kernel), gt_at (i := 670) (by decide +kernel) (by decide +kernel), _, _, rfl⟩
theorem lmX3_91 : mVl RX3 91 MX3_maskOf 1 3 := ⟨Or.inl (gt_at (i := 676) (by decide +kernel) (by decide +kernel)), ok_MX3_maskOf, gt_at (i := 677) (by decide +kernel) (by decide +kernel), gt_at (i := 678) (by decide +kernel) (by decide +kernel), _, _, rfl⟩
theorem lmX3_95 : mSl RX3 95 MX11_smallestCell 1 := ⟨Or.inr ⟨RX11, nt_at (i := 680) (by decide +kernel) (by decide +kernel)⟩, ok_MX11_smallestCell, gt_at (i := 681) (by decide +kernel) (by decide +kernel)⟩
theorem lmX3_99 : mSl RX3 99 MX11_at 2 := ⟨Or.inr ⟨RX11, nt_at (i := 684) (by decide +kernel) (by decide +kernel)⟩, ok_MX11_at, gt_at (i := 474) (by decide +kernel) (by decide +kernel)⟩
theorem lmX3_103 : mSl RX3 103 MX11_put 3 := ⟨Or.inr ⟨RX11, nt_at (i := 685) (by decide +kernel) (by decide +kernel)⟩, ok_MX11_put, gt_at (i := 477) (by decide +kernel) (by decide +kernel)⟩
theorem lmX3_107 : mVl RX3 107 MX3_pieceOf 1 3 := ⟨Or.inl (gt_at (i := 719) (by decide +kernel) (by decide +kernel)), ok_MX3_pieceOf, gt_at (i := 720) (by decide +kernel) (by decide +kernel), gt_at (i := 721) (by decide +kernel) (by decide +kernel), _, _, rfl⟩
theorem lmX4_43 : mVl RX4 43 MX4_copyPiece 3 4 := ⟨Or.inl (gt_at (i := 465) (by decide +kernel) (by decide +kernel)), ok_MX4_copyPiece, gt_at (i := 467) (by decide +kernel) (by decide +kernel), gt_at (i := 2) (by decide +kernel) (by decide +kernel), _, _, rfl⟩
theorem lmX4_47 : mVl RX4 47 MX4_shapeOf 1 4 := ⟨Or.inl (gt_at (i := 469) (by decide +kernel) (by decide +kernel)), ok_MX4_shapeOf, gt_at (i := 470) (by decide +kernel) (by decide +kernel), gt_at (i := 471) (by decide +kernel) (by decide +kernel), _, _, rfl⟩
theorem lmX4_51 : mSl RX4 51 MX11_put 3 := ⟨Or.inr ⟨RX11, nt_at (i := 476) (by decide +kernel) (by decide +kernel)⟩, ok_MX11_put, gt_at (i := 477) (by decide +kernel) (by decide +kernel)⟩
theorem lmX4_55 : mVl RX4 55 MX4_freedomOf 1 4 := ⟨Or.inl (gt_at (i := 479) (by decide +kernel) (by decide +kernel)), ok_MX4_freedomOf, gt_at (i := 480) (by decide +kernel) (by decide +kernel), gt_at (i := 481) (by decide +kernel) (by decide +kernel), _, _, rfl⟩
theorem lmX4_58 : mVl RX4 58 MX4_colourOf 1 4 := ⟨Or.inl (gt_at (i := 483) (by decide +kernel) (by decide +kernel)), ok_MX4_colourOf, gt_at (i := 484) (by decide +kernel) (by decide +kernel), gt_at (i := 485) (by decide +kernel) (by decide +kernel), _, _, rfl⟩
theorem lmX4_61 : mVl RX4 61 MX4_copiesOf 1 4 := ⟨Or.inl (gt_at (i := 487) (by decide +kernel) (by decide +kernel)), ok_MX4_copiesOf, gt_at (i := 488) (by decide +kernel) (by decide +kernel), gt_at (i := 489) (by decide +kernel) (by decide +kernel), _, _, rfl⟩
theorem lmX4_64 : mVl RX4 64 MX4_cellCount 0 4 := ⟨Or.inl (gt_at (i := 511) (by decide +kernel) (by decide +kernel)), ok_MX4_cellCount, gt_at (i := 500) (by decide +kernel) (by decide +kernel), gt_at (i := 501) (by decide +kernel) (by decide +kernel), _, _, rfl⟩
theorem lmX4_68 : mSl RX4 68 MX11_at 2 := ⟨Or.inr ⟨RX11, nt_at (i := 473) (by decide +kernel) (by decide +kernel)⟩, ok_MX11_at, gt_at (i := 474) (by decide +kernel) (by decide +kernel)⟩
theorem lmX4_72 : mVl RX4 72 MX4_cellAt 1 4 := ⟨Or.inl (gt_at (i := 516) (by decide +kernel) (by decide +kernel)), ok_MX4_cellAt, gt_at (i := 517) (by decide +kernel) (by decide +kernel), gt_at (i := 518) (by decide +kernel) (by decide +kernel), _, _, rfl⟩
theorem lmX4_75 : mVl RX4 75 MX4_openMask 0 4 := ⟨Or.inl (gt_at (i := 528) (by decide +kernel) (by decide +kernel)), ok_MX4_openMask, gt_at (i := 529) (by decide +kernel) (by decide +kernel), gt_at (i := 530) (by decide +kernel) (by decide +kernel), _, _, rfl⟩
theorem lmX4_79 : mSl RX4 79 MJ13_bitCount_95d88 1 := ⟨Or.inl (gt_at (i := 533) (by decide +kernel) (by decide +kernel)), ok_MJ13_bitCount_95d88, gt_at (i := 534) (by decide +kernel) (by decide +kernel)⟩
theorem lmX4_85 : mVl RX4 85 MX4_isHole 1 4 := ⟨Or.inl (gt_at (i := 532) (by decide +kernel) (by decide +kernel)), ok_MX4_isHole, gt_at (i := 513) (by decide +kernel) (by decide +kernel), gt_at (i := 514) (by decide +kernel) (by decide +kernel), _, _, rfl⟩
theorem lmX4_89 : mSl RX4 89 MJ6_bitCount_0f7a4 1 := ⟨Or.inl (gt_at (i := 603) (by decide +kernel) (by decide +kernel)), ok_MJ6_bitCount_0f7a4, gt_at (i := 553) (by decide +kernel) (by decide +kernel)⟩
theorem lmX5_21 : mIl RX5 21 MX4_init 0 := ⟨Or.inr ⟨RX11, nt_at (i := 194) (by decide +kernel) (by decide +kernel)⟩, ok_MX4_init, gt_at (i := 110) (by decide +kernel) (by decide +kernel), by decide +kernel, rfl⟩
theorem lmX5_44 : mVl RX5 44 MX4_copyFrom 1 4 := ⟨Or.inl (gt_at (i := 817) (by decide +kernel) (by decide +kernel)), ok_MX4_copyFrom, gt_at (i := 462) (by decide +kernel) (by decide +kernel), gt_at (i := 463) (by decide +kernel) (by decide +kernel), _, _, rfl⟩
theorem lmX5_51 : mVl RX5 51 MX5_readBoard 0 5 := ⟨Or.inl (gt_at (i := 769) (by decide +kernel) (by decide +kernel)), ok_MX5_readBoard, gt_at (i := 771) (by decide +kernel) (by decide +kernel), gt_at (i := 10) (by decide +kernel) (by decide +kernel), _, _, rfl⟩
theorem lmX5_55 : mVl RX5 55 MX5_look 0 5 := ⟨Or.inl (gt_at (i := 785) (by decide +kernel) (by decide +kernel)), ok_MX5_look, gt_at (i := 787) (by decide +kernel) (by decide +kernel), gt_at (i := 14) (by decide +kernel) (by decide +kernel), _, _, rfl⟩
theorem lmX5_59 : mVl RX5 59 MX5_readPiece 0 5 := ⟨Or.inl (gt_at (i := 795) (by decide +kernel) (by decide +kernel)), ok_MX5_readPiece, gt_at (i := 797) (by decide +kernel) (by decide +kernel), gt_at (i := 16) (by decide +kernel) (by decide +kernel), _, _, rfl⟩
theorem lmX5_62 : mVl RX5 62 MX5_readRows 2 5 := ⟨Or.inl (gt_at (i := 773) (by decide +kernel) (by decide +kernel)), ok_MX5_readRows, gt_at (i := 775) (by decide +kernel) (by decide +kernel), gt_at (i := 11) (by decide +kernel) (by decide +kernel), _, _, rfl⟩
theorem lmX5_72 : mVl RX5 72 MX5_readRow 2 5 := ⟨Or.inl (gt_at (i := 777) (by decide +kernel) (by decide +kernel)), ok_MX5_readRow, gt_at (i := 779) (by decide +kernel) (by decide +kernel), gt_at (i := 12) (by decide +kernel) (by decide +kernel), _, _, rfl⟩
theorem lmX5_76 : mVl RX5 76 MX5_readCell 2 5 := ⟨Or.inl (gt_at (i := 781) (by decide +kernel) (by decide +kernel)), ok_MX5_readCell, gt_at (i := 783) (by decide +kernel) (by decide +kernel), gt_at (i := 13) (by decide +kernel) (by decide +kernel), _, _, rfl⟩
theorem lmX5_80 : mVl RX5 80 MX5_readSquare 2 5 := ⟨Or.inl (gt_at (i := 791) (by decide +kernel) (by decide +kernel)), ok_MX5_readSquare, gt_at (i := 793) (by decide +kernel) (by decide +kernel), gt_at (i := 15) (by decide +kernel) (by decide +kernel), _, _, rfl⟩
theorem lmX5_83 : mVl RX5 83 MX4_putCell 2 4 := ⟨Or.inl (gt_at (i := 789) (by decide +kernel) (by decide +kernel)), ok_MX4_putCell, gt_at (i := 521) (by decide +kernel) (by decide +kernel), gt_at (i := 522) (by decide +kernel) (by decide +kernel), _, _, rfl⟩
theorem lmX5_87 : mSl RX5 87 MX11_isWithin 3 := ⟨Or.inr ⟨RX11, nt_at (i := 790) (by decide +kernel) (by decide +kernel)⟩, ok_MX11_isWithin, gt_at (i := 447) (by decide +kernel) (by decide +kernel)⟩
theorem lmX5_91 : mSl RX5 91 MX6_isShape 1 := ⟨Or.inl (gt_at (i := 799) (by decide +kernel) (by decide +kernel)), ok_MX6_isShape, gt_at (i := 549) (by decide +kernel) (by decide +kernel)⟩
theorem lmX5_97 : mVl RX5 97 MX5_readOptions 0 5 := ⟨Or.inl (gt_at (i := 800) (by decide +kernel) (by decide +kernel)), ok_MX5_readOptions, gt_at (i := 802) (by decide +kernel) (by decide +kernel), gt_at (i := 17) (by decide +kernel) (by decide +kernel), _, _, rfl⟩
theorem lmX5_100 : mVl RX5 100 MX5_readDigit 1 5 := ⟨Or.inl (gt_at (i := 804) (by decide +kernel) (by decide +kernel)), ok_MX5_readDigit, gt_at (i := 806) (by decide +kernel) (by decide +kernel), gt_at (i := 18) (by decide +kernel) (by decide +kernel), _, _, rfl⟩
theorem lmX5_104 : mSl RX5 104 MX6_normalize 1 := ⟨Or.inl (gt_at (i := 808) (by decide +kernel) (by decide +kernel)), ok_MX6_normalize, gt_at (i := 563) (by decide +kernel) (by decide +kernel)⟩
theorem lmX5_113 : mVl RX5 113 MX4_append 4 4 := ⟨Or.inl (gt_at (i := 812) (by decide +kernel) (by decide +kernel)), ok_MX4_append, gt_at (i := 566) (by decide +kernel) (by decide +kernel), gt_at (i := 567) (by decide +kernel) (by decide +kernel), _, _, rfl⟩
theorem lmX6_10 : mSl RX6 10 MJ6_bitCount_0f7a4 1 := ⟨Or.inl (gt_at (i := 552) (by decide +kernel) (by decide +kernel)), ok_MJ6_bitCount_0f7a4, gt_at (i := 553) (by decide +kernel) (by decide +kernel)⟩
theorem lmX6_16 : mSl RX6 16 MX6_hangsTogether 1 := ⟨Or.inl (gt_at (i := 558) (by decide +kernel) (by decide +kernel)), ok_MX6_hangsTogether, gt_at (i := 559) (by decide +kernel) (by decide +kernel)⟩
theorem lmX6_23 : mSl RX6 23 MX6_hasSquare 2 := ⟨Or.inl (gt_at (i := 636) (by decide +kernel) (by decide +kernel)), ok_MX6_hasSquare, gt_at (i := 637) (by decide +kernel) (by decide +kernel)⟩
theorem lmX6_27 : mSl RX6 27 MX6_normalize 1 := ⟨Or.inl (gt_at (i := 639) (by decide +kernel) (by decide +kernel)), ok_MX6_normalize, gt_at (i := 563) (by decide +kernel) (by decide +kernel)⟩
theorem lmX7_15 : mVl RX7 15 MX7_strikeSome 1 6 := ⟨Or.inl (gt_at (i := 974) (by decide +kernel) (by decide +kernel)), ok_MX7_strikeSome, gt_at (i := 976) (by decide +kernel) (by decide +kernel), gt_at (i := 33) (by decide +kernel) (by decide +kernel), _, _, rfl⟩
theorem lmX7_19 : mVl RX7 19 MX7_limitOf 1 6 := ⟨Or.inl (gt_at (i := 978) (by decide +kernel) (by decide +kernel)), ok_MX7_limitOf, gt_at (i := 980) (by decide +kernel) (by decide +kernel), gt_at (i := 34) (by decide +kernel) (by decide +kernel), _, _, rfl⟩
theorem lmX7_23 : mVl RX7 23 MX7_leavesAllCoverable 2 6 := ⟨Or.inl (gt_at (i := 983) (by decide +kernel) (by decide +kernel)), ok_MX7_leavesAllCoverable, gt_at (i := 985) (by decide +kernel) (by decide +kernel), gt_at (i := 35) (by decide +kernel) (by decide +kernel), _, _, rfl⟩
theorem lmX7_39 : mVl RX7 39 MX3_maskOf 1 3 := ⟨Or.inl (gt_at (i := 987) (by decide +kernel) (by decide +kernel)), ok_MX3_maskOf, gt_at (i := 677) (by decide +kernel) (by decide +kernel), gt_at (i := 678) (by decide +kernel) (by decide +kernel), _, _, rfl⟩
theorem lmX7_47 : mVl RX7 47 MX3_pieceOf 1 3 := ⟨Or.inl (gt_at (i := 992) (by decide +kernel) (by decide +kernel)), ok_MX3_pieceOf, gt_at (i := 720) (by decide +kernel) (by decide +kernel), gt_at (i := 721) (by decide +kernel) (by decide +kernel), _, _, rfl⟩
theorem lmX7_51 : mSl RX7 51 MX11_holds 2 := ⟨Or.inr ⟨RX11, nt_at (i := 1001) (by decide +kernel) (by decide +kernel)⟩, ok_MX11_holds, gt_at (i := 747) (by decide +kernel) (by decide +kernel)⟩
theorem lmX8_27 : mVl RX8 27 MX8_fillNext 2 7 := ⟨Or.inl (gt_at (i := 690) (by decide +kernel) (by decide +kernel)), ok_MX8_fillNext, gt_at (i := 692) (by decide +kernel) (by decide +kernel), gt_at (i := 9) (by decide +kernel) (by decide +kernel), _, _, rfl⟩
theorem lmX8_31 : mVl RX8 31 MX4_cellCount 0 4 := ⟨Or.inl (gt_at (i := 694) (by decide +kernel) (by decide +kernel)), ok_MX4_cellCount, gt_at (i := 500) (by decide +kernel) (by decide +kernel), gt_at (i := 501) (by decide +kernel) (by decide +kernel), _, _, rfl⟩
theorem lmX8_35 : mSl RX8 35 MX8_mapCell 3 := ⟨Or.inl (gt_at (i := 695) (by decide +kernel) (by decide +kernel)), ok_MX8_mapCell, gt_at (i := 696) (by decide +kernel) (by decide +kernel)⟩
theorem lmX8_39 : mVl RX8 39 MX4_cellAt 1 4 := ⟨Or.inl (gt_at (i := 700) (by decide +kernel) (by decide +kernel)), ok_MX4_cellAt, gt_at (i := 517) (by decide +kernel) (by decide +kernel), gt_at (i := 518) (by decide +kernel) (by decide +kernel), _, _, rfl⟩
theorem lmX8_43 : mSl RX8 43 MX11_put 3 := ⟨Or.inr ⟨RX11, nt_at (i := 701) (by decide +kernel) (by decide +kernel)⟩, ok_MX11_put, gt_at (i := 477) (by decide +kernel) (by decide +kernel)⟩
theorem lmX8_47 : mVl RX8 47 MX4_columnOf 1 4 := ⟨Or.inl (gt_at (i := 698) (by decide +kernel) (by decide +kernel)), ok_MX4_columnOf, gt_at (i := 660) (by decide +kernel) (by decide +kernel), gt_at (i := 661) (by decide +kernel) (by decide +kernel), _, _, rfl⟩
theorem lmX8_50 : mVl RX8 50 MX4_rowOf 1 4 := ⟨Or.inl (gt_at (i := 699) (by decide +kernel) (by decide +kernel)), ok_MX4_rowOf, gt_at (i := 664) (by decide +kernel) (by decide +kernel), gt_at (i := 665) (by decide +kernel) (by decide +kernel), _, _, rfl⟩
theorem lmX8_53 : mSl RX8 53 MX11_at 2 := ⟨Or.inr ⟨RX11, nt_at (i := 952) (by decide +kernel) (by decide +kernel)⟩, ok_MX11_at, gt_at (i := 474) (by decide +kernel) (by decide +kernel)⟩
theorem lmX9_66 : mVl RX9 66 MX4_copiesOf 1 4 := ⟨Or.inl (gt_at (i := 834) (by decide +kernel) (by decide +kernel)), ok_MX4_copiesOf, gt_at (i := 488) (by decide +kernel) (by decide +kernel), gt_at (i := 489) (by decide +kernel) (by decide +kernel), _, _, rfl⟩
theorem lmX9_72 : mSl RX9 72 MX11_put 3 := ⟨Or.inr ⟨RX11, nt_at (i := 835) (by decide +kernel) (by decide +kernel)⟩, ok_MX11_put, gt_at (i := 477) (by decide +kernel) (by decide +kernel)⟩
theorem lmX9_82 : mVl RX9 82 MX4_copyCount 0 4 := ⟨Or.inl (gt_at (i := 836) (by decide +kernel) (by decide +kernel)), ok_MX4_copyCount, gt_at (i := 837) (by decide +kernel) (by decide +kernel), gt_at (i := 838) (by decide +kernel) (by decide +kernel), _, _, rfl⟩
theorem lmX9_85 : mVl RX9 85 MX9_openLevel 0 8 := ⟨Or.inl (gt_at (i := 840) (by decide +kernel) (by decide +kernel)), ok_MX9_openLevel, gt_at (i := 842) (by decide +kernel) (by decide +kernel), gt_at (i := 20) (by decide +kernel) (by decide +kernel), _, _, rfl⟩
theorem lmX9_94 : mVl RX9 94 MX9_isCover 0 8 := ⟨Or.inl (gt_at (i := 852) (by decide +kernel) (by decide +kernel)), ok_MX9_isCover, gt_at (i := 854) (by decide +kernel) (by decide +kernel), gt_at (i := 21) (by decide +kernel) (by decide +kernel), _, _, rfl⟩
theorem lmX9_98 : mVl RX9 98 MX9_nextThatFits 0 8 := ⟨Or.inl (gt_at (i := 856) (by decide +kernel) (by decide +kernel)), ok_MX9_nextThatFits, gt_at (i := 858) (by decide +kernel) (by decide +kernel), gt_at (i := 22) (by decide +kernel) (by decide +kernel), _, _, rfl⟩
theorem lmX9_101 : mVl RX9 101 MX9_stepBack 0 8 := ⟨Or.inl (gt_at (i := 871) (by decide +kernel) (by decide +kernel)), ok_MX9_stepBack, gt_at (i := 873) (by decide +kernel) (by decide +kernel), gt_at (i := 25) (by decide +kernel) (by decide +kernel), _, _, rfl⟩
theorem lmX9_104 : mVl RX9 104 MX9_stepOn 1 8 := ⟨Or.inl (gt_at (i := 879) (by decide +kernel) (by decide +kernel)), ok_MX9_stepOn, gt_at (i := 881) (by decide +kernel) (by decide +kernel), gt_at (i := 27) (by decide +kernel) (by decide +kernel), _, _, rfl⟩
theorem lmX9_111 : mVl RX9 111 MX9_change 2 8 := ⟨Or.inl (gt_at (i := 875) (by decide +kernel) (by decide +kernel)), ok_MX9_change, gt_at (i := 877) (by decide +kernel) (by decide +kernel), gt_at (i := 26) (by decide +kernel) (by decide +kernel), _, _, rfl⟩
theorem lmX9_115 : mSl RX9 115 MX11_at 2 := ⟨Or.inr ⟨RX11, nt_at (i := 846) (by decide +kernel) (by decide +kernel)⟩, ok_MX11_at, gt_at (i := 474) (by decide +kernel) (by decide +kernel)⟩
theorem lmX9_121 : mSl RX9 121 MX11_smallestCell 1 := ⟨Or.inr ⟨RX11, nt_at (i := 845) (by decide +kernel) (by decide +kernel)⟩, ok_MX11_smallestCell, gt_at (i := 681) (by decide +kernel) (by decide +kernel)⟩
theorem lmX9_131 : mVl RX9 131 MX3_maskOf 1 3 := ⟨Or.inl (gt_at (i := 860) (by decide +kernel) (by decide +kernel)), ok_MX3_maskOf, gt_at (i := 677) (by decide +kernel) (by decide +kernel), gt_at (i := 678) (by decide +kernel) (by decide +kernel), _, _, rfl⟩
theorem lmX9_135 : mVl RX9 135 MX3_pieceOf 1 3 := ⟨Or.inl (gt_at (i := 861) (by decide +kernel) (by decide +kernel)), ok_MX3_pieceOf, gt_at (i := 720) (by decide +kernel) (by decide +kernel), gt_at (i := 721) (by decide +kernel) (by decide +kernel), _, _, rfl⟩
theorem lmX9_138 : mVl RX9 138 MX9_isAllowed 2 8 := ⟨Or.inl (gt_at (i := 862) (by decide +kernel) (by decide +kernel)), ok_MX9_isAllowed, gt_at (i := 864) (by decide +kernel) (by decide +kernel), gt_at (i := 23) (by decide +kernel) (by decide +kernel), _, _, rfl⟩
theorem lmX9_142 : mVl RX9 142 MX4_colourOf 1 4 := ⟨Or.inl (gt_at (i := 866) (by decide +kernel) (by decide +kernel)), ok_MX4_colourOf, gt_at (i := 484) (by decide +kernel) (by decide +kernel), gt_at (i := 485) (by decide +kernel) (by decide +kernel), _, _, rfl⟩
theorem lmX9_148 : mVl RX9 148 MX9_around 1 8 := ⟨Or.inl (gt_at (i := 867) (by decide +kernel) (by decide +kernel)), ok_MX9_around, gt_at (i := 869) (by decide +kernel) (by decide +kernel), gt_at (i := 24) (by decide +kernel) (by decide +kernel), _, _, rfl⟩
theorem lmX9_152 : mSl RX9 152 MX11_holds 2 := ⟨Or.inr ⟨RX11, nt_at (i := 887) (by decide +kernel) (by decide +kernel)⟩, ok_MX11_holds, gt_at (i := 747) (by decide +kernel) (by decide +kernel)⟩
theorem lmX10_22 : mVl RX10 22 MX10_weighCells 3 9 := ⟨Or.inl (gt_at (i := 1010) (by decide +kernel) (by decide +kernel)), ok_MX10_weighCells, gt_at (i := 1012) (by decide +kernel) (by decide +kernel), gt_at (i := 36) (by decide +kernel) (by decide +kernel), _, _, rfl⟩
theorem lmX10_26 : mVl RX10 26 MX10_weighPieces 1 9 := ⟨Or.inl (gt_at (i := 1020) (by decide +kernel) (by decide +kernel)), ok_MX10_weighPieces, gt_at (i := 1022) (by decide +kernel) (by decide +kernel), gt_at (i := 38) (by decide +kernel) (by decide +kernel), _, _, rfl⟩
theorem lmX10_35 : mSl RX10 35 MX11_at 2 := ⟨Or.inr ⟨RX11, nt_at (i := 1032) (by decide +kernel) (by decide +kernel)⟩, ok_MX11_at, gt_at (i := 474) (by decide +kernel) (by decide +kernel)⟩
theorem lmX10_42 : mVl RX10 42 MX4_copiesOf 1 4 := ⟨Or.inl (gt_at (i := 1034) (by decide +kernel) (by decide +kernel)), ok_MX4_copiesOf, gt_at (i := 488) (by decide +kernel) (by decide +kernel), gt_at (i := 489) (by decide +kernel) (by decide +kernel), _, _, rfl⟩
theorem lmX10_46 : mVl RX10 46 MX10_addAll 2 9 := ⟨Or.inl (gt_at (i := 1035) (by decide +kernel) (by decide +kernel)), ok_MX10_addAll, gt_at (i := 1037) (by decide +kernel) (by decide +kernel), gt_at (i := 40) (by decide +kernel) (by decide +kernel), _, _, rfl⟩
theorem lmX10_56 : mVl RX10 56 MX10_weightOf 1 9 := ⟨Or.inl (gt_at (i := 1026) (by decide +kernel) (by decide +kernel)), ok_MX10_weightOf, gt_at (i := 1028) (by decide +kernel) (by decide +kernel), gt_at (i := 39) (by decide +kernel) (by decide +kernel), _, _, rfl⟩
theorem lmX10_60 : mVl RX10 60 MX4_columnOf 1 4 := ⟨Or.inl (gt_at (i := 1014) (by decide +kernel) (by decide +kernel)), ok_MX4_columnOf, gt_at (i := 660) (by decide +kernel) (by decide +kernel), gt_at (i := 661) (by decide +kernel) (by decide +kernel), _, _, rfl⟩
theorem lmX10_63 : mVl RX10 63 MX4_rowOf 1 4 := ⟨Or.inl (gt_at (i := 1015) (by decide +kernel) (by decide +kernel)), ok_MX4_rowOf, gt_at (i := 664) (by decide +kernel) (by decide +kernel), gt_at (i := 665) (by decide +kernel) (by decide +kernel), _, _, rfl⟩
theorem lmX10_66 : mVl RX10 66 MX10_rest 1 9 := ⟨Or.inl (gt_at (i := 1016) (by decide +kernel) (by decide +kernel)), ok_MX10_rest, gt_at (i := 1018) (by decide +kernel) (by decide +kernel), gt_at (i := 37) (by decide +kernel) (by decide +kernel), _, _, rfl⟩
theorem lmX10_72 : mVl RX10 72 MX3_pieceOf 1 3 := ⟨Or.inl (gt_at (i := 1024) (by decide +kernel) (by decide +kernel)), ok_MX3_pieceOf, gt_at (i := 720) (by decide +kernel) (by decide +kernel), gt_at (i := 721) (by decide +kernel) (by decide +kernel), _, _, rfl⟩
theorem lmX10_75 : mVl RX10 75 MX3_maskOf 1 3 := ⟨Or.inl (gt_at (i := 1025) (by decide +kernel) (by decide +kernel)), ok_MX3_maskOf, gt_at (i := 677) (by decide +kernel) (by decide +kernel), gt_at (i := 678) (by decide +kernel) (by decide +kernel), _, _, rfl⟩
theorem lmX10_79 : mSl RX10 79 MX11_put 3 := ⟨Or.inr ⟨RX11, nt_at (i := 1033) (by decide +kernel) (by decide +kernel)⟩, ok_MX11_put, gt_at (i := 477) (by decide +kernel) (by decide +kernel)⟩
theorem lmX10_83 : mSl RX10 83 MX11_smallestCell 1 := ⟨Or.inr ⟨RX11, nt_at (i := 1030) (by decide +kernel) (by decide +kernel)⟩, ok_MX11_smallestCell, gt_at (i := 681) (by decide +kernel) (by decide +kernel)⟩
theorem lmX10_86 : mSl RX10 86 MX11_holds 2 := ⟨Or.inr ⟨RX11, nt_at (i := 1031) (by decide +kernel) (by decide +kernel)⟩, ok_MX11_holds, gt_at (i := 747) (by decide +kernel) (by decide +kernel)⟩
theorem lmX12_68 : mVl RX12 68 MX12_cells 0 11 := ⟨Or.inl (gt_at (i := 1196) (by decide +kernel) (by decide +kernel)), ok_MX12_cells, gt_at (i := 1198) (by decide +kernel) (by decide +kernel), gt_at (i := 43) (by decide +kernel) (by decide +kernel), _, _, rfl⟩
theorem lmX12_72 : mSl RX12 72 MX12_in 3 := ⟨Or.inl (gt_at (i := 1181) (by decide +kernel) (by decide +kernel)), ok_MX12_in, gt_at (i := 1182) (by decide +kernel) (by decide +kernel)⟩
theorem lmX12_76 : mVl RX12 76 MX12_isOpen 1 11 := ⟨Or.inl (gt_at (i := 1200) (by decide +kernel) (by decide +kernel)), ok_MX12_isOpen, gt_at (i := 1202) (by decide +kernel) (by decide +kernel), gt_at (i := 44) (by decide +kernel) (by decide +kernel), _, _, rfl⟩
theorem lmX12_82 : mSl RX12 82 MX12_squares 1 := ⟨Or.inl (gt_at (i := 1220) (by decide +kernel) (by decide +kernel)), ok_MX12_squares, gt_at (i := 1221) (by decide +kernel) (by decide +kernel)⟩
theorem lmX12_86 : mSl RX12 86 MX12_grown 1 := ⟨Or.inl (gt_at (i := 1223) (by decide +kernel) (by decide +kernel)), ok_MX12_grown, gt_at (i := 1224) (by decide +kernel) (by decide +kernel)⟩
theorem lmX12_89 : mSl RX12 89 MX12_normal 1 := ⟨Or.inl (gt_at (i := 1231) (by decide +kernel) (by decide +kernel)), ok_MX12_normal, gt_at (i := 1232) (by decide +kernel) (by decide +kernel)⟩
theorem lmX12_95 : mVl RX12 95 MX12_its 2 11 := ⟨Or.inl (gt_at (i := 1262) (by decide +kernel) (by decide +kernel)), ok_MX12_its, gt_at (i := 1264) (by decide +kernel) (by decide +kernel), gt_at (i := 49) (by decide +kernel) (by decide +kernel), _, _, rfl⟩
theorem lmX12_99 : mVl RX12 99 MX12_addsForm 1 11 := ⟨Or.inl (gt_at (i := 1274) (by decide +kernel) (by decide +kernel)), ok_MX12_addsForm, gt_at (i := 1276) (by decide +kernel) (by decide +kernel), gt_at (i := 52) (by decide +kernel) (by decide +kernel), _, _, rfl⟩
theorem lmX12_103 : mSl RX12 103 MX12_changed 2 := ⟨Or.inl (gt_at (i := 1278) (by decide +kernel) (by decide +kernel)), ok_MX12_changed, gt_at (i := 1279) (by decide +kernel) (by decide +kernel)⟩
theorem lmX12_109 : mVl RX12 109 MX12_findsForms 1 11 := ⟨Or.inl (gt_at (i := 1270) (by decide +kernel) (by decide +kernel)), ok_MX12_findsForms, gt_at (i := 1272) (by decide +kernel) (by decide +kernel), gt_at (i := 51) (by decide +kernel) (by decide +kernel), _, _, rfl⟩
theorem lmX12_112 : mVl RX12 112 MX12_cellsOf 4 11 := ⟨Or.inl (gt_at (i := 1281) (by decide +kernel) (by decide +kernel)), ok_MX12_cellsOf, gt_at (i := 1283) (by decide +kernel) (by decide +kernel), gt_at (i := 53) (by decide +kernel) (by decide +kernel), _, _, rfl⟩
theorem lmX12_116 : mSl RX12 116 MX12_lowest 1 := ⟨Or.inl (gt_at (i := 1285) (by decide +kernel) (by decide +kernel)), ok_MX12_lowest, gt_at (i := 1286) (by decide +kernel) (by decide +kernel)⟩
theorem lmX12_120 : mVl RX12 120 MX12_findsPlacements 0 11 := ⟨Or.inl (gt_at (i := 1266) (by decide +kernel) (by decide +kernel)), ok_MX12_findsPlacements, gt_at (i := 1268) (by decide +kernel) (by decide +kernel), gt_at (i := 50) (by decide +kernel) (by decide +kernel), _, _, rfl⟩
theorem lmX12_123 : mVl RX12 123 MX12_note 0 11 := ⟨Or.inl (gt_at (i := 1184) (by decide +kernel) (by decide +kernel)), ok_MX12_note, gt_at (i := 1186) (by decide +kernel) (by decide +kernel), gt_at (i := 41) (by decide +kernel) (by decide +kernel), _, _, rfl⟩
theorem lmX12_126 : mVl RX12 126 MX12_isCell 1 11 := ⟨Or.inl (gt_at (i := 1192) (by decide +kernel) (by decide +kernel)), ok_MX12_isCell, gt_at (i := 1194) (by decide +kernel) (by decide +kernel), gt_at (i := 42) (by decide +kernel) (by decide +kernel), _, _, rfl⟩
theorem lmX12_129 : mVl RX12 129 MX12_opens 0 11 := ⟨Or.inl (gt_at (i := 1204) (by decide +kernel) (by decide +kernel)), ok_MX12_opens, gt_at (i := 1206) (by decide +kernel) (by decide +kernel), gt_at (i := 45) (by decide +kernel) (by decide +kernel), _, _, rfl⟩
theorem lmX12_132 : mSl RX12 132 MX12_isShape 1 := ⟨Or.inl (gt_at (i := 1216) (by decide +kernel) (by decide +kernel)), ok_MX12_isShape, gt_at (i := 1217) (by decide +kernel) (by decide +kernel)⟩
theorem lmX12_135 : mVl RX12 135 MX12_adds 4 11 := ⟨Or.inl (gt_at (i := 1227) (by decide +kernel) (by decide +kernel)), ok_MX12_adds, gt_at (i := 1229) (by decide +kernel) (by decide +kernel), gt_at (i := 46) (by decide +kernel) (by decide +kernel), _, _, rfl⟩
theorem lmX12_139 : mVl RX12 139 MX12_isPiece 1 11 := ⟨Or.inl (gt_at (i := 1238) (by decide +kernel) (by decide +kernel)), ok_MX12_isPiece, gt_at (i := 1240) (by decide +kernel) (by decide +kernel), gt_at (i := 47) (by decide +kernel) (by decide +kernel), _, _, rfl⟩
theorem lmX12_142 : mVl RX12 142 MX12_sets 3 11 := ⟨Or.inl (gt_at (i := 1246) (by decide +kernel) (by decide +kernel)), ok_MX12_sets, gt_at (i := 1248) (by decide +kernel) (by decide +kernel), gt_at (i := 48) (by decide +kernel) (by decide +kernel), _, _, rfl⟩
theorem lmX12_146 : mVl RX12 146 MX12_isSymmetry 1 11 := ⟨Or.inl (gt_at (i := 1288) (by decide +kernel) (by decide +kernel)), ok_MX12_isSymmetry, gt_at (i := 1290) (by decide +kernel) (by decide +kernel), gt_at (i := 54) (by decide +kernel) (by decide +kernel), _, _, rfl⟩
theorem lmX12_149 : mVl RX12 149 MX12_placementsOf 1 11 := ⟨Or.inl (gt_at (i := 1304) (by decide +kernel) (by decide +kernel)), ok_MX12_placementsOf, gt_at (i := 1306) (by decide +kernel) (by decide +kernel), gt_at (i := 56) (by decide +kernel) (by decide +kernel), _, _, rfl⟩
theorem lmX12_152 : mVl RX12 152 MX12_has 2 11 := ⟨Or.inl (gt_at (i := 1316) (by decide +kernel) (by decide +kernel)), ok_MX12_has, gt_at (i := 1318) (by decide +kernel) (by decide +kernel), gt_at (i := 57) (by decide +kernel) (by decide +kernel), _, _, rfl⟩
theorem lmX12_178 : mVl RX12 178 MX12_here 0 11 := ⟨Or.inl (gt_at (i := 1336) (by decide +kernel) (by decide +kernel)), ok_MX12_here, gt_at (i := 1338) (by decide +kernel) (by decide +kernel), gt_at (i := 59) (by decide +kernel) (by decide +kernel), _, _, rfl⟩
theorem lmX12_181 : mVl RX12 181 MX12_isInRow 2 11 := ⟨Or.inl (gt_at (i := 1340) (by decide +kernel) (by decide +kernel)), ok_MX12_isInRow, gt_at (i := 1342) (by decide +kernel) (by decide +kernel), gt_at (i := 60) (by decide +kernel) (by decide +kernel), _, _, rfl⟩
theorem lmX12_185 : mSl RX12 185 MX12_isPart 2 := ⟨Or.inl (gt_at (i := 1344) (by decide +kernel) (by decide +kernel)), ok_MX12_isPart, gt_at (i := 1345) (by decide +kernel) (by decide +kernel)⟩
theorem lmX12_197 : mVl RX12 197 MX12_readsRows 1 11 := ⟨Or.inl (gt_at (i := 1332) (by decide +kernel) (by decide +kernel)), ok_MX12_readsRows, gt_at (i := 1334) (by decide +kernel) (by decide +kernel), gt_at (i := 58) (by decide +kernel) (by decide +kernel), _, _, rfl⟩
theorem lmX12_201 : mVl RX12 201 MX12_readsOption 0 11 := ⟨Or.inl (gt_at (i := 1351) (by decide +kernel) (by decide +kernel)), ok_MX12_readsOption, gt_at (i := 1353) (by decide +kernel) (by decide +kernel), gt_at (i := 62) (by decide +kernel) (by decide +kernel), _, _, rfl⟩
theorem lmX12_204 : mVl RX12 204 MX12_readsPiece 0 11 := ⟨Or.inl (gt_at (i := 1347) (by decide +kernel) (by decide +kernel)), ok_MX12_readsPiece, gt_at (i := 1349) (by decide +kernel) (by decide +kernel), gt_at (i := 61) (by decide +kernel) (by decide +kernel), _, _, rfl⟩
theorem lmX12_207 : mVl RX12 207 MX12_exchanges 0 11 := ⟨Or.inl (gt_at (i := 1355) (by decide +kernel) (by decide +kernel)), ok_MX12_exchanges, gt_at (i := 1357) (by decide +kernel) (by decide +kernel), gt_at (i := 63) (by decide +kernel) (by decide +kernel), _, _, rfl⟩
theorem lmX12_214 : mVl RX12 214 MX12_beside 1 11 := ⟨Or.inl (gt_at (i := 1396) (by decide +kernel) (by decide +kernel)), ok_MX12_beside, gt_at (i := 1398) (by decide +kernel) (by decide +kernel), gt_at (i := 72) (by decide +kernel) (by decide +kernel), _, _, rfl⟩
theorem lmX12_236 : mVl RX12 236 MX12_turns 2 11 := ⟨Or.inl (gt_at (i := 1383) (by decide +kernel) (by decide +kernel)), ok_MX12_turns, gt_at (i := 1385) (by decide +kernel) (by decide +kernel), gt_at (i := 69) (by decide +kernel) (by decide +kernel), _, _, rfl⟩
theorem lmX12_240 : mVl RX12 240 MX12_all 0 11 := ⟨Or.inl (gt_at (i := 1375) (by decide +kernel) (by decide +kernel)), ok_MX12_all, gt_at (i := 1377) (by decide +kernel) (by decide +kernel), gt_at (i := 67) (by decide +kernel) (by decide +kernel), _, _, rfl⟩
theorem lmX12_244 : mVl RX12 244 MX12_goesBack 0 11 := ⟨Or.inl (gt_at (i := 1379) (by decide +kernel) (by decide +kernel)), ok_MX12_goesBack, gt_at (i := 1381) (by decide +kernel) (by decide +kernel), gt_at (i := 68) (by decide +kernel) (by decide +kernel), _, _, rfl⟩
theorem lmX12_247 : mVl RX12 247 MX12_isCover 0 11 := ⟨Or.inl (gt_at (i := 1387) (by decide +kernel) (by decide +kernel)), ok_MX12_isCover, gt_at (i := 1389) (by decide +kernel) (by decide +kernel), gt_at (i := 70) (by decide +kernel) (by decide +kernel), _, _, rfl⟩
theorem lmX12_253 : mVl RX12 253 MX12_fits 1 11 := ⟨Or.inl (gt_at (i := 1392) (by decide +kernel) (by decide +kernel)), ok_MX12_fits, gt_at (i := 1394) (by decide +kernel) (by decide +kernel), gt_at (i := 71) (by decide +kernel) (by decide +kernel), _, _, rfl⟩
theorem lmX12_256 : mVl RX12 256 MX12_begins 0 11 := ⟨Or.inl (gt_at (i := 1367) (by decide +kernel) (by decide +kernel)), ok_MX12_begins, gt_at (i := 1369) (by decide +kernel) (by decide +kernel), gt_at (i := 65) (by decide +kernel) (by decide +kernel), _, _, rfl⟩
theorem lmX12_259 : mVl RX12 259 MX12_goesOn 0 11 := ⟨Or.inl (gt_at (i := 1371) (by decide +kernel) (by decide +kernel)), ok_MX12_goesOn, gt_at (i := 1373) (by decide +kernel) (by decide +kernel), gt_at (i := 66) (by decide +kernel) (by decide +kernel), _, _, rfl⟩
theorem lmX12_265 : mVl RX12 265 MX12_searches 0 11 := ⟨Or.inl (gt_at (i := 1363) (by decide +kernel) (by decide +kernel)), ok_MX12_searches, gt_at (i := 1365) (by decide +kernel) (by decide +kernel), gt_at (i := 64) (by decide +kernel) (by decide +kernel), _, _, rfl⟩
theorem lmX12_268 : mVl RX12 268 MX12_seeks 1 11 := ⟨Or.inl (gt_at (i := 1408) (by decide +kernel) (by decide +kernel)), ok_MX12_seeks, gt_at (i := 1410) (by decide +kernel) (by decide +kernel), gt_at (i := 73) (by decide +kernel) (by decide +kernel), _, _, rfl⟩
theorem lmX12_271 : mVl RX12 271 MX12_image 2 11 := ⟨Or.inl (gt_at (i := 1292) (by decide +kernel) (by decide +kernel)), ok_MX12_image, gt_at (i := 1294) (by decide +kernel) (by decide +kernel), gt_at (i := 55) (by decide +kernel) (by decide +kernel), _, _, rfl⟩
theorem lmX12_274 : mVl RX12 274 MX12_labels 2 11 := ⟨Or.inl (gt_at (i := 1428) (by decide +kernel) (by decide +kernel)), ok_MX12_labels, gt_at (i := 1430) (by decide +kernel) (by decide +kernel), gt_at (i := 75) (by decide +kernel) (by decide +kernel), _, _, rfl⟩
theorem lmX12_277 : mVl RX12 277 MX12_labelsAll 1 11 := ⟨Or.inl (gt_at (i := 1424) (by decide +kernel) (by decide +kernel)), ok_MX12_labelsAll, gt_at (i := 1426) (by decide +kernel) (by decide +kernel), gt_at (i := 74) (by decide +kernel) (by decide +kernel), _, _, rfl⟩
theorem lmX12_280 : mVl RX12 280 MX12_areAlike 2 11 := ⟨Or.inl (gt_at (i := 1432) (by decide +kernel) (by decide +kernel)), ok_MX12_areAlike, gt_at (i := 1434) (by decide +kernel) (by decide +kernel), gt_at (i := 76) (by decide +kernel) (by decide +kernel), _, _, rfl⟩
theorem lmX12_283 : mVl RX12 283 MX12_isUseless 1 11 := ⟨Or.inl (gt_at (i := 1448) (by decide +kernel) (by decide +kernel)), ok_MX12_isUseless, gt_at (i := 1450) (by decide +kernel) (by decide +kernel), gt_at (i := 78) (by decide +kernel) (by decide +kernel), _, _, rfl⟩
theorem lmX12_286 : mVl RX12 286 MX12_strikes 0 11 := ⟨Or.inl (gt_at (i := 1444) (by decide +kernel) (by decide +kernel)), ok_MX12_strikes, gt_at (i := 1446) (by decide +kernel) (by decide +kernel), gt_at (i := 77) (by decide +kernel) (by decide +kernel), _, _, rfl⟩
theorem lmX12_289 : mVl RX12 289 MX12_weight 4 11 := ⟨Or.inl (gt_at (i := 1468) (by decide +kernel) (by decide +kernel)), ok_MX12_weight, gt_at (i := 1470) (by decide +kernel) (by decide +kernel), gt_at (i := 81) (by decide +kernel) (by decide +kernel), _, _, rfl⟩
theorem lmX12_293 : mVl RX12 293 MX12_weights 4 11 := ⟨Or.inl (gt_at (i := 1464) (by decide +kernel) (by decide +kernel)), ok_MX12_weights, gt_at (i := 1466) (by decide +kernel) (by decide +kernel), gt_at (i := 80) (by decide +kernel) (by decide +kernel), _, _, rfl⟩
theorem lmX12_297 : mVl RX12 297 MX12_isProof 3 11 := ⟨Or.inl (gt_at (i := 1460) (by decide +kernel) (by decide +kernel)), ok_MX12_isProof, gt_at (i := 1462) (by decide +kernel) (by decide +kernel), gt_at (i := 79) (by decide +kernel) (by decide +kernel), _, _, rfl⟩
theorem lmX0_57 : Cond.methodLink RX0 57 yJ9_min_7cf53 ∈ gt := gt_at (i := 888) (by decide +kernel) (by decide +kernel)
theorem lmX5_107 : Cond.methodLink RX5 107 yJ9_max_7cf53 ∈ gt := gt_at (i := 809) (by decide +kernel) (by decide +kernel)
theorem lmX7_33 : Cond.methodLink RX7 33 yJ9_min_7cf53 ∈ gt := gt_at (i := 982) (by decide +kernel) (by decide +kernel)
theorem lS_yJ9_max_7cf53 : Cond.static yJ9_max_7cf53 ∈ gt := gt_at (i := 810) (by decide +kernel) (by decide +kernel)
theorem lC_yJ9_max_7cf53 : Cond.code yJ9_max_7cf53 cJ9_max_7cf53 2 (some .int) ∈ gt := gt_at (i := 811) (by decide +kernel) (by decide +kernel)
theorem lS_yJ9_min_7cf53 : Cond.static yJ9_min_7cf53 ∈ gt := gt_at (i := 889) (by decide +kernel) (by decide +kernel)
theorem lC_yJ9_min_7cf53 : Cond.code yJ9_min_7cf53 cJ9_min_7cf53 2 (some .int) ∈ gt := gt_at (i := 890) (by decide +kernel) (by decide +kernel)
theorem lfX11_12 : gfl RX11 12 10 0 := ⟨_, _, _, rfl, by decide, inX11, Or.inl (gt_at (i := 402) (by decide +kernel) (by decide +kernel))⟩
theorem lpX11_12 : pfF RX11 12 10 0 (.object "PolyominoCover$Problem") := ⟨_, _, _, tyX11, rfl, by decide, inX11, tyX11_ok, nmX11, rfl, rfl, by decide +kernel, gt_at (i := 402) (by decide +kernel) (by decide +kernel)⟩
theorem lfX11_19 : gfl RX11 19 10 1 := ⟨_, _, _, rfl, by decide, inX11, Or.inl (gt_at (i := 403) (by decide +kernel) (by decide +kernel))⟩
theorem lpX11_19 : pfF RX11 19 10 1 (.object "PolyominoCover$History") := ⟨_, _, _, tyX11, rfl, by decide, inX11, tyX11_ok, nmX11, rfl, rfl, by decide +kernel, gt_at (i := 403) (by decide +kernel) (by decide +kernel)⟩
theorem lfX11_26 : gfl RX11 26 10 2 := ⟨_, _, _, rfl, by decide, inX11, Or.inl (gt_at (i := 404) (by decide +kernel) (by decide +kernel))⟩
theorem lpX11_26 : pfF RX11 26 10 2 (.object "PolyominoCover$Reader") := ⟨_, _, _, tyX11, rfl, by decide, inX11, tyX11_ok, nmX11, rfl, rfl, by decide +kernel, gt_at (i := 404) (by decide +kernel) (by decide +kernel)⟩
theorem lfX11_33 : gfl RX11 33 10 3 := ⟨_, _, _, rfl, by decide, inX11, Or.inl (gt_at (i := 405) (by decide +kernel) (by decide +kernel))⟩
theorem lpX11_33 : pfF RX11 33 10 3 (.object "PolyominoCover$Forms") := ⟨_, _, _, tyX11, rfl, by decide, inX11, tyX11_ok, nmX11, rfl, rfl, by decide +kernel, gt_at (i := 405) (by decide +kernel) (by decide +kernel)⟩
theorem lfX11_40 : gfl RX11 40 10 4 := ⟨_, _, _, rfl, by decide, inX11, Or.inl (gt_at (i := 406) (by decide +kernel) (by decide +kernel))⟩
theorem lpX11_40 : pfF RX11 40 10 4 (.object "PolyominoCover$Placements") := ⟨_, _, _, tyX11, rfl, by decide, inX11, tyX11_ok, nmX11, rfl, rfl, by decide +kernel, gt_at (i := 406) (by decide +kernel) (by decide +kernel)⟩
theorem lfX11_47 : gfl RX11 47 10 5 := ⟨_, _, _, rfl, by decide, inX11, Or.inl (gt_at (i := 407) (by decide +kernel) (by decide +kernel))⟩
theorem lpX11_47 : pfF RX11 47 10 5 (.object "PolyominoCover$Symmetries") := ⟨_, _, _, tyX11, rfl, by decide, inX11, tyX11_ok, nmX11, rfl, rfl, by decide +kernel, gt_at (i := 407) (by decide +kernel) (by decide +kernel)⟩
theorem lfX11_56 : gfl RX11 56 10 6 := ⟨_, _, _, rfl, by decide, inX11, Or.inl (gt_at (i := 408) (by decide +kernel) (by decide +kernel))⟩
theorem lpX11_56 : pfF RX11 56 10 6 (.object "PolyominoCover$Walk") := ⟨_, _, _, tyX11, rfl, by decide, inX11, tyX11_ok, nmX11, rfl, rfl, by decide +kernel, gt_at (i := 408) (by decide +kernel) (by decide +kernel)⟩
theorem lfX11_65 : gfl RX11 65 10 7 := ⟨_, _, _, rfl, by decide, inX11, Or.inl (gt_at (i := 409) (by decide +kernel) (by decide +kernel))⟩
theorem lpX11_65 : pfF RX11 65 10 7 (.object "PolyominoCover$Covers") := ⟨_, _, _, tyX11, rfl, by decide, inX11, tyX11_ok, nmX11, rfl, rfl, by decide +kernel, gt_at (i := 409) (by decide +kernel) (by decide +kernel)⟩
theorem lfX11_72 : gfl RX11 72 10 8 := ⟨_, _, _, rfl, by decide, inX11, Or.inl (gt_at (i := 410) (by decide +kernel) (by decide +kernel))⟩
theorem lpX11_72 : pfF RX11 72 10 8 (.object "PolyominoCover$Sieve") := ⟨_, _, _, tyX11, rfl, by decide, inX11, tyX11_ok, nmX11, rfl, rfl, by decide +kernel, gt_at (i := 410) (by decide +kernel) (by decide +kernel)⟩
theorem lfX11_79 : gfl RX11 79 10 9 := ⟨_, _, _, rfl, by decide, inX11, Or.inl (gt_at (i := 411) (by decide +kernel) (by decide +kernel))⟩
theorem lpX11_79 : pfF RX11 79 10 9 (.object "PolyominoCover$Weights") := ⟨_, _, _, tyX11, rfl, by decide, inX11, tyX11_ok, nmX11, rfl, rfl, by decide +kernel, gt_at (i := 411) (by decide +kernel) (by decide +kernel)⟩
theorem lfX11_83 : gfl RX11 83 10 10 := ⟨_, _, _, rfl, by decide, inX11, Or.inl (gt_at (i := 412) (by decide +kernel) (by decide +kernel))⟩
theorem lpX11_83 : pfl RX11 83 10 10 (.boolean) := ⟨_, _, _, tyX11, rfl, by decide, inX11, tyX11_ok, nmX11, rfl, by decide +kernel, Or.inl (gt_at (i := 412) (by decide +kernel) (by decide +kernel))⟩
theorem lfX11_87 : gfl RX11 87 10 11 := ⟨_, _, _, rfl, by decide, inX11, Or.inl (gt_at (i := 413) (by decide +kernel) (by decide +kernel))⟩
theorem lpX11_87 : pfl RX11 87 10 11 (.boolean) := ⟨_, _, _, tyX11, rfl, by decide, inX11, tyX11_ok, nmX11, rfl, by decide +kernel, Or.inl (gt_at (i := 413) (by decide +kernel) (by decide +kernel))⟩
theorem lfX11_90 : gfl RX11 90 10 12 := ⟨_, _, _, rfl, by decide, inX11, Or.inl (gt_at (i := 414) (by decide +kernel) (by decide +kernel))⟩
theorem lpX11_90 : pfl RX11 90 10 12 (.boolean) := ⟨_, _, _, tyX11, rfl, by decide, inX11, tyX11_ok, nmX11, rfl, by decide +kernel, Or.inl (gt_at (i := 414) (by decide +kernel) (by decide +kernel))⟩
theorem lfX11_130 : gfl RX11 130 4 4 := ⟨_, _, _, rfl, by decide, inX4, Or.inr ⟨RX11, nt_at (i := 138) (by decide +kernel) (by decide +kernel)⟩⟩
theorem lfX11_151 : gfl RX11 151 4 9 := ⟨_, _, _, rfl, by decide, inX4, Or.inr ⟨RX11, nt_at (i := 144) (by decide +kernel) (by decide +kernel)⟩⟩
theorem lfX11_159 : gfl RX11 159 4 2 := ⟨_, _, _, rfl, by decide, inX4, Or.inr ⟨RX11, nt_at (i := 129) (by decide +kernel) (by decide +kernel)⟩⟩
theorem lpX11_159 : pfl RX11 159 4 2 (.int) := ⟨_, _, _, tyX4, rfl, by decide, inX4, tyX4_ok, nmX4, rfl, by decide +kernel, Or.inr ⟨RX11, nt_at (i := 129) (by decide +kernel) (by decide +kernel)⟩⟩
theorem lfX11_162 : gfl RX11 162 4 3 := ⟨_, _, _, rfl, by decide, inX4, Or.inr ⟨RX11, nt_at (i := 132) (by decide +kernel) (by decide +kernel)⟩⟩
theorem lpX11_162 : pfl RX11 162 4 3 (.int) := ⟨_, _, _, tyX4, rfl, by decide, inX4, tyX4_ok, nmX4, rfl, by decide +kernel, Or.inr ⟨RX11, nt_at (i := 132) (by decide +kernel) (by decide +kernel)⟩⟩
theorem lfX11_165 : gfl RX11 165 4 0 := ⟨_, _, _, rfl, by decide, inX4, Or.inr ⟨RX11, nt_at (i := 118) (by decide +kernel) (by decide +kernel)⟩⟩
theorem lfX11_168 : gfl RX11 168 4 1 := ⟨_, _, _, rfl, by decide, inX4, Or.inr ⟨RX11, nt_at (i := 124) (by decide +kernel) (by decide +kernel)⟩⟩
theorem lfX11_177 : gfl RX11 177 3 4 := ⟨_, _, _, rfl, by decide, inX3, Or.inr ⟨RX11, nt_at (i := 246) (by decide +kernel) (by decide +kernel)⟩⟩
theorem lfX11_180 : gfl RX11 180 7 1 := ⟨_, _, _, rfl, by decide, inX8, Or.inr ⟨RX11, nt_at (i := 274) (by decide +kernel) (by decide +kernel)⟩⟩
theorem lfX11_181 : gfl RX11 181 2 2 := ⟨_, _, _, rfl, by decide, inX2, Or.inr ⟨RX11, nt_at (i := 179) (by decide +kernel) (by decide +kernel)⟩⟩
theorem lfX11_223 : gfl RX11 223 5 1 := ⟨_, _, _, rfl, by decide, inX5, Or.inr ⟨RX11, nt_at (i := 197) (by decide +kernel) (by decide +kernel)⟩⟩
theorem lpX11_223 : pfl RX11 223 5 1 (.int) := ⟨_, _, _, tyX5, rfl, by decide, inX5, tyX5_ok, nmX5, rfl, by decide +kernel, Or.inr ⟨RX11, nt_at (i := 197) (by decide +kernel) (by decide +kernel)⟩⟩
theorem lfX11_238 : gfl RX11 238 0 7 := ⟨_, _, _, rfl, by decide, inX0, Or.inr ⟨RX11, nt_at (i := 357) (by decide +kernel) (by decide +kernel)⟩⟩
theorem lfX11_241 : gfl RX11 241 0 4 := ⟨_, _, _, rfl, by decide, inX0, Or.inr ⟨RX11, nt_at (i := 351) (by decide +kernel) (by decide +kernel)⟩⟩
theorem lfX11_242 : gfl RX11 242 0 5 := ⟨_, _, _, rfl, by decide, inX0, Or.inr ⟨RX11, nt_at (i := 353) (by decide +kernel) (by decide +kernel)⟩⟩
theorem lfX11_264 : gfl RX11 264 0 6 := ⟨_, _, _, rfl, by decide, inX0, Or.inr ⟨RX11, nt_at (i := 355) (by decide +kernel) (by decide +kernel)⟩⟩
theorem lfX0_9 : gfl RX0 9 0 3 := ⟨_, _, _, rfl, by decide, inX0, Or.inl (gt_at (i := 349) (by decide +kernel) (by decide +kernel))⟩
theorem lpX0_9 : pfF RX0 9 0 3 (.array .int) := ⟨_, _, _, tyX0, rfl, by decide, inX0, tyX0_ok, nmX0, rfl, rfl, by decide +kernel, gt_at (i := 349) (by decide +kernel) (by decide +kernel)⟩
theorem lfX0_15 : gfl RX0 15 0 4 := ⟨_, _, _, rfl, by decide, inX0, Or.inl (gt_at (i := 350) (by decide +kernel) (by decide +kernel))⟩
theorem lpX0_15 : pfl RX0 15 0 4 (.int) := ⟨_, _, _, tyX0, rfl, by decide, inX0, tyX0_ok, nmX0, rfl, by decide +kernel, Or.inl (gt_at (i := 350) (by decide +kernel) (by decide +kernel))⟩
theorem lpX0_19 : pfl RX0 19 0 5 (.int) := ⟨_, _, _, tyX0, rfl, by decide, inX0, tyX0_ok, nmX0, rfl, by decide +kernel, Or.inl (gt_at (i := 352) (by decide +kernel) (by decide +kernel))⟩
theorem lfX0_22 : gfl RX0 22 0 6 := ⟨_, _, _, rfl, by decide, inX0, Or.inl (gt_at (i := 354) (by decide +kernel) (by decide +kernel))⟩
theorem lpX0_22 : pfl RX0 22 0 6 (.int) := ⟨_, _, _, tyX0, rfl, by decide, inX0, tyX0_ok, nmX0, rfl, by decide +kernel, Or.inl (gt_at (i := 354) (by decide +kernel) (by decide +kernel))⟩
theorem lpX0_25 : pfl RX0 25 0 7 (.boolean) := ⟨_, _, _, tyX0, rfl, by decide, inX0, tyX0_ok, nmX0, rfl, by decide +kernel, Or.inl (gt_at (i := 356) (by decide +kernel) (by decide +kernel))⟩
theorem lfX0_29 : gfl RX0 29 0 0 := ⟨_, _, _, rfl, by decide, inX0, Or.inl (gt_at (i := 346) (by decide +kernel) (by decide +kernel))⟩
theorem lpX0_29 : pfF RX0 29 0 0 (.object "PolyominoCover$Walk") := ⟨_, _, _, tyX0, rfl, by decide, inX0, tyX0_ok, nmX0, rfl, rfl, by decide +kernel, gt_at (i := 346) (by decide +kernel) (by decide +kernel)⟩
theorem lfX0_33 : gfl RX0 33 0 1 := ⟨_, _, _, rfl, by decide, inX0, Or.inl (gt_at (i := 347) (by decide +kernel) (by decide +kernel))⟩
theorem lpX0_33 : pfF RX0 33 0 1 (.object "PolyominoCover$Placements") := ⟨_, _, _, tyX0, rfl, by decide, inX0, tyX0_ok, nmX0, rfl, rfl, by decide +kernel, gt_at (i := 347) (by decide +kernel) (by decide +kernel)⟩
theorem lfX0_37 : gfl RX0 37 0 2 := ⟨_, _, _, rfl, by decide, inX0, Or.inl (gt_at (i := 348) (by decide +kernel) (by decide +kernel))⟩
theorem lpX0_37 : pfF RX0 37 0 2 (.object "PolyominoCover$Symmetries") := ⟨_, _, _, tyX0, rfl, by decide, inX0, tyX0_ok, nmX0, rfl, rfl, by decide +kernel, gt_at (i := 348) (by decide +kernel) (by decide +kernel)⟩
theorem lfX0_54 : gfl RX0 54 8 9 := ⟨_, _, _, rfl, by decide, inX9, Or.inr ⟨RX11, nt_at (i := 296) (by decide +kernel) (by decide +kernel)⟩⟩
theorem lfX0_63 : gfl RX0 63 8 11 := ⟨_, _, _, rfl, by decide, inX9, Or.inr ⟨RX11, nt_at (i := 299) (by decide +kernel) (by decide +kernel)⟩⟩
theorem lfX0_64 : gfl RX0 64 8 15 := ⟨_, _, _, rfl, by decide, inX9, Or.inr ⟨RX11, nt_at (i := 306) (by decide +kernel) (by decide +kernel)⟩⟩
theorem lfX0_67 : gfl RX0 67 8 14 := ⟨_, _, _, rfl, by decide, inX9, Or.inr ⟨RX11, nt_at (i := 304) (by decide +kernel) (by decide +kernel)⟩⟩
theorem lfX0_70 : gfl RX0 70 8 12 := ⟨_, _, _, rfl, by decide, inX9, Or.inr ⟨RX11, nt_at (i := 301) (by decide +kernel) (by decide +kernel)⟩⟩
theorem lfX0_105 : gfl RX0 105 7 1 := ⟨_, _, _, rfl, by decide, inX8, Or.inr ⟨RX11, nt_at (i := 273) (by decide +kernel) (by decide +kernel)⟩⟩
theorem lfX1_9 : gfl RX1 9 1 0 := ⟨_, _, _, rfl, by decide, inX1, Or.inl (gt_at (i := 224) (by decide +kernel) (by decide +kernel))⟩
theorem lpX1_9 : pfF RX1 9 1 0 (.array .int) := ⟨_, _, _, tyX1, rfl, by decide, inX1, tyX1_ok, nmX1, rfl, rfl, by decide +kernel, gt_at (i := 224) (by decide +kernel) (by decide +kernel)⟩
theorem lfX1_15 : gfl RX1 15 1 1 := ⟨_, _, _, rfl, by decide, inX1, Or.inl (gt_at (i := 225) (by decide +kernel) (by decide +kernel))⟩
theorem lpX1_15 : pfF RX1 15 1 1 (.array .int) := ⟨_, _, _, tyX1, rfl, by decide, inX1, tyX1_ok, nmX1, rfl, rfl, by decide +kernel, gt_at (i := 225) (by decide +kernel) (by decide +kernel)⟩
theorem lfX2_11 : gfl RX2 11 2 0 := ⟨_, _, _, rfl, by decide, inX2, Or.inl (gt_at (i := 176) (by decide +kernel) (by decide +kernel))⟩
theorem lpX2_11 : pfF RX2 11 2 0 (.array (.object "PolyominoCover$Problem")) := ⟨_, _, _, tyX2, rfl, by decide, inX2, tyX2_ok, nmX2, rfl, rfl, by decide +kernel, gt_at (i := 176) (by decide +kernel) (by decide +kernel)⟩
theorem lfX2_17 : gfl RX2 17 2 1 := ⟨_, _, _, rfl, by decide, inX2, Or.inl (gt_at (i := 177) (by decide +kernel) (by decide +kernel))⟩
theorem lpX2_17 : pfl RX2 17 2 1 (.int) := ⟨_, _, _, tyX2, rfl, by decide, inX2, tyX2_ok, nmX2, rfl, by decide +kernel, Or.inl (gt_at (i := 177) (by decide +kernel) (by decide +kernel))⟩
theorem lfX2_21 : gfl RX2 21 2 2 := ⟨_, _, _, rfl, by decide, inX2, Or.inl (gt_at (i := 178) (by decide +kernel) (by decide +kernel))⟩
theorem lpX2_21 : pfl RX2 21 2 2 (.int) := ⟨_, _, _, tyX2, rfl, by decide, inX2, tyX2_ok, nmX2, rfl, by decide +kernel, Or.inl (gt_at (i := 178) (by decide +kernel) (by decide +kernel))⟩
theorem lfX3_9 : gfl RX3 9 3 0 := ⟨_, _, _, rfl, by decide, inX3, Or.inl (gt_at (i := 237) (by decide +kernel) (by decide +kernel))⟩
theorem lpX3_9 : pfF RX3 9 3 0 (.array .long) := ⟨_, _, _, tyX3, rfl, by decide, inX3, tyX3_ok, nmX3, rfl, rfl, by decide +kernel, gt_at (i := 237) (by decide +kernel) (by decide +kernel)⟩
theorem lfX3_15 : gfl RX3 15 3 1 := ⟨_, _, _, rfl, by decide, inX3, Or.inl (gt_at (i := 238) (by decide +kernel) (by decide +kernel))⟩
theorem lpX3_15 : pfF RX3 15 3 1 (.array .int) := ⟨_, _, _, tyX3, rfl, by decide, inX3, tyX3_ok, nmX3, rfl, rfl, by decide +kernel, gt_at (i := 238) (by decide +kernel) (by decide +kernel)⟩
theorem lfX3_19 : gfl RX3 19 3 2 := ⟨_, _, _, rfl, by decide, inX3, Or.inl (gt_at (i := 239) (by decide +kernel) (by decide +kernel))⟩
theorem lpX3_19 : pfF RX3 19 3 2 (.array .int) := ⟨_, _, _, tyX3, rfl, by decide, inX3, tyX3_ok, nmX3, rfl, rfl, by decide +kernel, gt_at (i := 239) (by decide +kernel) (by decide +kernel)⟩
theorem lfX3_22 : gfl RX3 22 3 3 := ⟨_, _, _, rfl, by decide, inX3, Or.inl (gt_at (i := 241) (by decide +kernel) (by decide +kernel))⟩
theorem lpX3_22 : pfF RX3 22 3 3 (.array .int) := ⟨_, _, _, tyX3, rfl, by decide, inX3, tyX3_ok, nmX3, rfl, rfl, by decide +kernel, gt_at (i := 241) (by decide +kernel) (by decide +kernel)⟩
theorem lfX3_25 : gfl RX3 25 3 4 := ⟨_, _, _, rfl, by decide, inX3, Or.inl (gt_at (i := 243) (by decide +kernel) (by decide +kernel))⟩
theorem lpX3_25 : pfl RX3 25 3 4 (.int) := ⟨_, _, _, tyX3, rfl, by decide, inX3, tyX3_ok, nmX3, rfl, by decide +kernel, Or.inl (gt_at (i := 243) (by decide +kernel) (by decide +kernel))⟩
theorem lpX3_29 : pfl RX3 29 3 5 (.long) := ⟨_, _, _, tyX3, rfl, by decide, inX3, tyX3_ok, nmX3, rfl, by decide +kernel, Or.inl (gt_at (i := 247) (by decide +kernel) (by decide +kernel))⟩
theorem lfX3_39 : gfl RX3 39 4 4 := ⟨_, _, _, rfl, by decide, inX4, Or.inr ⟨RX11, nt_at (i := 135) (by decide +kernel) (by decide +kernel)⟩⟩
theorem lfX3_82 : gfl RX3 82 4 0 := ⟨_, _, _, rfl, by decide, inX4, Or.inr ⟨RX11, nt_at (i := 116) (by decide +kernel) (by decide +kernel)⟩⟩
theorem lfX3_85 : gfl RX3 85 4 1 := ⟨_, _, _, rfl, by decide, inX4, Or.inr ⟨RX11, nt_at (i := 122) (by decide +kernel) (by decide +kernel)⟩⟩
theorem lfX4_9 : gfl RX4 9 4 0 := ⟨_, _, _, rfl, by decide, inX4, Or.inl (gt_at (i := 113) (by decide +kernel) (by decide +kernel))⟩
theorem lpX4_9 : pfl RX4 9 4 0 (.int) := ⟨_, _, _, tyX4, rfl, by decide, inX4, tyX4_ok, nmX4, rfl, by decide +kernel, Or.inl (gt_at (i := 113) (by decide +kernel) (by decide +kernel))⟩
theorem lfX4_15 : gfl RX4 15 4 1 := ⟨_, _, _, rfl, by decide, inX4, Or.inl (gt_at (i := 119) (by decide +kernel) (by decide +kernel))⟩
theorem lpX4_15 : pfl RX4 15 4 1 (.int) := ⟨_, _, _, tyX4, rfl, by decide, inX4, tyX4_ok, nmX4, rfl, by decide +kernel, Or.inl (gt_at (i := 119) (by decide +kernel) (by decide +kernel))⟩
theorem lfX4_18 : gfl RX4 18 4 2 := ⟨_, _, _, rfl, by decide, inX4, Or.inl (gt_at (i := 125) (by decide +kernel) (by decide +kernel))⟩
theorem lpX4_18 : pfl RX4 18 4 2 (.int) := ⟨_, _, _, tyX4, rfl, by decide, inX4, tyX4_ok, nmX4, rfl, by decide +kernel, Or.inl (gt_at (i := 125) (by decide +kernel) (by decide +kernel))⟩
theorem lfX4_21 : gfl RX4 21 4 3 := ⟨_, _, _, rfl, by decide, inX4, Or.inl (gt_at (i := 130) (by decide +kernel) (by decide +kernel))⟩
theorem lpX4_21 : pfl RX4 21 4 3 (.int) := ⟨_, _, _, tyX4, rfl, by decide, inX4, tyX4_ok, nmX4, rfl, by decide +kernel, Or.inl (gt_at (i := 130) (by decide +kernel) (by decide +kernel))⟩
theorem lfX4_24 : gfl RX4 24 4 4 := ⟨_, _, _, rfl, by decide, inX4, Or.inl (gt_at (i := 134) (by decide +kernel) (by decide +kernel))⟩
theorem lpX4_24 : pfl RX4 24 4 4 (.int) := ⟨_, _, _, tyX4, rfl, by decide, inX4, tyX4_ok, nmX4, rfl, by decide +kernel, Or.inl (gt_at (i := 134) (by decide +kernel) (by decide +kernel))⟩
theorem lfX4_27 : gfl RX4 27 4 5 := ⟨_, _, _, rfl, by decide, inX4, Or.inl (gt_at (i := 139) (by decide +kernel) (by decide +kernel))⟩
theorem lpX4_27 : pfF RX4 27 4 5 (.array .int) := ⟨_, _, _, tyX4, rfl, by decide, inX4, tyX4_ok, nmX4, rfl, rfl, by decide +kernel, gt_at (i := 139) (by decide +kernel) (by decide +kernel)⟩
theorem lfX4_31 : gfl RX4 31 4 6 := ⟨_, _, _, rfl, by decide, inX4, Or.inl (gt_at (i := 140) (by decide +kernel) (by decide +kernel))⟩
theorem lpX4_31 : pfF RX4 31 4 6 (.array .int) := ⟨_, _, _, tyX4, rfl, by decide, inX4, tyX4_ok, nmX4, rfl, rfl, by decide +kernel, gt_at (i := 140) (by decide +kernel) (by decide +kernel)⟩
theorem lfX4_34 : gfl RX4 34 4 7 := ⟨_, _, _, rfl, by decide, inX4, Or.inl (gt_at (i := 141) (by decide +kernel) (by decide +kernel))⟩
theorem lpX4_34 : pfF RX4 34 4 7 (.array .int) := ⟨_, _, _, tyX4, rfl, by decide, inX4, tyX4_ok, nmX4, rfl, rfl, by decide +kernel, gt_at (i := 141) (by decide +kernel) (by decide +kernel)⟩
theorem lfX4_37 : gfl RX4 37 4 8 := ⟨_, _, _, rfl, by decide, inX4, Or.inl (gt_at (i := 142) (by decide +kernel) (by decide +kernel))⟩
theorem lpX4_37 : pfF RX4 37 4 8 (.array .int) := ⟨_, _, _, tyX4, rfl, by decide, inX4, tyX4_ok, nmX4, rfl, rfl, by decide +kernel, gt_at (i := 142) (by decide +kernel) (by decide +kernel)⟩
theorem lfX4_40 : gfl RX4 40 4 9 := ⟨_, _, _, rfl, by decide, inX4, Or.inl (gt_at (i := 143) (by decide +kernel) (by decide +kernel))⟩
theorem lpX4_40 : pfF RX4 40 4 9 (.array .int) := ⟨_, _, _, tyX4, rfl, by decide, inX4, tyX4_ok, nmX4, rfl, rfl, by decide +kernel, gt_at (i := 143) (by decide +kernel) (by decide +kernel)⟩
theorem lfX5_9 : gfl RX5 9 5 0 := ⟨_, _, _, rfl, by decide, inX5, Or.inl (gt_at (i := 195) (by decide +kernel) (by decide +kernel))⟩
theorem lpX5_9 : pfF RX5 9 5 0 (.array .int) := ⟨_, _, _, tyX5, rfl, by decide, inX5, tyX5_ok, nmX5, rfl, rfl, by decide +kernel, gt_at (i := 195) (by decide +kernel) (by decide +kernel)⟩
theorem lfX5_15 : gfl RX5 15 5 1 := ⟨_, _, _, rfl, by decide, inX5, Or.inl (gt_at (i := 196) (by decide +kernel) (by decide +kernel))⟩
theorem lpX5_15 : pfl RX5 15 5 1 (.int) := ⟨_, _, _, tyX5, rfl, by decide, inX5, tyX5_ok, nmX5, rfl, by decide +kernel, Or.inl (gt_at (i := 196) (by decide +kernel) (by decide +kernel))⟩
theorem lfX5_22 : gfl RX5 22 5 2 := ⟨_, _, _, rfl, by decide, inX5, Or.inl (gt_at (i := 198) (by decide +kernel) (by decide +kernel))⟩
theorem lpX5_22 : pfF RX5 22 5 2 (.object "PolyominoCover$Problem") := ⟨_, _, _, tyX5, rfl, by decide, inX5, tyX5_ok, nmX5, rfl, rfl, by decide +kernel, gt_at (i := 198) (by decide +kernel) (by decide +kernel)⟩
theorem lfX5_26 : gfl RX5 26 5 3 := ⟨_, _, _, rfl, by decide, inX5, Or.inl (gt_at (i := 199) (by decide +kernel) (by decide +kernel))⟩
theorem lpX5_26 : pfl RX5 26 5 3 (.int) := ⟨_, _, _, tyX5, rfl, by decide, inX5, tyX5_ok, nmX5, rfl, by decide +kernel, Or.inl (gt_at (i := 199) (by decide +kernel) (by decide +kernel))⟩
theorem lfX5_29 : gfl RX5 29 5 4 := ⟨_, _, _, rfl, by decide, inX5, Or.inl (gt_at (i := 200) (by decide +kernel) (by decide +kernel))⟩
theorem lpX5_29 : pfl RX5 29 5 4 (.int) := ⟨_, _, _, tyX5, rfl, by decide, inX5, tyX5_ok, nmX5, rfl, by decide +kernel, Or.inl (gt_at (i := 200) (by decide +kernel) (by decide +kernel))⟩
theorem lfX5_32 : gfl RX5 32 5 5 := ⟨_, _, _, rfl, by decide, inX5, Or.inl (gt_at (i := 201) (by decide +kernel) (by decide +kernel))⟩
theorem lpX5_32 : pfl RX5 32 5 5 (.int) := ⟨_, _, _, tyX5, rfl, by decide, inX5, tyX5_ok, nmX5, rfl, by decide +kernel, Or.inl (gt_at (i := 201) (by decide +kernel) (by decide +kernel))⟩
theorem lfX5_35 : gfl RX5 35 5 6 := ⟨_, _, _, rfl, by decide, inX5, Or.inl (gt_at (i := 202) (by decide +kernel) (by decide +kernel))⟩
theorem lpX5_35 : pfl RX5 35 5 6 (.int) := ⟨_, _, _, tyX5, rfl, by decide, inX5, tyX5_ok, nmX5, rfl, by decide +kernel, Or.inl (gt_at (i := 202) (by decide +kernel) (by decide +kernel))⟩
theorem lfX5_38 : gfl RX5 38 4 2 := ⟨_, _, _, rfl, by decide, inX4, Or.inr ⟨RX11, nt_at (i := 127) (by decide +kernel) (by decide +kernel)⟩⟩
theorem lpX5_38 : pfl RX5 38 4 2 (.int) := ⟨_, _, _, tyX4, rfl, by decide, inX4, tyX4_ok, nmX4, rfl, by decide +kernel, Or.inr ⟨RX11, nt_at (i := 127) (by decide +kernel) (by decide +kernel)⟩⟩
theorem lfX5_41 : gfl RX5 41 4 3 := ⟨_, _, _, rfl, by decide, inX4, Or.inr ⟨RX11, nt_at (i := 131) (by decide +kernel) (by decide +kernel)⟩⟩
theorem lpX5_41 : pfl RX5 41 4 3 (.int) := ⟨_, _, _, tyX4, rfl, by decide, inX4, tyX4_ok, nmX4, rfl, by decide +kernel, Or.inr ⟨RX11, nt_at (i := 131) (by decide +kernel) (by decide +kernel)⟩⟩
theorem lpX5_48 : pfl RX5 48 4 4 (.int) := ⟨_, _, _, tyX4, rfl, by decide, inX4, tyX4_ok, nmX4, rfl, by decide +kernel, Or.inr ⟨RX11, nt_at (i := 137) (by decide +kernel) (by decide +kernel)⟩⟩
theorem lpX5_66 : pfl RX5 66 4 0 (.int) := ⟨_, _, _, tyX4, rfl, by decide, inX4, tyX4_ok, nmX4, rfl, by decide +kernel, Or.inr ⟨RX11, nt_at (i := 117) (by decide +kernel) (by decide +kernel)⟩⟩
theorem lpX5_69 : pfl RX5 69 4 1 (.int) := ⟨_, _, _, tyX4, rfl, by decide, inX4, tyX4_ok, nmX4, rfl, by decide +kernel, Or.inr ⟨RX11, nt_at (i := 123) (by decide +kernel) (by decide +kernel)⟩⟩
theorem lfX7_9 : gfl RX7 9 6 0 := ⟨_, _, _, rfl, by decide, inX7, Or.inl (gt_at (i := 381) (by decide +kernel) (by decide +kernel))⟩
theorem lpX7_9 : pfF RX7 9 6 0 (.array .boolean) := ⟨_, _, _, tyX7, rfl, by decide, inX7, tyX7_ok, nmX7, rfl, rfl, by decide +kernel, gt_at (i := 381) (by decide +kernel) (by decide +kernel)⟩
theorem lfX7_27 : gfl RX7 27 3 4 := ⟨_, _, _, rfl, by decide, inX3, Or.inr ⟨RX11, nt_at (i := 244) (by decide +kernel) (by decide +kernel)⟩⟩
theorem lfX7_43 : gfl RX7 43 3 5 := ⟨_, _, _, rfl, by decide, inX3, Or.inr ⟨RX11, nt_at (i := 250) (by decide +kernel) (by decide +kernel)⟩⟩
theorem lfX8_9 : gfl RX8 9 7 0 := ⟨_, _, _, rfl, by decide, inX8, Or.inl (gt_at (i := 271) (by decide +kernel) (by decide +kernel))⟩
theorem lpX8_9 : pfF RX8 9 7 0 (.array .int) := ⟨_, _, _, tyX8, rfl, by decide, inX8, tyX8_ok, nmX8, rfl, rfl, by decide +kernel, gt_at (i := 271) (by decide +kernel) (by decide +kernel)⟩
theorem lfX8_15 : gfl RX8 15 7 1 := ⟨_, _, _, rfl, by decide, inX8, Or.inl (gt_at (i := 272) (by decide +kernel) (by decide +kernel))⟩
theorem lpX8_15 : pfl RX8 15 7 1 (.int) := ⟨_, _, _, tyX8, rfl, by decide, inX8, tyX8_ok, nmX8, rfl, by decide +kernel, Or.inl (gt_at (i := 272) (by decide +kernel) (by decide +kernel))⟩
theorem lfX8_19 : gfl RX8 19 4 0 := ⟨_, _, _, rfl, by decide, inX4, Or.inr ⟨RX11, nt_at (i := 114) (by decide +kernel) (by decide +kernel)⟩⟩
theorem lfX8_24 : gfl RX8 24 4 1 := ⟨_, _, _, rfl, by decide, inX4, Or.inr ⟨RX11, nt_at (i := 120) (by decide +kernel) (by decide +kernel)⟩⟩
theorem lfX9_9 : gfl RX9 9 8 2 := ⟨_, _, _, rfl, by decide, inX9, Or.inl (gt_at (i := 288) (by decide +kernel) (by decide +kernel))⟩
theorem lpX9_9 : pfF RX9 9 8 2 (.array .int) := ⟨_, _, _, tyX9, rfl, by decide, inX9, tyX9_ok, nmX9, rfl, rfl, by decide +kernel, gt_at (i := 288) (by decide +kernel) (by decide +kernel)⟩
theorem lfX9_15 : gfl RX9 15 8 3 := ⟨_, _, _, rfl, by decide, inX9, Or.inl (gt_at (i := 289) (by decide +kernel) (by decide +kernel))⟩
theorem lpX9_15 : pfF RX9 15 8 3 (.array .int) := ⟨_, _, _, tyX9, rfl, by decide, inX9, tyX9_ok, nmX9, rfl, rfl, by decide +kernel, gt_at (i := 289) (by decide +kernel) (by decide +kernel)⟩
theorem lfX9_18 : gfl RX9 18 8 4 := ⟨_, _, _, rfl, by decide, inX9, Or.inl (gt_at (i := 290) (by decide +kernel) (by decide +kernel))⟩
theorem lpX9_18 : pfF RX9 18 8 4 (.array .int) := ⟨_, _, _, tyX9, rfl, by decide, inX9, tyX9_ok, nmX9, rfl, rfl, by decide +kernel, gt_at (i := 290) (by decide +kernel) (by decide +kernel)⟩
theorem lfX9_21 : gfl RX9 21 8 5 := ⟨_, _, _, rfl, by decide, inX9, Or.inl (gt_at (i := 291) (by decide +kernel) (by decide +kernel))⟩
theorem lpX9_21 : pfF RX9 21 8 5 (.array .long) := ⟨_, _, _, tyX9, rfl, by decide, inX9, tyX9_ok, nmX9, rfl, rfl, by decide +kernel, gt_at (i := 291) (by decide +kernel) (by decide +kernel)⟩
theorem lfX9_25 : gfl RX9 25 8 6 := ⟨_, _, _, rfl, by decide, inX9, Or.inl (gt_at (i := 292) (by decide +kernel) (by decide +kernel))⟩
theorem lpX9_25 : pfl RX9 25 8 6 (.long) := ⟨_, _, _, tyX9, rfl, by decide, inX9, tyX9_ok, nmX9, rfl, by decide +kernel, Or.inl (gt_at (i := 292) (by decide +kernel) (by decide +kernel))⟩
theorem lfX9_29 : gfl RX9 29 8 7 := ⟨_, _, _, rfl, by decide, inX9, Or.inl (gt_at (i := 293) (by decide +kernel) (by decide +kernel))⟩
theorem lpX9_29 : pfl RX9 29 8 7 (.long) := ⟨_, _, _, tyX9, rfl, by decide, inX9, tyX9_ok, nmX9, rfl, by decide +kernel, Or.inl (gt_at (i := 293) (by decide +kernel) (by decide +kernel))⟩
theorem lfX9_32 : gfl RX9 32 8 8 := ⟨_, _, _, rfl, by decide, inX9, Or.inl (gt_at (i := 294) (by decide +kernel) (by decide +kernel))⟩
theorem lpX9_32 : pfl RX9 32 8 8 (.long) := ⟨_, _, _, tyX9, rfl, by decide, inX9, tyX9_ok, nmX9, rfl, by decide +kernel, Or.inl (gt_at (i := 294) (by decide +kernel) (by decide +kernel))⟩
theorem lfX9_35 : gfl RX9 35 8 9 := ⟨_, _, _, rfl, by decide, inX9, Or.inl (gt_at (i := 295) (by decide +kernel) (by decide +kernel))⟩
theorem lpX9_35 : pfl RX9 35 8 9 (.int) := ⟨_, _, _, tyX9, rfl, by decide, inX9, tyX9_ok, nmX9, rfl, by decide +kernel, Or.inl (gt_at (i := 295) (by decide +kernel) (by decide +kernel))⟩
theorem lfX9_39 : gfl RX9 39 8 10 := ⟨_, _, _, rfl, by decide, inX9, Or.inl (gt_at (i := 297) (by decide +kernel) (by decide +kernel))⟩
theorem lpX9_39 : pfl RX9 39 8 10 (.int) := ⟨_, _, _, tyX9, rfl, by decide, inX9, tyX9_ok, nmX9, rfl, by decide +kernel, Or.inl (gt_at (i := 297) (by decide +kernel) (by decide +kernel))⟩
theorem lfX9_42 : gfl RX9 42 8 11 := ⟨_, _, _, rfl, by decide, inX9, Or.inl (gt_at (i := 298) (by decide +kernel) (by decide +kernel))⟩
theorem lpX9_42 : pfl RX9 42 8 11 (.int) := ⟨_, _, _, tyX9, rfl, by decide, inX9, tyX9_ok, nmX9, rfl, by decide +kernel, Or.inl (gt_at (i := 298) (by decide +kernel) (by decide +kernel))⟩
theorem lfX9_45 : gfl RX9 45 8 12 := ⟨_, _, _, rfl, by decide, inX9, Or.inl (gt_at (i := 300) (by decide +kernel) (by decide +kernel))⟩
theorem lpX9_45 : pfl RX9 45 8 12 (.int) := ⟨_, _, _, tyX9, rfl, by decide, inX9, tyX9_ok, nmX9, rfl, by decide +kernel, Or.inl (gt_at (i := 300) (by decide +kernel) (by decide +kernel))⟩
theorem lfX9_48 : gfl RX9 48 8 13 := ⟨_, _, _, rfl, by decide, inX9, Or.inl (gt_at (i := 302) (by decide +kernel) (by decide +kernel))⟩
theorem lpX9_48 : pfl RX9 48 8 13 (.boolean) := ⟨_, _, _, tyX9, rfl, by decide, inX9, tyX9_ok, nmX9, rfl, by decide +kernel, Or.inl (gt_at (i := 302) (by decide +kernel) (by decide +kernel))⟩
theorem lfX9_52 : gfl RX9 52 8 14 := ⟨_, _, _, rfl, by decide, inX9, Or.inl (gt_at (i := 303) (by decide +kernel) (by decide +kernel))⟩
theorem lpX9_52 : pfl RX9 52 8 14 (.boolean) := ⟨_, _, _, tyX9, rfl, by decide, inX9, tyX9_ok, nmX9, rfl, by decide +kernel, Or.inl (gt_at (i := 303) (by decide +kernel) (by decide +kernel))⟩
theorem lpX9_55 : pfl RX9 55 8 15 (.boolean) := ⟨_, _, _, tyX9, rfl, by decide, inX9, tyX9_ok, nmX9, rfl, by decide +kernel, Or.inl (gt_at (i := 305) (by decide +kernel) (by decide +kernel))⟩
theorem lfX9_58 : gfl RX9 58 8 0 := ⟨_, _, _, rfl, by decide, inX9, Or.inl (gt_at (i := 286) (by decide +kernel) (by decide +kernel))⟩
theorem lpX9_58 : pfF RX9 58 8 0 (.object "PolyominoCover$Problem") := ⟨_, _, _, tyX9, rfl, by decide, inX9, tyX9_ok, nmX9, rfl, rfl, by decide +kernel, gt_at (i := 286) (by decide +kernel) (by decide +kernel)⟩
theorem lfX9_62 : gfl RX9 62 8 1 := ⟨_, _, _, rfl, by decide, inX9, Or.inl (gt_at (i := 287) (by decide +kernel) (by decide +kernel))⟩
theorem lpX9_62 : pfF RX9 62 8 1 (.object "PolyominoCover$Placements") := ⟨_, _, _, tyX9, rfl, by decide, inX9, tyX9_ok, nmX9, rfl, rfl, by decide +kernel, gt_at (i := 287) (by decide +kernel) (by decide +kernel)⟩
theorem lfX9_76 : gfl RX9 76 4 1 := ⟨_, _, _, rfl, by decide, inX4, Or.inr ⟨RX11, nt_at (i := 121) (by decide +kernel) (by decide +kernel)⟩⟩
theorem lfX9_79 : gfl RX9 79 4 0 := ⟨_, _, _, rfl, by decide, inX4, Or.inr ⟨RX11, nt_at (i := 115) (by decide +kernel) (by decide +kernel)⟩⟩
theorem lfX9_89 : gfl RX9 89 3 5 := ⟨_, _, _, rfl, by decide, inX3, Or.inr ⟨RX11, nt_at (i := 249) (by decide +kernel) (by decide +kernel)⟩⟩
theorem lfX9_108 : gfl RX9 108 4 2 := ⟨_, _, _, rfl, by decide, inX4, Or.inr ⟨RX11, nt_at (i := 128) (by decide +kernel) (by decide +kernel)⟩⟩
theorem lfX9_125 : gfl RX9 125 3 3 := ⟨_, _, _, rfl, by decide, inX3, Or.inr ⟨RX11, nt_at (i := 242) (by decide +kernel) (by decide +kernel)⟩⟩
theorem lfX9_128 : gfl RX9 128 3 2 := ⟨_, _, _, rfl, by decide, inX3, Or.inr ⟨RX11, nt_at (i := 240) (by decide +kernel) (by decide +kernel)⟩⟩
theorem lfX9_145 : gfl RX9 145 4 3 := ⟨_, _, _, rfl, by decide, inX4, Or.inr ⟨RX11, nt_at (i := 133) (by decide +kernel) (by decide +kernel)⟩⟩
theorem lfX10_9 : gfl RX10 9 9 0 := ⟨_, _, _, rfl, by decide, inX10, Or.inl (gt_at (i := 392) (by decide +kernel) (by decide +kernel))⟩
theorem lpX10_9 : pfF RX10 9 9 0 (.array .int) := ⟨_, _, _, tyX10, rfl, by decide, inX10, tyX10_ok, nmX10, rfl, rfl, by decide +kernel, gt_at (i := 392) (by decide +kernel) (by decide +kernel)⟩
theorem lfX10_15 : gfl RX10 15 9 1 := ⟨_, _, _, rfl, by decide, inX10, Or.inl (gt_at (i := 393) (by decide +kernel) (by decide +kernel))⟩
theorem lpX10_15 : pfF RX10 15 9 1 (.array .int) := ⟨_, _, _, tyX10, rfl, by decide, inX10, tyX10_ok, nmX10, rfl, rfl, by decide +kernel, gt_at (i := 393) (by decide +kernel) (by decide +kernel)⟩
theorem lfX10_18 : gfl RX10 18 9 2 := ⟨_, _, _, rfl, by decide, inX10, Or.inl (gt_at (i := 394) (by decide +kernel) (by decide +kernel))⟩
theorem lpX10_18 : pfl RX10 18 9 2 (.int) := ⟨_, _, _, tyX10, rfl, by decide, inX10, tyX10_ok, nmX10, rfl, by decide +kernel, Or.inl (gt_at (i := 394) (by decide +kernel) (by decide +kernel))⟩
theorem lfX10_30 : gfl RX10 30 4 4 := ⟨_, _, _, rfl, by decide, inX4, Or.inr ⟨RX11, nt_at (i := 136) (by decide +kernel) (by decide +kernel)⟩⟩
theorem lfX10_39 : gfl RX10 39 4 2 := ⟨_, _, _, rfl, by decide, inX4, Or.inr ⟨RX11, nt_at (i := 126) (by decide +kernel) (by decide +kernel)⟩⟩
theorem lfX10_50 : gfl RX10 50 3 5 := ⟨_, _, _, rfl, by decide, inX3, Or.inr ⟨RX11, nt_at (i := 248) (by decide +kernel) (by decide +kernel)⟩⟩
theorem lfX10_69 : gfl RX10 69 3 4 := ⟨_, _, _, rfl, by decide, inX3, Or.inr ⟨RX11, nt_at (i := 245) (by decide +kernel) (by decide +kernel)⟩⟩
theorem lfX12_7 : gfl RX12 7 11 0 := ⟨_, _, _, rfl, by decide, inX12, Or.inl (gt_at (i := 1057) (by decide +kernel) (by decide +kernel))⟩
theorem lpX12_7 : pfF RX12 7 11 0 (.array .int) := ⟨_, _, _, tyX12, rfl, by decide, inX12, tyX12_ok, nmX12, rfl, rfl, by decide +kernel, gt_at (i := 1057) (by decide +kernel) (by decide +kernel)⟩
theorem lfX12_13 : gfl RX12 13 11 1 := ⟨_, _, _, rfl, by decide, inX12, Or.inl (gt_at (i := 1058) (by decide +kernel) (by decide +kernel))⟩
theorem lpX12_13 : pfF RX12 13 11 1 (.array .int) := ⟨_, _, _, tyX12, rfl, by decide, inX12, tyX12_ok, nmX12, rfl, rfl, by decide +kernel, gt_at (i := 1058) (by decide +kernel) (by decide +kernel)⟩
theorem lfX12_16 : gfl RX12 16 11 3 := ⟨_, _, _, rfl, by decide, inX12, Or.inl (gt_at (i := 1060) (by decide +kernel) (by decide +kernel))⟩
theorem lpX12_16 : pfF RX12 16 11 3 (.array .byte) := ⟨_, _, _, tyX12, rfl, by decide, inX12, tyX12_ok, nmX12, rfl, rfl, by decide +kernel, gt_at (i := 1060) (by decide +kernel) (by decide +kernel)⟩
theorem lfX12_20 : gfl RX12 20 11 5 := ⟨_, _, _, rfl, by decide, inX12, Or.inl (gt_at (i := 1062) (by decide +kernel) (by decide +kernel))⟩
theorem lpX12_20 : pfF RX12 20 11 5 (.array .int) := ⟨_, _, _, tyX12, rfl, by decide, inX12, tyX12_ok, nmX12, rfl, rfl, by decide +kernel, gt_at (i := 1062) (by decide +kernel) (by decide +kernel)⟩
theorem lfX12_23 : gfl RX12 23 11 7 := ⟨_, _, _, rfl, by decide, inX12, Or.inl (gt_at (i := 1064) (by decide +kernel) (by decide +kernel))⟩
theorem lpX12_23 : pfF RX12 23 11 7 (.array .int) := ⟨_, _, _, tyX12, rfl, by decide, inX12, tyX12_ok, nmX12, rfl, rfl, by decide +kernel, gt_at (i := 1064) (by decide +kernel) (by decide +kernel)⟩
theorem lfX12_26 : gfl RX12 26 11 8 := ⟨_, _, _, rfl, by decide, inX12, Or.inl (gt_at (i := 1065) (by decide +kernel) (by decide +kernel))⟩
theorem lpX12_26 : pfF RX12 26 11 8 (.array .int) := ⟨_, _, _, tyX12, rfl, by decide, inX12, tyX12_ok, nmX12, rfl, rfl, by decide +kernel, gt_at (i := 1065) (by decide +kernel) (by decide +kernel)⟩
theorem lfX12_29 : gfl RX12 29 11 9 := ⟨_, _, _, rfl, by decide, inX12, Or.inl (gt_at (i := 1066) (by decide +kernel) (by decide +kernel))⟩
theorem lpX12_29 : pfF RX12 29 11 9 (.array .int) := ⟨_, _, _, tyX12, rfl, by decide, inX12, tyX12_ok, nmX12, rfl, rfl, by decide +kernel, gt_at (i := 1066) (by decide +kernel) (by decide +kernel)⟩
theorem lfX12_32 : gfl RX12 32 11 10 := ⟨_, _, _, rfl, by decide, inX12, Or.inl (gt_at (i := 1067) (by decide +kernel) (by decide +kernel))⟩
theorem lpX12_32 : pfF RX12 32 11 10 (.array .long) := ⟨_, _, _, tyX12, rfl, by decide, inX12, tyX12_ok, nmX12, rfl, rfl, by decide +kernel, gt_at (i := 1067) (by decide +kernel) (by decide +kernel)⟩
theorem lfX12_36 : gfl RX12 36 11 11 := ⟨_, _, _, rfl, by decide, inX12, Or.inl (gt_at (i := 1068) (by decide +kernel) (by decide +kernel))⟩
theorem lpX12_36 : pfF RX12 36 11 11 (.array .int) := ⟨_, _, _, tyX12, rfl, by decide, inX12, tyX12_ok, nmX12, rfl, rfl, by decide +kernel, gt_at (i := 1068) (by decide +kernel) (by decide +kernel)⟩
theorem lfX12_39 : gfl RX12 39 11 15 := ⟨_, _, _, rfl, by decide, inX12, Or.inl (gt_at (i := 1072) (by decide +kernel) (by decide +kernel))⟩
theorem lpX12_39 : pfF RX12 39 11 15 (.array .int) := ⟨_, _, _, tyX12, rfl, by decide, inX12, tyX12_ok, nmX12, rfl, rfl, by decide +kernel, gt_at (i := 1072) (by decide +kernel) (by decide +kernel)⟩
theorem lfX12_42 : gfl RX12 42 11 20 := ⟨_, _, _, rfl, by decide, inX12, Or.inl (gt_at (i := 1077) (by decide +kernel) (by decide +kernel))⟩
theorem lpX12_42 : pfF RX12 42 11 20 (.array .int) := ⟨_, _, _, tyX12, rfl, by decide, inX12, tyX12_ok, nmX12, rfl, rfl, by decide +kernel, gt_at (i := 1077) (by decide +kernel) (by decide +kernel)⟩
theorem lfX12_45 : gfl RX12 45 11 24 := ⟨_, _, _, rfl, by decide, inX12, Or.inl (gt_at (i := 1081) (by decide +kernel) (by decide +kernel))⟩
theorem lpX12_45 : pfF RX12 45 11 24 (.array .int) := ⟨_, _, _, tyX12, rfl, by decide, inX12, tyX12_ok, nmX12, rfl, rfl, by decide +kernel, gt_at (i := 1081) (by decide +kernel) (by decide +kernel)⟩
theorem lfX12_48 : gfl RX12 48 11 25 := ⟨_, _, _, rfl, by decide, inX12, Or.inl (gt_at (i := 1082) (by decide +kernel) (by decide +kernel))⟩
theorem lpX12_48 : pfF RX12 48 11 25 (.array .int) := ⟨_, _, _, tyX12, rfl, by decide, inX12, tyX12_ok, nmX12, rfl, rfl, by decide +kernel, gt_at (i := 1082) (by decide +kernel) (by decide +kernel)⟩
theorem lfX12_51 : gfl RX12 51 11 28 := ⟨_, _, _, rfl, by decide, inX12, Or.inl (gt_at (i := 1085) (by decide +kernel) (by decide +kernel))⟩
theorem lpX12_51 : pfF RX12 51 11 28 (.array .long) := ⟨_, _, _, tyX12, rfl, by decide, inX12, tyX12_ok, nmX12, rfl, rfl, by decide +kernel, gt_at (i := 1085) (by decide +kernel) (by decide +kernel)⟩
theorem lfX12_54 : gfl RX12 54 11 29 := ⟨_, _, _, rfl, by decide, inX12, Or.inl (gt_at (i := 1086) (by decide +kernel) (by decide +kernel))⟩
theorem lpX12_54 : pfF RX12 54 11 29 (.array .int) := ⟨_, _, _, tyX12, rfl, by decide, inX12, tyX12_ok, nmX12, rfl, rfl, by decide +kernel, gt_at (i := 1086) (by decide +kernel) (by decide +kernel)⟩
theorem lfX12_57 : gfl RX12 57 11 36 := ⟨_, _, _, rfl, by decide, inX12, Or.inl (gt_at (i := 1093) (by decide +kernel) (by decide +kernel))⟩
theorem lpX12_57 : pfF RX12 57 11 36 (.array .int) := ⟨_, _, _, tyX12, rfl, by decide, inX12, tyX12_ok, nmX12, rfl, rfl, by decide +kernel, gt_at (i := 1093) (by decide +kernel) (by decide +kernel)⟩
theorem lfX12_60 : gfl RX12 60 11 37 := ⟨_, _, _, rfl, by decide, inX12, Or.inl (gt_at (i := 1094) (by decide +kernel) (by decide +kernel))⟩
theorem lpX12_60 : pfF RX12 60 11 37 (.array .boolean) := ⟨_, _, _, tyX12, rfl, by decide, inX12, tyX12_ok, nmX12, rfl, rfl, by decide +kernel, gt_at (i := 1094) (by decide +kernel) (by decide +kernel)⟩
theorem lfX12_64 : gfl RX12 64 11 2 := ⟨_, _, _, rfl, by decide, inX12, Or.inl (gt_at (i := 1059) (by decide +kernel) (by decide +kernel))⟩
theorem lpX12_64 : pfl RX12 64 11 2 (.int) := ⟨_, _, _, tyX12, rfl, by decide, inX12, tyX12_ok, nmX12, rfl, by decide +kernel, Or.inl (gt_at (i := 1059) (by decide +kernel) (by decide +kernel))⟩
theorem lfX12_92 : gfl RX12 92 11 6 := ⟨_, _, _, rfl, by decide, inX12, Or.inl (gt_at (i := 1063) (by decide +kernel) (by decide +kernel))⟩
theorem lpX12_92 : pfl RX12 92 11 6 (.int) := ⟨_, _, _, tyX12, rfl, by decide, inX12, tyX12_ok, nmX12, rfl, by decide +kernel, Or.inl (gt_at (i := 1063) (by decide +kernel) (by decide +kernel))⟩
theorem lfX12_106 : gfl RX12 106 11 12 := ⟨_, _, _, rfl, by decide, inX12, Or.inl (gt_at (i := 1069) (by decide +kernel) (by decide +kernel))⟩
theorem lpX12_106 : pfl RX12 106 11 12 (.int) := ⟨_, _, _, tyX12, rfl, by decide, inX12, tyX12_ok, nmX12, rfl, by decide +kernel, Or.inl (gt_at (i := 1069) (by decide +kernel) (by decide +kernel))⟩
theorem lfX12_156 : gfl RX12 156 11 4 := ⟨_, _, _, rfl, by decide, inX12, Or.inl (gt_at (i := 1061) (by decide +kernel) (by decide +kernel))⟩
theorem lpX12_156 : pfl RX12 156 11 4 (.int) := ⟨_, _, _, tyX12, rfl, by decide, inX12, tyX12_ok, nmX12, rfl, by decide +kernel, Or.inl (gt_at (i := 1061) (by decide +kernel) (by decide +kernel))⟩
theorem lfX12_159 : gfl RX12 159 11 13 := ⟨_, _, _, rfl, by decide, inX12, Or.inl (gt_at (i := 1070) (by decide +kernel) (by decide +kernel))⟩
theorem lpX12_159 : pfl RX12 159 11 13 (.int) := ⟨_, _, _, tyX12, rfl, by decide, inX12, tyX12_ok, nmX12, rfl, by decide +kernel, Or.inl (gt_at (i := 1070) (by decide +kernel) (by decide +kernel))⟩
theorem lfX12_162 : gfl RX12 162 11 17 := ⟨_, _, _, rfl, by decide, inX12, Or.inl (gt_at (i := 1074) (by decide +kernel) (by decide +kernel))⟩
theorem lpX12_162 : pfl RX12 162 11 17 (.int) := ⟨_, _, _, tyX12, rfl, by decide, inX12, tyX12_ok, nmX12, rfl, by decide +kernel, Or.inl (gt_at (i := 1074) (by decide +kernel) (by decide +kernel))⟩
theorem lfX12_165 : gfl RX12 165 11 18 := ⟨_, _, _, rfl, by decide, inX12, Or.inl (gt_at (i := 1075) (by decide +kernel) (by decide +kernel))⟩
theorem lpX12_165 : pfl RX12 165 11 18 (.int) := ⟨_, _, _, tyX12, rfl, by decide, inX12, tyX12_ok, nmX12, rfl, by decide +kernel, Or.inl (gt_at (i := 1075) (by decide +kernel) (by decide +kernel))⟩
theorem lfX12_168 : gfl RX12 168 11 19 := ⟨_, _, _, rfl, by decide, inX12, Or.inl (gt_at (i := 1076) (by decide +kernel) (by decide +kernel))⟩
theorem lpX12_168 : pfl RX12 168 11 19 (.int) := ⟨_, _, _, tyX12, rfl, by decide, inX12, tyX12_ok, nmX12, rfl, by decide +kernel, Or.inl (gt_at (i := 1076) (by decide +kernel) (by decide +kernel))⟩
theorem lfX12_171 : gfl RX12 171 11 16 := ⟨_, _, _, rfl, by decide, inX12, Or.inl (gt_at (i := 1073) (by decide +kernel) (by decide +kernel))⟩
theorem lpX12_171 : pfl RX12 171 11 16 (.int) := ⟨_, _, _, tyX12, rfl, by decide, inX12, tyX12_ok, nmX12, rfl, by decide +kernel, Or.inl (gt_at (i := 1073) (by decide +kernel) (by decide +kernel))⟩
theorem lfX12_174 : gfl RX12 174 11 14 := ⟨_, _, _, rfl, by decide, inX12, Or.inl (gt_at (i := 1071) (by decide +kernel) (by decide +kernel))⟩
theorem lpX12_174 : pfl RX12 174 11 14 (.boolean) := ⟨_, _, _, tyX12, rfl, by decide, inX12, tyX12_ok, nmX12, rfl, by decide +kernel, Or.inl (gt_at (i := 1071) (by decide +kernel) (by decide +kernel))⟩
theorem lfX12_188 : gfl RX12 188 11 21 := ⟨_, _, _, rfl, by decide, inX12, Or.inl (gt_at (i := 1078) (by decide +kernel) (by decide +kernel))⟩
theorem lpX12_188 : pfl RX12 188 11 21 (.int) := ⟨_, _, _, tyX12, rfl, by decide, inX12, tyX12_ok, nmX12, rfl, by decide +kernel, Or.inl (gt_at (i := 1078) (by decide +kernel) (by decide +kernel))⟩
theorem lfX12_191 : gfl RX12 191 11 22 := ⟨_, _, _, rfl, by decide, inX12, Or.inl (gt_at (i := 1079) (by decide +kernel) (by decide +kernel))⟩
theorem lpX12_191 : pfl RX12 191 11 22 (.int) := ⟨_, _, _, tyX12, rfl, by decide, inX12, tyX12_ok, nmX12, rfl, by decide +kernel, Or.inl (gt_at (i := 1079) (by decide +kernel) (by decide +kernel))⟩
theorem lfX12_194 : gfl RX12 194 11 23 := ⟨_, _, _, rfl, by decide, inX12, Or.inl (gt_at (i := 1080) (by decide +kernel) (by decide +kernel))⟩
theorem lpX12_194 : pfl RX12 194 11 23 (.int) := ⟨_, _, _, tyX12, rfl, by decide, inX12, tyX12_ok, nmX12, rfl, by decide +kernel, Or.inl (gt_at (i := 1080) (by decide +kernel) (by decide +kernel))⟩
theorem lfX12_210 : gfl RX12 210 11 27 := ⟨_, _, _, rfl, by decide, inX12, Or.inl (gt_at (i := 1084) (by decide +kernel) (by decide +kernel))⟩
theorem lpX12_210 : pfl RX12 210 11 27 (.long) := ⟨_, _, _, tyX12, rfl, by decide, inX12, tyX12_ok, nmX12, rfl, by decide +kernel, Or.inl (gt_at (i := 1084) (by decide +kernel) (by decide +kernel))⟩
theorem lfX12_218 : gfl RX12 218 11 26 := ⟨_, _, _, rfl, by decide, inX12, Or.inl (gt_at (i := 1083) (by decide +kernel) (by decide +kernel))⟩
theorem lpX12_218 : pfl RX12 218 11 26 (.int) := ⟨_, _, _, tyX12, rfl, by decide, inX12, tyX12_ok, nmX12, rfl, by decide +kernel, Or.inl (gt_at (i := 1083) (by decide +kernel) (by decide +kernel))⟩
theorem lfX12_221 : gfl RX12 221 11 30 := ⟨_, _, _, rfl, by decide, inX12, Or.inl (gt_at (i := 1087) (by decide +kernel) (by decide +kernel))⟩
theorem lpX12_221 : pfl RX12 221 11 30 (.int) := ⟨_, _, _, tyX12, rfl, by decide, inX12, tyX12_ok, nmX12, rfl, by decide +kernel, Or.inl (gt_at (i := 1087) (by decide +kernel) (by decide +kernel))⟩
theorem lfX12_224 : gfl RX12 224 11 31 := ⟨_, _, _, rfl, by decide, inX12, Or.inl (gt_at (i := 1088) (by decide +kernel) (by decide +kernel))⟩
theorem lpX12_224 : pfl RX12 224 11 31 (.int) := ⟨_, _, _, tyX12, rfl, by decide, inX12, tyX12_ok, nmX12, rfl, by decide +kernel, Or.inl (gt_at (i := 1088) (by decide +kernel) (by decide +kernel))⟩
theorem lfX12_227 : gfl RX12 227 11 32 := ⟨_, _, _, rfl, by decide, inX12, Or.inl (gt_at (i := 1089) (by decide +kernel) (by decide +kernel))⟩
theorem lpX12_227 : pfl RX12 227 11 32 (.boolean) := ⟨_, _, _, tyX12, rfl, by decide, inX12, tyX12_ok, nmX12, rfl, by decide +kernel, Or.inl (gt_at (i := 1089) (by decide +kernel) (by decide +kernel))⟩
theorem lfX12_230 : gfl RX12 230 11 33 := ⟨_, _, _, rfl, by decide, inX12, Or.inl (gt_at (i := 1090) (by decide +kernel) (by decide +kernel))⟩
theorem lpX12_230 : pfl RX12 230 11 33 (.boolean) := ⟨_, _, _, tyX12, rfl, by decide, inX12, tyX12_ok, nmX12, rfl, by decide +kernel, Or.inl (gt_at (i := 1090) (by decide +kernel) (by decide +kernel))⟩
theorem lfX12_233 : gfl RX12 233 11 34 := ⟨_, _, _, rfl, by decide, inX12, Or.inl (gt_at (i := 1091) (by decide +kernel) (by decide +kernel))⟩
theorem lpX12_233 : pfl RX12 233 11 34 (.boolean) := ⟨_, _, _, tyX12, rfl, by decide, inX12, tyX12_ok, nmX12, rfl, by decide +kernel, Or.inl (gt_at (i := 1091) (by decide +kernel) (by decide +kernel))⟩
theorem lfX12_262 : gfl RX12 262 11 35 := ⟨_, _, _, rfl, by decide, inX12, Or.inl (gt_at (i := 1092) (by decide +kernel) (by decide +kernel))⟩
theorem lpX12_262 : pfl RX12 262 11 35 (.int) := ⟨_, _, _, tyX12, rfl, by decide, inX12, tyX12_ok, nmX12, rfl, by decide +kernel, Or.inl (gt_at (i := 1092) (by decide +kernel) (by decide +kernel))⟩
theorem lkX11_9 : Cond.classLink RX11 9 "PolyominoCover$Problem" ∈ gt := gt_at (i := 107) (by decide +kernel) (by decide +kernel)
theorem lkX11_16 : Cond.classLink RX11 16 "PolyominoCover$History" ∈ gt := gt_at (i := 167) (by decide +kernel) (by decide +kernel)
theorem lkX11_23 : Cond.classLink RX11 23 "PolyominoCover$Reader" ∈ gt := gt_at (i := 187) (by decide +kernel) (by decide +kernel)
theorem lkX11_30 : Cond.classLink RX11 30 "PolyominoCover$Forms" ∈ gt := gt_at (i := 218) (by decide +kernel) (by decide +kernel)
theorem lkX11_37 : Cond.classLink RX11 37 "PolyominoCover$Placements" ∈ gt := gt_at (i := 231) (by decide +kernel) (by decide +kernel)
theorem lkX11_44 : Cond.classLink RX11 44 "PolyominoCover$Symmetries" ∈ gt := gt_at (i := 265) (by decide +kernel) (by decide +kernel)
theorem lkX11_51 : Cond.classLink RX11 51 "PolyominoCover$Walk" ∈ gt := gt_at (i := 280) (by decide +kernel) (by decide +kernel)
theorem lkX11_60 : Cond.classLink RX11 60 "PolyominoCover$Covers" ∈ gt := gt_at (i := 340) (by decide +kernel) (by decide +kernel)
theorem lkX11_69 : Cond.classLink RX11 69 "PolyominoCover$Sieve" ∈ gt := gt_at (i := 375) (by decide +kernel) (by decide +kernel)
theorem lkX11_76 : Cond.classLink RX11 76 "PolyominoCover$Weights" ∈ gt := gt_at (i := 386) (by decide +kernel) (by decide +kernel)
theorem lkX2_9 : Cond.classLink RX2 9 "PolyominoCover$Problem" ∈ gt := gt_at (i := 173) (by decide +kernel) (by decide +kernel)
theorem lkX5_19 : Cond.classLink RX5 19 "PolyominoCover$Problem" ∈ gt := gt_at (i := 193) (by decide +kernel) (by decide +kernel)
theorem lcX6_9 : Cond.constant RX6 9 (-65536) ∈ gt := gt_at (i := 551) (by decide +kernel) (by decide +kernel)
theorem lcX6_22 : Cond.constant RX6 22 (-34953) ∈ gt := gt_at (i := 561) (by decide +kernel) (by decide +kernel)
theorem lcX9_88 : Cond.constant RX9 88 (60010) ∈ gt := gt_at (i := 851) (by decide +kernel) (by decide +kernel)
theorem lcX9_119 : Cond.constantLong RX9 119 (-1) ∈ gt := gt_at (i := 844) (by decide +kernel) (by decide +kernel)
theorem lkL_7 : Cond.classLink RL 7 "PolyominoCover" ∈ gt := gt_at (i := 99) (by decide +kernel) (by decide +kernel)
theorem lkL_10 : Cond.classLink RL 10 "PolyominoCoverModel" ∈ gt := gt_at (i := 1051) (by decide +kernel) (by decide +kernel)
theorem lcX12_80 : Cond.constant RX12 80 (61166) ∈ gt := gt_at (i := 1226) (by decide +kernel) (by decide +kernel)
theorem lcX12_81 : Cond.constant RX12 81 (65535) ∈ gt := gt_at (i := 1219) (by decide +kernel) (by decide +kernel)
theorem lcX12_251 : Cond.constantLong RX12 251 (-1) ∈ gt := gt_at (i := 1391) (by decide +kernel) (by decide +kernel)
theorem lcJ6_265 : Cond.constant RJ6 265 (1431655765) ∈ gt := gt_at (i := 555) (by decide +kernel) (by decide +kernel)
theorem lcJ6_266 : Cond.constant RJ6 266 (858993459) ∈ gt := gt_at (i := 556) (by decide +kernel) (by decide +kernel)
theorem lcJ6_267 : Cond.constant RJ6 267 (252645135) ∈ gt := gt_at (i := 557) (by decide +kernel) (by decide +kernel)
theorem lcJ13_314 : Cond.constantLong RJ13 314 (6148914691236517205) ∈ gt := gt_at (i := 536) (by decide +kernel) (by decide +kernel)
theorem lcJ13_316 : Cond.constantLong RJ13 316 (3689348814741910323) ∈ gt := gt_at (i := 537) (by decide +kernel) (by decide +kernel)
theorem lcJ13_318 : Cond.constantLong RJ13 318 (1085102592571150095) ∈ gt := gt_at (i := 538) (by decide +kernel) (by decide +kernel)
theorem lzL : Cond.initialized RL ∈ gt := gt_at (i := 82) (by decide +kernel) (by decide +kernel)
theorem lzX11 : Cond.initialized RX11 ∈ gt := gt_at (i := 83) (by decide +kernel) (by decide +kernel)
theorem lzX4 : Cond.initialized RX4 ∈ gt := gt_at (i := 84) (by decide +kernel) (by decide +kernel)
theorem lzX2 : Cond.initialized RX2 ∈ gt := gt_at (i := 85) (by decide +kernel) (by decide +kernel)
theorem lzX5 : Cond.initialized RX5 ∈ gt := gt_at (i := 86) (by decide +kernel) (by decide +kernel)
theorem lzX1 : Cond.initialized RX1 ∈ gt := gt_at (i := 87) (by decide +kernel) (by decide +kernel)
theorem lzX3 : Cond.initialized RX3 ∈ gt := gt_at (i := 88) (by decide +kernel) (by decide +kernel)
theorem lzX8 : Cond.initialized RX8 ∈ gt := gt_at (i := 89) (by decide +kernel) (by decide +kernel)
theorem lzX9 : Cond.initialized RX9 ∈ gt := gt_at (i := 90) (by decide +kernel) (by decide +kernel)
theorem lzX0 : Cond.initialized RX0 ∈ gt := gt_at (i := 91) (by decide +kernel) (by decide +kernel)
theorem lzX7 : Cond.initialized RX7 ∈ gt := gt_at (i := 92) (by decide +kernel) (by decide +kernel)
theorem lzX10 : Cond.initialized RX10 ∈ gt := gt_at (i := 93) (by decide +kernel) (by decide +kernel)
theorem lzX12 : Cond.initialized RX12 ∈ gt := gt_at (i := 94) (by decide +kernel) (by decide +kernel)
theorem lzJ13 : Cond.initialized RJ13 ∈ gt := gt_at (i := 95) (by decide +kernel) (by decide +kernel)
theorem lzX6 : Cond.initialized RX6 ∈ gt := gt_at (i := 96) (by decide +kernel) (by decide +kernel)
theorem lzJ6 : Cond.initialized RJ6 ∈ gt := gt_at (i := 97) (by decide +kernel) (by decide +kernel)
theorem lzJ9 : Cond.initialized RJ9 ∈ gt := gt_at (i := 98) (by decide +kernel) (by decide +kernel)
theorem liX11 : Cond.instantiable RX11 13 ∈ gt := gt_at (i := 100) (by decide +kernel) (by decide +kernel)
theorem loX11_3 : Cond.methodLink RX11 3 objectInit ∈ gt := gt_at (i := 104) (by decide +kernel) (by decide +kernel)
theorem liX4 : Cond.instantiable RX4 10 ∈ gt := gt_at (i := 108) (by decide +kernel) (by decide +kernel)
theorem loX4_3 : Cond.methodLink RX4 3 objectInit ∈ gt := gt_at (i := 112) (by decide +kernel) (by decide +kernel)
theorem la_int : Cond.arrayClass .int ∈ gt := gt_at (i := 166) (by decide +kernel) (by decide +kernel)
theorem liX2 : Cond.instantiable RX2 3 ∈ gt := gt_at (i := 168) (by decide +kernel) (by decide +kernel)
theorem loX2_3 : Cond.methodLink RX2 3 objectInit ∈ gt := gt_at (i := 172) (by decide +kernel) (by decide +kernel)
theorem liX5 : Cond.instantiable RX5 7 ∈ gt := gt_at (i := 188) (by decide +kernel) (by decide +kernel)
theorem loX5_3 : Cond.methodLink RX5 3 objectInit ∈ gt := gt_at (i := 192) (by decide +kernel) (by decide +kernel)
theorem liX1 : Cond.instantiable RX1 2 ∈ gt := gt_at (i := 219) (by decide +kernel) (by decide +kernel)
theorem loX1_3 : Cond.methodLink RX1 3 objectInit ∈ gt := gt_at (i := 223) (by decide +kernel) (by decide +kernel)
theorem liX3 : Cond.instantiable RX3 6 ∈ gt := gt_at (i := 232) (by decide +kernel) (by decide +kernel)
theorem loX3_3 : Cond.methodLink RX3 3 objectInit ∈ gt := gt_at (i := 236) (by decide +kernel) (by decide +kernel)
theorem la_long : Cond.arrayClass .long ∈ gt := gt_at (i := 264) (by decide +kernel) (by decide +kernel)
theorem liX8 : Cond.instantiable RX8 2 ∈ gt := gt_at (i := 266) (by decide +kernel) (by decide +kernel)
theorem loX8_3 : Cond.methodLink RX8 3 objectInit ∈ gt := gt_at (i := 270) (by decide +kernel) (by decide +kernel)
theorem liX9 : Cond.instantiable RX9 16 ∈ gt := gt_at (i := 281) (by decide +kernel) (by decide +kernel)
theorem loX9_3 : Cond.methodLink RX9 3 objectInit ∈ gt := gt_at (i := 285) (by decide +kernel) (by decide +kernel)
theorem liX0 : Cond.instantiable RX0 8 ∈ gt := gt_at (i := 341) (by decide +kernel) (by decide +kernel)
theorem loX0_3 : Cond.methodLink RX0 3 objectInit ∈ gt := gt_at (i := 345) (by decide +kernel) (by decide +kernel)
theorem liX7 : Cond.instantiable RX7 1 ∈ gt := gt_at (i := 376) (by decide +kernel) (by decide +kernel)
theorem loX7_3 : Cond.methodLink RX7 3 objectInit ∈ gt := gt_at (i := 380) (by decide +kernel) (by decide +kernel)
theorem la_boolean : Cond.arrayClass .boolean ∈ gt := gt_at (i := 385) (by decide +kernel) (by decide +kernel)
theorem liX10 : Cond.instantiable RX10 3 ∈ gt := gt_at (i := 387) (by decide +kernel) (by decide +kernel)
theorem loX10_3 : Cond.methodLink RX10 3 objectInit ∈ gt := gt_at (i := 391) (by decide +kernel) (by decide +kernel)
theorem liX12 : Cond.instantiable RX12 38 ∈ gt := gt_at (i := 1052) (by decide +kernel) (by decide +kernel)
theorem loX12_1 : Cond.methodLink RX12 1 objectInit ∈ gt := gt_at (i := 1056) (by decide +kernel) (by decide +kernel)
theorem la_byte : Cond.arrayClass .byte ∈ gt := gt_at (i := 1172) (by decide +kernel) (by decide +kernel)
theorem lo_inst : Cond.instanceMethod objectInit ∈ gt := gt_at (i := 105) (by decide +kernel) (by decide +kernel)
theorem lo_code : Cond.code objectInit ⟨#[0xb1]⟩ 1 none ∈ gt := gt_at (i := 106) (by decide +kernel) (by decide +kernel)
theorem lo_over : lw_tbl[174]? = some (Cond.arrayOver (.object RX4)) := by decide +kernel
end
section
theorem dX0_init_0 : decode cX0_init 0 = .ok (.aload_n 0, 1) := by decide +kernel
theorem dX0_init_1 : decode cX0_init 1 = .ok (.invokespecial 3, 3) := by decide +kernel
theorem dX0_init_4 : decode cX0_init 4 = .ok (.aload_n 0, 1) := by decide +kernel
theorem dX0_init_5 : decode cX0_init 5 = .ok (.sipush 3672, 3) := by decide +kernel
theorem dX0_init_8 : decode cX0_init 8 = .ok (.newarray .int, 2) := by decide +kernel
theorem dX0_init_10 : decode cX0_init 10 = .ok (.putfield 9, 3) := by decide +kernel
theorem dX0_init_13 : decode cX0_init 13 = .ok (.aload_n 0, 1) := by decide +kernel
theorem dX0_init_14 : decode cX0_init 14 = .ok (.iconst 0, 1) := by decide +kernel
theorem dX0_init_15 : decode cX0_init 15 = .ok (.putfield 15, 3) := by decide +kernel
theorem dX0_init_18 : decode cX0_init 18 = .ok (.aload_n 0, 1) := by decide +kernel
theorem dX0_init_19 : decode cX0_init 19 = .ok (.iconst 0, 1) := by decide +kernel
theorem dX0_init_20 : decode cX0_init 20 = .ok (.putfield 19, 3) := by decide +kernel
theorem dX0_init_23 : decode cX0_init 23 = .ok (.aload_n 0, 1) := by decide +kernel
theorem dX0_init_24 : decode cX0_init 24 = .ok (.iconst 0, 1) := by decide +kernel
theorem dX0_init_25 : decode cX0_init 25 = .ok (.putfield 22, 3) := by decide +kernel
theorem dX0_init_28 : decode cX0_init 28 = .ok (.aload_n 0, 1) := by decide +kernel
theorem dX0_init_29 : decode cX0_init 29 = .ok (.iconst 0, 1) := by decide +kernel
theorem dX0_init_30 : decode cX0_init 30 = .ok (.putfield 25, 3) := by decide +kernel
theorem dX0_init_33 : decode cX0_init 33 = .ok (.aload_n 0, 1) := by decide +kernel
theorem dX0_init_34 : decode cX0_init 34 = .ok (.aload_n 1, 1) := by decide +kernel
theorem dX0_init_35 : decode cX0_init 35 = .ok (.putfield 29, 3) := by decide +kernel
theorem dX0_init_38 : decode cX0_init 38 = .ok (.aload_n 0, 1) := by decide +kernel
theorem dX0_init_39 : decode cX0_init 39 = .ok (.aload_n 2, 1) := by decide +kernel
theorem dX0_init_40 : decode cX0_init 40 = .ok (.putfield 33, 3) := by decide +kernel
theorem dX0_init_43 : decode cX0_init 43 = .ok (.aload_n 0, 1) := by decide +kernel
theorem dX0_init_44 : decode cX0_init 44 = .ok (.aload_n 3, 1) := by decide +kernel
theorem dX0_init_45 : decode cX0_init 45 = .ok (.putfield 37, 3) := by decide +kernel
theorem dX0_init_48 : decode cX0_init 48 = .ok (.return_, 1) := by decide +kernel
theorem dX0_collect_0 : decode cX0_collect 0 = .ok (.aload_n 0, 1) := by decide +kernel
theorem dX0_collect_1 : decode cX0_collect 1 = .ok (.iconst 0, 1) := by decide +kernel
theorem dX0_collect_2 : decode cX0_collect 2 = .ok (.putfield 15, 3) := by decide +kernel
theorem dX0_collect_5 : decode cX0_collect 5 = .ok (.aload_n 0, 1) := by decide +kernel
theorem dX0_collect_6 : decode cX0_collect 6 = .ok (.iconst 0, 1) := by decide +kernel
theorem dX0_collect_7 : decode cX0_collect 7 = .ok (.putfield 22, 3) := by decide +kernel
theorem dX0_collect_10 : decode cX0_collect 10 = .ok (.aload_n 0, 1) := by decide +kernel
theorem dX0_collect_11 : decode cX0_collect 11 = .ok (.getfield 29, 3) := by decide +kernel
theorem dX0_collect_14 : decode cX0_collect 14 = .ok (.invokevirtual 41, 3) := by decide +kernel
theorem dX0_collect_17 : decode cX0_collect 17 = .ok (.iconst 0, 1) := by decide +kernel
theorem dX0_collect_18 : decode cX0_collect 18 = .ok (.istore_n 1, 1) := by decide +kernel
theorem dX0_collect_19 : decode cX0_collect 19 = .ok (.iload_n 1, 1) := by decide +kernel
theorem dX0_collect_20 : decode cX0_collect 20 = .ok (.sipush 20000, 3) := by decide +kernel
theorem dX0_collect_23 : decode cX0_collect 23 = .ok (.if_icmp .gt 91, 3) := by decide +kernel
theorem dX0_collect_26 : decode cX0_collect 26 = .ok (.aload_n 0, 1) := by decide +kernel
theorem dX0_collect_27 : decode cX0_collect 27 = .ok (.getfield 29, 3) := by decide +kernel
theorem dX0_collect_30 : decode cX0_collect 30 = .ok (.invokevirtual 46, 3) := by decide +kernel
theorem dX0_collect_33 : decode cX0_collect 33 = .ok (.ifCond .eq 81, 3) := by decide +kernel
theorem dX0_collect_36 : decode cX0_collect 36 = .ok (.aload_n 0, 1) := by decide +kernel
theorem dX0_collect_37 : decode cX0_collect 37 = .ok (.getfield 15, 3) := by decide +kernel
theorem dX0_collect_40 : decode cX0_collect 40 = .ok (.bipush 100, 2) := by decide +kernel
theorem dX0_collect_42 : decode cX0_collect 42 = .ok (.if_icmp .ge 21, 3) := by decide +kernel
theorem dX0_collect_45 : decode cX0_collect 45 = .ok (.aload_n 0, 1) := by decide +kernel
theorem dX0_collect_46 : decode cX0_collect 46 = .ok (.getfield 29, 3) := by decide +kernel
theorem dX0_collect_49 : decode cX0_collect 49 = .ok (.aload_n 0, 1) := by decide +kernel
theorem dX0_collect_50 : decode cX0_collect 50 = .ok (.getfield 9, 3) := by decide +kernel
theorem dX0_collect_53 : decode cX0_collect 53 = .ok (.aload_n 0, 1) := by decide +kernel
theorem dX0_collect_54 : decode cX0_collect 54 = .ok (.getfield 15, 3) := by decide +kernel
theorem dX0_collect_57 : decode cX0_collect 57 = .ok (.bipush 36, 2) := by decide +kernel
theorem dX0_collect_59 : decode cX0_collect 59 = .ok (.imul, 1) := by decide +kernel
theorem dX0_collect_60 : decode cX0_collect 60 = .ok (.invokevirtual 50, 3) := by decide +kernel
theorem dX0_collect_63 : decode cX0_collect 63 = .ok (.aload_n 0, 1) := by decide +kernel
theorem dX0_collect_64 : decode cX0_collect 64 = .ok (.aload_n 0, 1) := by decide +kernel
theorem dX0_collect_65 : decode cX0_collect 65 = .ok (.getfield 15, 3) := by decide +kernel
theorem dX0_collect_68 : decode cX0_collect 68 = .ok (.ifCond .ne 13, 3) := by decide +kernel
theorem dX0_collect_71 : decode cX0_collect 71 = .ok (.aload_n 0, 1) := by decide +kernel
theorem dX0_collect_72 : decode cX0_collect 72 = .ok (.getfield 29, 3) := by decide +kernel
theorem dX0_collect_75 : decode cX0_collect 75 = .ok (.getfield 54, 3) := by decide +kernel
theorem dX0_collect_78 : decode cX0_collect 78 = .ok (.goto 17, 3) := by decide +kernel
theorem dX0_collect_81 : decode cX0_collect 81 = .ok (.aload_n 0, 1) := by decide +kernel
theorem dX0_collect_82 : decode cX0_collect 82 = .ok (.getfield 22, 3) := by decide +kernel
theorem dX0_collect_85 : decode cX0_collect 85 = .ok (.aload_n 0, 1) := by decide +kernel
theorem dX0_collect_86 : decode cX0_collect 86 = .ok (.getfield 29, 3) := by decide +kernel
theorem dX0_collect_89 : decode cX0_collect 89 = .ok (.getfield 54, 3) := by decide +kernel
theorem dX0_collect_92 : decode cX0_collect 92 = .ok (.invokestatic 57, 3) := by decide +kernel
theorem dX0_collect_95 : decode cX0_collect 95 = .ok (.putfield 22, 3) := by decide +kernel
theorem dX0_collect_98 : decode cX0_collect 98 = .ok (.aload_n 0, 1) := by decide +kernel
theorem dX0_collect_99 : decode cX0_collect 99 = .ok (.dup, 1) := by decide +kernel
theorem dX0_collect_100 : decode cX0_collect 100 = .ok (.getfield 15, 3) := by decide +kernel
theorem dX0_collect_103 : decode cX0_collect 103 = .ok (.iconst 1, 1) := by decide +kernel
theorem dX0_collect_104 : decode cX0_collect 104 = .ok (.iadd, 1) := by decide +kernel
theorem dX0_collect_105 : decode cX0_collect 105 = .ok (.putfield 15, 3) := by decide +kernel
theorem dX0_collect_108 : decode cX0_collect 108 = .ok (.iinc 1 1, 3) := by decide +kernel
theorem dX0_collect_111 : decode cX0_collect 111 = .ok (.goto (-92), 3) := by decide +kernel
theorem dX0_collect_114 : decode cX0_collect 114 = .ok (.aload_n 0, 1) := by decide +kernel
theorem dX0_collect_115 : decode cX0_collect 115 = .ok (.aload_n 0, 1) := by decide +kernel
theorem dX0_collect_116 : decode cX0_collect 116 = .ok (.getfield 29, 3) := by decide +kernel
theorem dX0_collect_119 : decode cX0_collect 119 = .ok (.getfield 63, 3) := by decide +kernel
theorem dX0_collect_122 : decode cX0_collect 122 = .ok (.putfield 19, 3) := by decide +kernel
theorem dX0_collect_125 : decode cX0_collect 125 = .ok (.aload_n 0, 1) := by decide +kernel
theorem dX0_collect_126 : decode cX0_collect 126 = .ok (.aload_n 0, 1) := by decide +kernel
theorem dX0_collect_127 : decode cX0_collect 127 = .ok (.getfield 29, 3) := by decide +kernel
theorem dX0_collect_130 : decode cX0_collect 130 = .ok (.getfield 64, 3) := by decide +kernel
theorem dX0_collect_133 : decode cX0_collect 133 = .ok (.ifCond .ne 7, 3) := by decide +kernel
theorem dX0_collect_136 : decode cX0_collect 136 = .ok (.iconst 1, 1) := by decide +kernel
theorem dX0_collect_137 : decode cX0_collect 137 = .ok (.goto 4, 3) := by decide +kernel
theorem dX0_collect_140 : decode cX0_collect 140 = .ok (.iconst 0, 1) := by decide +kernel
theorem dX0_collect_141 : decode cX0_collect 141 = .ok (.putfield 25, 3) := by decide +kernel
theorem dX0_collect_144 : decode cX0_collect 144 = .ok (.return_, 1) := by decide +kernel
theorem dX0_rowOf_0 : decode cX0_rowOf 0 = .ok (.iload_n 1, 1) := by decide +kernel
theorem dX0_rowOf_1 : decode cX0_rowOf 1 = .ok (.bipush 100, 2) := by decide +kernel
theorem dX0_rowOf_3 : decode cX0_rowOf 3 = .ok (.if_icmp .ge 5, 3) := by decide +kernel
theorem dX0_rowOf_6 : decode cX0_rowOf 6 = .ok (.iload_n 1, 1) := by decide +kernel
theorem dX0_rowOf_7 : decode cX0_rowOf 7 = .ok (.ireturn, 1) := by decide +kernel
theorem dX0_rowOf_8 : decode cX0_rowOf 8 = .ok (.aload_n 0, 1) := by decide +kernel
theorem dX0_rowOf_9 : decode cX0_rowOf 9 = .ok (.getfield 29, 3) := by decide +kernel
theorem dX0_rowOf_12 : decode cX0_rowOf 12 = .ok (.getfield 67, 3) := by decide +kernel
theorem dX0_rowOf_15 : decode cX0_rowOf 15 = .ok (.ifCond .ne 16, 3) := by decide +kernel
theorem dX0_rowOf_18 : decode cX0_rowOf 18 = .ok (.aload_n 0, 1) := by decide +kernel
theorem dX0_rowOf_19 : decode cX0_rowOf 19 = .ok (.getfield 29, 3) := by decide +kernel
theorem dX0_rowOf_22 : decode cX0_rowOf 22 = .ok (.getfield 70, 3) := by decide +kernel
theorem dX0_rowOf_25 : decode cX0_rowOf 25 = .ok (.iload_n 1, 1) := by decide +kernel
theorem dX0_rowOf_26 : decode cX0_rowOf 26 = .ok (.iconst 1, 1) := by decide +kernel
theorem dX0_rowOf_27 : decode cX0_rowOf 27 = .ok (.iadd, 1) := by decide +kernel
theorem dX0_rowOf_28 : decode cX0_rowOf 28 = .ok (.if_icmp .le 10, 3) := by decide +kernel
theorem dX0_rowOf_31 : decode cX0_rowOf 31 = .ok (.aload_n 0, 1) := by decide +kernel
theorem dX0_rowOf_32 : decode cX0_rowOf 32 = .ok (.getfield 29, 3) := by decide +kernel
theorem dX0_rowOf_35 : decode cX0_rowOf 35 = .ok (.invokevirtual 41, 3) := by decide +kernel
theorem dX0_rowOf_38 : decode cX0_rowOf 38 = .ok (.iconst 0, 1) := by decide +kernel
theorem dX0_rowOf_39 : decode cX0_rowOf 39 = .ok (.istore_n 3, 1) := by decide +kernel
theorem dX0_rowOf_40 : decode cX0_rowOf 40 = .ok (.iload_n 3, 1) := by decide +kernel
theorem dX0_rowOf_41 : decode cX0_rowOf 41 = .ok (.sipush 20000, 3) := by decide +kernel
theorem dX0_rowOf_44 : decode cX0_rowOf 44 = .ok (.if_icmp .gt 28, 3) := by decide +kernel
theorem dX0_rowOf_47 : decode cX0_rowOf 47 = .ok (.aload_n 0, 1) := by decide +kernel
theorem dX0_rowOf_48 : decode cX0_rowOf 48 = .ok (.getfield 29, 3) := by decide +kernel
theorem dX0_rowOf_51 : decode cX0_rowOf 51 = .ok (.getfield 70, 3) := by decide +kernel
theorem dX0_rowOf_54 : decode cX0_rowOf 54 = .ok (.iload_n 1, 1) := by decide +kernel
theorem dX0_rowOf_55 : decode cX0_rowOf 55 = .ok (.if_icmp .gt 17, 3) := by decide +kernel
theorem dX0_rowOf_58 : decode cX0_rowOf 58 = .ok (.aload_n 0, 1) := by decide +kernel
theorem dX0_rowOf_59 : decode cX0_rowOf 59 = .ok (.getfield 29, 3) := by decide +kernel
theorem dX0_rowOf_62 : decode cX0_rowOf 62 = .ok (.invokevirtual 46, 3) := by decide +kernel
theorem dX0_rowOf_65 : decode cX0_rowOf 65 = .ok (.pop, 1) := by decide +kernel
theorem dX0_rowOf_66 : decode cX0_rowOf 66 = .ok (.iinc 3 1, 3) := by decide +kernel
theorem dX0_rowOf_69 : decode cX0_rowOf 69 = .ok (.goto (-29), 3) := by decide +kernel
theorem dX0_rowOf_72 : decode cX0_rowOf 72 = .ok (.aload_n 0, 1) := by decide +kernel
theorem dX0_rowOf_73 : decode cX0_rowOf 73 = .ok (.getfield 29, 3) := by decide +kernel
theorem dX0_rowOf_76 : decode cX0_rowOf 76 = .ok (.aload_n 0, 1) := by decide +kernel
theorem dX0_rowOf_77 : decode cX0_rowOf 77 = .ok (.getfield 9, 3) := by decide +kernel
theorem dX0_rowOf_80 : decode cX0_rowOf 80 = .ok (.bipush 100, 2) := by decide +kernel
theorem dX0_rowOf_82 : decode cX0_rowOf 82 = .ok (.iload_n 2, 1) := by decide +kernel
theorem dX0_rowOf_83 : decode cX0_rowOf 83 = .ok (.iadd, 1) := by decide +kernel
theorem dX0_rowOf_84 : decode cX0_rowOf 84 = .ok (.bipush 36, 2) := by decide +kernel
theorem dX0_rowOf_86 : decode cX0_rowOf 86 = .ok (.imul, 1) := by decide +kernel
theorem dX0_rowOf_87 : decode cX0_rowOf 87 = .ok (.invokevirtual 50, 3) := by decide +kernel
theorem dX0_rowOf_90 : decode cX0_rowOf 90 = .ok (.bipush 100, 2) := by decide +kernel
theorem dX0_rowOf_92 : decode cX0_rowOf 92 = .ok (.iload_n 2, 1) := by decide +kernel
theorem dX0_rowOf_93 : decode cX0_rowOf 93 = .ok (.iadd, 1) := by decide +kernel
theorem dX0_rowOf_94 : decode cX0_rowOf 94 = .ok (.ireturn, 1) := by decide +kernel
theorem dX0_placementAt_0 : decode cX0_placementAt 0 = .ok (.aload_n 0, 1) := by decide +kernel
theorem dX0_placementAt_1 : decode cX0_placementAt 1 = .ok (.getfield 9, 3) := by decide +kernel
theorem dX0_placementAt_4 : decode cX0_placementAt 4 = .ok (.iload_n 1, 1) := by decide +kernel
theorem dX0_placementAt_5 : decode cX0_placementAt 5 = .ok (.bipush 36, 2) := by decide +kernel
theorem dX0_placementAt_7 : decode cX0_placementAt 7 = .ok (.imul, 1) := by decide +kernel
theorem dX0_placementAt_8 : decode cX0_placementAt 8 = .ok (.iload_n 2, 1) := by decide +kernel
theorem dX0_placementAt_9 : decode cX0_placementAt 9 = .ok (.iadd, 1) := by decide +kernel
theorem dX0_placementAt_10 : decode cX0_placementAt 10 = .ok (.invokestatic 73, 3) := by decide +kernel
theorem dX0_placementAt_13 : decode cX0_placementAt 13 = .ok (.ireturn, 1) := by decide +kernel
theorem dX0_beginsAt_0 : decode cX0_beginsAt 0 = .ok (.iload_n 1, 1) := by decide +kernel
theorem dX0_beginsAt_1 : decode cX0_beginsAt 1 = .ok (.iconst (-1), 1) := by decide +kernel
theorem dX0_beginsAt_2 : decode cX0_beginsAt 2 = .ok (.if_icmp .eq 22, 3) := by decide +kernel
theorem dX0_beginsAt_5 : decode cX0_beginsAt 5 = .ok (.aload_n 0, 1) := by decide +kernel
theorem dX0_beginsAt_6 : decode cX0_beginsAt 6 = .ok (.getfield 33, 3) := by decide +kernel
theorem dX0_beginsAt_9 : decode cX0_beginsAt 9 = .ok (.iload_n 1, 1) := by decide +kernel
theorem dX0_beginsAt_10 : decode cX0_beginsAt 10 = .ok (.invokevirtual 77, 3) := by decide +kernel
theorem dX0_beginsAt_13 : decode cX0_beginsAt 13 = .ok (.invokestatic 83, 3) := by decide +kernel
theorem dX0_beginsAt_16 : decode cX0_beginsAt 16 = .ok (.iload_n 2, 1) := by decide +kernel
theorem dX0_beginsAt_17 : decode cX0_beginsAt 17 = .ok (.if_icmp .ne 7, 3) := by decide +kernel
theorem dX0_beginsAt_20 : decode cX0_beginsAt 20 = .ok (.iconst 1, 1) := by decide +kernel
theorem dX0_beginsAt_21 : decode cX0_beginsAt 21 = .ok (.goto 4, 3) := by decide +kernel
theorem dX0_beginsAt_24 : decode cX0_beginsAt 24 = .ok (.iconst 0, 1) := by decide +kernel
theorem dX0_beginsAt_25 : decode cX0_beginsAt 25 = .ok (.ireturn, 1) := by decide +kernel
theorem dX0_usesOf_0 : decode cX0_usesOf 0 = .ok (.iconst 0, 1) := by decide +kernel
theorem dX0_usesOf_1 : decode cX0_usesOf 1 = .ok (.istore_n 3, 1) := by decide +kernel
theorem dX0_usesOf_2 : decode cX0_usesOf 2 = .ok (.iconst 0, 1) := by decide +kernel
theorem dX0_usesOf_3 : decode cX0_usesOf 3 = .ok (.istore 4, 2) := by decide +kernel
theorem dX0_usesOf_5 : decode cX0_usesOf 5 = .ok (.iload 4, 2) := by decide +kernel
theorem dX0_usesOf_7 : decode cX0_usesOf 7 = .ok (.bipush 36, 2) := by decide +kernel
theorem dX0_usesOf_9 : decode cX0_usesOf 9 = .ok (.if_icmp .ge 45, 3) := by decide +kernel
theorem dX0_usesOf_12 : decode cX0_usesOf 12 = .ok (.aload_n 0, 1) := by decide +kernel
theorem dX0_usesOf_13 : decode cX0_usesOf 13 = .ok (.iload_n 2, 1) := by decide +kernel
theorem dX0_usesOf_14 : decode cX0_usesOf 14 = .ok (.iload 4, 2) := by decide +kernel
theorem dX0_usesOf_16 : decode cX0_usesOf 16 = .ok (.invokevirtual 87, 3) := by decide +kernel
theorem dX0_usesOf_19 : decode cX0_usesOf 19 = .ok (.istore 5, 2) := by decide +kernel
theorem dX0_usesOf_21 : decode cX0_usesOf 21 = .ok (.aload_n 0, 1) := by decide +kernel
theorem dX0_usesOf_22 : decode cX0_usesOf 22 = .ok (.iload 5, 2) := by decide +kernel
theorem dX0_usesOf_24 : decode cX0_usesOf 24 = .ok (.iload 4, 2) := by decide +kernel
theorem dX0_usesOf_26 : decode cX0_usesOf 26 = .ok (.invokevirtual 90, 3) := by decide +kernel
theorem dX0_usesOf_29 : decode cX0_usesOf 29 = .ok (.ifCond .eq 19, 3) := by decide +kernel
theorem dX0_usesOf_32 : decode cX0_usesOf 32 = .ok (.aload_n 0, 1) := by decide +kernel
theorem dX0_usesOf_33 : decode cX0_usesOf 33 = .ok (.getfield 33, 3) := by decide +kernel
theorem dX0_usesOf_36 : decode cX0_usesOf 36 = .ok (.iload 5, 2) := by decide +kernel
theorem dX0_usesOf_38 : decode cX0_usesOf 38 = .ok (.invokevirtual 94, 3) := by decide +kernel
theorem dX0_usesOf_41 : decode cX0_usesOf 41 = .ok (.iload_n 1, 1) := by decide +kernel
theorem dX0_usesOf_42 : decode cX0_usesOf 42 = .ok (.if_icmp .ne 6, 3) := by decide +kernel
theorem dX0_usesOf_45 : decode cX0_usesOf 45 = .ok (.iinc 3 1, 3) := by decide +kernel
theorem dX0_usesOf_48 : decode cX0_usesOf 48 = .ok (.iinc 4 1, 3) := by decide +kernel
theorem dX0_usesOf_51 : decode cX0_usesOf 51 = .ok (.goto (-46), 3) := by decide +kernel
theorem dX0_usesOf_54 : decode cX0_usesOf 54 = .ok (.iload_n 3, 1) := by decide +kernel
theorem dX0_usesOf_55 : decode cX0_usesOf 55 = .ok (.ireturn, 1) := by decide +kernel
theorem dX0_classCount_0 : decode cX0_classCount 0 = .ok (.iconst 0, 1) := by decide +kernel
theorem dX0_classCount_1 : decode cX0_classCount 1 = .ok (.istore_n 1, 1) := by decide +kernel
theorem dX0_classCount_2 : decode cX0_classCount 2 = .ok (.iconst 0, 1) := by decide +kernel
theorem dX0_classCount_3 : decode cX0_classCount 3 = .ok (.istore_n 2, 1) := by decide +kernel
theorem dX0_classCount_4 : decode cX0_classCount 4 = .ok (.iload_n 2, 1) := by decide +kernel
theorem dX0_classCount_5 : decode cX0_classCount 5 = .ok (.aload_n 0, 1) := by decide +kernel
theorem dX0_classCount_6 : decode cX0_classCount 6 = .ok (.getfield 15, 3) := by decide +kernel
theorem dX0_classCount_9 : decode cX0_classCount 9 = .ok (.if_icmp .ge 26, 3) := by decide +kernel
theorem dX0_classCount_12 : decode cX0_classCount 12 = .ok (.iload_n 2, 1) := by decide +kernel
theorem dX0_classCount_13 : decode cX0_classCount 13 = .ok (.bipush 100, 2) := by decide +kernel
theorem dX0_classCount_15 : decode cX0_classCount 15 = .ok (.if_icmp .ge 20, 3) := by decide +kernel
theorem dX0_classCount_18 : decode cX0_classCount 18 = .ok (.aload_n 0, 1) := by decide +kernel
theorem dX0_classCount_19 : decode cX0_classCount 19 = .ok (.iload_n 2, 1) := by decide +kernel
theorem dX0_classCount_20 : decode cX0_classCount 20 = .ok (.invokevirtual 98, 3) := by decide +kernel
theorem dX0_classCount_23 : decode cX0_classCount 23 = .ok (.ifCond .ne 6, 3) := by decide +kernel
theorem dX0_classCount_26 : decode cX0_classCount 26 = .ok (.iinc 1 1, 3) := by decide +kernel
theorem dX0_classCount_29 : decode cX0_classCount 29 = .ok (.iinc 2 1, 3) := by decide +kernel
theorem dX0_classCount_32 : decode cX0_classCount 32 = .ok (.goto (-28), 3) := by decide +kernel
theorem dX0_classCount_35 : decode cX0_classCount 35 = .ok (.iload_n 1, 1) := by decide +kernel
theorem dX0_classCount_36 : decode cX0_classCount 36 = .ok (.ireturn, 1) := by decide +kernel
theorem dX0_isLikeEarlier_0 : decode cX0_isLikeEarlier 0 = .ok (.iconst 0, 1) := by decide +kernel
theorem dX0_isLikeEarlier_1 : decode cX0_isLikeEarlier 1 = .ok (.istore_n 2, 1) := by decide +kernel
theorem dX0_isLikeEarlier_2 : decode cX0_isLikeEarlier 2 = .ok (.iload_n 2, 1) := by decide +kernel
theorem dX0_isLikeEarlier_3 : decode cX0_isLikeEarlier 3 = .ok (.iload_n 1, 1) := by decide +kernel
theorem dX0_isLikeEarlier_4 : decode cX0_isLikeEarlier 4 = .ok (.if_icmp .ge 20, 3) := by decide +kernel
theorem dX0_isLikeEarlier_7 : decode cX0_isLikeEarlier 7 = .ok (.aload_n 0, 1) := by decide +kernel
theorem dX0_isLikeEarlier_8 : decode cX0_isLikeEarlier 8 = .ok (.iload_n 2, 1) := by decide +kernel
theorem dX0_isLikeEarlier_9 : decode cX0_isLikeEarlier 9 = .ok (.iload_n 1, 1) := by decide +kernel
theorem dX0_isLikeEarlier_10 : decode cX0_isLikeEarlier 10 = .ok (.invokevirtual 102, 3) := by decide +kernel
theorem dX0_isLikeEarlier_13 : decode cX0_isLikeEarlier 13 = .ok (.ifCond .eq 5, 3) := by decide +kernel
theorem dX0_isLikeEarlier_16 : decode cX0_isLikeEarlier 16 = .ok (.iconst 1, 1) := by decide +kernel
theorem dX0_isLikeEarlier_17 : decode cX0_isLikeEarlier 17 = .ok (.ireturn, 1) := by decide +kernel
theorem dX0_isLikeEarlier_18 : decode cX0_isLikeEarlier 18 = .ok (.iinc 2 1, 3) := by decide +kernel
theorem dX0_isLikeEarlier_21 : decode cX0_isLikeEarlier 21 = .ok (.goto (-19), 3) := by decide +kernel
theorem dX0_isLikeEarlier_24 : decode cX0_isLikeEarlier 24 = .ok (.iconst 0, 1) := by decide +kernel
theorem dX0_isLikeEarlier_25 : decode cX0_isLikeEarlier 25 = .ok (.ireturn, 1) := by decide +kernel
theorem dX0_areAlike_0 : decode cX0_areAlike 0 = .ok (.iconst 0, 1) := by decide +kernel
theorem dX0_areAlike_1 : decode cX0_areAlike 1 = .ok (.istore_n 3, 1) := by decide +kernel
theorem dX0_areAlike_2 : decode cX0_areAlike 2 = .ok (.iload_n 3, 1) := by decide +kernel
theorem dX0_areAlike_3 : decode cX0_areAlike 3 = .ok (.aload_n 0, 1) := by decide +kernel
theorem dX0_areAlike_4 : decode cX0_areAlike 4 = .ok (.getfield 37, 3) := by decide +kernel
theorem dX0_areAlike_7 : decode cX0_areAlike 7 = .ok (.getfield 105, 3) := by decide +kernel
theorem dX0_areAlike_10 : decode cX0_areAlike 10 = .ok (.if_icmp .ge 21, 3) := by decide +kernel
theorem dX0_areAlike_13 : decode cX0_areAlike 13 = .ok (.aload_n 0, 1) := by decide +kernel
theorem dX0_areAlike_14 : decode cX0_areAlike 14 = .ok (.iload_n 3, 1) := by decide +kernel
theorem dX0_areAlike_15 : decode cX0_areAlike 15 = .ok (.iload_n 1, 1) := by decide +kernel
theorem dX0_areAlike_16 : decode cX0_areAlike 16 = .ok (.iload_n 2, 1) := by decide +kernel
theorem dX0_areAlike_17 : decode cX0_areAlike 17 = .ok (.invokevirtual 108, 3) := by decide +kernel
theorem dX0_areAlike_20 : decode cX0_areAlike 20 = .ok (.ifCond .eq 5, 3) := by decide +kernel
theorem dX0_areAlike_23 : decode cX0_areAlike 23 = .ok (.iconst 1, 1) := by decide +kernel
theorem dX0_areAlike_24 : decode cX0_areAlike 24 = .ok (.ireturn, 1) := by decide +kernel
theorem dX0_areAlike_25 : decode cX0_areAlike 25 = .ok (.iinc 3 1, 3) := by decide +kernel
theorem dX0_areAlike_28 : decode cX0_areAlike 28 = .ok (.goto (-26), 3) := by decide +kernel
theorem dX0_areAlike_31 : decode cX0_areAlike 31 = .ok (.iconst 0, 1) := by decide +kernel
theorem dX0_areAlike_32 : decode cX0_areAlike 32 = .ok (.ireturn, 1) := by decide +kernel
theorem dX0_isMapped_0 : decode cX0_isMapped 0 = .ok (.iconst 0, 1) := by decide +kernel
theorem dX0_isMapped_1 : decode cX0_isMapped 1 = .ok (.istore 4, 2) := by decide +kernel
theorem dX0_isMapped_3 : decode cX0_isMapped 3 = .ok (.iload 4, 2) := by decide +kernel
theorem dX0_isMapped_5 : decode cX0_isMapped 5 = .ok (.bipush 36, 2) := by decide +kernel
theorem dX0_isMapped_7 : decode cX0_isMapped 7 = .ok (.if_icmp .ge 98, 3) := by decide +kernel
theorem dX0_isMapped_10 : decode cX0_isMapped 10 = .ok (.aload_n 0, 1) := by decide +kernel
theorem dX0_isMapped_11 : decode cX0_isMapped 11 = .ok (.iload_n 2, 1) := by decide +kernel
theorem dX0_isMapped_12 : decode cX0_isMapped 12 = .ok (.iload 4, 2) := by decide +kernel
theorem dX0_isMapped_14 : decode cX0_isMapped 14 = .ok (.invokevirtual 87, 3) := by decide +kernel
theorem dX0_isMapped_17 : decode cX0_isMapped 17 = .ok (.istore 5, 2) := by decide +kernel
theorem dX0_isMapped_19 : decode cX0_isMapped 19 = .ok (.iload 5, 2) := by decide +kernel
theorem dX0_isMapped_21 : decode cX0_isMapped 21 = .ok (.iconst (-1), 1) := by decide +kernel
theorem dX0_isMapped_22 : decode cX0_isMapped 22 = .ok (.if_icmp .eq 77, 3) := by decide +kernel
theorem dX0_isMapped_25 : decode cX0_isMapped 25 = .ok (.aload_n 0, 1) := by decide +kernel
theorem dX0_isMapped_26 : decode cX0_isMapped 26 = .ok (.getfield 33, 3) := by decide +kernel
theorem dX0_isMapped_29 : decode cX0_isMapped 29 = .ok (.iload 5, 2) := by decide +kernel
theorem dX0_isMapped_31 : decode cX0_isMapped 31 = .ok (.invokevirtual 77, 3) := by decide +kernel
theorem dX0_isMapped_34 : decode cX0_isMapped 34 = .ok (.invokestatic 83, 3) := by decide +kernel
theorem dX0_isMapped_37 : decode cX0_isMapped 37 = .ok (.istore 6, 2) := by decide +kernel
theorem dX0_isMapped_39 : decode cX0_isMapped 39 = .ok (.aload_n 0, 1) := by decide +kernel
theorem dX0_isMapped_40 : decode cX0_isMapped 40 = .ok (.iload_n 3, 1) := by decide +kernel
theorem dX0_isMapped_41 : decode cX0_isMapped 41 = .ok (.aload_n 0, 1) := by decide +kernel
theorem dX0_isMapped_42 : decode cX0_isMapped 42 = .ok (.getfield 37, 3) := by decide +kernel
theorem dX0_isMapped_45 : decode cX0_isMapped 45 = .ok (.iload_n 1, 1) := by decide +kernel
theorem dX0_isMapped_46 : decode cX0_isMapped 46 = .ok (.iload 6, 2) := by decide +kernel
theorem dX0_isMapped_48 : decode cX0_isMapped 48 = .ok (.invokevirtual 112, 3) := by decide +kernel
theorem dX0_isMapped_51 : decode cX0_isMapped 51 = .ok (.invokevirtual 87, 3) := by decide +kernel
theorem dX0_isMapped_54 : decode cX0_isMapped 54 = .ok (.istore 7, 2) := by decide +kernel
theorem dX0_isMapped_56 : decode cX0_isMapped 56 = .ok (.iload 7, 2) := by decide +kernel
theorem dX0_isMapped_58 : decode cX0_isMapped 58 = .ok (.aload_n 0, 1) := by decide +kernel
theorem dX0_isMapped_59 : decode cX0_isMapped 59 = .ok (.iload_n 3, 1) := by decide +kernel
theorem dX0_isMapped_60 : decode cX0_isMapped 60 = .ok (.aload_n 0, 1) := by decide +kernel
theorem dX0_isMapped_61 : decode cX0_isMapped 61 = .ok (.getfield 37, 3) := by decide +kernel
theorem dX0_isMapped_64 : decode cX0_isMapped 64 = .ok (.iload_n 1, 1) := by decide +kernel
theorem dX0_isMapped_65 : decode cX0_isMapped 65 = .ok (.iload 4, 2) := by decide +kernel
theorem dX0_isMapped_67 : decode cX0_isMapped 67 = .ok (.invokevirtual 112, 3) := by decide +kernel
theorem dX0_isMapped_70 : decode cX0_isMapped 70 = .ok (.invokevirtual 87, 3) := by decide +kernel
theorem dX0_isMapped_73 : decode cX0_isMapped 73 = .ok (.if_icmp .ne 24, 3) := by decide +kernel
theorem dX0_isMapped_76 : decode cX0_isMapped 76 = .ok (.aload_n 0, 1) := by decide +kernel
theorem dX0_isMapped_77 : decode cX0_isMapped 77 = .ok (.getfield 33, 3) := by decide +kernel
theorem dX0_isMapped_80 : decode cX0_isMapped 80 = .ok (.iload 7, 2) := by decide +kernel
theorem dX0_isMapped_82 : decode cX0_isMapped 82 = .ok (.invokevirtual 94, 3) := by decide +kernel
theorem dX0_isMapped_85 : decode cX0_isMapped 85 = .ok (.aload_n 0, 1) := by decide +kernel
theorem dX0_isMapped_86 : decode cX0_isMapped 86 = .ok (.getfield 33, 3) := by decide +kernel
theorem dX0_isMapped_89 : decode cX0_isMapped 89 = .ok (.iload 5, 2) := by decide +kernel
theorem dX0_isMapped_91 : decode cX0_isMapped 91 = .ok (.invokevirtual 94, 3) := by decide +kernel
theorem dX0_isMapped_94 : decode cX0_isMapped 94 = .ok (.if_icmp .eq 5, 3) := by decide +kernel
theorem dX0_isMapped_97 : decode cX0_isMapped 97 = .ok (.iconst 0, 1) := by decide +kernel
theorem dX0_isMapped_98 : decode cX0_isMapped 98 = .ok (.ireturn, 1) := by decide +kernel
theorem dX0_isMapped_99 : decode cX0_isMapped 99 = .ok (.iinc 4 1, 3) := by decide +kernel
theorem dX0_isMapped_102 : decode cX0_isMapped 102 = .ok (.goto (-99), 3) := by decide +kernel
theorem dX0_isMapped_105 : decode cX0_isMapped 105 = .ok (.iconst 1, 1) := by decide +kernel
theorem dX0_isMapped_106 : decode cX0_isMapped 106 = .ok (.ireturn, 1) := by decide +kernel
theorem dX1_init_0 : decode cX1_init 0 = .ok (.aload_n 0, 1) := by decide +kernel
theorem dX1_init_1 : decode cX1_init 1 = .ok (.invokespecial 3, 3) := by decide +kernel
theorem dX1_init_4 : decode cX1_init 4 = .ok (.aload_n 0, 1) := by decide +kernel
theorem dX1_init_5 : decode cX1_init 5 = .ok (.bipush 64, 2) := by decide +kernel
theorem dX1_init_7 : decode cX1_init 7 = .ok (.newarray .int, 2) := by decide +kernel
theorem dX1_init_9 : decode cX1_init 9 = .ok (.putfield 9, 3) := by decide +kernel
theorem dX1_init_12 : decode cX1_init 12 = .ok (.aload_n 0, 1) := by decide +kernel
theorem dX1_init_13 : decode cX1_init 13 = .ok (.bipush 8, 2) := by decide +kernel
theorem dX1_init_15 : decode cX1_init 15 = .ok (.newarray .int, 2) := by decide +kernel
theorem dX1_init_17 : decode cX1_init 17 = .ok (.putfield 15, 3) := by decide +kernel
theorem dX1_init_20 : decode cX1_init 20 = .ok (.return_, 1) := by decide +kernel
theorem dX1_fill_0 : decode cX1_fill 0 = .ok (.iconst 0, 1) := by decide +kernel
theorem dX1_fill_1 : decode cX1_fill 1 = .ok (.istore_n 2, 1) := by decide +kernel
theorem dX1_fill_2 : decode cX1_fill 2 = .ok (.iload_n 2, 1) := by decide +kernel
theorem dX1_fill_3 : decode cX1_fill 3 = .ok (.bipush 8, 2) := by decide +kernel
theorem dX1_fill_5 : decode cX1_fill 5 = .ok (.if_icmp .ge 76, 3) := by decide +kernel
theorem dX1_fill_8 : decode cX1_fill 8 = .ok (.aload_n 0, 1) := by decide +kernel
theorem dX1_fill_9 : decode cX1_fill 9 = .ok (.getfield 15, 3) := by decide +kernel
theorem dX1_fill_12 : decode cX1_fill 12 = .ok (.iload_n 2, 1) := by decide +kernel
theorem dX1_fill_13 : decode cX1_fill 13 = .ok (.iconst 0, 1) := by decide +kernel
theorem dX1_fill_14 : decode cX1_fill 14 = .ok (.invokestatic 18, 3) := by decide +kernel
theorem dX1_fill_17 : decode cX1_fill 17 = .ok (.aload_n 1, 1) := by decide +kernel
theorem dX1_fill_18 : decode cX1_fill 18 = .ok (.iload_n 2, 1) := by decide +kernel
theorem dX1_fill_19 : decode cX1_fill 19 = .ok (.invokevirtual 22, 3) := by decide +kernel
theorem dX1_fill_22 : decode cX1_fill 22 = .ok (.ifCond .eq 53, 3) := by decide +kernel
theorem dX1_fill_25 : decode cX1_fill 25 = .ok (.aload_n 1, 1) := by decide +kernel
theorem dX1_fill_26 : decode cX1_fill 26 = .ok (.iload_n 2, 1) := by decide +kernel
theorem dX1_fill_27 : decode cX1_fill 27 = .ok (.invokevirtual 28, 3) := by decide +kernel
theorem dX1_fill_30 : decode cX1_fill 30 = .ok (.istore_n 3, 1) := by decide +kernel
theorem dX1_fill_31 : decode cX1_fill 31 = .ok (.aload_n 1, 1) := by decide +kernel
theorem dX1_fill_32 : decode cX1_fill 32 = .ok (.iload_n 2, 1) := by decide +kernel
theorem dX1_fill_33 : decode cX1_fill 33 = .ok (.invokevirtual 32, 3) := by decide +kernel
theorem dX1_fill_36 : decode cX1_fill 36 = .ok (.istore 4, 2) := by decide +kernel
theorem dX1_fill_38 : decode cX1_fill 38 = .ok (.aload_n 0, 1) := by decide +kernel
theorem dX1_fill_39 : decode cX1_fill 39 = .ok (.iload_n 2, 1) := by decide +kernel
theorem dX1_fill_40 : decode cX1_fill 40 = .ok (.iload_n 3, 1) := by decide +kernel
theorem dX1_fill_41 : decode cX1_fill 41 = .ok (.iload 4, 2) := by decide +kernel
theorem dX1_fill_43 : decode cX1_fill 43 = .ok (.iconst 1, 1) := by decide +kernel
theorem dX1_fill_44 : decode cX1_fill 44 = .ok (.if_icmp .lt 7, 3) := by decide +kernel
theorem dX1_fill_47 : decode cX1_fill 47 = .ok (.iconst 4, 1) := by decide +kernel
theorem dX1_fill_48 : decode cX1_fill 48 = .ok (.goto 4, 3) := by decide +kernel
theorem dX1_fill_51 : decode cX1_fill 51 = .ok (.iconst 1, 1) := by decide +kernel
theorem dX1_fill_52 : decode cX1_fill 52 = .ok (.invokevirtual 35, 3) := by decide +kernel
theorem dX1_fill_55 : decode cX1_fill 55 = .ok (.aload_n 0, 1) := by decide +kernel
theorem dX1_fill_56 : decode cX1_fill 56 = .ok (.iload_n 2, 1) := by decide +kernel
theorem dX1_fill_57 : decode cX1_fill 57 = .ok (.iload_n 3, 1) := by decide +kernel
theorem dX1_fill_58 : decode cX1_fill 58 = .ok (.invokestatic 39, 3) := by decide +kernel
theorem dX1_fill_61 : decode cX1_fill 61 = .ok (.iload 4, 2) := by decide +kernel
theorem dX1_fill_63 : decode cX1_fill 63 = .ok (.iconst 2, 1) := by decide +kernel
theorem dX1_fill_64 : decode cX1_fill 64 = .ok (.if_icmp .ne 7, 3) := by decide +kernel
theorem dX1_fill_67 : decode cX1_fill 67 = .ok (.iconst 4, 1) := by decide +kernel
theorem dX1_fill_68 : decode cX1_fill 68 = .ok (.goto 4, 3) := by decide +kernel
theorem dX1_fill_71 : decode cX1_fill 71 = .ok (.iconst 0, 1) := by decide +kernel
theorem dX1_fill_72 : decode cX1_fill 72 = .ok (.invokevirtual 35, 3) := by decide +kernel
theorem dX1_fill_75 : decode cX1_fill 75 = .ok (.iinc 2 1, 3) := by decide +kernel
theorem dX1_fill_78 : decode cX1_fill 78 = .ok (.goto (-76), 3) := by decide +kernel
theorem dX1_fill_81 : decode cX1_fill 81 = .ok (.return_, 1) := by decide +kernel
theorem dX1_insertTurns_0 : decode cX1_insertTurns 0 = .ok (.iload_n 2, 1) := by decide +kernel
theorem dX1_insertTurns_1 : decode cX1_insertTurns 1 = .ok (.istore 4, 2) := by decide +kernel
theorem dX1_insertTurns_3 : decode cX1_insertTurns 3 = .ok (.iconst 0, 1) := by decide +kernel
theorem dX1_insertTurns_4 : decode cX1_insertTurns 4 = .ok (.istore 5, 2) := by decide +kernel
theorem dX1_insertTurns_6 : decode cX1_insertTurns 6 = .ok (.iload 5, 2) := by decide +kernel
theorem dX1_insertTurns_8 : decode cX1_insertTurns 8 = .ok (.iload_n 3, 1) := by decide +kernel
theorem dX1_insertTurns_9 : decode cX1_insertTurns 9 = .ok (.if_icmp .ge 23, 3) := by decide +kernel
theorem dX1_insertTurns_12 : decode cX1_insertTurns 12 = .ok (.aload_n 0, 1) := by decide +kernel
theorem dX1_insertTurns_13 : decode cX1_insertTurns 13 = .ok (.iload_n 1, 1) := by decide +kernel
theorem dX1_insertTurns_14 : decode cX1_insertTurns 14 = .ok (.iload 4, 2) := by decide +kernel
theorem dX1_insertTurns_16 : decode cX1_insertTurns 16 = .ok (.invokevirtual 44, 3) := by decide +kernel
theorem dX1_insertTurns_19 : decode cX1_insertTurns 19 = .ok (.iload 4, 2) := by decide +kernel
theorem dX1_insertTurns_21 : decode cX1_insertTurns 21 = .ok (.invokestatic 48, 3) := by decide +kernel
theorem dX1_insertTurns_24 : decode cX1_insertTurns 24 = .ok (.istore 4, 2) := by decide +kernel
theorem dX1_insertTurns_26 : decode cX1_insertTurns 26 = .ok (.iinc 5 1, 3) := by decide +kernel
theorem dX1_insertTurns_29 : decode cX1_insertTurns 29 = .ok (.goto (-23), 3) := by decide +kernel
theorem dX1_insertTurns_32 : decode cX1_insertTurns 32 = .ok (.return_, 1) := by decide +kernel
theorem dX1_insert_0 : decode cX1_insert 0 = .ok (.aload_n 0, 1) := by decide +kernel
theorem dX1_insert_1 : decode cX1_insert 1 = .ok (.iload_n 1, 1) := by decide +kernel
theorem dX1_insert_2 : decode cX1_insert 2 = .ok (.invokevirtual 51, 3) := by decide +kernel
theorem dX1_insert_5 : decode cX1_insert 5 = .ok (.istore_n 3, 1) := by decide +kernel
theorem dX1_insert_6 : decode cX1_insert 6 = .ok (.iconst 0, 1) := by decide +kernel
theorem dX1_insert_7 : decode cX1_insert 7 = .ok (.istore 4, 2) := by decide +kernel
theorem dX1_insert_9 : decode cX1_insert 9 = .ok (.iload 4, 2) := by decide +kernel
theorem dX1_insert_11 : decode cX1_insert 11 = .ok (.iload_n 3, 1) := by decide +kernel
theorem dX1_insert_12 : decode cX1_insert 12 = .ok (.if_icmp .ge 21, 3) := by decide +kernel
theorem dX1_insert_15 : decode cX1_insert 15 = .ok (.aload_n 0, 1) := by decide +kernel
theorem dX1_insert_16 : decode cX1_insert 16 = .ok (.iload_n 1, 1) := by decide +kernel
theorem dX1_insert_17 : decode cX1_insert 17 = .ok (.iload 4, 2) := by decide +kernel
theorem dX1_insert_19 : decode cX1_insert 19 = .ok (.invokevirtual 54, 3) := by decide +kernel
theorem dX1_insert_22 : decode cX1_insert 22 = .ok (.iload_n 2, 1) := by decide +kernel
theorem dX1_insert_23 : decode cX1_insert 23 = .ok (.if_icmp .ne 4, 3) := by decide +kernel
theorem dX1_insert_26 : decode cX1_insert 26 = .ok (.return_, 1) := by decide +kernel
theorem dX1_insert_27 : decode cX1_insert 27 = .ok (.iinc 4 1, 3) := by decide +kernel
theorem dX1_insert_30 : decode cX1_insert 30 = .ok (.goto (-21), 3) := by decide +kernel
theorem dX1_insert_33 : decode cX1_insert 33 = .ok (.iload_n 3, 1) := by decide +kernel
theorem dX1_insert_34 : decode cX1_insert 34 = .ok (.bipush 8, 2) := by decide +kernel
theorem dX1_insert_36 : decode cX1_insert 36 = .ok (.if_icmp .lt 4, 3) := by decide +kernel
theorem dX1_insert_39 : decode cX1_insert 39 = .ok (.return_, 1) := by decide +kernel
theorem dX1_insert_40 : decode cX1_insert 40 = .ok (.iload_n 3, 1) := by decide +kernel
theorem dX1_insert_41 : decode cX1_insert 41 = .ok (.istore 4, 2) := by decide +kernel
theorem dX1_insert_43 : decode cX1_insert 43 = .ok (.iload 4, 2) := by decide +kernel
theorem dX1_insert_45 : decode cX1_insert 45 = .ok (.ifCond .le 45, 3) := by decide +kernel
theorem dX1_insert_48 : decode cX1_insert 48 = .ok (.aload_n 0, 1) := by decide +kernel
theorem dX1_insert_49 : decode cX1_insert 49 = .ok (.iload_n 1, 1) := by decide +kernel
theorem dX1_insert_50 : decode cX1_insert 50 = .ok (.iload 4, 2) := by decide +kernel
theorem dX1_insert_52 : decode cX1_insert 52 = .ok (.iconst 1, 1) := by decide +kernel
theorem dX1_insert_53 : decode cX1_insert 53 = .ok (.isub, 1) := by decide +kernel
theorem dX1_insert_54 : decode cX1_insert 54 = .ok (.invokevirtual 54, 3) := by decide +kernel
theorem dX1_insert_57 : decode cX1_insert 57 = .ok (.iload_n 2, 1) := by decide +kernel
theorem dX1_insert_58 : decode cX1_insert 58 = .ok (.if_icmp .le 32, 3) := by decide +kernel
theorem dX1_insert_61 : decode cX1_insert 61 = .ok (.aload_n 0, 1) := by decide +kernel
theorem dX1_insert_62 : decode cX1_insert 62 = .ok (.getfield 9, 3) := by decide +kernel
theorem dX1_insert_65 : decode cX1_insert 65 = .ok (.iload_n 1, 1) := by decide +kernel
theorem dX1_insert_66 : decode cX1_insert 66 = .ok (.bipush 8, 2) := by decide +kernel
theorem dX1_insert_68 : decode cX1_insert 68 = .ok (.imul, 1) := by decide +kernel
theorem dX1_insert_69 : decode cX1_insert 69 = .ok (.iload 4, 2) := by decide +kernel
theorem dX1_insert_71 : decode cX1_insert 71 = .ok (.iadd, 1) := by decide +kernel
theorem dX1_insert_72 : decode cX1_insert 72 = .ok (.aload_n 0, 1) := by decide +kernel
theorem dX1_insert_73 : decode cX1_insert 73 = .ok (.iload_n 1, 1) := by decide +kernel
theorem dX1_insert_74 : decode cX1_insert 74 = .ok (.iload 4, 2) := by decide +kernel
theorem dX1_insert_76 : decode cX1_insert 76 = .ok (.iconst 1, 1) := by decide +kernel
theorem dX1_insert_77 : decode cX1_insert 77 = .ok (.isub, 1) := by decide +kernel
theorem dX1_insert_78 : decode cX1_insert 78 = .ok (.invokevirtual 54, 3) := by decide +kernel
theorem dX1_insert_81 : decode cX1_insert 81 = .ok (.invokestatic 18, 3) := by decide +kernel
theorem dX1_insert_84 : decode cX1_insert 84 = .ok (.iinc 4 (-1), 3) := by decide +kernel
theorem dX1_insert_87 : decode cX1_insert 87 = .ok (.goto (-44), 3) := by decide +kernel
theorem dX1_insert_90 : decode cX1_insert 90 = .ok (.aload_n 0, 1) := by decide +kernel
theorem dX1_insert_91 : decode cX1_insert 91 = .ok (.getfield 9, 3) := by decide +kernel
theorem dX1_insert_94 : decode cX1_insert 94 = .ok (.iload_n 1, 1) := by decide +kernel
theorem dX1_insert_95 : decode cX1_insert 95 = .ok (.bipush 8, 2) := by decide +kernel
theorem dX1_insert_97 : decode cX1_insert 97 = .ok (.imul, 1) := by decide +kernel
theorem dX1_insert_98 : decode cX1_insert 98 = .ok (.iload 4, 2) := by decide +kernel
theorem dX1_insert_100 : decode cX1_insert 100 = .ok (.iadd, 1) := by decide +kernel
theorem dX1_insert_101 : decode cX1_insert 101 = .ok (.iload_n 2, 1) := by decide +kernel
theorem dX1_insert_102 : decode cX1_insert 102 = .ok (.invokestatic 18, 3) := by decide +kernel
theorem dX1_insert_105 : decode cX1_insert 105 = .ok (.aload_n 0, 1) := by decide +kernel
theorem dX1_insert_106 : decode cX1_insert 106 = .ok (.getfield 15, 3) := by decide +kernel
theorem dX1_insert_109 : decode cX1_insert 109 = .ok (.iload_n 1, 1) := by decide +kernel
theorem dX1_insert_110 : decode cX1_insert 110 = .ok (.iload_n 3, 1) := by decide +kernel
theorem dX1_insert_111 : decode cX1_insert 111 = .ok (.iconst 1, 1) := by decide +kernel
theorem dX1_insert_112 : decode cX1_insert 112 = .ok (.iadd, 1) := by decide +kernel
theorem dX1_insert_113 : decode cX1_insert 113 = .ok (.invokestatic 18, 3) := by decide +kernel
theorem dX1_insert_116 : decode cX1_insert 116 = .ok (.return_, 1) := by decide +kernel
theorem dX1_sizeOf_0 : decode cX1_sizeOf 0 = .ok (.aload_n 0, 1) := by decide +kernel
theorem dX1_sizeOf_1 : decode cX1_sizeOf 1 = .ok (.getfield 15, 3) := by decide +kernel
theorem dX1_sizeOf_4 : decode cX1_sizeOf 4 = .ok (.iload_n 1, 1) := by decide +kernel
theorem dX1_sizeOf_5 : decode cX1_sizeOf 5 = .ok (.invokestatic 57, 3) := by decide +kernel
theorem dX1_sizeOf_8 : decode cX1_sizeOf 8 = .ok (.ireturn, 1) := by decide +kernel
theorem dX1_shapeOf_0 : decode cX1_shapeOf 0 = .ok (.aload_n 0, 1) := by decide +kernel
theorem dX1_shapeOf_1 : decode cX1_shapeOf 1 = .ok (.getfield 9, 3) := by decide +kernel
theorem dX1_shapeOf_4 : decode cX1_shapeOf 4 = .ok (.iload_n 1, 1) := by decide +kernel
theorem dX1_shapeOf_5 : decode cX1_shapeOf 5 = .ok (.bipush 8, 2) := by decide +kernel
theorem dX1_shapeOf_7 : decode cX1_shapeOf 7 = .ok (.imul, 1) := by decide +kernel
theorem dX1_shapeOf_8 : decode cX1_shapeOf 8 = .ok (.iload_n 2, 1) := by decide +kernel
theorem dX1_shapeOf_9 : decode cX1_shapeOf 9 = .ok (.iadd, 1) := by decide +kernel
theorem dX1_shapeOf_10 : decode cX1_shapeOf 10 = .ok (.invokestatic 57, 3) := by decide +kernel
theorem dX1_shapeOf_13 : decode cX1_shapeOf 13 = .ok (.ireturn, 1) := by decide +kernel
theorem dX2_init_0 : decode cX2_init 0 = .ok (.aload_n 0, 1) := by decide +kernel
theorem dX2_init_1 : decode cX2_init 1 = .ok (.invokespecial 3, 3) := by decide +kernel
theorem dX2_init_4 : decode cX2_init 4 = .ok (.aload_n 0, 1) := by decide +kernel
theorem dX2_init_5 : decode cX2_init 5 = .ok (.bipush 6, 2) := by decide +kernel
theorem dX2_init_7 : decode cX2_init 7 = .ok (.anewarray 9, 3) := by decide +kernel
theorem dX2_init_10 : decode cX2_init 10 = .ok (.putfield 11, 3) := by decide +kernel
theorem dX2_init_13 : decode cX2_init 13 = .ok (.aload_n 0, 1) := by decide +kernel
theorem dX2_init_14 : decode cX2_init 14 = .ok (.iconst 0, 1) := by decide +kernel
theorem dX2_init_15 : decode cX2_init 15 = .ok (.putfield 17, 3) := by decide +kernel
theorem dX2_init_18 : decode cX2_init 18 = .ok (.aload_n 0, 1) := by decide +kernel
theorem dX2_init_19 : decode cX2_init 19 = .ok (.iconst 0, 1) := by decide +kernel
theorem dX2_init_20 : decode cX2_init 20 = .ok (.putfield 21, 3) := by decide +kernel
theorem dX2_init_23 : decode cX2_init 23 = .ok (.iconst 0, 1) := by decide +kernel
theorem dX2_init_24 : decode cX2_init 24 = .ok (.istore_n 1, 1) := by decide +kernel
theorem dX2_init_25 : decode cX2_init 25 = .ok (.iload_n 1, 1) := by decide +kernel
theorem dX2_init_26 : decode cX2_init 26 = .ok (.aload_n 0, 1) := by decide +kernel
theorem dX2_init_27 : decode cX2_init 27 = .ok (.getfield 11, 3) := by decide +kernel
theorem dX2_init_30 : decode cX2_init 30 = .ok (.arraylength, 1) := by decide +kernel
theorem dX2_init_31 : decode cX2_init 31 = .ok (.if_icmp .ge 22, 3) := by decide +kernel
theorem dX2_init_34 : decode cX2_init 34 = .ok (.aload_n 0, 1) := by decide +kernel
theorem dX2_init_35 : decode cX2_init 35 = .ok (.getfield 11, 3) := by decide +kernel
theorem dX2_init_38 : decode cX2_init 38 = .ok (.iload_n 1, 1) := by decide +kernel
theorem dX2_init_39 : decode cX2_init 39 = .ok (.new 9, 3) := by decide +kernel
theorem dX2_init_42 : decode cX2_init 42 = .ok (.dup, 1) := by decide +kernel
theorem dX2_init_43 : decode cX2_init 43 = .ok (.invokespecial 24, 3) := by decide +kernel
theorem dX2_init_46 : decode cX2_init 46 = .ok (.aastore, 1) := by decide +kernel
theorem dX2_init_47 : decode cX2_init 47 = .ok (.iinc 1 1, 3) := by decide +kernel
theorem dX2_init_50 : decode cX2_init 50 = .ok (.goto (-25), 3) := by decide +kernel
theorem dX2_init_53 : decode cX2_init 53 = .ok (.return_, 1) := by decide +kernel
theorem dX2_save_0 : decode cX2_save 0 = .ok (.aload_n 0, 1) := by decide +kernel
theorem dX2_save_1 : decode cX2_save 1 = .ok (.aload_n 0, 1) := by decide +kernel
theorem dX2_save_2 : decode cX2_save 2 = .ok (.getfield 21, 3) := by decide +kernel
theorem dX2_save_5 : decode cX2_save 5 = .ok (.invokevirtual 25, 3) := by decide +kernel
theorem dX2_save_8 : decode cX2_save 8 = .ok (.astore_n 2, 1) := by decide +kernel
theorem dX2_save_9 : decode cX2_save 9 = .ok (.aload_n 2, 1) := by decide +kernel
theorem dX2_save_10 : decode cX2_save 10 = .ok (.ifnonnull 4, 3) := by decide +kernel
theorem dX2_save_13 : decode cX2_save 13 = .ok (.return_, 1) := by decide +kernel
theorem dX2_save_14 : decode cX2_save 14 = .ok (.aload_n 2, 1) := by decide +kernel
theorem dX2_save_15 : decode cX2_save 15 = .ok (.aload_n 1, 1) := by decide +kernel
theorem dX2_save_16 : decode cX2_save 16 = .ok (.invokevirtual 29, 3) := by decide +kernel
theorem dX2_save_19 : decode cX2_save 19 = .ok (.aload_n 0, 1) := by decide +kernel
theorem dX2_save_20 : decode cX2_save 20 = .ok (.getfield 21, 3) := by decide +kernel
theorem dX2_save_23 : decode cX2_save 23 = .ok (.bipush 6, 2) := by decide +kernel
theorem dX2_save_25 : decode cX2_save 25 = .ok (.if_icmp .ge 16, 3) := by decide +kernel
theorem dX2_save_28 : decode cX2_save 28 = .ok (.aload_n 0, 1) := by decide +kernel
theorem dX2_save_29 : decode cX2_save 29 = .ok (.dup, 1) := by decide +kernel
theorem dX2_save_30 : decode cX2_save 30 = .ok (.getfield 21, 3) := by decide +kernel
theorem dX2_save_33 : decode cX2_save 33 = .ok (.iconst 1, 1) := by decide +kernel
theorem dX2_save_34 : decode cX2_save 34 = .ok (.iadd, 1) := by decide +kernel
theorem dX2_save_35 : decode cX2_save 35 = .ok (.putfield 21, 3) := by decide +kernel
theorem dX2_save_38 : decode cX2_save 38 = .ok (.goto 16, 3) := by decide +kernel
theorem dX2_save_41 : decode cX2_save 41 = .ok (.aload_n 0, 1) := by decide +kernel
theorem dX2_save_42 : decode cX2_save 42 = .ok (.aload_n 0, 1) := by decide +kernel
theorem dX2_save_43 : decode cX2_save 43 = .ok (.getfield 17, 3) := by decide +kernel
theorem dX2_save_46 : decode cX2_save 46 = .ok (.iconst 1, 1) := by decide +kernel
theorem dX2_save_47 : decode cX2_save 47 = .ok (.iadd, 1) := by decide +kernel
theorem dX2_save_48 : decode cX2_save 48 = .ok (.bipush 6, 2) := by decide +kernel
theorem dX2_save_50 : decode cX2_save 50 = .ok (.irem, 1) := by decide +kernel
theorem dX2_save_51 : decode cX2_save 51 = .ok (.putfield 17, 3) := by decide +kernel
theorem dX2_save_54 : decode cX2_save 54 = .ok (.return_, 1) := by decide +kernel
theorem dX2_restore_0 : decode cX2_restore 0 = .ok (.aload_n 0, 1) := by decide +kernel
theorem dX2_restore_1 : decode cX2_restore 1 = .ok (.getfield 21, 3) := by decide +kernel
theorem dX2_restore_4 : decode cX2_restore 4 = .ok (.ifCond .le 16, 3) := by decide +kernel
theorem dX2_restore_7 : decode cX2_restore 7 = .ok (.aload_n 0, 1) := by decide +kernel
theorem dX2_restore_8 : decode cX2_restore 8 = .ok (.aload_n 0, 1) := by decide +kernel
theorem dX2_restore_9 : decode cX2_restore 9 = .ok (.getfield 21, 3) := by decide +kernel
theorem dX2_restore_12 : decode cX2_restore 12 = .ok (.iconst 1, 1) := by decide +kernel
theorem dX2_restore_13 : decode cX2_restore 13 = .ok (.isub, 1) := by decide +kernel
theorem dX2_restore_14 : decode cX2_restore 14 = .ok (.invokevirtual 25, 3) := by decide +kernel
theorem dX2_restore_17 : decode cX2_restore 17 = .ok (.goto 4, 3) := by decide +kernel
theorem dX2_restore_20 : decode cX2_restore 20 = .ok (.aconst_null, 1) := by decide +kernel
theorem dX2_restore_21 : decode cX2_restore 21 = .ok (.astore_n 2, 1) := by decide +kernel
theorem dX2_restore_22 : decode cX2_restore 22 = .ok (.aload_n 2, 1) := by decide +kernel
theorem dX2_restore_23 : decode cX2_restore 23 = .ok (.ifnonnull 4, 3) := by decide +kernel
theorem dX2_restore_26 : decode cX2_restore 26 = .ok (.return_, 1) := by decide +kernel
theorem dX2_restore_27 : decode cX2_restore 27 = .ok (.aload_n 1, 1) := by decide +kernel
theorem dX2_restore_28 : decode cX2_restore 28 = .ok (.aload_n 2, 1) := by decide +kernel
theorem dX2_restore_29 : decode cX2_restore 29 = .ok (.invokevirtual 29, 3) := by decide +kernel
theorem dX2_restore_32 : decode cX2_restore 32 = .ok (.aload_n 0, 1) := by decide +kernel
theorem dX2_restore_33 : decode cX2_restore 33 = .ok (.dup, 1) := by decide +kernel
theorem dX2_restore_34 : decode cX2_restore 34 = .ok (.getfield 21, 3) := by decide +kernel
theorem dX2_restore_37 : decode cX2_restore 37 = .ok (.iconst 1, 1) := by decide +kernel
theorem dX2_restore_38 : decode cX2_restore 38 = .ok (.isub, 1) := by decide +kernel
theorem dX2_restore_39 : decode cX2_restore 39 = .ok (.putfield 21, 3) := by decide +kernel
theorem dX2_restore_42 : decode cX2_restore 42 = .ok (.return_, 1) := by decide +kernel
theorem dX2_slotAfterOldest_0 : decode cX2_slotAfterOldest 0 = .ok (.aload_n 0, 1) := by decide +kernel
theorem dX2_slotAfterOldest_1 : decode cX2_slotAfterOldest 1 = .ok (.getfield 17, 3) := by decide +kernel
theorem dX2_slotAfterOldest_4 : decode cX2_slotAfterOldest 4 = .ok (.iload_n 1, 1) := by decide +kernel
theorem dX2_slotAfterOldest_5 : decode cX2_slotAfterOldest 5 = .ok (.iadd, 1) := by decide +kernel
theorem dX2_slotAfterOldest_6 : decode cX2_slotAfterOldest 6 = .ok (.bipush 6, 2) := by decide +kernel
theorem dX2_slotAfterOldest_8 : decode cX2_slotAfterOldest 8 = .ok (.irem, 1) := by decide +kernel
theorem dX2_slotAfterOldest_9 : decode cX2_slotAfterOldest 9 = .ok (.istore_n 2, 1) := by decide +kernel
theorem dX2_slotAfterOldest_10 : decode cX2_slotAfterOldest 10 = .ok (.iload_n 2, 1) := by decide +kernel
theorem dX2_slotAfterOldest_11 : decode cX2_slotAfterOldest 11 = .ok (.ifCond .lt 21, 3) := by decide +kernel
theorem dX2_slotAfterOldest_14 : decode cX2_slotAfterOldest 14 = .ok (.iload_n 2, 1) := by decide +kernel
theorem dX2_slotAfterOldest_15 : decode cX2_slotAfterOldest 15 = .ok (.aload_n 0, 1) := by decide +kernel
theorem dX2_slotAfterOldest_16 : decode cX2_slotAfterOldest 16 = .ok (.getfield 11, 3) := by decide +kernel
theorem dX2_slotAfterOldest_19 : decode cX2_slotAfterOldest 19 = .ok (.arraylength, 1) := by decide +kernel
theorem dX2_slotAfterOldest_20 : decode cX2_slotAfterOldest 20 = .ok (.if_icmp .ge 12, 3) := by decide +kernel
theorem dX2_slotAfterOldest_23 : decode cX2_slotAfterOldest 23 = .ok (.aload_n 0, 1) := by decide +kernel
theorem dX2_slotAfterOldest_24 : decode cX2_slotAfterOldest 24 = .ok (.getfield 11, 3) := by decide +kernel
theorem dX2_slotAfterOldest_27 : decode cX2_slotAfterOldest 27 = .ok (.iload_n 2, 1) := by decide +kernel
theorem dX2_slotAfterOldest_28 : decode cX2_slotAfterOldest 28 = .ok (.aaload, 1) := by decide +kernel
theorem dX2_slotAfterOldest_29 : decode cX2_slotAfterOldest 29 = .ok (.goto 4, 3) := by decide +kernel
theorem dX2_slotAfterOldest_32 : decode cX2_slotAfterOldest 32 = .ok (.aconst_null, 1) := by decide +kernel
theorem dX2_slotAfterOldest_33 : decode cX2_slotAfterOldest 33 = .ok (.areturn, 1) := by decide +kernel
theorem dX3_init_0 : decode cX3_init 0 = .ok (.aload_n 0, 1) := by decide +kernel
theorem dX3_init_1 : decode cX3_init 1 = .ok (.invokespecial 3, 3) := by decide +kernel
theorem dX3_init_4 : decode cX3_init 4 = .ok (.aload_n 0, 1) := by decide +kernel
theorem dX3_init_5 : decode cX3_init 5 = .ok (.sipush 1280, 3) := by decide +kernel
theorem dX3_init_8 : decode cX3_init 8 = .ok (.newarray .long, 2) := by decide +kernel
theorem dX3_init_10 : decode cX3_init 10 = .ok (.putfield 9, 3) := by decide +kernel
theorem dX3_init_13 : decode cX3_init 13 = .ok (.aload_n 0, 1) := by decide +kernel
theorem dX3_init_14 : decode cX3_init 14 = .ok (.sipush 1280, 3) := by decide +kernel
theorem dX3_init_17 : decode cX3_init 17 = .ok (.newarray .int, 2) := by decide +kernel
theorem dX3_init_19 : decode cX3_init 19 = .ok (.putfield 15, 3) := by decide +kernel
theorem dX3_init_22 : decode cX3_init 22 = .ok (.aload_n 0, 1) := by decide +kernel
theorem dX3_init_23 : decode cX3_init 23 = .ok (.sipush 1280, 3) := by decide +kernel
theorem dX3_init_26 : decode cX3_init 26 = .ok (.newarray .int, 2) := by decide +kernel
theorem dX3_init_28 : decode cX3_init 28 = .ok (.putfield 19, 3) := by decide +kernel
theorem dX3_init_31 : decode cX3_init 31 = .ok (.aload_n 0, 1) := by decide +kernel
theorem dX3_init_32 : decode cX3_init 32 = .ok (.bipush 37, 2) := by decide +kernel
theorem dX3_init_34 : decode cX3_init 34 = .ok (.newarray .int, 2) := by decide +kernel
theorem dX3_init_36 : decode cX3_init 36 = .ok (.putfield 22, 3) := by decide +kernel
theorem dX3_init_39 : decode cX3_init 39 = .ok (.aload_n 0, 1) := by decide +kernel
theorem dX3_init_40 : decode cX3_init 40 = .ok (.iconst 0, 1) := by decide +kernel
theorem dX3_init_41 : decode cX3_init 41 = .ok (.putfield 25, 3) := by decide +kernel
theorem dX3_init_44 : decode cX3_init 44 = .ok (.aload_n 0, 1) := by decide +kernel
theorem dX3_init_45 : decode cX3_init 45 = .ok (.lconst 0, 1) := by decide +kernel
theorem dX3_init_46 : decode cX3_init 46 = .ok (.putfield 29, 3) := by decide +kernel
theorem dX3_init_49 : decode cX3_init 49 = .ok (.return_, 1) := by decide +kernel
theorem dX3_fill_0 : decode cX3_fill 0 = .ok (.aload_n 0, 1) := by decide +kernel
theorem dX3_fill_1 : decode cX3_fill 1 = .ok (.iconst 0, 1) := by decide +kernel
theorem dX3_fill_2 : decode cX3_fill 2 = .ok (.putfield 25, 3) := by decide +kernel
theorem dX3_fill_5 : decode cX3_fill 5 = .ok (.aload_n 0, 1) := by decide +kernel
theorem dX3_fill_6 : decode cX3_fill 6 = .ok (.aload_n 1, 1) := by decide +kernel
theorem dX3_fill_7 : decode cX3_fill 7 = .ok (.invokevirtual 33, 3) := by decide +kernel
theorem dX3_fill_10 : decode cX3_fill 10 = .ok (.putfield 29, 3) := by decide +kernel
theorem dX3_fill_13 : decode cX3_fill 13 = .ok (.iconst 0, 1) := by decide +kernel
theorem dX3_fill_14 : decode cX3_fill 14 = .ok (.istore_n 3, 1) := by decide +kernel
theorem dX3_fill_15 : decode cX3_fill 15 = .ok (.iload_n 3, 1) := by decide +kernel
theorem dX3_fill_16 : decode cX3_fill 16 = .ok (.aload_n 1, 1) := by decide +kernel
theorem dX3_fill_17 : decode cX3_fill 17 = .ok (.getfield 39, 3) := by decide +kernel
theorem dX3_fill_20 : decode cX3_fill 20 = .ok (.if_icmp .ge 43, 3) := by decide +kernel
theorem dX3_fill_23 : decode cX3_fill 23 = .ok (.iconst 0, 1) := by decide +kernel
theorem dX3_fill_24 : decode cX3_fill 24 = .ok (.istore 4, 2) := by decide +kernel
theorem dX3_fill_26 : decode cX3_fill 26 = .ok (.iload 4, 2) := by decide +kernel
theorem dX3_fill_28 : decode cX3_fill 28 = .ok (.aload_n 2, 1) := by decide +kernel
theorem dX3_fill_29 : decode cX3_fill 29 = .ok (.iload_n 3, 1) := by decide +kernel
theorem dX3_fill_30 : decode cX3_fill 30 = .ok (.invokevirtual 42, 3) := by decide +kernel
theorem dX3_fill_33 : decode cX3_fill 33 = .ok (.if_icmp .ge 24, 3) := by decide +kernel
theorem dX3_fill_36 : decode cX3_fill 36 = .ok (.aload_n 0, 1) := by decide +kernel
theorem dX3_fill_37 : decode cX3_fill 37 = .ok (.aload_n 1, 1) := by decide +kernel
theorem dX3_fill_38 : decode cX3_fill 38 = .ok (.iload_n 3, 1) := by decide +kernel
theorem dX3_fill_39 : decode cX3_fill 39 = .ok (.iload 4, 2) := by decide +kernel
theorem dX3_fill_41 : decode cX3_fill 41 = .ok (.aload_n 2, 1) := by decide +kernel
theorem dX3_fill_42 : decode cX3_fill 42 = .ok (.iload_n 3, 1) := by decide +kernel
theorem dX3_fill_43 : decode cX3_fill 43 = .ok (.iload 4, 2) := by decide +kernel
theorem dX3_fill_45 : decode cX3_fill 45 = .ok (.invokevirtual 48, 3) := by decide +kernel
theorem dX3_fill_48 : decode cX3_fill 48 = .ok (.invokevirtual 52, 3) := by decide +kernel
theorem dX3_fill_51 : decode cX3_fill 51 = .ok (.iinc 4 1, 3) := by decide +kernel
theorem dX3_fill_54 : decode cX3_fill 54 = .ok (.goto (-28), 3) := by decide +kernel
theorem dX3_fill_57 : decode cX3_fill 57 = .ok (.iinc 3 1, 3) := by decide +kernel
theorem dX3_fill_60 : decode cX3_fill 60 = .ok (.goto (-45), 3) := by decide +kernel
theorem dX3_fill_63 : decode cX3_fill 63 = .ok (.aload_n 0, 1) := by decide +kernel
theorem dX3_fill_64 : decode cX3_fill 64 = .ok (.invokevirtual 56, 3) := by decide +kernel
theorem dX3_fill_67 : decode cX3_fill 67 = .ok (.return_, 1) := by decide +kernel
theorem dX3_fillForm_0 : decode cX3_fillForm 0 = .ok (.aload_n 1, 1) := by decide +kernel
theorem dX3_fillForm_1 : decode cX3_fillForm 1 = .ok (.iload_n 2, 1) := by decide +kernel
theorem dX3_fillForm_2 : decode cX3_fillForm 2 = .ok (.invokevirtual 59, 3) := by decide +kernel
theorem dX3_fillForm_5 : decode cX3_fillForm 5 = .ok (.istore 5, 2) := by decide +kernel
theorem dX3_fillForm_7 : decode cX3_fillForm 7 = .ok (.iconst 0, 1) := by decide +kernel
theorem dX3_fillForm_8 : decode cX3_fillForm 8 = .ok (.istore 6, 2) := by decide +kernel
theorem dX3_fillForm_10 : decode cX3_fillForm 10 = .ok (.iload 6, 2) := by decide +kernel
theorem dX3_fillForm_12 : decode cX3_fillForm 12 = .ok (.aload_n 1, 1) := by decide +kernel
theorem dX3_fillForm_13 : decode cX3_fillForm 13 = .ok (.invokevirtual 62, 3) := by decide +kernel
theorem dX3_fillForm_16 : decode cX3_fillForm 16 = .ok (.if_icmp .ge 87, 3) := by decide +kernel
theorem dX3_fillForm_19 : decode cX3_fillForm 19 = .ok (.aload_n 1, 1) := by decide +kernel
theorem dX3_fillForm_20 : decode cX3_fillForm 20 = .ok (.iload 4, 2) := by decide +kernel
theorem dX3_fillForm_22 : decode cX3_fillForm 22 = .ok (.iload 5, 2) := by decide +kernel
theorem dX3_fillForm_24 : decode cX3_fillForm 24 = .ok (.iload 6, 2) := by decide +kernel
theorem dX3_fillForm_26 : decode cX3_fillForm 26 = .ok (.invokestatic 66, 3) := by decide +kernel
theorem dX3_fillForm_29 : decode cX3_fillForm 29 = .ok (.lstore 7, 2) := by decide +kernel
theorem dX3_fillForm_31 : decode cX3_fillForm 31 = .ok (.lload 7, 2) := by decide +kernel
theorem dX3_fillForm_33 : decode cX3_fillForm 33 = .ok (.lconst 0, 1) := by decide +kernel
theorem dX3_fillForm_34 : decode cX3_fillForm 34 = .ok (.lcmp, 1) := by decide +kernel
theorem dX3_fillForm_35 : decode cX3_fillForm 35 = .ok (.ifCond .eq 62, 3) := by decide +kernel
theorem dX3_fillForm_38 : decode cX3_fillForm 38 = .ok (.aload_n 0, 1) := by decide +kernel
theorem dX3_fillForm_39 : decode cX3_fillForm 39 = .ok (.getfield 25, 3) := by decide +kernel
theorem dX3_fillForm_42 : decode cX3_fillForm 42 = .ok (.ifCond .lt 55, 3) := by decide +kernel
theorem dX3_fillForm_45 : decode cX3_fillForm 45 = .ok (.aload_n 0, 1) := by decide +kernel
theorem dX3_fillForm_46 : decode cX3_fillForm 46 = .ok (.getfield 25, 3) := by decide +kernel
theorem dX3_fillForm_49 : decode cX3_fillForm 49 = .ok (.sipush 1280, 3) := by decide +kernel
theorem dX3_fillForm_52 : decode cX3_fillForm 52 = .ok (.if_icmp .ge 45, 3) := by decide +kernel
theorem dX3_fillForm_55 : decode cX3_fillForm 55 = .ok (.aload_n 0, 1) := by decide +kernel
theorem dX3_fillForm_56 : decode cX3_fillForm 56 = .ok (.getfield 9, 3) := by decide +kernel
theorem dX3_fillForm_59 : decode cX3_fillForm 59 = .ok (.aload_n 0, 1) := by decide +kernel
theorem dX3_fillForm_60 : decode cX3_fillForm 60 = .ok (.getfield 25, 3) := by decide +kernel
theorem dX3_fillForm_63 : decode cX3_fillForm 63 = .ok (.lload 7, 2) := by decide +kernel
theorem dX3_fillForm_65 : decode cX3_fillForm 65 = .ok (.lastore, 1) := by decide +kernel
theorem dX3_fillForm_66 : decode cX3_fillForm 66 = .ok (.aload_n 0, 1) := by decide +kernel
theorem dX3_fillForm_67 : decode cX3_fillForm 67 = .ok (.getfield 15, 3) := by decide +kernel
theorem dX3_fillForm_70 : decode cX3_fillForm 70 = .ok (.aload_n 0, 1) := by decide +kernel
theorem dX3_fillForm_71 : decode cX3_fillForm 71 = .ok (.getfield 25, 3) := by decide +kernel
theorem dX3_fillForm_74 : decode cX3_fillForm 74 = .ok (.iload 6, 2) := by decide +kernel
theorem dX3_fillForm_76 : decode cX3_fillForm 76 = .ok (.bipush 8, 2) := by decide +kernel
theorem dX3_fillForm_78 : decode cX3_fillForm 78 = .ok (.ishl, 1) := by decide +kernel
theorem dX3_fillForm_79 : decode cX3_fillForm 79 = .ok (.iload_n 3, 1) := by decide +kernel
theorem dX3_fillForm_80 : decode cX3_fillForm 80 = .ok (.ior, 1) := by decide +kernel
theorem dX3_fillForm_81 : decode cX3_fillForm 81 = .ok (.bipush 8, 2) := by decide +kernel
theorem dX3_fillForm_83 : decode cX3_fillForm 83 = .ok (.ishl, 1) := by decide +kernel
theorem dX3_fillForm_84 : decode cX3_fillForm 84 = .ok (.iload_n 2, 1) := by decide +kernel
theorem dX3_fillForm_85 : decode cX3_fillForm 85 = .ok (.ior, 1) := by decide +kernel
theorem dX3_fillForm_86 : decode cX3_fillForm 86 = .ok (.iastore, 1) := by decide +kernel
theorem dX3_fillForm_87 : decode cX3_fillForm 87 = .ok (.aload_n 0, 1) := by decide +kernel
theorem dX3_fillForm_88 : decode cX3_fillForm 88 = .ok (.dup, 1) := by decide +kernel
theorem dX3_fillForm_89 : decode cX3_fillForm 89 = .ok (.getfield 25, 3) := by decide +kernel
theorem dX3_fillForm_92 : decode cX3_fillForm 92 = .ok (.iconst 1, 1) := by decide +kernel
theorem dX3_fillForm_93 : decode cX3_fillForm 93 = .ok (.iadd, 1) := by decide +kernel
theorem dX3_fillForm_94 : decode cX3_fillForm 94 = .ok (.putfield 25, 3) := by decide +kernel
theorem dX3_fillForm_97 : decode cX3_fillForm 97 = .ok (.iinc 6 1, 3) := by decide +kernel
theorem dX3_fillForm_100 : decode cX3_fillForm 100 = .ok (.goto (-90), 3) := by decide +kernel
theorem dX3_fillForm_103 : decode cX3_fillForm 103 = .ok (.return_, 1) := by decide +kernel
theorem dX3_lay_0 : decode cX3_lay 0 = .ok (.aload_n 0, 1) := by decide +kernel
theorem dX3_lay_1 : decode cX3_lay 1 = .ok (.iload_n 3, 1) := by decide +kernel
theorem dX3_lay_2 : decode cX3_lay 2 = .ok (.invokevirtual 70, 3) := by decide +kernel
theorem dX3_lay_5 : decode cX3_lay 5 = .ok (.istore 4, 2) := by decide +kernel
theorem dX3_lay_7 : decode cX3_lay 7 = .ok (.aload_n 0, 1) := by decide +kernel
theorem dX3_lay_8 : decode cX3_lay 8 = .ok (.iload_n 3, 1) := by decide +kernel
theorem dX3_lay_9 : decode cX3_lay 9 = .ok (.invokevirtual 73, 3) := by decide +kernel
theorem dX3_lay_12 : decode cX3_lay 12 = .ok (.istore 5, 2) := by decide +kernel
theorem dX3_lay_14 : decode cX3_lay 14 = .ok (.lconst 0, 1) := by decide +kernel
theorem dX3_lay_15 : decode cX3_lay 15 = .ok (.lstore 6, 2) := by decide +kernel
theorem dX3_lay_17 : decode cX3_lay 17 = .ok (.iconst 0, 1) := by decide +kernel
theorem dX3_lay_18 : decode cX3_lay 18 = .ok (.istore 8, 2) := by decide +kernel
theorem dX3_lay_20 : decode cX3_lay 20 = .ok (.iload 8, 2) := by decide +kernel
theorem dX3_lay_22 : decode cX3_lay 22 = .ok (.bipush 16, 2) := by decide +kernel
theorem dX3_lay_24 : decode cX3_lay 24 = .ok (.if_icmp .ge 94, 3) := by decide +kernel
theorem dX3_lay_27 : decode cX3_lay 27 = .ok (.iload_n 1, 1) := by decide +kernel
theorem dX3_lay_28 : decode cX3_lay 28 = .ok (.iload 8, 2) := by decide +kernel
theorem dX3_lay_30 : decode cX3_lay 30 = .ok (.iushr, 1) := by decide +kernel
theorem dX3_lay_31 : decode cX3_lay 31 = .ok (.ifCond .eq 87, 3) := by decide +kernel
theorem dX3_lay_34 : decode cX3_lay 34 = .ok (.iload_n 1, 1) := by decide +kernel
theorem dX3_lay_35 : decode cX3_lay 35 = .ok (.iload 8, 2) := by decide +kernel
theorem dX3_lay_37 : decode cX3_lay 37 = .ok (.invokestatic 76, 3) := by decide +kernel
theorem dX3_lay_40 : decode cX3_lay 40 = .ok (.ifCond .eq 72, 3) := by decide +kernel
theorem dX3_lay_43 : decode cX3_lay 43 = .ok (.iload 4, 2) := by decide +kernel
theorem dX3_lay_45 : decode cX3_lay 45 = .ok (.iload 8, 2) := by decide +kernel
theorem dX3_lay_47 : decode cX3_lay 47 = .ok (.iconst 4, 1) := by decide +kernel
theorem dX3_lay_48 : decode cX3_lay 48 = .ok (.irem, 1) := by decide +kernel
theorem dX3_lay_49 : decode cX3_lay 49 = .ok (.iadd, 1) := by decide +kernel
theorem dX3_lay_50 : decode cX3_lay 50 = .ok (.istore 9, 2) := by decide +kernel
theorem dX3_lay_52 : decode cX3_lay 52 = .ok (.iload 5, 2) := by decide +kernel
theorem dX3_lay_54 : decode cX3_lay 54 = .ok (.iload 8, 2) := by decide +kernel
theorem dX3_lay_56 : decode cX3_lay 56 = .ok (.iconst 4, 1) := by decide +kernel
theorem dX3_lay_57 : decode cX3_lay 57 = .ok (.idiv, 1) := by decide +kernel
theorem dX3_lay_58 : decode cX3_lay 58 = .ok (.iadd, 1) := by decide +kernel
theorem dX3_lay_59 : decode cX3_lay 59 = .ok (.istore 10, 2) := by decide +kernel
theorem dX3_lay_61 : decode cX3_lay 61 = .ok (.iload 10, 2) := by decide +kernel
theorem dX3_lay_63 : decode cX3_lay 63 = .ok (.aload_n 0, 1) := by decide +kernel
theorem dX3_lay_64 : decode cX3_lay 64 = .ok (.getfield 82, 3) := by decide +kernel
theorem dX3_lay_67 : decode cX3_lay 67 = .ok (.imul, 1) := by decide +kernel
theorem dX3_lay_68 : decode cX3_lay 68 = .ok (.iload 9, 2) := by decide +kernel
theorem dX3_lay_70 : decode cX3_lay 70 = .ok (.iadd, 1) := by decide +kernel
theorem dX3_lay_71 : decode cX3_lay 71 = .ok (.istore 11, 2) := by decide +kernel
theorem dX3_lay_73 : decode cX3_lay 73 = .ok (.iload 9, 2) := by decide +kernel
theorem dX3_lay_75 : decode cX3_lay 75 = .ok (.aload_n 0, 1) := by decide +kernel
theorem dX3_lay_76 : decode cX3_lay 76 = .ok (.getfield 82, 3) := by decide +kernel
theorem dX3_lay_79 : decode cX3_lay 79 = .ok (.if_icmp .ge 22, 3) := by decide +kernel
theorem dX3_lay_82 : decode cX3_lay 82 = .ok (.iload 10, 2) := by decide +kernel
theorem dX3_lay_84 : decode cX3_lay 84 = .ok (.aload_n 0, 1) := by decide +kernel
theorem dX3_lay_85 : decode cX3_lay 85 = .ok (.getfield 85, 3) := by decide +kernel
theorem dX3_lay_88 : decode cX3_lay 88 = .ok (.if_icmp .ge 13, 3) := by decide +kernel
theorem dX3_lay_91 : decode cX3_lay 91 = .ok (.aload_n 0, 1) := by decide +kernel
theorem dX3_lay_92 : decode cX3_lay 92 = .ok (.iload 11, 2) := by decide +kernel
theorem dX3_lay_94 : decode cX3_lay 94 = .ok (.iload_n 2, 1) := by decide +kernel
theorem dX3_lay_95 : decode cX3_lay 95 = .ok (.invokevirtual 88, 3) := by decide +kernel
theorem dX3_lay_98 : decode cX3_lay 98 = .ok (.ifCond .ne 5, 3) := by decide +kernel
theorem dX3_lay_101 : decode cX3_lay 101 = .ok (.lconst 0, 1) := by decide +kernel
theorem dX3_lay_102 : decode cX3_lay 102 = .ok (.lreturn, 1) := by decide +kernel
theorem dX3_lay_103 : decode cX3_lay 103 = .ok (.lload 6, 2) := by decide +kernel
theorem dX3_lay_105 : decode cX3_lay 105 = .ok (.lconst 1, 1) := by decide +kernel
theorem dX3_lay_106 : decode cX3_lay 106 = .ok (.iload 11, 2) := by decide +kernel
theorem dX3_lay_108 : decode cX3_lay 108 = .ok (.lshl, 1) := by decide +kernel
theorem dX3_lay_109 : decode cX3_lay 109 = .ok (.lor, 1) := by decide +kernel
theorem dX3_lay_110 : decode cX3_lay 110 = .ok (.lstore 6, 2) := by decide +kernel
theorem dX3_lay_112 : decode cX3_lay 112 = .ok (.iinc 8 1, 3) := by decide +kernel
theorem dX3_lay_115 : decode cX3_lay 115 = .ok (.goto (-95), 3) := by decide +kernel
theorem dX3_lay_118 : decode cX3_lay 118 = .ok (.lload 6, 2) := by decide +kernel
theorem dX3_lay_120 : decode cX3_lay 120 = .ok (.lreturn, 1) := by decide +kernel
theorem dX3_fillOrder_0 : decode cX3_fillOrder 0 = .ok (.iconst 0, 1) := by decide +kernel
theorem dX3_fillOrder_1 : decode cX3_fillOrder 1 = .ok (.istore_n 1, 1) := by decide +kernel
theorem dX3_fillOrder_2 : decode cX3_fillOrder 2 = .ok (.iload_n 1, 1) := by decide +kernel
theorem dX3_fillOrder_3 : decode cX3_fillOrder 3 = .ok (.aload_n 0, 1) := by decide +kernel
theorem dX3_fillOrder_4 : decode cX3_fillOrder 4 = .ok (.getfield 22, 3) := by decide +kernel
theorem dX3_fillOrder_7 : decode cX3_fillOrder 7 = .ok (.arraylength, 1) := by decide +kernel
theorem dX3_fillOrder_8 : decode cX3_fillOrder 8 = .ok (.if_icmp .ge 16, 3) := by decide +kernel
theorem dX3_fillOrder_11 : decode cX3_fillOrder 11 = .ok (.aload_n 0, 1) := by decide +kernel
theorem dX3_fillOrder_12 : decode cX3_fillOrder 12 = .ok (.getfield 22, 3) := by decide +kernel
theorem dX3_fillOrder_15 : decode cX3_fillOrder 15 = .ok (.iload_n 1, 1) := by decide +kernel
theorem dX3_fillOrder_16 : decode cX3_fillOrder 16 = .ok (.iconst 0, 1) := by decide +kernel
theorem dX3_fillOrder_17 : decode cX3_fillOrder 17 = .ok (.iastore, 1) := by decide +kernel
theorem dX3_fillOrder_18 : decode cX3_fillOrder 18 = .ok (.iinc 1 1, 3) := by decide +kernel
theorem dX3_fillOrder_21 : decode cX3_fillOrder 21 = .ok (.goto (-19), 3) := by decide +kernel
theorem dX3_fillOrder_24 : decode cX3_fillOrder 24 = .ok (.iconst 0, 1) := by decide +kernel
theorem dX3_fillOrder_25 : decode cX3_fillOrder 25 = .ok (.istore_n 1, 1) := by decide +kernel
theorem dX3_fillOrder_26 : decode cX3_fillOrder 26 = .ok (.iload_n 1, 1) := by decide +kernel
theorem dX3_fillOrder_27 : decode cX3_fillOrder 27 = .ok (.aload_n 0, 1) := by decide +kernel
theorem dX3_fillOrder_28 : decode cX3_fillOrder 28 = .ok (.getfield 25, 3) := by decide +kernel
theorem dX3_fillOrder_31 : decode cX3_fillOrder 31 = .ok (.if_icmp .ge 36, 3) := by decide +kernel
theorem dX3_fillOrder_34 : decode cX3_fillOrder 34 = .ok (.aload_n 0, 1) := by decide +kernel
theorem dX3_fillOrder_35 : decode cX3_fillOrder 35 = .ok (.iload_n 1, 1) := by decide +kernel
theorem dX3_fillOrder_36 : decode cX3_fillOrder 36 = .ok (.invokevirtual 91, 3) := by decide +kernel
theorem dX3_fillOrder_39 : decode cX3_fillOrder 39 = .ok (.invokestatic 95, 3) := by decide +kernel
theorem dX3_fillOrder_42 : decode cX3_fillOrder 42 = .ok (.istore_n 2, 1) := by decide +kernel
theorem dX3_fillOrder_43 : decode cX3_fillOrder 43 = .ok (.aload_n 0, 1) := by decide +kernel
theorem dX3_fillOrder_44 : decode cX3_fillOrder 44 = .ok (.getfield 22, 3) := by decide +kernel
theorem dX3_fillOrder_47 : decode cX3_fillOrder 47 = .ok (.iload_n 2, 1) := by decide +kernel
theorem dX3_fillOrder_48 : decode cX3_fillOrder 48 = .ok (.aload_n 0, 1) := by decide +kernel
theorem dX3_fillOrder_49 : decode cX3_fillOrder 49 = .ok (.getfield 22, 3) := by decide +kernel
theorem dX3_fillOrder_52 : decode cX3_fillOrder 52 = .ok (.iload_n 2, 1) := by decide +kernel
theorem dX3_fillOrder_53 : decode cX3_fillOrder 53 = .ok (.invokestatic 99, 3) := by decide +kernel
theorem dX3_fillOrder_56 : decode cX3_fillOrder 56 = .ok (.iconst 1, 1) := by decide +kernel
theorem dX3_fillOrder_57 : decode cX3_fillOrder 57 = .ok (.iadd, 1) := by decide +kernel
theorem dX3_fillOrder_58 : decode cX3_fillOrder 58 = .ok (.invokestatic 103, 3) := by decide +kernel
theorem dX3_fillOrder_61 : decode cX3_fillOrder 61 = .ok (.iinc 1 1, 3) := by decide +kernel
theorem dX3_fillOrder_64 : decode cX3_fillOrder 64 = .ok (.goto (-38), 3) := by decide +kernel
theorem dX3_fillOrder_67 : decode cX3_fillOrder 67 = .ok (.iconst 0, 1) := by decide +kernel
theorem dX3_fillOrder_68 : decode cX3_fillOrder 68 = .ok (.istore_n 1, 1) := by decide +kernel
theorem dX3_fillOrder_69 : decode cX3_fillOrder 69 = .ok (.iconst 0, 1) := by decide +kernel
theorem dX3_fillOrder_70 : decode cX3_fillOrder 70 = .ok (.istore_n 2, 1) := by decide +kernel
theorem dX3_fillOrder_71 : decode cX3_fillOrder 71 = .ok (.iload_n 2, 1) := by decide +kernel
theorem dX3_fillOrder_72 : decode cX3_fillOrder 72 = .ok (.aload_n 0, 1) := by decide +kernel
theorem dX3_fillOrder_73 : decode cX3_fillOrder 73 = .ok (.getfield 22, 3) := by decide +kernel
theorem dX3_fillOrder_76 : decode cX3_fillOrder 76 = .ok (.arraylength, 1) := by decide +kernel
theorem dX3_fillOrder_77 : decode cX3_fillOrder 77 = .ok (.if_icmp .ge 25, 3) := by decide +kernel
theorem dX3_fillOrder_80 : decode cX3_fillOrder 80 = .ok (.iload_n 1, 1) := by decide +kernel
theorem dX3_fillOrder_81 : decode cX3_fillOrder 81 = .ok (.aload_n 0, 1) := by decide +kernel
theorem dX3_fillOrder_82 : decode cX3_fillOrder 82 = .ok (.getfield 22, 3) := by decide +kernel
theorem dX3_fillOrder_85 : decode cX3_fillOrder 85 = .ok (.iload_n 2, 1) := by decide +kernel
theorem dX3_fillOrder_86 : decode cX3_fillOrder 86 = .ok (.iaload, 1) := by decide +kernel
theorem dX3_fillOrder_87 : decode cX3_fillOrder 87 = .ok (.iadd, 1) := by decide +kernel
theorem dX3_fillOrder_88 : decode cX3_fillOrder 88 = .ok (.istore_n 1, 1) := by decide +kernel
theorem dX3_fillOrder_89 : decode cX3_fillOrder 89 = .ok (.aload_n 0, 1) := by decide +kernel
theorem dX3_fillOrder_90 : decode cX3_fillOrder 90 = .ok (.getfield 22, 3) := by decide +kernel
theorem dX3_fillOrder_93 : decode cX3_fillOrder 93 = .ok (.iload_n 2, 1) := by decide +kernel
theorem dX3_fillOrder_94 : decode cX3_fillOrder 94 = .ok (.iload_n 1, 1) := by decide +kernel
theorem dX3_fillOrder_95 : decode cX3_fillOrder 95 = .ok (.iastore, 1) := by decide +kernel
theorem dX3_fillOrder_96 : decode cX3_fillOrder 96 = .ok (.iinc 2 1, 3) := by decide +kernel
theorem dX3_fillOrder_99 : decode cX3_fillOrder 99 = .ok (.goto (-28), 3) := by decide +kernel
theorem dX3_fillOrder_102 : decode cX3_fillOrder 102 = .ok (.aload_n 0, 1) := by decide +kernel
theorem dX3_fillOrder_103 : decode cX3_fillOrder 103 = .ok (.getfield 25, 3) := by decide +kernel
theorem dX3_fillOrder_106 : decode cX3_fillOrder 106 = .ok (.iconst 1, 1) := by decide +kernel
theorem dX3_fillOrder_107 : decode cX3_fillOrder 107 = .ok (.isub, 1) := by decide +kernel
theorem dX3_fillOrder_108 : decode cX3_fillOrder 108 = .ok (.istore_n 2, 1) := by decide +kernel
theorem dX3_fillOrder_109 : decode cX3_fillOrder 109 = .ok (.iload_n 2, 1) := by decide +kernel
theorem dX3_fillOrder_110 : decode cX3_fillOrder 110 = .ok (.ifCond .lt 52, 3) := by decide +kernel
theorem dX3_fillOrder_113 : decode cX3_fillOrder 113 = .ok (.aload_n 0, 1) := by decide +kernel
theorem dX3_fillOrder_114 : decode cX3_fillOrder 114 = .ok (.iload_n 2, 1) := by decide +kernel
theorem dX3_fillOrder_115 : decode cX3_fillOrder 115 = .ok (.invokevirtual 91, 3) := by decide +kernel
theorem dX3_fillOrder_118 : decode cX3_fillOrder 118 = .ok (.invokestatic 95, 3) := by decide +kernel
theorem dX3_fillOrder_121 : decode cX3_fillOrder 121 = .ok (.istore_n 3, 1) := by decide +kernel
theorem dX3_fillOrder_122 : decode cX3_fillOrder 122 = .ok (.aload_n 0, 1) := by decide +kernel
theorem dX3_fillOrder_123 : decode cX3_fillOrder 123 = .ok (.getfield 22, 3) := by decide +kernel
theorem dX3_fillOrder_126 : decode cX3_fillOrder 126 = .ok (.iload_n 3, 1) := by decide +kernel
theorem dX3_fillOrder_127 : decode cX3_fillOrder 127 = .ok (.aload_n 0, 1) := by decide +kernel
theorem dX3_fillOrder_128 : decode cX3_fillOrder 128 = .ok (.getfield 22, 3) := by decide +kernel
theorem dX3_fillOrder_131 : decode cX3_fillOrder 131 = .ok (.iload_n 3, 1) := by decide +kernel
theorem dX3_fillOrder_132 : decode cX3_fillOrder 132 = .ok (.invokestatic 99, 3) := by decide +kernel
theorem dX3_fillOrder_135 : decode cX3_fillOrder 135 = .ok (.iconst 1, 1) := by decide +kernel
theorem dX3_fillOrder_136 : decode cX3_fillOrder 136 = .ok (.isub, 1) := by decide +kernel
theorem dX3_fillOrder_137 : decode cX3_fillOrder 137 = .ok (.invokestatic 103, 3) := by decide +kernel
theorem dX3_fillOrder_140 : decode cX3_fillOrder 140 = .ok (.aload_n 0, 1) := by decide +kernel
theorem dX3_fillOrder_141 : decode cX3_fillOrder 141 = .ok (.getfield 19, 3) := by decide +kernel
theorem dX3_fillOrder_144 : decode cX3_fillOrder 144 = .ok (.aload_n 0, 1) := by decide +kernel
theorem dX3_fillOrder_145 : decode cX3_fillOrder 145 = .ok (.getfield 22, 3) := by decide +kernel
theorem dX3_fillOrder_148 : decode cX3_fillOrder 148 = .ok (.iload_n 3, 1) := by decide +kernel
theorem dX3_fillOrder_149 : decode cX3_fillOrder 149 = .ok (.invokestatic 99, 3) := by decide +kernel
theorem dX3_fillOrder_152 : decode cX3_fillOrder 152 = .ok (.iload_n 2, 1) := by decide +kernel
theorem dX3_fillOrder_153 : decode cX3_fillOrder 153 = .ok (.invokestatic 103, 3) := by decide +kernel
theorem dX3_fillOrder_156 : decode cX3_fillOrder 156 = .ok (.iinc 2 (-1), 3) := by decide +kernel
theorem dX3_fillOrder_159 : decode cX3_fillOrder 159 = .ok (.goto (-50), 3) := by decide +kernel
theorem dX3_fillOrder_162 : decode cX3_fillOrder 162 = .ok (.return_, 1) := by decide +kernel
theorem dX3_maskOf_0 : decode cX3_maskOf 0 = .ok (.iload_n 1, 1) := by decide +kernel
theorem dX3_maskOf_1 : decode cX3_maskOf 1 = .ok (.ifCond .lt 27, 3) := by decide +kernel
theorem dX3_maskOf_4 : decode cX3_maskOf 4 = .ok (.iload_n 1, 1) := by decide +kernel
theorem dX3_maskOf_5 : decode cX3_maskOf 5 = .ok (.aload_n 0, 1) := by decide +kernel
theorem dX3_maskOf_6 : decode cX3_maskOf 6 = .ok (.getfield 25, 3) := by decide +kernel
theorem dX3_maskOf_9 : decode cX3_maskOf 9 = .ok (.if_icmp .ge 19, 3) := by decide +kernel
theorem dX3_maskOf_12 : decode cX3_maskOf 12 = .ok (.iload_n 1, 1) := by decide +kernel
theorem dX3_maskOf_13 : decode cX3_maskOf 13 = .ok (.sipush 1280, 3) := by decide +kernel
theorem dX3_maskOf_16 : decode cX3_maskOf 16 = .ok (.if_icmp .ge 12, 3) := by decide +kernel
theorem dX3_maskOf_19 : decode cX3_maskOf 19 = .ok (.aload_n 0, 1) := by decide +kernel
theorem dX3_maskOf_20 : decode cX3_maskOf 20 = .ok (.getfield 9, 3) := by decide +kernel
theorem dX3_maskOf_23 : decode cX3_maskOf 23 = .ok (.iload_n 1, 1) := by decide +kernel
theorem dX3_maskOf_24 : decode cX3_maskOf 24 = .ok (.laload, 1) := by decide +kernel
theorem dX3_maskOf_25 : decode cX3_maskOf 25 = .ok (.goto 4, 3) := by decide +kernel
theorem dX3_maskOf_28 : decode cX3_maskOf 28 = .ok (.lconst 0, 1) := by decide +kernel
theorem dX3_maskOf_29 : decode cX3_maskOf 29 = .ok (.lreturn, 1) := by decide +kernel
theorem dX3_pieceOf_0 : decode cX3_pieceOf 0 = .ok (.aload_n 0, 1) := by decide +kernel
theorem dX3_pieceOf_1 : decode cX3_pieceOf 1 = .ok (.getfield 15, 3) := by decide +kernel
theorem dX3_pieceOf_4 : decode cX3_pieceOf 4 = .ok (.iload_n 1, 1) := by decide +kernel
theorem dX3_pieceOf_5 : decode cX3_pieceOf 5 = .ok (.invokestatic 99, 3) := by decide +kernel
theorem dX3_pieceOf_8 : decode cX3_pieceOf 8 = .ok (.sipush 255, 3) := by decide +kernel
theorem dX3_pieceOf_11 : decode cX3_pieceOf 11 = .ok (.iand, 1) := by decide +kernel
theorem dX3_pieceOf_12 : decode cX3_pieceOf 12 = .ok (.ireturn, 1) := by decide +kernel
theorem dX3_formOf_0 : decode cX3_formOf 0 = .ok (.aload_n 0, 1) := by decide +kernel
theorem dX3_formOf_1 : decode cX3_formOf 1 = .ok (.getfield 15, 3) := by decide +kernel
theorem dX3_formOf_4 : decode cX3_formOf 4 = .ok (.iload_n 1, 1) := by decide +kernel
theorem dX3_formOf_5 : decode cX3_formOf 5 = .ok (.invokestatic 99, 3) := by decide +kernel
theorem dX3_formOf_8 : decode cX3_formOf 8 = .ok (.bipush 8, 2) := by decide +kernel
theorem dX3_formOf_10 : decode cX3_formOf 10 = .ok (.iushr, 1) := by decide +kernel
theorem dX3_formOf_11 : decode cX3_formOf 11 = .ok (.sipush 255, 3) := by decide +kernel
theorem dX3_formOf_14 : decode cX3_formOf 14 = .ok (.iand, 1) := by decide +kernel
theorem dX3_formOf_15 : decode cX3_formOf 15 = .ok (.ireturn, 1) := by decide +kernel
theorem dX3_cornerOf_0 : decode cX3_cornerOf 0 = .ok (.aload_n 0, 1) := by decide +kernel
theorem dX3_cornerOf_1 : decode cX3_cornerOf 1 = .ok (.getfield 15, 3) := by decide +kernel
theorem dX3_cornerOf_4 : decode cX3_cornerOf 4 = .ok (.iload_n 1, 1) := by decide +kernel
theorem dX3_cornerOf_5 : decode cX3_cornerOf 5 = .ok (.invokestatic 99, 3) := by decide +kernel
theorem dX3_cornerOf_8 : decode cX3_cornerOf 8 = .ok (.bipush 16, 2) := by decide +kernel
theorem dX3_cornerOf_10 : decode cX3_cornerOf 10 = .ok (.iushr, 1) := by decide +kernel
theorem dX3_cornerOf_11 : decode cX3_cornerOf 11 = .ok (.ireturn, 1) := by decide +kernel
theorem dX3_sizeOf_0 : decode cX3_sizeOf 0 = .ok (.iconst 0, 1) := by decide +kernel
theorem dX3_sizeOf_1 : decode cX3_sizeOf 1 = .ok (.istore_n 2, 1) := by decide +kernel
theorem dX3_sizeOf_2 : decode cX3_sizeOf 2 = .ok (.iconst 0, 1) := by decide +kernel
theorem dX3_sizeOf_3 : decode cX3_sizeOf 3 = .ok (.istore_n 3, 1) := by decide +kernel
theorem dX3_sizeOf_4 : decode cX3_sizeOf 4 = .ok (.iload_n 3, 1) := by decide +kernel
theorem dX3_sizeOf_5 : decode cX3_sizeOf 5 = .ok (.aload_n 0, 1) := by decide +kernel
theorem dX3_sizeOf_6 : decode cX3_sizeOf 6 = .ok (.getfield 25, 3) := by decide +kernel
theorem dX3_sizeOf_9 : decode cX3_sizeOf 9 = .ok (.if_icmp .ge 21, 3) := by decide +kernel
theorem dX3_sizeOf_12 : decode cX3_sizeOf 12 = .ok (.aload_n 0, 1) := by decide +kernel
theorem dX3_sizeOf_13 : decode cX3_sizeOf 13 = .ok (.iload_n 3, 1) := by decide +kernel
theorem dX3_sizeOf_14 : decode cX3_sizeOf 14 = .ok (.invokevirtual 107, 3) := by decide +kernel
theorem dX3_sizeOf_17 : decode cX3_sizeOf 17 = .ok (.iload_n 1, 1) := by decide +kernel
theorem dX3_sizeOf_18 : decode cX3_sizeOf 18 = .ok (.if_icmp .ne 6, 3) := by decide +kernel
theorem dX3_sizeOf_21 : decode cX3_sizeOf 21 = .ok (.iinc 2 1, 3) := by decide +kernel
theorem dX3_sizeOf_24 : decode cX3_sizeOf 24 = .ok (.iinc 3 1, 3) := by decide +kernel
theorem dX3_sizeOf_27 : decode cX3_sizeOf 27 = .ok (.goto (-23), 3) := by decide +kernel
theorem dX3_sizeOf_30 : decode cX3_sizeOf 30 = .ok (.iload_n 2, 1) := by decide +kernel
theorem dX3_sizeOf_31 : decode cX3_sizeOf 31 = .ok (.ireturn, 1) := by decide +kernel
theorem dX4_init_0 : decode cX4_init 0 = .ok (.aload_n 0, 1) := by decide +kernel
theorem dX4_init_1 : decode cX4_init 1 = .ok (.invokespecial 3, 3) := by decide +kernel
theorem dX4_init_4 : decode cX4_init 4 = .ok (.aload_n 0, 1) := by decide +kernel
theorem dX4_init_5 : decode cX4_init 5 = .ok (.iconst 4, 1) := by decide +kernel
theorem dX4_init_6 : decode cX4_init 6 = .ok (.putfield 9, 3) := by decide +kernel
theorem dX4_init_9 : decode cX4_init 9 = .ok (.aload_n 0, 1) := by decide +kernel
theorem dX4_init_10 : decode cX4_init 10 = .ok (.iconst 4, 1) := by decide +kernel
theorem dX4_init_11 : decode cX4_init 11 = .ok (.putfield 15, 3) := by decide +kernel
theorem dX4_init_14 : decode cX4_init 14 = .ok (.aload_n 0, 1) := by decide +kernel
theorem dX4_init_15 : decode cX4_init 15 = .ok (.iconst 0, 1) := by decide +kernel
theorem dX4_init_16 : decode cX4_init 16 = .ok (.putfield 18, 3) := by decide +kernel
theorem dX4_init_19 : decode cX4_init 19 = .ok (.aload_n 0, 1) := by decide +kernel
theorem dX4_init_20 : decode cX4_init 20 = .ok (.iconst 0, 1) := by decide +kernel
theorem dX4_init_21 : decode cX4_init 21 = .ok (.putfield 21, 3) := by decide +kernel
theorem dX4_init_24 : decode cX4_init 24 = .ok (.aload_n 0, 1) := by decide +kernel
theorem dX4_init_25 : decode cX4_init 25 = .ok (.iconst 0, 1) := by decide +kernel
theorem dX4_init_26 : decode cX4_init 26 = .ok (.putfield 24, 3) := by decide +kernel
theorem dX4_init_29 : decode cX4_init 29 = .ok (.aload_n 0, 1) := by decide +kernel
theorem dX4_init_30 : decode cX4_init 30 = .ok (.bipush 36, 2) := by decide +kernel
theorem dX4_init_32 : decode cX4_init 32 = .ok (.newarray .int, 2) := by decide +kernel
theorem dX4_init_34 : decode cX4_init 34 = .ok (.putfield 27, 3) := by decide +kernel
theorem dX4_init_37 : decode cX4_init 37 = .ok (.aload_n 0, 1) := by decide +kernel
theorem dX4_init_38 : decode cX4_init 38 = .ok (.bipush 8, 2) := by decide +kernel
theorem dX4_init_40 : decode cX4_init 40 = .ok (.newarray .int, 2) := by decide +kernel
theorem dX4_init_42 : decode cX4_init 42 = .ok (.putfield 31, 3) := by decide +kernel
theorem dX4_init_45 : decode cX4_init 45 = .ok (.aload_n 0, 1) := by decide +kernel
theorem dX4_init_46 : decode cX4_init 46 = .ok (.bipush 8, 2) := by decide +kernel
theorem dX4_init_48 : decode cX4_init 48 = .ok (.newarray .int, 2) := by decide +kernel
theorem dX4_init_50 : decode cX4_init 50 = .ok (.putfield 34, 3) := by decide +kernel
theorem dX4_init_53 : decode cX4_init 53 = .ok (.aload_n 0, 1) := by decide +kernel
theorem dX4_init_54 : decode cX4_init 54 = .ok (.bipush 8, 2) := by decide +kernel
theorem dX4_init_56 : decode cX4_init 56 = .ok (.newarray .int, 2) := by decide +kernel
theorem dX4_init_58 : decode cX4_init 58 = .ok (.putfield 37, 3) := by decide +kernel
theorem dX4_init_61 : decode cX4_init 61 = .ok (.aload_n 0, 1) := by decide +kernel
theorem dX4_init_62 : decode cX4_init 62 = .ok (.bipush 8, 2) := by decide +kernel
theorem dX4_init_64 : decode cX4_init 64 = .ok (.newarray .int, 2) := by decide +kernel
theorem dX4_init_66 : decode cX4_init 66 = .ok (.putfield 40, 3) := by decide +kernel
theorem dX4_init_69 : decode cX4_init 69 = .ok (.return_, 1) := by decide +kernel
theorem dX4_copyFrom_0 : decode cX4_copyFrom 0 = .ok (.aload_n 0, 1) := by decide +kernel
theorem dX4_copyFrom_1 : decode cX4_copyFrom 1 = .ok (.aload_n 1, 1) := by decide +kernel
theorem dX4_copyFrom_2 : decode cX4_copyFrom 2 = .ok (.getfield 9, 3) := by decide +kernel
theorem dX4_copyFrom_5 : decode cX4_copyFrom 5 = .ok (.putfield 9, 3) := by decide +kernel
theorem dX4_copyFrom_8 : decode cX4_copyFrom 8 = .ok (.aload_n 0, 1) := by decide +kernel
theorem dX4_copyFrom_9 : decode cX4_copyFrom 9 = .ok (.aload_n 1, 1) := by decide +kernel
theorem dX4_copyFrom_10 : decode cX4_copyFrom 10 = .ok (.getfield 15, 3) := by decide +kernel
theorem dX4_copyFrom_13 : decode cX4_copyFrom 13 = .ok (.putfield 15, 3) := by decide +kernel
theorem dX4_copyFrom_16 : decode cX4_copyFrom 16 = .ok (.aload_n 0, 1) := by decide +kernel
theorem dX4_copyFrom_17 : decode cX4_copyFrom 17 = .ok (.aload_n 1, 1) := by decide +kernel
theorem dX4_copyFrom_18 : decode cX4_copyFrom 18 = .ok (.getfield 18, 3) := by decide +kernel
theorem dX4_copyFrom_21 : decode cX4_copyFrom 21 = .ok (.putfield 18, 3) := by decide +kernel
theorem dX4_copyFrom_24 : decode cX4_copyFrom 24 = .ok (.aload_n 0, 1) := by decide +kernel
theorem dX4_copyFrom_25 : decode cX4_copyFrom 25 = .ok (.aload_n 1, 1) := by decide +kernel
theorem dX4_copyFrom_26 : decode cX4_copyFrom 26 = .ok (.getfield 21, 3) := by decide +kernel
theorem dX4_copyFrom_29 : decode cX4_copyFrom 29 = .ok (.putfield 21, 3) := by decide +kernel
theorem dX4_copyFrom_32 : decode cX4_copyFrom 32 = .ok (.aload_n 0, 1) := by decide +kernel
theorem dX4_copyFrom_33 : decode cX4_copyFrom 33 = .ok (.aload_n 1, 1) := by decide +kernel
theorem dX4_copyFrom_34 : decode cX4_copyFrom 34 = .ok (.getfield 24, 3) := by decide +kernel
theorem dX4_copyFrom_37 : decode cX4_copyFrom 37 = .ok (.putfield 24, 3) := by decide +kernel
theorem dX4_copyFrom_40 : decode cX4_copyFrom 40 = .ok (.iconst 0, 1) := by decide +kernel
theorem dX4_copyFrom_41 : decode cX4_copyFrom 41 = .ok (.istore_n 2, 1) := by decide +kernel
theorem dX4_copyFrom_42 : decode cX4_copyFrom 42 = .ok (.iload_n 2, 1) := by decide +kernel
theorem dX4_copyFrom_43 : decode cX4_copyFrom 43 = .ok (.bipush 36, 2) := by decide +kernel
theorem dX4_copyFrom_45 : decode cX4_copyFrom 45 = .ok (.if_icmp .ge 21, 3) := by decide +kernel
theorem dX4_copyFrom_48 : decode cX4_copyFrom 48 = .ok (.aload_n 0, 1) := by decide +kernel
theorem dX4_copyFrom_49 : decode cX4_copyFrom 49 = .ok (.getfield 27, 3) := by decide +kernel
theorem dX4_copyFrom_52 : decode cX4_copyFrom 52 = .ok (.iload_n 2, 1) := by decide +kernel
theorem dX4_copyFrom_53 : decode cX4_copyFrom 53 = .ok (.aload_n 1, 1) := by decide +kernel
theorem dX4_copyFrom_54 : decode cX4_copyFrom 54 = .ok (.getfield 27, 3) := by decide +kernel
theorem dX4_copyFrom_57 : decode cX4_copyFrom 57 = .ok (.iload_n 2, 1) := by decide +kernel
theorem dX4_copyFrom_58 : decode cX4_copyFrom 58 = .ok (.iaload, 1) := by decide +kernel
theorem dX4_copyFrom_59 : decode cX4_copyFrom 59 = .ok (.iastore, 1) := by decide +kernel
theorem dX4_copyFrom_60 : decode cX4_copyFrom 60 = .ok (.iinc 2 1, 3) := by decide +kernel
theorem dX4_copyFrom_63 : decode cX4_copyFrom 63 = .ok (.goto (-21), 3) := by decide +kernel
theorem dX4_copyFrom_66 : decode cX4_copyFrom 66 = .ok (.iconst 0, 1) := by decide +kernel
theorem dX4_copyFrom_67 : decode cX4_copyFrom 67 = .ok (.istore_n 2, 1) := by decide +kernel
theorem dX4_copyFrom_68 : decode cX4_copyFrom 68 = .ok (.iload_n 2, 1) := by decide +kernel
theorem dX4_copyFrom_69 : decode cX4_copyFrom 69 = .ok (.bipush 8, 2) := by decide +kernel
theorem dX4_copyFrom_71 : decode cX4_copyFrom 71 = .ok (.if_icmp .ge 16, 3) := by decide +kernel
theorem dX4_copyFrom_74 : decode cX4_copyFrom 74 = .ok (.aload_n 0, 1) := by decide +kernel
theorem dX4_copyFrom_75 : decode cX4_copyFrom 75 = .ok (.iload_n 2, 1) := by decide +kernel
theorem dX4_copyFrom_76 : decode cX4_copyFrom 76 = .ok (.aload_n 1, 1) := by decide +kernel
theorem dX4_copyFrom_77 : decode cX4_copyFrom 77 = .ok (.iload_n 2, 1) := by decide +kernel
theorem dX4_copyFrom_78 : decode cX4_copyFrom 78 = .ok (.invokevirtual 43, 3) := by decide +kernel
theorem dX4_copyFrom_81 : decode cX4_copyFrom 81 = .ok (.iinc 2 1, 3) := by decide +kernel
theorem dX4_copyFrom_84 : decode cX4_copyFrom 84 = .ok (.goto (-16), 3) := by decide +kernel
theorem dX4_copyFrom_87 : decode cX4_copyFrom 87 = .ok (.return_, 1) := by decide +kernel
theorem dX4_copyPiece_0 : decode cX4_copyPiece 0 = .ok (.aload_n 0, 1) := by decide +kernel
theorem dX4_copyPiece_1 : decode cX4_copyPiece 1 = .ok (.getfield 31, 3) := by decide +kernel
theorem dX4_copyPiece_4 : decode cX4_copyPiece 4 = .ok (.iload_n 1, 1) := by decide +kernel
theorem dX4_copyPiece_5 : decode cX4_copyPiece 5 = .ok (.aload_n 2, 1) := by decide +kernel
theorem dX4_copyPiece_6 : decode cX4_copyPiece 6 = .ok (.iload_n 3, 1) := by decide +kernel
theorem dX4_copyPiece_7 : decode cX4_copyPiece 7 = .ok (.invokevirtual 47, 3) := by decide +kernel
theorem dX4_copyPiece_10 : decode cX4_copyPiece 10 = .ok (.invokestatic 51, 3) := by decide +kernel
theorem dX4_copyPiece_13 : decode cX4_copyPiece 13 = .ok (.aload_n 0, 1) := by decide +kernel
theorem dX4_copyPiece_14 : decode cX4_copyPiece 14 = .ok (.getfield 34, 3) := by decide +kernel
theorem dX4_copyPiece_17 : decode cX4_copyPiece 17 = .ok (.iload_n 1, 1) := by decide +kernel
theorem dX4_copyPiece_18 : decode cX4_copyPiece 18 = .ok (.aload_n 2, 1) := by decide +kernel
theorem dX4_copyPiece_19 : decode cX4_copyPiece 19 = .ok (.iload_n 3, 1) := by decide +kernel
theorem dX4_copyPiece_20 : decode cX4_copyPiece 20 = .ok (.invokevirtual 55, 3) := by decide +kernel
theorem dX4_copyPiece_23 : decode cX4_copyPiece 23 = .ok (.invokestatic 51, 3) := by decide +kernel
theorem dX4_copyPiece_26 : decode cX4_copyPiece 26 = .ok (.aload_n 0, 1) := by decide +kernel
theorem dX4_copyPiece_27 : decode cX4_copyPiece 27 = .ok (.getfield 37, 3) := by decide +kernel
theorem dX4_copyPiece_30 : decode cX4_copyPiece 30 = .ok (.iload_n 1, 1) := by decide +kernel
theorem dX4_copyPiece_31 : decode cX4_copyPiece 31 = .ok (.aload_n 2, 1) := by decide +kernel
theorem dX4_copyPiece_32 : decode cX4_copyPiece 32 = .ok (.iload_n 3, 1) := by decide +kernel
theorem dX4_copyPiece_33 : decode cX4_copyPiece 33 = .ok (.invokevirtual 58, 3) := by decide +kernel
theorem dX4_copyPiece_36 : decode cX4_copyPiece 36 = .ok (.invokestatic 51, 3) := by decide +kernel
theorem dX4_copyPiece_39 : decode cX4_copyPiece 39 = .ok (.aload_n 0, 1) := by decide +kernel
theorem dX4_copyPiece_40 : decode cX4_copyPiece 40 = .ok (.getfield 40, 3) := by decide +kernel
theorem dX4_copyPiece_43 : decode cX4_copyPiece 43 = .ok (.iload_n 1, 1) := by decide +kernel
theorem dX4_copyPiece_44 : decode cX4_copyPiece 44 = .ok (.aload_n 2, 1) := by decide +kernel
theorem dX4_copyPiece_45 : decode cX4_copyPiece 45 = .ok (.iload_n 3, 1) := by decide +kernel
theorem dX4_copyPiece_46 : decode cX4_copyPiece 46 = .ok (.invokevirtual 61, 3) := by decide +kernel
theorem dX4_copyPiece_49 : decode cX4_copyPiece 49 = .ok (.invokestatic 51, 3) := by decide +kernel
theorem dX4_copyPiece_52 : decode cX4_copyPiece 52 = .ok (.return_, 1) := by decide +kernel
theorem dX4_makeBoard_0 : decode cX4_makeBoard 0 = .ok (.aload_n 0, 1) := by decide +kernel
theorem dX4_makeBoard_1 : decode cX4_makeBoard 1 = .ok (.iload_n 1, 1) := by decide +kernel
theorem dX4_makeBoard_2 : decode cX4_makeBoard 2 = .ok (.putfield 9, 3) := by decide +kernel
theorem dX4_makeBoard_5 : decode cX4_makeBoard 5 = .ok (.aload_n 0, 1) := by decide +kernel
theorem dX4_makeBoard_6 : decode cX4_makeBoard 6 = .ok (.iload_n 2, 1) := by decide +kernel
theorem dX4_makeBoard_7 : decode cX4_makeBoard 7 = .ok (.putfield 15, 3) := by decide +kernel
theorem dX4_makeBoard_10 : decode cX4_makeBoard 10 = .ok (.iconst 0, 1) := by decide +kernel
theorem dX4_makeBoard_11 : decode cX4_makeBoard 11 = .ok (.istore_n 3, 1) := by decide +kernel
theorem dX4_makeBoard_12 : decode cX4_makeBoard 12 = .ok (.iload_n 3, 1) := by decide +kernel
theorem dX4_makeBoard_13 : decode cX4_makeBoard 13 = .ok (.bipush 36, 2) := by decide +kernel
theorem dX4_makeBoard_15 : decode cX4_makeBoard 15 = .ok (.if_icmp .ge 16, 3) := by decide +kernel
theorem dX4_makeBoard_18 : decode cX4_makeBoard 18 = .ok (.aload_n 0, 1) := by decide +kernel
theorem dX4_makeBoard_19 : decode cX4_makeBoard 19 = .ok (.getfield 27, 3) := by decide +kernel
theorem dX4_makeBoard_22 : decode cX4_makeBoard 22 = .ok (.iload_n 3, 1) := by decide +kernel
theorem dX4_makeBoard_23 : decode cX4_makeBoard 23 = .ok (.iconst 0, 1) := by decide +kernel
theorem dX4_makeBoard_24 : decode cX4_makeBoard 24 = .ok (.iastore, 1) := by decide +kernel
theorem dX4_makeBoard_25 : decode cX4_makeBoard 25 = .ok (.iinc 3 1, 3) := by decide +kernel
theorem dX4_makeBoard_28 : decode cX4_makeBoard 28 = .ok (.goto (-16), 3) := by decide +kernel
theorem dX4_makeBoard_31 : decode cX4_makeBoard 31 = .ok (.return_, 1) := by decide +kernel
theorem dX4_cellCount_0 : decode cX4_cellCount 0 = .ok (.aload_n 0, 1) := by decide +kernel
theorem dX4_cellCount_1 : decode cX4_cellCount 1 = .ok (.getfield 9, 3) := by decide +kernel
theorem dX4_cellCount_4 : decode cX4_cellCount 4 = .ok (.aload_n 0, 1) := by decide +kernel
theorem dX4_cellCount_5 : decode cX4_cellCount 5 = .ok (.getfield 15, 3) := by decide +kernel
theorem dX4_cellCount_8 : decode cX4_cellCount 8 = .ok (.imul, 1) := by decide +kernel
theorem dX4_cellCount_9 : decode cX4_cellCount 9 = .ok (.ireturn, 1) := by decide +kernel
theorem dX4_hasCell_0 : decode cX4_hasCell 0 = .ok (.iload_n 1, 1) := by decide +kernel
theorem dX4_hasCell_1 : decode cX4_hasCell 1 = .ok (.ifCond .lt 15, 3) := by decide +kernel
theorem dX4_hasCell_4 : decode cX4_hasCell 4 = .ok (.iload_n 1, 1) := by decide +kernel
theorem dX4_hasCell_5 : decode cX4_hasCell 5 = .ok (.aload_n 0, 1) := by decide +kernel
theorem dX4_hasCell_6 : decode cX4_hasCell 6 = .ok (.invokevirtual 64, 3) := by decide +kernel
theorem dX4_hasCell_9 : decode cX4_hasCell 9 = .ok (.if_icmp .ge 7, 3) := by decide +kernel
theorem dX4_hasCell_12 : decode cX4_hasCell 12 = .ok (.iconst 1, 1) := by decide +kernel
theorem dX4_hasCell_13 : decode cX4_hasCell 13 = .ok (.goto 4, 3) := by decide +kernel
theorem dX4_hasCell_16 : decode cX4_hasCell 16 = .ok (.iconst 0, 1) := by decide +kernel
theorem dX4_hasCell_17 : decode cX4_hasCell 17 = .ok (.ireturn, 1) := by decide +kernel
theorem dX4_cellAt_0 : decode cX4_cellAt 0 = .ok (.aload_n 0, 1) := by decide +kernel
theorem dX4_cellAt_1 : decode cX4_cellAt 1 = .ok (.getfield 27, 3) := by decide +kernel
theorem dX4_cellAt_4 : decode cX4_cellAt 4 = .ok (.iload_n 1, 1) := by decide +kernel
theorem dX4_cellAt_5 : decode cX4_cellAt 5 = .ok (.invokestatic 68, 3) := by decide +kernel
theorem dX4_cellAt_8 : decode cX4_cellAt 8 = .ok (.ireturn, 1) := by decide +kernel
theorem dX4_putCell_0 : decode cX4_putCell 0 = .ok (.aload_n 0, 1) := by decide +kernel
theorem dX4_putCell_1 : decode cX4_putCell 1 = .ok (.getfield 27, 3) := by decide +kernel
theorem dX4_putCell_4 : decode cX4_putCell 4 = .ok (.iload_n 1, 1) := by decide +kernel
theorem dX4_putCell_5 : decode cX4_putCell 5 = .ok (.iload_n 2, 1) := by decide +kernel
theorem dX4_putCell_6 : decode cX4_putCell 6 = .ok (.invokestatic 51, 3) := by decide +kernel
theorem dX4_putCell_9 : decode cX4_putCell 9 = .ok (.return_, 1) := by decide +kernel
theorem dX4_isHole_0 : decode cX4_isHole 0 = .ok (.aload_n 0, 1) := by decide +kernel
theorem dX4_isHole_1 : decode cX4_isHole 1 = .ok (.iload_n 1, 1) := by decide +kernel
theorem dX4_isHole_2 : decode cX4_isHole 2 = .ok (.invokevirtual 72, 3) := by decide +kernel
theorem dX4_isHole_5 : decode cX4_isHole 5 = .ok (.iconst (-1), 1) := by decide +kernel
theorem dX4_isHole_6 : decode cX4_isHole 6 = .ok (.if_icmp .ne 7, 3) := by decide +kernel
theorem dX4_isHole_9 : decode cX4_isHole 9 = .ok (.iconst 1, 1) := by decide +kernel
theorem dX4_isHole_10 : decode cX4_isHole 10 = .ok (.goto 4, 3) := by decide +kernel
theorem dX4_isHole_13 : decode cX4_isHole 13 = .ok (.iconst 0, 1) := by decide +kernel
theorem dX4_isHole_14 : decode cX4_isHole 14 = .ok (.ireturn, 1) := by decide +kernel
theorem dX4_columnOf_0 : decode cX4_columnOf 0 = .ok (.aload_n 0, 1) := by decide +kernel
theorem dX4_columnOf_1 : decode cX4_columnOf 1 = .ok (.getfield 9, 3) := by decide +kernel
theorem dX4_columnOf_4 : decode cX4_columnOf 4 = .ok (.ifCond .le 12, 3) := by decide +kernel
theorem dX4_columnOf_7 : decode cX4_columnOf 7 = .ok (.iload_n 1, 1) := by decide +kernel
theorem dX4_columnOf_8 : decode cX4_columnOf 8 = .ok (.aload_n 0, 1) := by decide +kernel
theorem dX4_columnOf_9 : decode cX4_columnOf 9 = .ok (.getfield 9, 3) := by decide +kernel
theorem dX4_columnOf_12 : decode cX4_columnOf 12 = .ok (.irem, 1) := by decide +kernel
theorem dX4_columnOf_13 : decode cX4_columnOf 13 = .ok (.goto 4, 3) := by decide +kernel
theorem dX4_columnOf_16 : decode cX4_columnOf 16 = .ok (.iconst 0, 1) := by decide +kernel
theorem dX4_columnOf_17 : decode cX4_columnOf 17 = .ok (.ireturn, 1) := by decide +kernel
theorem dX4_rowOf_0 : decode cX4_rowOf 0 = .ok (.aload_n 0, 1) := by decide +kernel
theorem dX4_rowOf_1 : decode cX4_rowOf 1 = .ok (.getfield 9, 3) := by decide +kernel
theorem dX4_rowOf_4 : decode cX4_rowOf 4 = .ok (.ifCond .le 12, 3) := by decide +kernel
theorem dX4_rowOf_7 : decode cX4_rowOf 7 = .ok (.iload_n 1, 1) := by decide +kernel
theorem dX4_rowOf_8 : decode cX4_rowOf 8 = .ok (.aload_n 0, 1) := by decide +kernel
theorem dX4_rowOf_9 : decode cX4_rowOf 9 = .ok (.getfield 9, 3) := by decide +kernel
theorem dX4_rowOf_12 : decode cX4_rowOf 12 = .ok (.idiv, 1) := by decide +kernel
theorem dX4_rowOf_13 : decode cX4_rowOf 13 = .ok (.goto 4, 3) := by decide +kernel
theorem dX4_rowOf_16 : decode cX4_rowOf 16 = .ok (.iconst 0, 1) := by decide +kernel
theorem dX4_rowOf_17 : decode cX4_rowOf 17 = .ok (.ireturn, 1) := by decide +kernel
theorem dX4_openCount_0 : decode cX4_openCount 0 = .ok (.aload_n 0, 1) := by decide +kernel
theorem dX4_openCount_1 : decode cX4_openCount 1 = .ok (.invokevirtual 75, 3) := by decide +kernel
theorem dX4_openCount_4 : decode cX4_openCount 4 = .ok (.invokestatic 79, 3) := by decide +kernel
theorem dX4_openCount_7 : decode cX4_openCount 7 = .ok (.ireturn, 1) := by decide +kernel
theorem dX4_openMask_0 : decode cX4_openMask 0 = .ok (.lconst 0, 1) := by decide +kernel
theorem dX4_openMask_1 : decode cX4_openMask 1 = .ok (.lstore_n 1, 1) := by decide +kernel
theorem dX4_openMask_2 : decode cX4_openMask 2 = .ok (.iconst 0, 1) := by decide +kernel
theorem dX4_openMask_3 : decode cX4_openMask 3 = .ok (.istore_n 3, 1) := by decide +kernel
theorem dX4_openMask_4 : decode cX4_openMask 4 = .ok (.iload_n 3, 1) := by decide +kernel
theorem dX4_openMask_5 : decode cX4_openMask 5 = .ok (.aload_n 0, 1) := by decide +kernel
theorem dX4_openMask_6 : decode cX4_openMask 6 = .ok (.invokevirtual 64, 3) := by decide +kernel
theorem dX4_openMask_9 : decode cX4_openMask 9 = .ok (.if_icmp .ge 23, 3) := by decide +kernel
theorem dX4_openMask_12 : decode cX4_openMask 12 = .ok (.aload_n 0, 1) := by decide +kernel
theorem dX4_openMask_13 : decode cX4_openMask 13 = .ok (.iload_n 3, 1) := by decide +kernel
theorem dX4_openMask_14 : decode cX4_openMask 14 = .ok (.invokevirtual 85, 3) := by decide +kernel
theorem dX4_openMask_17 : decode cX4_openMask 17 = .ok (.ifCond .ne 9, 3) := by decide +kernel
theorem dX4_openMask_20 : decode cX4_openMask 20 = .ok (.lload_n 1, 1) := by decide +kernel
theorem dX4_openMask_21 : decode cX4_openMask 21 = .ok (.lconst 1, 1) := by decide +kernel
theorem dX4_openMask_22 : decode cX4_openMask 22 = .ok (.iload_n 3, 1) := by decide +kernel
theorem dX4_openMask_23 : decode cX4_openMask 23 = .ok (.lshl, 1) := by decide +kernel
theorem dX4_openMask_24 : decode cX4_openMask 24 = .ok (.lor, 1) := by decide +kernel
theorem dX4_openMask_25 : decode cX4_openMask 25 = .ok (.lstore_n 1, 1) := by decide +kernel
theorem dX4_openMask_26 : decode cX4_openMask 26 = .ok (.iinc 3 1, 3) := by decide +kernel
theorem dX4_openMask_29 : decode cX4_openMask 29 = .ok (.goto (-25), 3) := by decide +kernel
theorem dX4_openMask_32 : decode cX4_openMask 32 = .ok (.lload_n 1, 1) := by decide +kernel
theorem dX4_openMask_33 : decode cX4_openMask 33 = .ok (.lreturn, 1) := by decide +kernel
theorem dX4_takesColour_0 : decode cX4_takesColour 0 = .ok (.aload_n 0, 1) := by decide +kernel
theorem dX4_takesColour_1 : decode cX4_takesColour 1 = .ok (.getfield 27, 3) := by decide +kernel
theorem dX4_takesColour_4 : decode cX4_takesColour 4 = .ok (.iload_n 1, 1) := by decide +kernel
theorem dX4_takesColour_5 : decode cX4_takesColour 5 = .ok (.invokestatic 68, 3) := by decide +kernel
theorem dX4_takesColour_8 : decode cX4_takesColour 8 = .ok (.istore_n 3, 1) := by decide +kernel
theorem dX4_takesColour_9 : decode cX4_takesColour 9 = .ok (.iload_n 3, 1) := by decide +kernel
theorem dX4_takesColour_10 : decode cX4_takesColour 10 = .ok (.ifCond .eq 8, 3) := by decide +kernel
theorem dX4_takesColour_13 : decode cX4_takesColour 13 = .ok (.iload_n 3, 1) := by decide +kernel
theorem dX4_takesColour_14 : decode cX4_takesColour 14 = .ok (.iload_n 2, 1) := by decide +kernel
theorem dX4_takesColour_15 : decode cX4_takesColour 15 = .ok (.if_icmp .ne 7, 3) := by decide +kernel
theorem dX4_takesColour_18 : decode cX4_takesColour 18 = .ok (.iconst 1, 1) := by decide +kernel
theorem dX4_takesColour_19 : decode cX4_takesColour 19 = .ok (.goto 4, 3) := by decide +kernel
theorem dX4_takesColour_22 : decode cX4_takesColour 22 = .ok (.iconst 0, 1) := by decide +kernel
theorem dX4_takesColour_23 : decode cX4_takesColour 23 = .ok (.ireturn, 1) := by decide +kernel
theorem dX4_hasPiece_0 : decode cX4_hasPiece 0 = .ok (.iload_n 1, 1) := by decide +kernel
theorem dX4_hasPiece_1 : decode cX4_hasPiece 1 = .ok (.ifCond .lt 15, 3) := by decide +kernel
theorem dX4_hasPiece_4 : decode cX4_hasPiece 4 = .ok (.iload_n 1, 1) := by decide +kernel
theorem dX4_hasPiece_5 : decode cX4_hasPiece 5 = .ok (.aload_n 0, 1) := by decide +kernel
theorem dX4_hasPiece_6 : decode cX4_hasPiece 6 = .ok (.getfield 24, 3) := by decide +kernel
theorem dX4_hasPiece_9 : decode cX4_hasPiece 9 = .ok (.if_icmp .ge 7, 3) := by decide +kernel
theorem dX4_hasPiece_12 : decode cX4_hasPiece 12 = .ok (.iconst 1, 1) := by decide +kernel
theorem dX4_hasPiece_13 : decode cX4_hasPiece 13 = .ok (.goto 4, 3) := by decide +kernel
theorem dX4_hasPiece_16 : decode cX4_hasPiece 16 = .ok (.iconst 0, 1) := by decide +kernel
theorem dX4_hasPiece_17 : decode cX4_hasPiece 17 = .ok (.ireturn, 1) := by decide +kernel
theorem dX4_shapeOf_0 : decode cX4_shapeOf 0 = .ok (.aload_n 0, 1) := by decide +kernel
theorem dX4_shapeOf_1 : decode cX4_shapeOf 1 = .ok (.getfield 31, 3) := by decide +kernel
theorem dX4_shapeOf_4 : decode cX4_shapeOf 4 = .ok (.iload_n 1, 1) := by decide +kernel
theorem dX4_shapeOf_5 : decode cX4_shapeOf 5 = .ok (.invokestatic 68, 3) := by decide +kernel
theorem dX4_shapeOf_8 : decode cX4_shapeOf 8 = .ok (.ireturn, 1) := by decide +kernel
theorem dX4_freedomOf_0 : decode cX4_freedomOf 0 = .ok (.aload_n 0, 1) := by decide +kernel
theorem dX4_freedomOf_1 : decode cX4_freedomOf 1 = .ok (.getfield 34, 3) := by decide +kernel
theorem dX4_freedomOf_4 : decode cX4_freedomOf 4 = .ok (.iload_n 1, 1) := by decide +kernel
theorem dX4_freedomOf_5 : decode cX4_freedomOf 5 = .ok (.invokestatic 68, 3) := by decide +kernel
theorem dX4_freedomOf_8 : decode cX4_freedomOf 8 = .ok (.ireturn, 1) := by decide +kernel
theorem dX4_colourOf_0 : decode cX4_colourOf 0 = .ok (.aload_n 0, 1) := by decide +kernel
theorem dX4_colourOf_1 : decode cX4_colourOf 1 = .ok (.getfield 37, 3) := by decide +kernel
theorem dX4_colourOf_4 : decode cX4_colourOf 4 = .ok (.iload_n 1, 1) := by decide +kernel
theorem dX4_colourOf_5 : decode cX4_colourOf 5 = .ok (.invokestatic 68, 3) := by decide +kernel
theorem dX4_colourOf_8 : decode cX4_colourOf 8 = .ok (.ireturn, 1) := by decide +kernel
theorem dX4_copiesOf_0 : decode cX4_copiesOf 0 = .ok (.aload_n 0, 1) := by decide +kernel
theorem dX4_copiesOf_1 : decode cX4_copiesOf 1 = .ok (.getfield 40, 3) := by decide +kernel
theorem dX4_copiesOf_4 : decode cX4_copiesOf 4 = .ok (.iload_n 1, 1) := by decide +kernel
theorem dX4_copiesOf_5 : decode cX4_copiesOf 5 = .ok (.invokestatic 68, 3) := by decide +kernel
theorem dX4_copiesOf_8 : decode cX4_copiesOf 8 = .ok (.ireturn, 1) := by decide +kernel
theorem dX4_append_0 : decode cX4_append 0 = .ok (.aload_n 0, 1) := by decide +kernel
theorem dX4_append_1 : decode cX4_append 1 = .ok (.getfield 24, 3) := by decide +kernel
theorem dX4_append_4 : decode cX4_append 4 = .ok (.bipush 8, 2) := by decide +kernel
theorem dX4_append_6 : decode cX4_append 6 = .ok (.if_icmp .ge 62, 3) := by decide +kernel
theorem dX4_append_9 : decode cX4_append 9 = .ok (.aload_n 0, 1) := by decide +kernel
theorem dX4_append_10 : decode cX4_append 10 = .ok (.getfield 31, 3) := by decide +kernel
theorem dX4_append_13 : decode cX4_append 13 = .ok (.aload_n 0, 1) := by decide +kernel
theorem dX4_append_14 : decode cX4_append 14 = .ok (.getfield 24, 3) := by decide +kernel
theorem dX4_append_17 : decode cX4_append 17 = .ok (.iload_n 1, 1) := by decide +kernel
theorem dX4_append_18 : decode cX4_append 18 = .ok (.invokestatic 51, 3) := by decide +kernel
theorem dX4_append_21 : decode cX4_append 21 = .ok (.aload_n 0, 1) := by decide +kernel
theorem dX4_append_22 : decode cX4_append 22 = .ok (.getfield 34, 3) := by decide +kernel
theorem dX4_append_25 : decode cX4_append 25 = .ok (.aload_n 0, 1) := by decide +kernel
theorem dX4_append_26 : decode cX4_append 26 = .ok (.getfield 24, 3) := by decide +kernel
theorem dX4_append_29 : decode cX4_append 29 = .ok (.iload_n 2, 1) := by decide +kernel
theorem dX4_append_30 : decode cX4_append 30 = .ok (.invokestatic 51, 3) := by decide +kernel
theorem dX4_append_33 : decode cX4_append 33 = .ok (.aload_n 0, 1) := by decide +kernel
theorem dX4_append_34 : decode cX4_append 34 = .ok (.getfield 37, 3) := by decide +kernel
theorem dX4_append_37 : decode cX4_append 37 = .ok (.aload_n 0, 1) := by decide +kernel
theorem dX4_append_38 : decode cX4_append 38 = .ok (.getfield 24, 3) := by decide +kernel
theorem dX4_append_41 : decode cX4_append 41 = .ok (.iload_n 3, 1) := by decide +kernel
theorem dX4_append_42 : decode cX4_append 42 = .ok (.invokestatic 51, 3) := by decide +kernel
theorem dX4_append_45 : decode cX4_append 45 = .ok (.aload_n 0, 1) := by decide +kernel
theorem dX4_append_46 : decode cX4_append 46 = .ok (.getfield 40, 3) := by decide +kernel
theorem dX4_append_49 : decode cX4_append 49 = .ok (.aload_n 0, 1) := by decide +kernel
theorem dX4_append_50 : decode cX4_append 50 = .ok (.getfield 24, 3) := by decide +kernel
theorem dX4_append_53 : decode cX4_append 53 = .ok (.iload 4, 2) := by decide +kernel
theorem dX4_append_55 : decode cX4_append 55 = .ok (.invokestatic 51, 3) := by decide +kernel
theorem dX4_append_58 : decode cX4_append 58 = .ok (.aload_n 0, 1) := by decide +kernel
theorem dX4_append_59 : decode cX4_append 59 = .ok (.dup, 1) := by decide +kernel
theorem dX4_append_60 : decode cX4_append 60 = .ok (.getfield 24, 3) := by decide +kernel
theorem dX4_append_63 : decode cX4_append 63 = .ok (.iconst 1, 1) := by decide +kernel
theorem dX4_append_64 : decode cX4_append 64 = .ok (.iadd, 1) := by decide +kernel
theorem dX4_append_65 : decode cX4_append 65 = .ok (.putfield 24, 3) := by decide +kernel
theorem dX4_append_68 : decode cX4_append 68 = .ok (.return_, 1) := by decide +kernel
theorem dX4_dropPiece_0 : decode cX4_dropPiece 0 = .ok (.iload_n 1, 1) := by decide +kernel
theorem dX4_dropPiece_1 : decode cX4_dropPiece 1 = .ok (.iconst 1, 1) := by decide +kernel
theorem dX4_dropPiece_2 : decode cX4_dropPiece 2 = .ok (.iadd, 1) := by decide +kernel
theorem dX4_dropPiece_3 : decode cX4_dropPiece 3 = .ok (.istore_n 2, 1) := by decide +kernel
theorem dX4_dropPiece_4 : decode cX4_dropPiece 4 = .ok (.iload_n 2, 1) := by decide +kernel
theorem dX4_dropPiece_5 : decode cX4_dropPiece 5 = .ok (.aload_n 0, 1) := by decide +kernel
theorem dX4_dropPiece_6 : decode cX4_dropPiece 6 = .ok (.getfield 24, 3) := by decide +kernel
theorem dX4_dropPiece_9 : decode cX4_dropPiece 9 = .ok (.if_icmp .ge 18, 3) := by decide +kernel
theorem dX4_dropPiece_12 : decode cX4_dropPiece 12 = .ok (.aload_n 0, 1) := by decide +kernel
theorem dX4_dropPiece_13 : decode cX4_dropPiece 13 = .ok (.iload_n 2, 1) := by decide +kernel
theorem dX4_dropPiece_14 : decode cX4_dropPiece 14 = .ok (.iconst 1, 1) := by decide +kernel
theorem dX4_dropPiece_15 : decode cX4_dropPiece 15 = .ok (.isub, 1) := by decide +kernel
theorem dX4_dropPiece_16 : decode cX4_dropPiece 16 = .ok (.aload_n 0, 1) := by decide +kernel
theorem dX4_dropPiece_17 : decode cX4_dropPiece 17 = .ok (.iload_n 2, 1) := by decide +kernel
theorem dX4_dropPiece_18 : decode cX4_dropPiece 18 = .ok (.invokevirtual 43, 3) := by decide +kernel
theorem dX4_dropPiece_21 : decode cX4_dropPiece 21 = .ok (.iinc 2 1, 3) := by decide +kernel
theorem dX4_dropPiece_24 : decode cX4_dropPiece 24 = .ok (.goto (-20), 3) := by decide +kernel
theorem dX4_dropPiece_27 : decode cX4_dropPiece 27 = .ok (.aload_n 0, 1) := by decide +kernel
theorem dX4_dropPiece_28 : decode cX4_dropPiece 28 = .ok (.dup, 1) := by decide +kernel
theorem dX4_dropPiece_29 : decode cX4_dropPiece 29 = .ok (.getfield 24, 3) := by decide +kernel
theorem dX4_dropPiece_32 : decode cX4_dropPiece 32 = .ok (.iconst 1, 1) := by decide +kernel
theorem dX4_dropPiece_33 : decode cX4_dropPiece 33 = .ok (.isub, 1) := by decide +kernel
theorem dX4_dropPiece_34 : decode cX4_dropPiece 34 = .ok (.putfield 24, 3) := by decide +kernel
theorem dX4_dropPiece_37 : decode cX4_dropPiece 37 = .ok (.return_, 1) := by decide +kernel
theorem dX4_copyCount_0 : decode cX4_copyCount 0 = .ok (.iconst 0, 1) := by decide +kernel
theorem dX4_copyCount_1 : decode cX4_copyCount 1 = .ok (.istore_n 1, 1) := by decide +kernel
theorem dX4_copyCount_2 : decode cX4_copyCount 2 = .ok (.iconst 0, 1) := by decide +kernel
theorem dX4_copyCount_3 : decode cX4_copyCount 3 = .ok (.istore_n 2, 1) := by decide +kernel
theorem dX4_copyCount_4 : decode cX4_copyCount 4 = .ok (.iload_n 2, 1) := by decide +kernel
theorem dX4_copyCount_5 : decode cX4_copyCount 5 = .ok (.aload_n 0, 1) := by decide +kernel
theorem dX4_copyCount_6 : decode cX4_copyCount 6 = .ok (.getfield 24, 3) := by decide +kernel
theorem dX4_copyCount_9 : decode cX4_copyCount 9 = .ok (.if_icmp .ge 17, 3) := by decide +kernel
theorem dX4_copyCount_12 : decode cX4_copyCount 12 = .ok (.iload_n 1, 1) := by decide +kernel
theorem dX4_copyCount_13 : decode cX4_copyCount 13 = .ok (.aload_n 0, 1) := by decide +kernel
theorem dX4_copyCount_14 : decode cX4_copyCount 14 = .ok (.iload_n 2, 1) := by decide +kernel
theorem dX4_copyCount_15 : decode cX4_copyCount 15 = .ok (.invokevirtual 61, 3) := by decide +kernel
theorem dX4_copyCount_18 : decode cX4_copyCount 18 = .ok (.iadd, 1) := by decide +kernel
theorem dX4_copyCount_19 : decode cX4_copyCount 19 = .ok (.istore_n 1, 1) := by decide +kernel
theorem dX4_copyCount_20 : decode cX4_copyCount 20 = .ok (.iinc 2 1, 3) := by decide +kernel
theorem dX4_copyCount_23 : decode cX4_copyCount 23 = .ok (.goto (-19), 3) := by decide +kernel
theorem dX4_copyCount_26 : decode cX4_copyCount 26 = .ok (.iload_n 1, 1) := by decide +kernel
theorem dX4_copyCount_27 : decode cX4_copyCount 27 = .ok (.ireturn, 1) := by decide +kernel
theorem dX4_squareCount_0 : decode cX4_squareCount 0 = .ok (.iconst 0, 1) := by decide +kernel
theorem dX4_squareCount_1 : decode cX4_squareCount 1 = .ok (.istore_n 1, 1) := by decide +kernel
theorem dX4_squareCount_2 : decode cX4_squareCount 2 = .ok (.iconst 0, 1) := by decide +kernel
theorem dX4_squareCount_3 : decode cX4_squareCount 3 = .ok (.istore_n 2, 1) := by decide +kernel
theorem dX4_squareCount_4 : decode cX4_squareCount 4 = .ok (.iload_n 2, 1) := by decide +kernel
theorem dX4_squareCount_5 : decode cX4_squareCount 5 = .ok (.aload_n 0, 1) := by decide +kernel
theorem dX4_squareCount_6 : decode cX4_squareCount 6 = .ok (.getfield 24, 3) := by decide +kernel
theorem dX4_squareCount_9 : decode cX4_squareCount 9 = .ok (.if_icmp .ge 26, 3) := by decide +kernel
theorem dX4_squareCount_12 : decode cX4_squareCount 12 = .ok (.iload_n 1, 1) := by decide +kernel
theorem dX4_squareCount_13 : decode cX4_squareCount 13 = .ok (.aload_n 0, 1) := by decide +kernel
theorem dX4_squareCount_14 : decode cX4_squareCount 14 = .ok (.iload_n 2, 1) := by decide +kernel
theorem dX4_squareCount_15 : decode cX4_squareCount 15 = .ok (.invokevirtual 61, 3) := by decide +kernel
theorem dX4_squareCount_18 : decode cX4_squareCount 18 = .ok (.aload_n 0, 1) := by decide +kernel
theorem dX4_squareCount_19 : decode cX4_squareCount 19 = .ok (.iload_n 2, 1) := by decide +kernel
theorem dX4_squareCount_20 : decode cX4_squareCount 20 = .ok (.invokevirtual 47, 3) := by decide +kernel
theorem dX4_squareCount_23 : decode cX4_squareCount 23 = .ok (.invokestatic 89, 3) := by decide +kernel
theorem dX4_squareCount_26 : decode cX4_squareCount 26 = .ok (.imul, 1) := by decide +kernel
theorem dX4_squareCount_27 : decode cX4_squareCount 27 = .ok (.iadd, 1) := by decide +kernel
theorem dX4_squareCount_28 : decode cX4_squareCount 28 = .ok (.istore_n 1, 1) := by decide +kernel
theorem dX4_squareCount_29 : decode cX4_squareCount 29 = .ok (.iinc 2 1, 3) := by decide +kernel
theorem dX4_squareCount_32 : decode cX4_squareCount 32 = .ok (.goto (-28), 3) := by decide +kernel
theorem dX4_squareCount_35 : decode cX4_squareCount 35 = .ok (.iload_n 1, 1) := by decide +kernel
theorem dX4_squareCount_36 : decode cX4_squareCount 36 = .ok (.ireturn, 1) := by decide +kernel
theorem dX5_init_0 : decode cX5_init 0 = .ok (.aload_n 0, 1) := by decide +kernel
theorem dX5_init_1 : decode cX5_init 1 = .ok (.invokespecial 3, 3) := by decide +kernel
theorem dX5_init_4 : decode cX5_init 4 = .ok (.aload_n 0, 1) := by decide +kernel
theorem dX5_init_5 : decode cX5_init 5 = .ok (.sipush 160, 3) := by decide +kernel
theorem dX5_init_8 : decode cX5_init 8 = .ok (.newarray .int, 2) := by decide +kernel
theorem dX5_init_10 : decode cX5_init 10 = .ok (.putfield 9, 3) := by decide +kernel
theorem dX5_init_13 : decode cX5_init 13 = .ok (.aload_n 0, 1) := by decide +kernel
theorem dX5_init_14 : decode cX5_init 14 = .ok (.iconst 0, 1) := by decide +kernel
theorem dX5_init_15 : decode cX5_init 15 = .ok (.putfield 15, 3) := by decide +kernel
theorem dX5_init_18 : decode cX5_init 18 = .ok (.aload_n 0, 1) := by decide +kernel
theorem dX5_init_19 : decode cX5_init 19 = .ok (.new 19, 3) := by decide +kernel
theorem dX5_init_22 : decode cX5_init 22 = .ok (.dup, 1) := by decide +kernel
theorem dX5_init_23 : decode cX5_init 23 = .ok (.invokespecial 21, 3) := by decide +kernel
theorem dX5_init_26 : decode cX5_init 26 = .ok (.putfield 22, 3) := by decide +kernel
theorem dX5_init_29 : decode cX5_init 29 = .ok (.aload_n 0, 1) := by decide +kernel
theorem dX5_init_30 : decode cX5_init 30 = .ok (.iconst 0, 1) := by decide +kernel
theorem dX5_init_31 : decode cX5_init 31 = .ok (.putfield 26, 3) := by decide +kernel
theorem dX5_init_34 : decode cX5_init 34 = .ok (.aload_n 0, 1) := by decide +kernel
theorem dX5_init_35 : decode cX5_init 35 = .ok (.iconst 0, 1) := by decide +kernel
theorem dX5_init_36 : decode cX5_init 36 = .ok (.putfield 29, 3) := by decide +kernel
theorem dX5_init_39 : decode cX5_init 39 = .ok (.aload_n 0, 1) := by decide +kernel
theorem dX5_init_40 : decode cX5_init 40 = .ok (.iconst 0, 1) := by decide +kernel
theorem dX5_init_41 : decode cX5_init 41 = .ok (.putfield 32, 3) := by decide +kernel
theorem dX5_init_44 : decode cX5_init 44 = .ok (.aload_n 0, 1) := by decide +kernel
theorem dX5_init_45 : decode cX5_init 45 = .ok (.iconst 0, 1) := by decide +kernel
theorem dX5_init_46 : decode cX5_init 46 = .ok (.putfield 35, 3) := by decide +kernel
theorem dX5_init_49 : decode cX5_init 49 = .ok (.return_, 1) := by decide +kernel
theorem dX5_append_0 : decode cX5_append 0 = .ok (.aload_n 0, 1) := by decide +kernel
theorem dX5_append_1 : decode cX5_append 1 = .ok (.getfield 15, 3) := by decide +kernel
theorem dX5_append_4 : decode cX5_append 4 = .ok (.ifCond .lt 33, 3) := by decide +kernel
theorem dX5_append_7 : decode cX5_append 7 = .ok (.aload_n 0, 1) := by decide +kernel
theorem dX5_append_8 : decode cX5_append 8 = .ok (.getfield 15, 3) := by decide +kernel
theorem dX5_append_11 : decode cX5_append 11 = .ok (.sipush 160, 3) := by decide +kernel
theorem dX5_append_14 : decode cX5_append 14 = .ok (.if_icmp .ge 23, 3) := by decide +kernel
theorem dX5_append_17 : decode cX5_append 17 = .ok (.aload_n 0, 1) := by decide +kernel
theorem dX5_append_18 : decode cX5_append 18 = .ok (.getfield 9, 3) := by decide +kernel
theorem dX5_append_21 : decode cX5_append 21 = .ok (.aload_n 0, 1) := by decide +kernel
theorem dX5_append_22 : decode cX5_append 22 = .ok (.getfield 15, 3) := by decide +kernel
theorem dX5_append_25 : decode cX5_append 25 = .ok (.iload_n 1, 1) := by decide +kernel
theorem dX5_append_26 : decode cX5_append 26 = .ok (.iastore, 1) := by decide +kernel
theorem dX5_append_27 : decode cX5_append 27 = .ok (.aload_n 0, 1) := by decide +kernel
theorem dX5_append_28 : decode cX5_append 28 = .ok (.dup, 1) := by decide +kernel
theorem dX5_append_29 : decode cX5_append 29 = .ok (.getfield 15, 3) := by decide +kernel
theorem dX5_append_32 : decode cX5_append 32 = .ok (.iconst 1, 1) := by decide +kernel
theorem dX5_append_33 : decode cX5_append 33 = .ok (.iadd, 1) := by decide +kernel
theorem dX5_append_34 : decode cX5_append 34 = .ok (.putfield 15, 3) := by decide +kernel
theorem dX5_append_37 : decode cX5_append 37 = .ok (.return_, 1) := by decide +kernel
theorem dX5_handOver_0 : decode cX5_handOver 0 = .ok (.aload_n 0, 1) := by decide +kernel
theorem dX5_handOver_1 : decode cX5_handOver 1 = .ok (.getfield 22, 3) := by decide +kernel
theorem dX5_handOver_4 : decode cX5_handOver 4 = .ok (.aload_n 1, 1) := by decide +kernel
theorem dX5_handOver_5 : decode cX5_handOver 5 = .ok (.getfield 38, 3) := by decide +kernel
theorem dX5_handOver_8 : decode cX5_handOver 8 = .ok (.putfield 38, 3) := by decide +kernel
theorem dX5_handOver_11 : decode cX5_handOver 11 = .ok (.aload_n 0, 1) := by decide +kernel
theorem dX5_handOver_12 : decode cX5_handOver 12 = .ok (.getfield 22, 3) := by decide +kernel
theorem dX5_handOver_15 : decode cX5_handOver 15 = .ok (.aload_n 1, 1) := by decide +kernel
theorem dX5_handOver_16 : decode cX5_handOver 16 = .ok (.getfield 41, 3) := by decide +kernel
theorem dX5_handOver_19 : decode cX5_handOver 19 = .ok (.putfield 41, 3) := by decide +kernel
theorem dX5_handOver_22 : decode cX5_handOver 22 = .ok (.aload_n 1, 1) := by decide +kernel
theorem dX5_handOver_23 : decode cX5_handOver 23 = .ok (.aload_n 0, 1) := by decide +kernel
theorem dX5_handOver_24 : decode cX5_handOver 24 = .ok (.getfield 22, 3) := by decide +kernel
theorem dX5_handOver_27 : decode cX5_handOver 27 = .ok (.invokevirtual 44, 3) := by decide +kernel
theorem dX5_handOver_30 : decode cX5_handOver 30 = .ok (.return_, 1) := by decide +kernel
theorem dX5_read_0 : decode cX5_read 0 = .ok (.aload_n 0, 1) := by decide +kernel
theorem dX5_read_1 : decode cX5_read 1 = .ok (.iconst 0, 1) := by decide +kernel
theorem dX5_read_2 : decode cX5_read 2 = .ok (.putfield 26, 3) := by decide +kernel
theorem dX5_read_5 : decode cX5_read 5 = .ok (.aload_n 0, 1) := by decide +kernel
theorem dX5_read_6 : decode cX5_read 6 = .ok (.getfield 22, 3) := by decide +kernel
theorem dX5_read_9 : decode cX5_read 9 = .ok (.iconst 0, 1) := by decide +kernel
theorem dX5_read_10 : decode cX5_read 10 = .ok (.putfield 48, 3) := by decide +kernel
theorem dX5_read_13 : decode cX5_read 13 = .ok (.aload_n 0, 1) := by decide +kernel
theorem dX5_read_14 : decode cX5_read 14 = .ok (.invokevirtual 51, 3) := by decide +kernel
theorem dX5_read_17 : decode cX5_read 17 = .ok (.ifCond .ne 8, 3) := by decide +kernel
theorem dX5_read_20 : decode cX5_read 20 = .ok (.aload_n 0, 1) := by decide +kernel
theorem dX5_read_21 : decode cX5_read 21 = .ok (.getfield 26, 3) := by decide +kernel
theorem dX5_read_24 : decode cX5_read 24 = .ok (.ireturn, 1) := by decide +kernel
theorem dX5_read_25 : decode cX5_read 25 = .ok (.iconst 0, 1) := by decide +kernel
theorem dX5_read_26 : decode cX5_read 26 = .ok (.istore_n 1, 1) := by decide +kernel
theorem dX5_read_27 : decode cX5_read 27 = .ok (.iload_n 1, 1) := by decide +kernel
theorem dX5_read_28 : decode cX5_read 28 = .ok (.bipush 8, 2) := by decide +kernel
theorem dX5_read_30 : decode cX5_read 30 = .ok (.if_icmp .ge 40, 3) := by decide +kernel
theorem dX5_read_33 : decode cX5_read 33 = .ok (.aload_n 0, 1) := by decide +kernel
theorem dX5_read_34 : decode cX5_read 34 = .ok (.invokevirtual 55, 3) := by decide +kernel
theorem dX5_read_37 : decode cX5_read 37 = .ok (.bipush 124, 2) := by decide +kernel
theorem dX5_read_39 : decode cX5_read 39 = .ok (.if_icmp .ne 31, 3) := by decide +kernel
theorem dX5_read_42 : decode cX5_read 42 = .ok (.aload_n 0, 1) := by decide +kernel
theorem dX5_read_43 : decode cX5_read 43 = .ok (.dup, 1) := by decide +kernel
theorem dX5_read_44 : decode cX5_read 44 = .ok (.getfield 26, 3) := by decide +kernel
theorem dX5_read_47 : decode cX5_read 47 = .ok (.iconst 1, 1) := by decide +kernel
theorem dX5_read_48 : decode cX5_read 48 = .ok (.iadd, 1) := by decide +kernel
theorem dX5_read_49 : decode cX5_read 49 = .ok (.putfield 26, 3) := by decide +kernel
theorem dX5_read_52 : decode cX5_read 52 = .ok (.aload_n 0, 1) := by decide +kernel
theorem dX5_read_53 : decode cX5_read 53 = .ok (.invokevirtual 59, 3) := by decide +kernel
theorem dX5_read_56 : decode cX5_read 56 = .ok (.ifCond .ne 8, 3) := by decide +kernel
theorem dX5_read_59 : decode cX5_read 59 = .ok (.aload_n 0, 1) := by decide +kernel
theorem dX5_read_60 : decode cX5_read 60 = .ok (.getfield 26, 3) := by decide +kernel
theorem dX5_read_63 : decode cX5_read 63 = .ok (.ireturn, 1) := by decide +kernel
theorem dX5_read_64 : decode cX5_read 64 = .ok (.iinc 1 1, 3) := by decide +kernel
theorem dX5_read_67 : decode cX5_read 67 = .ok (.goto (-40), 3) := by decide +kernel
theorem dX5_read_70 : decode cX5_read 70 = .ok (.aload_n 0, 1) := by decide +kernel
theorem dX5_read_71 : decode cX5_read 71 = .ok (.invokevirtual 55, 3) := by decide +kernel
theorem dX5_read_74 : decode cX5_read 74 = .ok (.iconst (-1), 1) := by decide +kernel
theorem dX5_read_75 : decode cX5_read 75 = .ok (.if_icmp .ne 7, 3) := by decide +kernel
theorem dX5_read_78 : decode cX5_read 78 = .ok (.iconst (-1), 1) := by decide +kernel
theorem dX5_read_79 : decode cX5_read 79 = .ok (.goto 7, 3) := by decide +kernel
theorem dX5_read_82 : decode cX5_read 82 = .ok (.aload_n 0, 1) := by decide +kernel
theorem dX5_read_83 : decode cX5_read 83 = .ok (.getfield 26, 3) := by decide +kernel
theorem dX5_read_86 : decode cX5_read 86 = .ok (.ireturn, 1) := by decide +kernel
theorem dX5_look_0 : decode cX5_look 0 = .ok (.aload_n 0, 1) := by decide +kernel
theorem dX5_look_1 : decode cX5_look 1 = .ok (.getfield 26, 3) := by decide +kernel
theorem dX5_look_4 : decode cX5_look 4 = .ok (.ifCond .lt 28, 3) := by decide +kernel
theorem dX5_look_7 : decode cX5_look 7 = .ok (.aload_n 0, 1) := by decide +kernel
theorem dX5_look_8 : decode cX5_look 8 = .ok (.getfield 26, 3) := by decide +kernel
theorem dX5_look_11 : decode cX5_look 11 = .ok (.aload_n 0, 1) := by decide +kernel
theorem dX5_look_12 : decode cX5_look 12 = .ok (.getfield 15, 3) := by decide +kernel
theorem dX5_look_15 : decode cX5_look 15 = .ok (.if_icmp .ge 17, 3) := by decide +kernel
theorem dX5_look_18 : decode cX5_look 18 = .ok (.aload_n 0, 1) := by decide +kernel
theorem dX5_look_19 : decode cX5_look 19 = .ok (.getfield 26, 3) := by decide +kernel
theorem dX5_look_22 : decode cX5_look 22 = .ok (.sipush 160, 3) := by decide +kernel
theorem dX5_look_25 : decode cX5_look 25 = .ok (.if_icmp .ge 7, 3) := by decide +kernel
theorem dX5_look_28 : decode cX5_look 28 = .ok (.iconst 1, 1) := by decide +kernel
theorem dX5_look_29 : decode cX5_look 29 = .ok (.goto 4, 3) := by decide +kernel
theorem dX5_look_32 : decode cX5_look 32 = .ok (.iconst 0, 1) := by decide +kernel
theorem dX5_look_33 : decode cX5_look 33 = .ok (.istore_n 1, 1) := by decide +kernel
theorem dX5_look_34 : decode cX5_look 34 = .ok (.iload_n 1, 1) := by decide +kernel
theorem dX5_look_35 : decode cX5_look 35 = .ok (.ifCond .eq 15, 3) := by decide +kernel
theorem dX5_look_38 : decode cX5_look 38 = .ok (.aload_n 0, 1) := by decide +kernel
theorem dX5_look_39 : decode cX5_look 39 = .ok (.getfield 9, 3) := by decide +kernel
theorem dX5_look_42 : decode cX5_look 42 = .ok (.aload_n 0, 1) := by decide +kernel
theorem dX5_look_43 : decode cX5_look 43 = .ok (.getfield 26, 3) := by decide +kernel
theorem dX5_look_46 : decode cX5_look 46 = .ok (.iaload, 1) := by decide +kernel
theorem dX5_look_47 : decode cX5_look 47 = .ok (.goto 4, 3) := by decide +kernel
theorem dX5_look_50 : decode cX5_look 50 = .ok (.iconst (-1), 1) := by decide +kernel
theorem dX5_look_51 : decode cX5_look 51 = .ok (.ireturn, 1) := by decide +kernel
theorem dX5_readBoard_0 : decode cX5_readBoard 0 = .ok (.aload_n 0, 1) := by decide +kernel
theorem dX5_readBoard_1 : decode cX5_readBoard 1 = .ok (.bipush 6, 2) := by decide +kernel
theorem dX5_readBoard_3 : decode cX5_readBoard 3 = .ok (.iconst 1, 1) := by decide +kernel
theorem dX5_readBoard_4 : decode cX5_readBoard 4 = .ok (.invokevirtual 62, 3) := by decide +kernel
theorem dX5_readBoard_7 : decode cX5_readBoard 7 = .ok (.ifCond .ne 5, 3) := by decide +kernel
theorem dX5_readBoard_10 : decode cX5_readBoard 10 = .ok (.iconst 0, 1) := by decide +kernel
theorem dX5_readBoard_11 : decode cX5_readBoard 11 = .ok (.ireturn, 1) := by decide +kernel
theorem dX5_readBoard_12 : decode cX5_readBoard 12 = .ok (.aload_n 0, 1) := by decide +kernel
theorem dX5_readBoard_13 : decode cX5_readBoard 13 = .ok (.getfield 22, 3) := by decide +kernel
theorem dX5_readBoard_16 : decode cX5_readBoard 16 = .ok (.aload_n 0, 1) := by decide +kernel
theorem dX5_readBoard_17 : decode cX5_readBoard 17 = .ok (.getfield 29, 3) := by decide +kernel
theorem dX5_readBoard_20 : decode cX5_readBoard 20 = .ok (.putfield 66, 3) := by decide +kernel
theorem dX5_readBoard_23 : decode cX5_readBoard 23 = .ok (.aload_n 0, 1) := by decide +kernel
theorem dX5_readBoard_24 : decode cX5_readBoard 24 = .ok (.getfield 22, 3) := by decide +kernel
theorem dX5_readBoard_27 : decode cX5_readBoard 27 = .ok (.aload_n 0, 1) := by decide +kernel
theorem dX5_readBoard_28 : decode cX5_readBoard 28 = .ok (.getfield 32, 3) := by decide +kernel
theorem dX5_readBoard_31 : decode cX5_readBoard 31 = .ok (.putfield 69, 3) := by decide +kernel
theorem dX5_readBoard_34 : decode cX5_readBoard 34 = .ok (.iconst 1, 1) := by decide +kernel
theorem dX5_readBoard_35 : decode cX5_readBoard 35 = .ok (.ireturn, 1) := by decide +kernel
theorem dX5_readRows_0 : decode cX5_readRows 0 = .ok (.aload_n 0, 1) := by decide +kernel
theorem dX5_readRows_1 : decode cX5_readRows 1 = .ok (.iload_n 1, 1) := by decide +kernel
theorem dX5_readRows_2 : decode cX5_readRows 2 = .ok (.putfield 29, 3) := by decide +kernel
theorem dX5_readRows_5 : decode cX5_readRows 5 = .ok (.iconst 0, 1) := by decide +kernel
theorem dX5_readRows_6 : decode cX5_readRows 6 = .ok (.istore_n 3, 1) := by decide +kernel
theorem dX5_readRows_7 : decode cX5_readRows 7 = .ok (.iload_n 3, 1) := by decide +kernel
theorem dX5_readRows_8 : decode cX5_readRows 8 = .ok (.iload_n 1, 1) := by decide +kernel
theorem dX5_readRows_9 : decode cX5_readRows 9 = .ok (.if_icmp .ge 79, 3) := by decide +kernel
theorem dX5_readRows_12 : decode cX5_readRows 12 = .ok (.aload_n 0, 1) := by decide +kernel
theorem dX5_readRows_13 : decode cX5_readRows 13 = .ok (.iload_n 3, 1) := by decide +kernel
theorem dX5_readRows_14 : decode cX5_readRows 14 = .ok (.iload_n 2, 1) := by decide +kernel
theorem dX5_readRows_15 : decode cX5_readRows 15 = .ok (.invokevirtual 72, 3) := by decide +kernel
theorem dX5_readRows_18 : decode cX5_readRows 18 = .ok (.istore 4, 2) := by decide +kernel
theorem dX5_readRows_20 : decode cX5_readRows 20 = .ok (.iload_n 3, 1) := by decide +kernel
theorem dX5_readRows_21 : decode cX5_readRows 21 = .ok (.ifCond .ne 9, 3) := by decide +kernel
theorem dX5_readRows_24 : decode cX5_readRows 24 = .ok (.aload_n 0, 1) := by decide +kernel
theorem dX5_readRows_25 : decode cX5_readRows 25 = .ok (.iload 4, 2) := by decide +kernel
theorem dX5_readRows_27 : decode cX5_readRows 27 = .ok (.putfield 29, 3) := by decide +kernel
theorem dX5_readRows_30 : decode cX5_readRows 30 = .ok (.iload 4, 2) := by decide +kernel
theorem dX5_readRows_32 : decode cX5_readRows 32 = .ok (.ifCond .eq 12, 3) := by decide +kernel
theorem dX5_readRows_35 : decode cX5_readRows 35 = .ok (.iload 4, 2) := by decide +kernel
theorem dX5_readRows_37 : decode cX5_readRows 37 = .ok (.aload_n 0, 1) := by decide +kernel
theorem dX5_readRows_38 : decode cX5_readRows 38 = .ok (.getfield 29, 3) := by decide +kernel
theorem dX5_readRows_41 : decode cX5_readRows 41 = .ok (.if_icmp .ge 5, 3) := by decide +kernel
theorem dX5_readRows_44 : decode cX5_readRows 44 = .ok (.iconst 0, 1) := by decide +kernel
theorem dX5_readRows_45 : decode cX5_readRows 45 = .ok (.ireturn, 1) := by decide +kernel
theorem dX5_readRows_46 : decode cX5_readRows 46 = .ok (.aload_n 0, 1) := by decide +kernel
theorem dX5_readRows_47 : decode cX5_readRows 47 = .ok (.iload_n 3, 1) := by decide +kernel
theorem dX5_readRows_48 : decode cX5_readRows 48 = .ok (.iconst 1, 1) := by decide +kernel
theorem dX5_readRows_49 : decode cX5_readRows 49 = .ok (.iadd, 1) := by decide +kernel
theorem dX5_readRows_50 : decode cX5_readRows 50 = .ok (.putfield 32, 3) := by decide +kernel
theorem dX5_readRows_53 : decode cX5_readRows 53 = .ok (.aload_n 0, 1) := by decide +kernel
theorem dX5_readRows_54 : decode cX5_readRows 54 = .ok (.getfield 32, 3) := by decide +kernel
theorem dX5_readRows_57 : decode cX5_readRows 57 = .ok (.iload_n 1, 1) := by decide +kernel
theorem dX5_readRows_58 : decode cX5_readRows 58 = .ok (.if_icmp .eq 12, 3) := by decide +kernel
theorem dX5_readRows_61 : decode cX5_readRows 61 = .ok (.aload_n 0, 1) := by decide +kernel
theorem dX5_readRows_62 : decode cX5_readRows 62 = .ok (.invokevirtual 55, 3) := by decide +kernel
theorem dX5_readRows_65 : decode cX5_readRows 65 = .ok (.bipush 47, 2) := by decide +kernel
theorem dX5_readRows_67 : decode cX5_readRows 67 = .ok (.if_icmp .eq 5, 3) := by decide +kernel
theorem dX5_readRows_70 : decode cX5_readRows 70 = .ok (.iconst 1, 1) := by decide +kernel
theorem dX5_readRows_71 : decode cX5_readRows 71 = .ok (.ireturn, 1) := by decide +kernel
theorem dX5_readRows_72 : decode cX5_readRows 72 = .ok (.aload_n 0, 1) := by decide +kernel
theorem dX5_readRows_73 : decode cX5_readRows 73 = .ok (.dup, 1) := by decide +kernel
theorem dX5_readRows_74 : decode cX5_readRows 74 = .ok (.getfield 26, 3) := by decide +kernel
theorem dX5_readRows_77 : decode cX5_readRows 77 = .ok (.iconst 1, 1) := by decide +kernel
theorem dX5_readRows_78 : decode cX5_readRows 78 = .ok (.iadd, 1) := by decide +kernel
theorem dX5_readRows_79 : decode cX5_readRows 79 = .ok (.putfield 26, 3) := by decide +kernel
theorem dX5_readRows_82 : decode cX5_readRows 82 = .ok (.iinc 3 1, 3) := by decide +kernel
theorem dX5_readRows_85 : decode cX5_readRows 85 = .ok (.goto (-78), 3) := by decide +kernel
theorem dX5_readRows_88 : decode cX5_readRows 88 = .ok (.iconst 1, 1) := by decide +kernel
theorem dX5_readRows_89 : decode cX5_readRows 89 = .ok (.ireturn, 1) := by decide +kernel
theorem dX5_readRow_0 : decode cX5_readRow 0 = .ok (.iconst 0, 1) := by decide +kernel
theorem dX5_readRow_1 : decode cX5_readRow 1 = .ok (.istore_n 3, 1) := by decide +kernel
theorem dX5_readRow_2 : decode cX5_readRow 2 = .ok (.iload_n 3, 1) := by decide +kernel
theorem dX5_readRow_3 : decode cX5_readRow 3 = .ok (.aload_n 0, 1) := by decide +kernel
theorem dX5_readRow_4 : decode cX5_readRow 4 = .ok (.getfield 29, 3) := by decide +kernel
theorem dX5_readRow_7 : decode cX5_readRow 7 = .ok (.if_icmp .ge 44, 3) := by decide +kernel
theorem dX5_readRow_10 : decode cX5_readRow 10 = .ok (.iload_n 2, 1) := by decide +kernel
theorem dX5_readRow_11 : decode cX5_readRow 11 = .ok (.ifCond .eq 15, 3) := by decide +kernel
theorem dX5_readRow_14 : decode cX5_readRow 14 = .ok (.aload_n 0, 1) := by decide +kernel
theorem dX5_readRow_15 : decode cX5_readRow 15 = .ok (.iload_n 1, 1) := by decide +kernel
theorem dX5_readRow_16 : decode cX5_readRow 16 = .ok (.iload_n 3, 1) := by decide +kernel
theorem dX5_readRow_17 : decode cX5_readRow 17 = .ok (.invokevirtual 76, 3) := by decide +kernel
theorem dX5_readRow_20 : decode cX5_readRow 20 = .ok (.ifCond .eq 31, 3) := by decide +kernel
theorem dX5_readRow_23 : decode cX5_readRow 23 = .ok (.goto 12, 3) := by decide +kernel
theorem dX5_readRow_26 : decode cX5_readRow 26 = .ok (.aload_n 0, 1) := by decide +kernel
theorem dX5_readRow_27 : decode cX5_readRow 27 = .ok (.iload_n 1, 1) := by decide +kernel
theorem dX5_readRow_28 : decode cX5_readRow 28 = .ok (.iload_n 3, 1) := by decide +kernel
theorem dX5_readRow_29 : decode cX5_readRow 29 = .ok (.invokevirtual 80, 3) := by decide +kernel
theorem dX5_readRow_32 : decode cX5_readRow 32 = .ok (.ifCond .eq 19, 3) := by decide +kernel
theorem dX5_readRow_35 : decode cX5_readRow 35 = .ok (.aload_n 0, 1) := by decide +kernel
theorem dX5_readRow_36 : decode cX5_readRow 36 = .ok (.dup, 1) := by decide +kernel
theorem dX5_readRow_37 : decode cX5_readRow 37 = .ok (.getfield 26, 3) := by decide +kernel
theorem dX5_readRow_40 : decode cX5_readRow 40 = .ok (.iconst 1, 1) := by decide +kernel
theorem dX5_readRow_41 : decode cX5_readRow 41 = .ok (.iadd, 1) := by decide +kernel
theorem dX5_readRow_42 : decode cX5_readRow 42 = .ok (.putfield 26, 3) := by decide +kernel
theorem dX5_readRow_45 : decode cX5_readRow 45 = .ok (.iinc 3 1, 3) := by decide +kernel
theorem dX5_readRow_48 : decode cX5_readRow 48 = .ok (.goto (-46), 3) := by decide +kernel
theorem dX5_readRow_51 : decode cX5_readRow 51 = .ok (.iload_n 3, 1) := by decide +kernel
theorem dX5_readRow_52 : decode cX5_readRow 52 = .ok (.ireturn, 1) := by decide +kernel
theorem dX5_readCell_0 : decode cX5_readCell 0 = .ok (.aload_n 0, 1) := by decide +kernel
theorem dX5_readCell_1 : decode cX5_readCell 1 = .ok (.invokevirtual 55, 3) := by decide +kernel
theorem dX5_readCell_4 : decode cX5_readCell 4 = .ok (.istore_n 3, 1) := by decide +kernel
theorem dX5_readCell_5 : decode cX5_readCell 5 = .ok (.iload_n 1, 1) := by decide +kernel
theorem dX5_readCell_6 : decode cX5_readCell 6 = .ok (.aload_n 0, 1) := by decide +kernel
theorem dX5_readCell_7 : decode cX5_readCell 7 = .ok (.getfield 29, 3) := by decide +kernel
theorem dX5_readCell_10 : decode cX5_readCell 10 = .ok (.imul, 1) := by decide +kernel
theorem dX5_readCell_11 : decode cX5_readCell 11 = .ok (.iload_n 2, 1) := by decide +kernel
theorem dX5_readCell_12 : decode cX5_readCell 12 = .ok (.iadd, 1) := by decide +kernel
theorem dX5_readCell_13 : decode cX5_readCell 13 = .ok (.istore 4, 2) := by decide +kernel
theorem dX5_readCell_15 : decode cX5_readCell 15 = .ok (.iload_n 3, 1) := by decide +kernel
theorem dX5_readCell_16 : decode cX5_readCell 16 = .ok (.bipush 46, 2) := by decide +kernel
theorem dX5_readCell_18 : decode cX5_readCell 18 = .ok (.if_icmp .ne 16, 3) := by decide +kernel
theorem dX5_readCell_21 : decode cX5_readCell 21 = .ok (.aload_n 0, 1) := by decide +kernel
theorem dX5_readCell_22 : decode cX5_readCell 22 = .ok (.getfield 22, 3) := by decide +kernel
theorem dX5_readCell_25 : decode cX5_readCell 25 = .ok (.iload 4, 2) := by decide +kernel
theorem dX5_readCell_27 : decode cX5_readCell 27 = .ok (.iconst 0, 1) := by decide +kernel
theorem dX5_readCell_28 : decode cX5_readCell 28 = .ok (.invokevirtual 83, 3) := by decide +kernel
theorem dX5_readCell_31 : decode cX5_readCell 31 = .ok (.goto 51, 3) := by decide +kernel
theorem dX5_readCell_34 : decode cX5_readCell 34 = .ok (.iload_n 3, 1) := by decide +kernel
theorem dX5_readCell_35 : decode cX5_readCell 35 = .ok (.bipush 35, 2) := by decide +kernel
theorem dX5_readCell_37 : decode cX5_readCell 37 = .ok (.if_icmp .ne 16, 3) := by decide +kernel
theorem dX5_readCell_40 : decode cX5_readCell 40 = .ok (.aload_n 0, 1) := by decide +kernel
theorem dX5_readCell_41 : decode cX5_readCell 41 = .ok (.getfield 22, 3) := by decide +kernel
theorem dX5_readCell_44 : decode cX5_readCell 44 = .ok (.iload 4, 2) := by decide +kernel
theorem dX5_readCell_46 : decode cX5_readCell 46 = .ok (.iconst (-1), 1) := by decide +kernel
theorem dX5_readCell_47 : decode cX5_readCell 47 = .ok (.invokevirtual 83, 3) := by decide +kernel
theorem dX5_readCell_50 : decode cX5_readCell 50 = .ok (.goto 32, 3) := by decide +kernel
theorem dX5_readCell_53 : decode cX5_readCell 53 = .ok (.iload_n 3, 1) := by decide +kernel
theorem dX5_readCell_54 : decode cX5_readCell 54 = .ok (.bipush 49, 2) := by decide +kernel
theorem dX5_readCell_56 : decode cX5_readCell 56 = .ok (.bipush 51, 2) := by decide +kernel
theorem dX5_readCell_58 : decode cX5_readCell 58 = .ok (.invokestatic 87, 3) := by decide +kernel
theorem dX5_readCell_61 : decode cX5_readCell 61 = .ok (.ifCond .eq 19, 3) := by decide +kernel
theorem dX5_readCell_64 : decode cX5_readCell 64 = .ok (.aload_n 0, 1) := by decide +kernel
theorem dX5_readCell_65 : decode cX5_readCell 65 = .ok (.getfield 22, 3) := by decide +kernel
theorem dX5_readCell_68 : decode cX5_readCell 68 = .ok (.iload 4, 2) := by decide +kernel
theorem dX5_readCell_70 : decode cX5_readCell 70 = .ok (.iload_n 3, 1) := by decide +kernel
theorem dX5_readCell_71 : decode cX5_readCell 71 = .ok (.bipush 48, 2) := by decide +kernel
theorem dX5_readCell_73 : decode cX5_readCell 73 = .ok (.isub, 1) := by decide +kernel
theorem dX5_readCell_74 : decode cX5_readCell 74 = .ok (.invokevirtual 83, 3) := by decide +kernel
theorem dX5_readCell_77 : decode cX5_readCell 77 = .ok (.goto 5, 3) := by decide +kernel
theorem dX5_readCell_80 : decode cX5_readCell 80 = .ok (.iconst 0, 1) := by decide +kernel
theorem dX5_readCell_81 : decode cX5_readCell 81 = .ok (.ireturn, 1) := by decide +kernel
theorem dX5_readCell_82 : decode cX5_readCell 82 = .ok (.iconst 1, 1) := by decide +kernel
theorem dX5_readCell_83 : decode cX5_readCell 83 = .ok (.ireturn, 1) := by decide +kernel
theorem dX5_readSquare_0 : decode cX5_readSquare 0 = .ok (.aload_n 0, 1) := by decide +kernel
theorem dX5_readSquare_1 : decode cX5_readSquare 1 = .ok (.invokevirtual 55, 3) := by decide +kernel
theorem dX5_readSquare_4 : decode cX5_readSquare 4 = .ok (.istore_n 3, 1) := by decide +kernel
theorem dX5_readSquare_5 : decode cX5_readSquare 5 = .ok (.iload_n 3, 1) := by decide +kernel
theorem dX5_readSquare_6 : decode cX5_readSquare 6 = .ok (.bipush 111, 2) := by decide +kernel
theorem dX5_readSquare_8 : decode cX5_readSquare 8 = .ok (.if_icmp .ne 19, 3) := by decide +kernel
theorem dX5_readSquare_11 : decode cX5_readSquare 11 = .ok (.aload_n 0, 1) := by decide +kernel
theorem dX5_readSquare_12 : decode cX5_readSquare 12 = .ok (.dup, 1) := by decide +kernel
theorem dX5_readSquare_13 : decode cX5_readSquare 13 = .ok (.getfield 35, 3) := by decide +kernel
theorem dX5_readSquare_16 : decode cX5_readSquare 16 = .ok (.iconst 1, 1) := by decide +kernel
theorem dX5_readSquare_17 : decode cX5_readSquare 17 = .ok (.iload_n 1, 1) := by decide +kernel
theorem dX5_readSquare_18 : decode cX5_readSquare 18 = .ok (.iconst 4, 1) := by decide +kernel
theorem dX5_readSquare_19 : decode cX5_readSquare 19 = .ok (.imul, 1) := by decide +kernel
theorem dX5_readSquare_20 : decode cX5_readSquare 20 = .ok (.iload_n 2, 1) := by decide +kernel
theorem dX5_readSquare_21 : decode cX5_readSquare 21 = .ok (.iadd, 1) := by decide +kernel
theorem dX5_readSquare_22 : decode cX5_readSquare 22 = .ok (.ishl, 1) := by decide +kernel
theorem dX5_readSquare_23 : decode cX5_readSquare 23 = .ok (.ior, 1) := by decide +kernel
theorem dX5_readSquare_24 : decode cX5_readSquare 24 = .ok (.putfield 35, 3) := by decide +kernel
theorem dX5_readSquare_27 : decode cX5_readSquare 27 = .ok (.iload_n 3, 1) := by decide +kernel
theorem dX5_readSquare_28 : decode cX5_readSquare 28 = .ok (.bipush 111, 2) := by decide +kernel
theorem dX5_readSquare_30 : decode cX5_readSquare 30 = .ok (.if_icmp .eq 9, 3) := by decide +kernel
theorem dX5_readSquare_33 : decode cX5_readSquare 33 = .ok (.iload_n 3, 1) := by decide +kernel
theorem dX5_readSquare_34 : decode cX5_readSquare 34 = .ok (.bipush 46, 2) := by decide +kernel
theorem dX5_readSquare_36 : decode cX5_readSquare 36 = .ok (.if_icmp .ne 7, 3) := by decide +kernel
theorem dX5_readSquare_39 : decode cX5_readSquare 39 = .ok (.iconst 1, 1) := by decide +kernel
theorem dX5_readSquare_40 : decode cX5_readSquare 40 = .ok (.goto 4, 3) := by decide +kernel
theorem dX5_readSquare_43 : decode cX5_readSquare 43 = .ok (.iconst 0, 1) := by decide +kernel
theorem dX5_readSquare_44 : decode cX5_readSquare 44 = .ok (.ireturn, 1) := by decide +kernel
theorem dX5_readPiece_0 : decode cX5_readPiece 0 = .ok (.aload_n 0, 1) := by decide +kernel
theorem dX5_readPiece_1 : decode cX5_readPiece 1 = .ok (.iconst 0, 1) := by decide +kernel
theorem dX5_readPiece_2 : decode cX5_readPiece 2 = .ok (.putfield 35, 3) := by decide +kernel
theorem dX5_readPiece_5 : decode cX5_readPiece 5 = .ok (.aload_n 0, 1) := by decide +kernel
theorem dX5_readPiece_6 : decode cX5_readPiece 6 = .ok (.iconst 4, 1) := by decide +kernel
theorem dX5_readPiece_7 : decode cX5_readPiece 7 = .ok (.iconst 0, 1) := by decide +kernel
theorem dX5_readPiece_8 : decode cX5_readPiece 8 = .ok (.invokevirtual 62, 3) := by decide +kernel
theorem dX5_readPiece_11 : decode cX5_readPiece 11 = .ok (.ifCond .eq 24, 3) := by decide +kernel
theorem dX5_readPiece_14 : decode cX5_readPiece 14 = .ok (.aload_n 0, 1) := by decide +kernel
theorem dX5_readPiece_15 : decode cX5_readPiece 15 = .ok (.getfield 35, 3) := by decide +kernel
theorem dX5_readPiece_18 : decode cX5_readPiece 18 = .ok (.invokestatic 91, 3) := by decide +kernel
theorem dX5_readPiece_21 : decode cX5_readPiece 21 = .ok (.ifCond .eq 14, 3) := by decide +kernel
theorem dX5_readPiece_24 : decode cX5_readPiece 24 = .ok (.aload_n 0, 1) := by decide +kernel
theorem dX5_readPiece_25 : decode cX5_readPiece 25 = .ok (.invokevirtual 97, 3) := by decide +kernel
theorem dX5_readPiece_28 : decode cX5_readPiece 28 = .ok (.ifCond .eq 7, 3) := by decide +kernel
theorem dX5_readPiece_31 : decode cX5_readPiece 31 = .ok (.iconst 1, 1) := by decide +kernel
theorem dX5_readPiece_32 : decode cX5_readPiece 32 = .ok (.goto 4, 3) := by decide +kernel
theorem dX5_readPiece_35 : decode cX5_readPiece 35 = .ok (.iconst 0, 1) := by decide +kernel
theorem dX5_readPiece_36 : decode cX5_readPiece 36 = .ok (.ireturn, 1) := by decide +kernel
theorem dX5_readOptions_0 : decode cX5_readOptions 0 = .ok (.iconst 0, 1) := by decide +kernel
theorem dX5_readOptions_1 : decode cX5_readOptions 1 = .ok (.istore_n 1, 1) := by decide +kernel
theorem dX5_readOptions_2 : decode cX5_readOptions 2 = .ok (.iconst 0, 1) := by decide +kernel
theorem dX5_readOptions_3 : decode cX5_readOptions 3 = .ok (.istore_n 2, 1) := by decide +kernel
theorem dX5_readOptions_4 : decode cX5_readOptions 4 = .ok (.iconst 0, 1) := by decide +kernel
theorem dX5_readOptions_5 : decode cX5_readOptions 5 = .ok (.istore_n 3, 1) := by decide +kernel
theorem dX5_readOptions_6 : decode cX5_readOptions 6 = .ok (.iconst 0, 1) := by decide +kernel
theorem dX5_readOptions_7 : decode cX5_readOptions 7 = .ok (.istore 4, 2) := by decide +kernel
theorem dX5_readOptions_9 : decode cX5_readOptions 9 = .ok (.iload 4, 2) := by decide +kernel
theorem dX5_readOptions_11 : decode cX5_readOptions 11 = .ok (.iconst 3, 1) := by decide +kernel
theorem dX5_readOptions_12 : decode cX5_readOptions 12 = .ok (.if_icmp .ge 126, 3) := by decide +kernel
theorem dX5_readOptions_15 : decode cX5_readOptions 15 = .ok (.aload_n 0, 1) := by decide +kernel
theorem dX5_readOptions_16 : decode cX5_readOptions 16 = .ok (.invokevirtual 55, 3) := by decide +kernel
theorem dX5_readOptions_19 : decode cX5_readOptions 19 = .ok (.istore 5, 2) := by decide +kernel
theorem dX5_readOptions_21 : decode cX5_readOptions 21 = .ok (.iload 5, 2) := by decide +kernel
theorem dX5_readOptions_23 : decode cX5_readOptions 23 = .ok (.bipush 116, 2) := by decide +kernel
theorem dX5_readOptions_25 : decode cX5_readOptions 25 = .ok (.if_icmp .eq 10, 3) := by decide +kernel
theorem dX5_readOptions_28 : decode cX5_readOptions 28 = .ok (.iload 5, 2) := by decide +kernel
theorem dX5_readOptions_30 : decode cX5_readOptions 30 = .ok (.bipush 109, 2) := by decide +kernel
theorem dX5_readOptions_32 : decode cX5_readOptions 32 = .ok (.if_icmp .ne 33, 3) := by decide +kernel
theorem dX5_readOptions_35 : decode cX5_readOptions 35 = .ok (.iload_n 1, 1) := by decide +kernel
theorem dX5_readOptions_36 : decode cX5_readOptions 36 = .ok (.ifCond .ne 29, 3) := by decide +kernel
theorem dX5_readOptions_39 : decode cX5_readOptions 39 = .ok (.iload 5, 2) := by decide +kernel
theorem dX5_readOptions_41 : decode cX5_readOptions 41 = .ok (.bipush 116, 2) := by decide +kernel
theorem dX5_readOptions_43 : decode cX5_readOptions 43 = .ok (.if_icmp .ne 7, 3) := by decide +kernel
theorem dX5_readOptions_46 : decode cX5_readOptions 46 = .ok (.iconst 1, 1) := by decide +kernel
theorem dX5_readOptions_47 : decode cX5_readOptions 47 = .ok (.goto 4, 3) := by decide +kernel
theorem dX5_readOptions_50 : decode cX5_readOptions 50 = .ok (.iconst 2, 1) := by decide +kernel
theorem dX5_readOptions_51 : decode cX5_readOptions 51 = .ok (.istore_n 1, 1) := by decide +kernel
theorem dX5_readOptions_52 : decode cX5_readOptions 52 = .ok (.aload_n 0, 1) := by decide +kernel
theorem dX5_readOptions_53 : decode cX5_readOptions 53 = .ok (.dup, 1) := by decide +kernel
theorem dX5_readOptions_54 : decode cX5_readOptions 54 = .ok (.getfield 26, 3) := by decide +kernel
theorem dX5_readOptions_57 : decode cX5_readOptions 57 = .ok (.iconst 1, 1) := by decide +kernel
theorem dX5_readOptions_58 : decode cX5_readOptions 58 = .ok (.iadd, 1) := by decide +kernel
theorem dX5_readOptions_59 : decode cX5_readOptions 59 = .ok (.putfield 26, 3) := by decide +kernel
theorem dX5_readOptions_62 : decode cX5_readOptions 62 = .ok (.goto 70, 3) := by decide +kernel
theorem dX5_readOptions_65 : decode cX5_readOptions 65 = .ok (.iload 5, 2) := by decide +kernel
theorem dX5_readOptions_67 : decode cX5_readOptions 67 = .ok (.bipush 99, 2) := by decide +kernel
theorem dX5_readOptions_69 : decode cX5_readOptions 69 = .ok (.if_icmp .ne 29, 3) := by decide +kernel
theorem dX5_readOptions_72 : decode cX5_readOptions 72 = .ok (.iload_n 2, 1) := by decide +kernel
theorem dX5_readOptions_73 : decode cX5_readOptions 73 = .ok (.ifCond .ne 25, 3) := by decide +kernel
theorem dX5_readOptions_76 : decode cX5_readOptions 76 = .ok (.aload_n 0, 1) := by decide +kernel
theorem dX5_readOptions_77 : decode cX5_readOptions 77 = .ok (.dup, 1) := by decide +kernel
theorem dX5_readOptions_78 : decode cX5_readOptions 78 = .ok (.getfield 26, 3) := by decide +kernel
theorem dX5_readOptions_81 : decode cX5_readOptions 81 = .ok (.iconst 1, 1) := by decide +kernel
theorem dX5_readOptions_82 : decode cX5_readOptions 82 = .ok (.iadd, 1) := by decide +kernel
theorem dX5_readOptions_83 : decode cX5_readOptions 83 = .ok (.putfield 26, 3) := by decide +kernel
theorem dX5_readOptions_86 : decode cX5_readOptions 86 = .ok (.aload_n 0, 1) := by decide +kernel
theorem dX5_readOptions_87 : decode cX5_readOptions 87 = .ok (.iconst 3, 1) := by decide +kernel
theorem dX5_readOptions_88 : decode cX5_readOptions 88 = .ok (.invokevirtual 100, 3) := by decide +kernel
theorem dX5_readOptions_91 : decode cX5_readOptions 91 = .ok (.istore_n 2, 1) := by decide +kernel
theorem dX5_readOptions_92 : decode cX5_readOptions 92 = .ok (.iload_n 2, 1) := by decide +kernel
theorem dX5_readOptions_93 : decode cX5_readOptions 93 = .ok (.ifCond .ne 39, 3) := by decide +kernel
theorem dX5_readOptions_96 : decode cX5_readOptions 96 = .ok (.iconst 0, 1) := by decide +kernel
theorem dX5_readOptions_97 : decode cX5_readOptions 97 = .ok (.ireturn, 1) := by decide +kernel
theorem dX5_readOptions_98 : decode cX5_readOptions 98 = .ok (.iload 5, 2) := by decide +kernel
theorem dX5_readOptions_100 : decode cX5_readOptions 100 = .ok (.bipush 120, 2) := by decide +kernel
theorem dX5_readOptions_102 : decode cX5_readOptions 102 = .ok (.if_icmp .ne 30, 3) := by decide +kernel
theorem dX5_readOptions_105 : decode cX5_readOptions 105 = .ok (.iload_n 3, 1) := by decide +kernel
theorem dX5_readOptions_106 : decode cX5_readOptions 106 = .ok (.ifCond .ne 26, 3) := by decide +kernel
theorem dX5_readOptions_109 : decode cX5_readOptions 109 = .ok (.aload_n 0, 1) := by decide +kernel
theorem dX5_readOptions_110 : decode cX5_readOptions 110 = .ok (.dup, 1) := by decide +kernel
theorem dX5_readOptions_111 : decode cX5_readOptions 111 = .ok (.getfield 26, 3) := by decide +kernel
theorem dX5_readOptions_114 : decode cX5_readOptions 114 = .ok (.iconst 1, 1) := by decide +kernel
theorem dX5_readOptions_115 : decode cX5_readOptions 115 = .ok (.iadd, 1) := by decide +kernel
theorem dX5_readOptions_116 : decode cX5_readOptions 116 = .ok (.putfield 26, 3) := by decide +kernel
theorem dX5_readOptions_119 : decode cX5_readOptions 119 = .ok (.aload_n 0, 1) := by decide +kernel
theorem dX5_readOptions_120 : decode cX5_readOptions 120 = .ok (.bipush 9, 2) := by decide +kernel
theorem dX5_readOptions_122 : decode cX5_readOptions 122 = .ok (.invokevirtual 100, 3) := by decide +kernel
theorem dX5_readOptions_125 : decode cX5_readOptions 125 = .ok (.istore_n 3, 1) := by decide +kernel
theorem dX5_readOptions_126 : decode cX5_readOptions 126 = .ok (.iload_n 3, 1) := by decide +kernel
theorem dX5_readOptions_127 : decode cX5_readOptions 127 = .ok (.ifCond .ne 5, 3) := by decide +kernel
theorem dX5_readOptions_130 : decode cX5_readOptions 130 = .ok (.iconst 0, 1) := by decide +kernel
theorem dX5_readOptions_131 : decode cX5_readOptions 131 = .ok (.ireturn, 1) := by decide +kernel
theorem dX5_readOptions_132 : decode cX5_readOptions 132 = .ok (.iinc 4 1, 3) := by decide +kernel
theorem dX5_readOptions_135 : decode cX5_readOptions 135 = .ok (.goto (-126), 3) := by decide +kernel
theorem dX5_readOptions_138 : decode cX5_readOptions 138 = .ok (.aload_n 0, 1) := by decide +kernel
theorem dX5_readOptions_139 : decode cX5_readOptions 139 = .ok (.getfield 22, 3) := by decide +kernel
theorem dX5_readOptions_142 : decode cX5_readOptions 142 = .ok (.aload_n 0, 1) := by decide +kernel
theorem dX5_readOptions_143 : decode cX5_readOptions 143 = .ok (.getfield 35, 3) := by decide +kernel
theorem dX5_readOptions_146 : decode cX5_readOptions 146 = .ok (.invokestatic 104, 3) := by decide +kernel
theorem dX5_readOptions_149 : decode cX5_readOptions 149 = .ok (.iload_n 1, 1) := by decide +kernel
theorem dX5_readOptions_150 : decode cX5_readOptions 150 = .ok (.iload_n 2, 1) := by decide +kernel
theorem dX5_readOptions_151 : decode cX5_readOptions 151 = .ok (.iload_n 3, 1) := by decide +kernel
theorem dX5_readOptions_152 : decode cX5_readOptions 152 = .ok (.iconst 1, 1) := by decide +kernel
theorem dX5_readOptions_153 : decode cX5_readOptions 153 = .ok (.invokestatic 107, 3) := by decide +kernel
theorem dX5_readOptions_156 : decode cX5_readOptions 156 = .ok (.invokevirtual 113, 3) := by decide +kernel
theorem dX5_readOptions_159 : decode cX5_readOptions 159 = .ok (.iconst 1, 1) := by decide +kernel
theorem dX5_readOptions_160 : decode cX5_readOptions 160 = .ok (.ireturn, 1) := by decide +kernel
theorem dX5_readDigit_0 : decode cX5_readDigit 0 = .ok (.aload_n 0, 1) := by decide +kernel
theorem dX5_readDigit_1 : decode cX5_readDigit 1 = .ok (.invokevirtual 55, 3) := by decide +kernel
theorem dX5_readDigit_4 : decode cX5_readDigit 4 = .ok (.bipush 48, 2) := by decide +kernel
theorem dX5_readDigit_6 : decode cX5_readDigit 6 = .ok (.isub, 1) := by decide +kernel
theorem dX5_readDigit_7 : decode cX5_readDigit 7 = .ok (.istore_n 2, 1) := by decide +kernel
theorem dX5_readDigit_8 : decode cX5_readDigit 8 = .ok (.iload_n 2, 1) := by decide +kernel
theorem dX5_readDigit_9 : decode cX5_readDigit 9 = .ok (.iconst 1, 1) := by decide +kernel
theorem dX5_readDigit_10 : decode cX5_readDigit 10 = .ok (.if_icmp .lt 8, 3) := by decide +kernel
theorem dX5_readDigit_13 : decode cX5_readDigit 13 = .ok (.iload_n 2, 1) := by decide +kernel
theorem dX5_readDigit_14 : decode cX5_readDigit 14 = .ok (.iload_n 1, 1) := by decide +kernel
theorem dX5_readDigit_15 : decode cX5_readDigit 15 = .ok (.if_icmp .le 5, 3) := by decide +kernel
theorem dX5_readDigit_18 : decode cX5_readDigit 18 = .ok (.iconst 0, 1) := by decide +kernel
theorem dX5_readDigit_19 : decode cX5_readDigit 19 = .ok (.ireturn, 1) := by decide +kernel
theorem dX5_readDigit_20 : decode cX5_readDigit 20 = .ok (.aload_n 0, 1) := by decide +kernel
theorem dX5_readDigit_21 : decode cX5_readDigit 21 = .ok (.dup, 1) := by decide +kernel
theorem dX5_readDigit_22 : decode cX5_readDigit 22 = .ok (.getfield 26, 3) := by decide +kernel
theorem dX5_readDigit_25 : decode cX5_readDigit 25 = .ok (.iconst 1, 1) := by decide +kernel
theorem dX5_readDigit_26 : decode cX5_readDigit 26 = .ok (.iadd, 1) := by decide +kernel
theorem dX5_readDigit_27 : decode cX5_readDigit 27 = .ok (.putfield 26, 3) := by decide +kernel
theorem dX5_readDigit_30 : decode cX5_readDigit 30 = .ok (.iload_n 2, 1) := by decide +kernel
theorem dX5_readDigit_31 : decode cX5_readDigit 31 = .ok (.ireturn, 1) := by decide +kernel
theorem dX6_isShape_0 : decode cX6_isShape 0 = .ok (.iload_n 0, 1) := by decide +kernel
theorem dX6_isShape_1 : decode cX6_isShape 1 = .ok (.ldc 9, 2) := by decide +kernel
theorem dX6_isShape_3 : decode cX6_isShape 3 = .ok (.iand, 1) := by decide +kernel
theorem dX6_isShape_4 : decode cX6_isShape 4 = .ok (.ifCond .eq 5, 3) := by decide +kernel
theorem dX6_isShape_7 : decode cX6_isShape 7 = .ok (.iconst 0, 1) := by decide +kernel
theorem dX6_isShape_8 : decode cX6_isShape 8 = .ok (.ireturn, 1) := by decide +kernel
theorem dX6_isShape_9 : decode cX6_isShape 9 = .ok (.iload_n 0, 1) := by decide +kernel
theorem dX6_isShape_10 : decode cX6_isShape 10 = .ok (.invokestatic 10, 3) := by decide +kernel
theorem dX6_isShape_13 : decode cX6_isShape 13 = .ok (.istore_n 1, 1) := by decide +kernel
theorem dX6_isShape_14 : decode cX6_isShape 14 = .ok (.iload_n 1, 1) := by decide +kernel
theorem dX6_isShape_15 : decode cX6_isShape 15 = .ok (.iconst 1, 1) := by decide +kernel
theorem dX6_isShape_16 : decode cX6_isShape 16 = .ok (.if_icmp .lt 19, 3) := by decide +kernel
theorem dX6_isShape_19 : decode cX6_isShape 19 = .ok (.iload_n 1, 1) := by decide +kernel
theorem dX6_isShape_20 : decode cX6_isShape 20 = .ok (.iconst 5, 1) := by decide +kernel
theorem dX6_isShape_21 : decode cX6_isShape 21 = .ok (.if_icmp .gt 14, 3) := by decide +kernel
theorem dX6_isShape_24 : decode cX6_isShape 24 = .ok (.iload_n 0, 1) := by decide +kernel
theorem dX6_isShape_25 : decode cX6_isShape 25 = .ok (.invokestatic 16, 3) := by decide +kernel
theorem dX6_isShape_28 : decode cX6_isShape 28 = .ok (.ifCond .eq 7, 3) := by decide +kernel
theorem dX6_isShape_31 : decode cX6_isShape 31 = .ok (.iconst 1, 1) := by decide +kernel
theorem dX6_isShape_32 : decode cX6_isShape 32 = .ok (.goto 4, 3) := by decide +kernel
theorem dX6_isShape_35 : decode cX6_isShape 35 = .ok (.iconst 0, 1) := by decide +kernel
theorem dX6_isShape_36 : decode cX6_isShape 36 = .ok (.ireturn, 1) := by decide +kernel
theorem dX6_hangsTogether_0 : decode cX6_hangsTogether 0 = .ok (.iload_n 0, 1) := by decide +kernel
theorem dX6_hangsTogether_1 : decode cX6_hangsTogether 1 = .ok (.iload_n 0, 1) := by decide +kernel
theorem dX6_hangsTogether_2 : decode cX6_hangsTogether 2 = .ok (.ineg, 1) := by decide +kernel
theorem dX6_hangsTogether_3 : decode cX6_hangsTogether 3 = .ok (.iand, 1) := by decide +kernel
theorem dX6_hangsTogether_4 : decode cX6_hangsTogether 4 = .ok (.istore_n 1, 1) := by decide +kernel
theorem dX6_hangsTogether_5 : decode cX6_hangsTogether 5 = .ok (.iconst 1, 1) := by decide +kernel
theorem dX6_hangsTogether_6 : decode cX6_hangsTogether 6 = .ok (.istore_n 2, 1) := by decide +kernel
theorem dX6_hangsTogether_7 : decode cX6_hangsTogether 7 = .ok (.iload_n 2, 1) := by decide +kernel
theorem dX6_hangsTogether_8 : decode cX6_hangsTogether 8 = .ok (.iconst 5, 1) := by decide +kernel
theorem dX6_hangsTogether_9 : decode cX6_hangsTogether 9 = .ok (.if_icmp .ge 50, 3) := by decide +kernel
theorem dX6_hangsTogether_12 : decode cX6_hangsTogether 12 = .ok (.iload_n 1, 1) := by decide +kernel
theorem dX6_hangsTogether_13 : decode cX6_hangsTogether 13 = .ok (.ldc 22, 2) := by decide +kernel
theorem dX6_hangsTogether_15 : decode cX6_hangsTogether 15 = .ok (.iand, 1) := by decide +kernel
theorem dX6_hangsTogether_16 : decode cX6_hangsTogether 16 = .ok (.iconst 1, 1) := by decide +kernel
theorem dX6_hangsTogether_17 : decode cX6_hangsTogether 17 = .ok (.ishl, 1) := by decide +kernel
theorem dX6_hangsTogether_18 : decode cX6_hangsTogether 18 = .ok (.istore_n 3, 1) := by decide +kernel
theorem dX6_hangsTogether_19 : decode cX6_hangsTogether 19 = .ok (.iload_n 1, 1) := by decide +kernel
theorem dX6_hangsTogether_20 : decode cX6_hangsTogether 20 = .ok (.sipush (-4370), 3) := by decide +kernel
theorem dX6_hangsTogether_23 : decode cX6_hangsTogether 23 = .ok (.iand, 1) := by decide +kernel
theorem dX6_hangsTogether_24 : decode cX6_hangsTogether 24 = .ok (.iconst 1, 1) := by decide +kernel
theorem dX6_hangsTogether_25 : decode cX6_hangsTogether 25 = .ok (.iushr, 1) := by decide +kernel
theorem dX6_hangsTogether_26 : decode cX6_hangsTogether 26 = .ok (.istore 4, 2) := by decide +kernel
theorem dX6_hangsTogether_28 : decode cX6_hangsTogether 28 = .ok (.iload_n 1, 1) := by decide +kernel
theorem dX6_hangsTogether_29 : decode cX6_hangsTogether 29 = .ok (.iconst 4, 1) := by decide +kernel
theorem dX6_hangsTogether_30 : decode cX6_hangsTogether 30 = .ok (.ishl, 1) := by decide +kernel
theorem dX6_hangsTogether_31 : decode cX6_hangsTogether 31 = .ok (.istore 5, 2) := by decide +kernel
theorem dX6_hangsTogether_33 : decode cX6_hangsTogether 33 = .ok (.iload_n 1, 1) := by decide +kernel
theorem dX6_hangsTogether_34 : decode cX6_hangsTogether 34 = .ok (.iconst 4, 1) := by decide +kernel
theorem dX6_hangsTogether_35 : decode cX6_hangsTogether 35 = .ok (.iushr, 1) := by decide +kernel
theorem dX6_hangsTogether_36 : decode cX6_hangsTogether 36 = .ok (.istore 6, 2) := by decide +kernel
theorem dX6_hangsTogether_38 : decode cX6_hangsTogether 38 = .ok (.iload_n 1, 1) := by decide +kernel
theorem dX6_hangsTogether_39 : decode cX6_hangsTogether 39 = .ok (.iload_n 3, 1) := by decide +kernel
theorem dX6_hangsTogether_40 : decode cX6_hangsTogether 40 = .ok (.iload 4, 2) := by decide +kernel
theorem dX6_hangsTogether_42 : decode cX6_hangsTogether 42 = .ok (.ior, 1) := by decide +kernel
theorem dX6_hangsTogether_43 : decode cX6_hangsTogether 43 = .ok (.iload 5, 2) := by decide +kernel
theorem dX6_hangsTogether_45 : decode cX6_hangsTogether 45 = .ok (.ior, 1) := by decide +kernel
theorem dX6_hangsTogether_46 : decode cX6_hangsTogether 46 = .ok (.iload 6, 2) := by decide +kernel
theorem dX6_hangsTogether_48 : decode cX6_hangsTogether 48 = .ok (.ior, 1) := by decide +kernel
theorem dX6_hangsTogether_49 : decode cX6_hangsTogether 49 = .ok (.iload_n 0, 1) := by decide +kernel
theorem dX6_hangsTogether_50 : decode cX6_hangsTogether 50 = .ok (.iand, 1) := by decide +kernel
theorem dX6_hangsTogether_51 : decode cX6_hangsTogether 51 = .ok (.ior, 1) := by decide +kernel
theorem dX6_hangsTogether_52 : decode cX6_hangsTogether 52 = .ok (.istore_n 1, 1) := by decide +kernel
theorem dX6_hangsTogether_53 : decode cX6_hangsTogether 53 = .ok (.iinc 2 1, 3) := by decide +kernel
theorem dX6_hangsTogether_56 : decode cX6_hangsTogether 56 = .ok (.goto (-49), 3) := by decide +kernel
theorem dX6_hangsTogether_59 : decode cX6_hangsTogether 59 = .ok (.iload_n 1, 1) := by decide +kernel
theorem dX6_hangsTogether_60 : decode cX6_hangsTogether 60 = .ok (.iload_n 0, 1) := by decide +kernel
theorem dX6_hangsTogether_61 : decode cX6_hangsTogether 61 = .ok (.if_icmp .ne 7, 3) := by decide +kernel
theorem dX6_hangsTogether_64 : decode cX6_hangsTogether 64 = .ok (.iconst 1, 1) := by decide +kernel
theorem dX6_hangsTogether_65 : decode cX6_hangsTogether 65 = .ok (.goto 4, 3) := by decide +kernel
theorem dX6_hangsTogether_68 : decode cX6_hangsTogether 68 = .ok (.iconst 0, 1) := by decide +kernel
theorem dX6_hangsTogether_69 : decode cX6_hangsTogether 69 = .ok (.ireturn, 1) := by decide +kernel
theorem dX6_normalize_0 : decode cX6_normalize 0 = .ok (.iload_n 0, 1) := by decide +kernel
theorem dX6_normalize_1 : decode cX6_normalize 1 = .ok (.istore_n 1, 1) := by decide +kernel
theorem dX6_normalize_2 : decode cX6_normalize 2 = .ok (.iconst 1, 1) := by decide +kernel
theorem dX6_normalize_3 : decode cX6_normalize 3 = .ok (.istore_n 2, 1) := by decide +kernel
theorem dX6_normalize_4 : decode cX6_normalize 4 = .ok (.iload_n 2, 1) := by decide +kernel
theorem dX6_normalize_5 : decode cX6_normalize 5 = .ok (.iconst 4, 1) := by decide +kernel
theorem dX6_normalize_6 : decode cX6_normalize 6 = .ok (.if_icmp .ge 21, 3) := by decide +kernel
theorem dX6_normalize_9 : decode cX6_normalize 9 = .ok (.iload_n 1, 1) := by decide +kernel
theorem dX6_normalize_10 : decode cX6_normalize 10 = .ok (.sipush 4369, 3) := by decide +kernel
theorem dX6_normalize_13 : decode cX6_normalize 13 = .ok (.iand, 1) := by decide +kernel
theorem dX6_normalize_14 : decode cX6_normalize 14 = .ok (.ifCond .ne 13, 3) := by decide +kernel
theorem dX6_normalize_17 : decode cX6_normalize 17 = .ok (.iload_n 1, 1) := by decide +kernel
theorem dX6_normalize_18 : decode cX6_normalize 18 = .ok (.iconst 1, 1) := by decide +kernel
theorem dX6_normalize_19 : decode cX6_normalize 19 = .ok (.iushr, 1) := by decide +kernel
theorem dX6_normalize_20 : decode cX6_normalize 20 = .ok (.istore_n 1, 1) := by decide +kernel
theorem dX6_normalize_21 : decode cX6_normalize 21 = .ok (.iinc 2 1, 3) := by decide +kernel
theorem dX6_normalize_24 : decode cX6_normalize 24 = .ok (.goto (-20), 3) := by decide +kernel
theorem dX6_normalize_27 : decode cX6_normalize 27 = .ok (.iconst 1, 1) := by decide +kernel
theorem dX6_normalize_28 : decode cX6_normalize 28 = .ok (.istore_n 2, 1) := by decide +kernel
theorem dX6_normalize_29 : decode cX6_normalize 29 = .ok (.iload_n 2, 1) := by decide +kernel
theorem dX6_normalize_30 : decode cX6_normalize 30 = .ok (.iconst 4, 1) := by decide +kernel
theorem dX6_normalize_31 : decode cX6_normalize 31 = .ok (.if_icmp .ge 20, 3) := by decide +kernel
theorem dX6_normalize_34 : decode cX6_normalize 34 = .ok (.iload_n 1, 1) := by decide +kernel
theorem dX6_normalize_35 : decode cX6_normalize 35 = .ok (.bipush 15, 2) := by decide +kernel
theorem dX6_normalize_37 : decode cX6_normalize 37 = .ok (.iand, 1) := by decide +kernel
theorem dX6_normalize_38 : decode cX6_normalize 38 = .ok (.ifCond .ne 13, 3) := by decide +kernel
theorem dX6_normalize_41 : decode cX6_normalize 41 = .ok (.iload_n 1, 1) := by decide +kernel
theorem dX6_normalize_42 : decode cX6_normalize 42 = .ok (.iconst 4, 1) := by decide +kernel
theorem dX6_normalize_43 : decode cX6_normalize 43 = .ok (.iushr, 1) := by decide +kernel
theorem dX6_normalize_44 : decode cX6_normalize 44 = .ok (.istore_n 1, 1) := by decide +kernel
theorem dX6_normalize_45 : decode cX6_normalize 45 = .ok (.iinc 2 1, 3) := by decide +kernel
theorem dX6_normalize_48 : decode cX6_normalize 48 = .ok (.goto (-19), 3) := by decide +kernel
theorem dX6_normalize_51 : decode cX6_normalize 51 = .ok (.iload_n 1, 1) := by decide +kernel
theorem dX6_normalize_52 : decode cX6_normalize 52 = .ok (.ireturn, 1) := by decide +kernel
theorem dX6_turn_0 : decode cX6_turn 0 = .ok (.iconst 0, 1) := by decide +kernel
theorem dX6_turn_1 : decode cX6_turn 1 = .ok (.istore_n 1, 1) := by decide +kernel
theorem dX6_turn_2 : decode cX6_turn 2 = .ok (.iconst 0, 1) := by decide +kernel
theorem dX6_turn_3 : decode cX6_turn 3 = .ok (.istore_n 2, 1) := by decide +kernel
theorem dX6_turn_4 : decode cX6_turn 4 = .ok (.iload_n 2, 1) := by decide +kernel
theorem dX6_turn_5 : decode cX6_turn 5 = .ok (.bipush 16, 2) := by decide +kernel
theorem dX6_turn_7 : decode cX6_turn 7 = .ok (.if_icmp .ge 39, 3) := by decide +kernel
theorem dX6_turn_10 : decode cX6_turn 10 = .ok (.iload_n 0, 1) := by decide +kernel
theorem dX6_turn_11 : decode cX6_turn 11 = .ok (.iload_n 2, 1) := by decide +kernel
theorem dX6_turn_12 : decode cX6_turn 12 = .ok (.invokestatic 23, 3) := by decide +kernel
theorem dX6_turn_15 : decode cX6_turn 15 = .ok (.ifCond .eq 25, 3) := by decide +kernel
theorem dX6_turn_18 : decode cX6_turn 18 = .ok (.iload_n 2, 1) := by decide +kernel
theorem dX6_turn_19 : decode cX6_turn 19 = .ok (.iconst 4, 1) := by decide +kernel
theorem dX6_turn_20 : decode cX6_turn 20 = .ok (.irem, 1) := by decide +kernel
theorem dX6_turn_21 : decode cX6_turn 21 = .ok (.istore_n 3, 1) := by decide +kernel
theorem dX6_turn_22 : decode cX6_turn 22 = .ok (.iconst 3, 1) := by decide +kernel
theorem dX6_turn_23 : decode cX6_turn 23 = .ok (.iload_n 2, 1) := by decide +kernel
theorem dX6_turn_24 : decode cX6_turn 24 = .ok (.iconst 4, 1) := by decide +kernel
theorem dX6_turn_25 : decode cX6_turn 25 = .ok (.idiv, 1) := by decide +kernel
theorem dX6_turn_26 : decode cX6_turn 26 = .ok (.isub, 1) := by decide +kernel
theorem dX6_turn_27 : decode cX6_turn 27 = .ok (.istore 4, 2) := by decide +kernel
theorem dX6_turn_29 : decode cX6_turn 29 = .ok (.iload_n 1, 1) := by decide +kernel
theorem dX6_turn_30 : decode cX6_turn 30 = .ok (.iconst 1, 1) := by decide +kernel
theorem dX6_turn_31 : decode cX6_turn 31 = .ok (.iload_n 3, 1) := by decide +kernel
theorem dX6_turn_32 : decode cX6_turn 32 = .ok (.iconst 4, 1) := by decide +kernel
theorem dX6_turn_33 : decode cX6_turn 33 = .ok (.imul, 1) := by decide +kernel
theorem dX6_turn_34 : decode cX6_turn 34 = .ok (.iload 4, 2) := by decide +kernel
theorem dX6_turn_36 : decode cX6_turn 36 = .ok (.iadd, 1) := by decide +kernel
theorem dX6_turn_37 : decode cX6_turn 37 = .ok (.ishl, 1) := by decide +kernel
theorem dX6_turn_38 : decode cX6_turn 38 = .ok (.ior, 1) := by decide +kernel
theorem dX6_turn_39 : decode cX6_turn 39 = .ok (.istore_n 1, 1) := by decide +kernel
theorem dX6_turn_40 : decode cX6_turn 40 = .ok (.iinc 2 1, 3) := by decide +kernel
theorem dX6_turn_43 : decode cX6_turn 43 = .ok (.goto (-39), 3) := by decide +kernel
theorem dX6_turn_46 : decode cX6_turn 46 = .ok (.iload_n 1, 1) := by decide +kernel
theorem dX6_turn_47 : decode cX6_turn 47 = .ok (.invokestatic 27, 3) := by decide +kernel
theorem dX6_turn_50 : decode cX6_turn 50 = .ok (.ireturn, 1) := by decide +kernel
theorem dX6_mirror_0 : decode cX6_mirror 0 = .ok (.iconst 0, 1) := by decide +kernel
theorem dX6_mirror_1 : decode cX6_mirror 1 = .ok (.istore_n 1, 1) := by decide +kernel
theorem dX6_mirror_2 : decode cX6_mirror 2 = .ok (.iconst 0, 1) := by decide +kernel
theorem dX6_mirror_3 : decode cX6_mirror 3 = .ok (.istore_n 2, 1) := by decide +kernel
theorem dX6_mirror_4 : decode cX6_mirror 4 = .ok (.iload_n 2, 1) := by decide +kernel
theorem dX6_mirror_5 : decode cX6_mirror 5 = .ok (.bipush 16, 2) := by decide +kernel
theorem dX6_mirror_7 : decode cX6_mirror 7 = .ok (.if_icmp .ge 39, 3) := by decide +kernel
theorem dX6_mirror_10 : decode cX6_mirror 10 = .ok (.iload_n 0, 1) := by decide +kernel
theorem dX6_mirror_11 : decode cX6_mirror 11 = .ok (.iload_n 2, 1) := by decide +kernel
theorem dX6_mirror_12 : decode cX6_mirror 12 = .ok (.invokestatic 23, 3) := by decide +kernel
theorem dX6_mirror_15 : decode cX6_mirror 15 = .ok (.ifCond .eq 25, 3) := by decide +kernel
theorem dX6_mirror_18 : decode cX6_mirror 18 = .ok (.iload_n 2, 1) := by decide +kernel
theorem dX6_mirror_19 : decode cX6_mirror 19 = .ok (.iconst 4, 1) := by decide +kernel
theorem dX6_mirror_20 : decode cX6_mirror 20 = .ok (.idiv, 1) := by decide +kernel
theorem dX6_mirror_21 : decode cX6_mirror 21 = .ok (.istore_n 3, 1) := by decide +kernel
theorem dX6_mirror_22 : decode cX6_mirror 22 = .ok (.iconst 3, 1) := by decide +kernel
theorem dX6_mirror_23 : decode cX6_mirror 23 = .ok (.iload_n 2, 1) := by decide +kernel
theorem dX6_mirror_24 : decode cX6_mirror 24 = .ok (.iconst 4, 1) := by decide +kernel
theorem dX6_mirror_25 : decode cX6_mirror 25 = .ok (.irem, 1) := by decide +kernel
theorem dX6_mirror_26 : decode cX6_mirror 26 = .ok (.isub, 1) := by decide +kernel
theorem dX6_mirror_27 : decode cX6_mirror 27 = .ok (.istore 4, 2) := by decide +kernel
theorem dX6_mirror_29 : decode cX6_mirror 29 = .ok (.iload_n 1, 1) := by decide +kernel
theorem dX6_mirror_30 : decode cX6_mirror 30 = .ok (.iconst 1, 1) := by decide +kernel
theorem dX6_mirror_31 : decode cX6_mirror 31 = .ok (.iload_n 3, 1) := by decide +kernel
theorem dX6_mirror_32 : decode cX6_mirror 32 = .ok (.iconst 4, 1) := by decide +kernel
theorem dX6_mirror_33 : decode cX6_mirror 33 = .ok (.imul, 1) := by decide +kernel
theorem dX6_mirror_34 : decode cX6_mirror 34 = .ok (.iload 4, 2) := by decide +kernel
theorem dX6_mirror_36 : decode cX6_mirror 36 = .ok (.iadd, 1) := by decide +kernel
theorem dX6_mirror_37 : decode cX6_mirror 37 = .ok (.ishl, 1) := by decide +kernel
theorem dX6_mirror_38 : decode cX6_mirror 38 = .ok (.ior, 1) := by decide +kernel
theorem dX6_mirror_39 : decode cX6_mirror 39 = .ok (.istore_n 1, 1) := by decide +kernel
theorem dX6_mirror_40 : decode cX6_mirror 40 = .ok (.iinc 2 1, 3) := by decide +kernel
theorem dX6_mirror_43 : decode cX6_mirror 43 = .ok (.goto (-39), 3) := by decide +kernel
theorem dX6_mirror_46 : decode cX6_mirror 46 = .ok (.iload_n 1, 1) := by decide +kernel
theorem dX6_mirror_47 : decode cX6_mirror 47 = .ok (.invokestatic 27, 3) := by decide +kernel
theorem dX6_mirror_50 : decode cX6_mirror 50 = .ok (.ireturn, 1) := by decide +kernel
theorem dX6_hasSquare_0 : decode cX6_hasSquare 0 = .ok (.iload_n 0, 1) := by decide +kernel
theorem dX6_hasSquare_1 : decode cX6_hasSquare 1 = .ok (.iload_n 1, 1) := by decide +kernel
theorem dX6_hasSquare_2 : decode cX6_hasSquare 2 = .ok (.iushr, 1) := by decide +kernel
theorem dX6_hasSquare_3 : decode cX6_hasSquare 3 = .ok (.iconst 1, 1) := by decide +kernel
theorem dX6_hasSquare_4 : decode cX6_hasSquare 4 = .ok (.iand, 1) := by decide +kernel
theorem dX6_hasSquare_5 : decode cX6_hasSquare 5 = .ok (.ifCond .eq 7, 3) := by decide +kernel
theorem dX6_hasSquare_8 : decode cX6_hasSquare 8 = .ok (.iconst 1, 1) := by decide +kernel
theorem dX6_hasSquare_9 : decode cX6_hasSquare 9 = .ok (.goto 4, 3) := by decide +kernel
theorem dX6_hasSquare_12 : decode cX6_hasSquare 12 = .ok (.iconst 0, 1) := by decide +kernel
theorem dX6_hasSquare_13 : decode cX6_hasSquare 13 = .ok (.ireturn, 1) := by decide +kernel
theorem dX7_init_0 : decode cX7_init 0 = .ok (.aload_n 0, 1) := by decide +kernel
theorem dX7_init_1 : decode cX7_init 1 = .ok (.invokespecial 3, 3) := by decide +kernel
theorem dX7_init_4 : decode cX7_init 4 = .ok (.aload_n 0, 1) := by decide +kernel
theorem dX7_init_5 : decode cX7_init 5 = .ok (.sipush 1280, 3) := by decide +kernel
theorem dX7_init_8 : decode cX7_init 8 = .ok (.newarray .boolean, 2) := by decide +kernel
theorem dX7_init_10 : decode cX7_init 10 = .ok (.putfield 9, 3) := by decide +kernel
theorem dX7_init_13 : decode cX7_init 13 = .ok (.return_, 1) := by decide +kernel
theorem dX7_sift_0 : decode cX7_sift 0 = .ok (.iconst 0, 1) := by decide +kernel
theorem dX7_sift_1 : decode cX7_sift 1 = .ok (.istore_n 2, 1) := by decide +kernel
theorem dX7_sift_2 : decode cX7_sift 2 = .ok (.iload_n 2, 1) := by decide +kernel
theorem dX7_sift_3 : decode cX7_sift 3 = .ok (.sipush 1280, 3) := by decide +kernel
theorem dX7_sift_6 : decode cX7_sift 6 = .ok (.if_icmp .ge 16, 3) := by decide +kernel
theorem dX7_sift_9 : decode cX7_sift 9 = .ok (.aload_n 0, 1) := by decide +kernel
theorem dX7_sift_10 : decode cX7_sift 10 = .ok (.getfield 9, 3) := by decide +kernel
theorem dX7_sift_13 : decode cX7_sift 13 = .ok (.iload_n 2, 1) := by decide +kernel
theorem dX7_sift_14 : decode cX7_sift 14 = .ok (.iconst 0, 1) := by decide +kernel
theorem dX7_sift_15 : decode cX7_sift 15 = .ok (.bastore, 1) := by decide +kernel
theorem dX7_sift_16 : decode cX7_sift 16 = .ok (.iinc 2 1, 3) := by decide +kernel
theorem dX7_sift_19 : decode cX7_sift 19 = .ok (.goto (-17), 3) := by decide +kernel
theorem dX7_sift_22 : decode cX7_sift 22 = .ok (.iconst 1, 1) := by decide +kernel
theorem dX7_sift_23 : decode cX7_sift 23 = .ok (.istore_n 2, 1) := by decide +kernel
theorem dX7_sift_24 : decode cX7_sift 24 = .ok (.iconst 0, 1) := by decide +kernel
theorem dX7_sift_25 : decode cX7_sift 25 = .ok (.istore_n 3, 1) := by decide +kernel
theorem dX7_sift_26 : decode cX7_sift 26 = .ok (.iload_n 3, 1) := by decide +kernel
theorem dX7_sift_27 : decode cX7_sift 27 = .ok (.sipush 1280, 3) := by decide +kernel
theorem dX7_sift_30 : decode cX7_sift 30 = .ok (.if_icmp .gt 19, 3) := by decide +kernel
theorem dX7_sift_33 : decode cX7_sift 33 = .ok (.iload_n 2, 1) := by decide +kernel
theorem dX7_sift_34 : decode cX7_sift 34 = .ok (.ifCond .eq 15, 3) := by decide +kernel
theorem dX7_sift_37 : decode cX7_sift 37 = .ok (.aload_n 0, 1) := by decide +kernel
theorem dX7_sift_38 : decode cX7_sift 38 = .ok (.aload_n 1, 1) := by decide +kernel
theorem dX7_sift_39 : decode cX7_sift 39 = .ok (.invokevirtual 15, 3) := by decide +kernel
theorem dX7_sift_42 : decode cX7_sift 42 = .ok (.istore_n 2, 1) := by decide +kernel
theorem dX7_sift_43 : decode cX7_sift 43 = .ok (.iinc 3 1, 3) := by decide +kernel
theorem dX7_sift_46 : decode cX7_sift 46 = .ok (.goto (-20), 3) := by decide +kernel
theorem dX7_sift_49 : decode cX7_sift 49 = .ok (.return_, 1) := by decide +kernel
theorem dX7_strikeSome_0 : decode cX7_strikeSome 0 = .ok (.iconst 0, 1) := by decide +kernel
theorem dX7_strikeSome_1 : decode cX7_strikeSome 1 = .ok (.istore_n 2, 1) := by decide +kernel
theorem dX7_strikeSome_2 : decode cX7_strikeSome 2 = .ok (.iconst 0, 1) := by decide +kernel
theorem dX7_strikeSome_3 : decode cX7_strikeSome 3 = .ok (.istore_n 3, 1) := by decide +kernel
theorem dX7_strikeSome_4 : decode cX7_strikeSome 4 = .ok (.iload_n 3, 1) := by decide +kernel
theorem dX7_strikeSome_5 : decode cX7_strikeSome 5 = .ok (.aload_n 0, 1) := by decide +kernel
theorem dX7_strikeSome_6 : decode cX7_strikeSome 6 = .ok (.aload_n 1, 1) := by decide +kernel
theorem dX7_strikeSome_7 : decode cX7_strikeSome 7 = .ok (.invokevirtual 19, 3) := by decide +kernel
theorem dX7_strikeSome_10 : decode cX7_strikeSome 10 = .ok (.if_icmp .ge 36, 3) := by decide +kernel
theorem dX7_strikeSome_13 : decode cX7_strikeSome 13 = .ok (.aload_n 0, 1) := by decide +kernel
theorem dX7_strikeSome_14 : decode cX7_strikeSome 14 = .ok (.getfield 9, 3) := by decide +kernel
theorem dX7_strikeSome_17 : decode cX7_strikeSome 17 = .ok (.iload_n 3, 1) := by decide +kernel
theorem dX7_strikeSome_18 : decode cX7_strikeSome 18 = .ok (.baload, 1) := by decide +kernel
theorem dX7_strikeSome_19 : decode cX7_strikeSome 19 = .ok (.ifCond .ne 21, 3) := by decide +kernel
theorem dX7_strikeSome_22 : decode cX7_strikeSome 22 = .ok (.aload_n 0, 1) := by decide +kernel
theorem dX7_strikeSome_23 : decode cX7_strikeSome 23 = .ok (.aload_n 1, 1) := by decide +kernel
theorem dX7_strikeSome_24 : decode cX7_strikeSome 24 = .ok (.iload_n 3, 1) := by decide +kernel
theorem dX7_strikeSome_25 : decode cX7_strikeSome 25 = .ok (.invokevirtual 23, 3) := by decide +kernel
theorem dX7_strikeSome_28 : decode cX7_strikeSome 28 = .ok (.ifCond .ne 12, 3) := by decide +kernel
theorem dX7_strikeSome_31 : decode cX7_strikeSome 31 = .ok (.aload_n 0, 1) := by decide +kernel
theorem dX7_strikeSome_32 : decode cX7_strikeSome 32 = .ok (.getfield 9, 3) := by decide +kernel
theorem dX7_strikeSome_35 : decode cX7_strikeSome 35 = .ok (.iload_n 3, 1) := by decide +kernel
theorem dX7_strikeSome_36 : decode cX7_strikeSome 36 = .ok (.iconst 1, 1) := by decide +kernel
theorem dX7_strikeSome_37 : decode cX7_strikeSome 37 = .ok (.bastore, 1) := by decide +kernel
theorem dX7_strikeSome_38 : decode cX7_strikeSome 38 = .ok (.iconst 1, 1) := by decide +kernel
theorem dX7_strikeSome_39 : decode cX7_strikeSome 39 = .ok (.istore_n 2, 1) := by decide +kernel
theorem dX7_strikeSome_40 : decode cX7_strikeSome 40 = .ok (.iinc 3 1, 3) := by decide +kernel
theorem dX7_strikeSome_43 : decode cX7_strikeSome 43 = .ok (.goto (-39), 3) := by decide +kernel
theorem dX7_strikeSome_46 : decode cX7_strikeSome 46 = .ok (.iload_n 2, 1) := by decide +kernel
theorem dX7_strikeSome_47 : decode cX7_strikeSome 47 = .ok (.ireturn, 1) := by decide +kernel
theorem dX7_limitOf_0 : decode cX7_limitOf 0 = .ok (.aload_n 1, 1) := by decide +kernel
theorem dX7_limitOf_1 : decode cX7_limitOf 1 = .ok (.getfield 27, 3) := by decide +kernel
theorem dX7_limitOf_4 : decode cX7_limitOf 4 = .ok (.aload_n 0, 1) := by decide +kernel
theorem dX7_limitOf_5 : decode cX7_limitOf 5 = .ok (.getfield 9, 3) := by decide +kernel
theorem dX7_limitOf_8 : decode cX7_limitOf 8 = .ok (.arraylength, 1) := by decide +kernel
theorem dX7_limitOf_9 : decode cX7_limitOf 9 = .ok (.invokestatic 33, 3) := by decide +kernel
theorem dX7_limitOf_12 : decode cX7_limitOf 12 = .ok (.ireturn, 1) := by decide +kernel
theorem dX7_leavesAllCoverable_0 : decode cX7_leavesAllCoverable 0 = .ok (.aload_n 1, 1) := by decide +kernel
theorem dX7_leavesAllCoverable_1 : decode cX7_leavesAllCoverable 1 = .ok (.iload_n 2, 1) := by decide +kernel
theorem dX7_leavesAllCoverable_2 : decode cX7_leavesAllCoverable 2 = .ok (.invokevirtual 39, 3) := by decide +kernel
theorem dX7_leavesAllCoverable_5 : decode cX7_leavesAllCoverable 5 = .ok (.lstore_n 3, 1) := by decide +kernel
theorem dX7_leavesAllCoverable_6 : decode cX7_leavesAllCoverable 6 = .ok (.lload_n 3, 1) := by decide +kernel
theorem dX7_leavesAllCoverable_7 : decode cX7_leavesAllCoverable 7 = .ok (.lstore 5, 2) := by decide +kernel
theorem dX7_leavesAllCoverable_9 : decode cX7_leavesAllCoverable 9 = .ok (.aload_n 0, 1) := by decide +kernel
theorem dX7_leavesAllCoverable_10 : decode cX7_leavesAllCoverable 10 = .ok (.aload_n 1, 1) := by decide +kernel
theorem dX7_leavesAllCoverable_11 : decode cX7_leavesAllCoverable 11 = .ok (.invokevirtual 19, 3) := by decide +kernel
theorem dX7_leavesAllCoverable_14 : decode cX7_leavesAllCoverable 14 = .ok (.istore 7, 2) := by decide +kernel
theorem dX7_leavesAllCoverable_16 : decode cX7_leavesAllCoverable 16 = .ok (.iconst 0, 1) := by decide +kernel
theorem dX7_leavesAllCoverable_17 : decode cX7_leavesAllCoverable 17 = .ok (.istore 8, 2) := by decide +kernel
theorem dX7_leavesAllCoverable_19 : decode cX7_leavesAllCoverable 19 = .ok (.iload 8, 2) := by decide +kernel
theorem dX7_leavesAllCoverable_21 : decode cX7_leavesAllCoverable 21 = .ok (.iload 7, 2) := by decide +kernel
theorem dX7_leavesAllCoverable_23 : decode cX7_leavesAllCoverable 23 = .ok (.if_icmp .ge 53, 3) := by decide +kernel
theorem dX7_leavesAllCoverable_26 : decode cX7_leavesAllCoverable 26 = .ok (.lload 5, 2) := by decide +kernel
theorem dX7_leavesAllCoverable_28 : decode cX7_leavesAllCoverable 28 = .ok (.aload_n 1, 1) := by decide +kernel
theorem dX7_leavesAllCoverable_29 : decode cX7_leavesAllCoverable 29 = .ok (.getfield 43, 3) := by decide +kernel
theorem dX7_leavesAllCoverable_32 : decode cX7_leavesAllCoverable 32 = .ok (.lcmp, 1) := by decide +kernel
theorem dX7_leavesAllCoverable_33 : decode cX7_leavesAllCoverable 33 = .ok (.ifCond .eq 43, 3) := by decide +kernel
theorem dX7_leavesAllCoverable_36 : decode cX7_leavesAllCoverable 36 = .ok (.aload_n 1, 1) := by decide +kernel
theorem dX7_leavesAllCoverable_37 : decode cX7_leavesAllCoverable 37 = .ok (.iload 8, 2) := by decide +kernel
theorem dX7_leavesAllCoverable_39 : decode cX7_leavesAllCoverable 39 = .ok (.invokevirtual 39, 3) := by decide +kernel
theorem dX7_leavesAllCoverable_42 : decode cX7_leavesAllCoverable 42 = .ok (.lstore 9, 2) := by decide +kernel
theorem dX7_leavesAllCoverable_44 : decode cX7_leavesAllCoverable 44 = .ok (.aload_n 0, 1) := by decide +kernel
theorem dX7_leavesAllCoverable_45 : decode cX7_leavesAllCoverable 45 = .ok (.getfield 9, 3) := by decide +kernel
theorem dX7_leavesAllCoverable_48 : decode cX7_leavesAllCoverable 48 = .ok (.iload 8, 2) := by decide +kernel
theorem dX7_leavesAllCoverable_50 : decode cX7_leavesAllCoverable 50 = .ok (.baload, 1) := by decide +kernel
theorem dX7_leavesAllCoverable_51 : decode cX7_leavesAllCoverable 51 = .ok (.ifCond .ne 19, 3) := by decide +kernel
theorem dX7_leavesAllCoverable_54 : decode cX7_leavesAllCoverable 54 = .ok (.lload 9, 2) := by decide +kernel
theorem dX7_leavesAllCoverable_56 : decode cX7_leavesAllCoverable 56 = .ok (.lload_n 3, 1) := by decide +kernel
theorem dX7_leavesAllCoverable_57 : decode cX7_leavesAllCoverable 57 = .ok (.land, 1) := by decide +kernel
theorem dX7_leavesAllCoverable_58 : decode cX7_leavesAllCoverable 58 = .ok (.lconst 0, 1) := by decide +kernel
theorem dX7_leavesAllCoverable_59 : decode cX7_leavesAllCoverable 59 = .ok (.lcmp, 1) := by decide +kernel
theorem dX7_leavesAllCoverable_60 : decode cX7_leavesAllCoverable 60 = .ok (.ifCond .ne 10, 3) := by decide +kernel
theorem dX7_leavesAllCoverable_63 : decode cX7_leavesAllCoverable 63 = .ok (.lload 5, 2) := by decide +kernel
theorem dX7_leavesAllCoverable_65 : decode cX7_leavesAllCoverable 65 = .ok (.lload 9, 2) := by decide +kernel
theorem dX7_leavesAllCoverable_67 : decode cX7_leavesAllCoverable 67 = .ok (.lor, 1) := by decide +kernel
theorem dX7_leavesAllCoverable_68 : decode cX7_leavesAllCoverable 68 = .ok (.lstore 5, 2) := by decide +kernel
theorem dX7_leavesAllCoverable_70 : decode cX7_leavesAllCoverable 70 = .ok (.iinc 8 1, 3) := by decide +kernel
theorem dX7_leavesAllCoverable_73 : decode cX7_leavesAllCoverable 73 = .ok (.goto (-54), 3) := by decide +kernel
theorem dX7_leavesAllCoverable_76 : decode cX7_leavesAllCoverable 76 = .ok (.lload 5, 2) := by decide +kernel
theorem dX7_leavesAllCoverable_78 : decode cX7_leavesAllCoverable 78 = .ok (.aload_n 1, 1) := by decide +kernel
theorem dX7_leavesAllCoverable_79 : decode cX7_leavesAllCoverable 79 = .ok (.getfield 43, 3) := by decide +kernel
theorem dX7_leavesAllCoverable_82 : decode cX7_leavesAllCoverable 82 = .ok (.lcmp, 1) := by decide +kernel
theorem dX7_leavesAllCoverable_83 : decode cX7_leavesAllCoverable 83 = .ok (.ifCond .ne 7, 3) := by decide +kernel
theorem dX7_leavesAllCoverable_86 : decode cX7_leavesAllCoverable 86 = .ok (.iconst 1, 1) := by decide +kernel
theorem dX7_leavesAllCoverable_87 : decode cX7_leavesAllCoverable 87 = .ok (.goto 4, 3) := by decide +kernel
theorem dX7_leavesAllCoverable_90 : decode cX7_leavesAllCoverable 90 = .ok (.iconst 0, 1) := by decide +kernel
theorem dX7_leavesAllCoverable_91 : decode cX7_leavesAllCoverable 91 = .ok (.ireturn, 1) := by decide +kernel
end
section
theorem dX7_leftOfPiece_0 : decode cX7_leftOfPiece 0 = .ok (.iconst 0, 1) := by decide +kernel
theorem dX7_leftOfPiece_1 : decode cX7_leftOfPiece 1 = .ok (.istore_n 3, 1) := by decide +kernel
theorem dX7_leftOfPiece_2 : decode cX7_leftOfPiece 2 = .ok (.iconst 0, 1) := by decide +kernel
theorem dX7_leftOfPiece_3 : decode cX7_leftOfPiece 3 = .ok (.istore 4, 2) := by decide +kernel
theorem dX7_leftOfPiece_5 : decode cX7_leftOfPiece 5 = .ok (.iload 4, 2) := by decide +kernel
theorem dX7_leftOfPiece_7 : decode cX7_leftOfPiece 7 = .ok (.aload_n 0, 1) := by decide +kernel
theorem dX7_leftOfPiece_8 : decode cX7_leftOfPiece 8 = .ok (.aload_n 1, 1) := by decide +kernel
theorem dX7_leftOfPiece_9 : decode cX7_leftOfPiece 9 = .ok (.invokevirtual 19, 3) := by decide +kernel
theorem dX7_leftOfPiece_12 : decode cX7_leftOfPiece 12 = .ok (.if_icmp .ge 32, 3) := by decide +kernel
theorem dX7_leftOfPiece_15 : decode cX7_leftOfPiece 15 = .ok (.aload_n 0, 1) := by decide +kernel
theorem dX7_leftOfPiece_16 : decode cX7_leftOfPiece 16 = .ok (.getfield 9, 3) := by decide +kernel
theorem dX7_leftOfPiece_19 : decode cX7_leftOfPiece 19 = .ok (.iload 4, 2) := by decide +kernel
theorem dX7_leftOfPiece_21 : decode cX7_leftOfPiece 21 = .ok (.baload, 1) := by decide +kernel
theorem dX7_leftOfPiece_22 : decode cX7_leftOfPiece 22 = .ok (.ifCond .ne 16, 3) := by decide +kernel
theorem dX7_leftOfPiece_25 : decode cX7_leftOfPiece 25 = .ok (.aload_n 1, 1) := by decide +kernel
theorem dX7_leftOfPiece_26 : decode cX7_leftOfPiece 26 = .ok (.iload 4, 2) := by decide +kernel
theorem dX7_leftOfPiece_28 : decode cX7_leftOfPiece 28 = .ok (.invokevirtual 47, 3) := by decide +kernel
theorem dX7_leftOfPiece_31 : decode cX7_leftOfPiece 31 = .ok (.iload_n 2, 1) := by decide +kernel
theorem dX7_leftOfPiece_32 : decode cX7_leftOfPiece 32 = .ok (.if_icmp .ne 6, 3) := by decide +kernel
theorem dX7_leftOfPiece_35 : decode cX7_leftOfPiece 35 = .ok (.iinc 3 1, 3) := by decide +kernel
theorem dX7_leftOfPiece_38 : decode cX7_leftOfPiece 38 = .ok (.iinc 4 1, 3) := by decide +kernel
theorem dX7_leftOfPiece_41 : decode cX7_leftOfPiece 41 = .ok (.goto (-36), 3) := by decide +kernel
theorem dX7_leftOfPiece_44 : decode cX7_leftOfPiece 44 = .ok (.iload_n 3, 1) := by decide +kernel
theorem dX7_leftOfPiece_45 : decode cX7_leftOfPiece 45 = .ok (.ireturn, 1) := by decide +kernel
theorem dX7_leftAtCell_0 : decode cX7_leftAtCell 0 = .ok (.iconst 0, 1) := by decide +kernel
theorem dX7_leftAtCell_1 : decode cX7_leftAtCell 1 = .ok (.istore_n 3, 1) := by decide +kernel
theorem dX7_leftAtCell_2 : decode cX7_leftAtCell 2 = .ok (.iconst 0, 1) := by decide +kernel
theorem dX7_leftAtCell_3 : decode cX7_leftAtCell 3 = .ok (.istore 4, 2) := by decide +kernel
theorem dX7_leftAtCell_5 : decode cX7_leftAtCell 5 = .ok (.iload 4, 2) := by decide +kernel
theorem dX7_leftAtCell_7 : decode cX7_leftAtCell 7 = .ok (.aload_n 0, 1) := by decide +kernel
theorem dX7_leftAtCell_8 : decode cX7_leftAtCell 8 = .ok (.aload_n 1, 1) := by decide +kernel
theorem dX7_leftAtCell_9 : decode cX7_leftAtCell 9 = .ok (.invokevirtual 19, 3) := by decide +kernel
theorem dX7_leftAtCell_12 : decode cX7_leftAtCell 12 = .ok (.if_icmp .ge 35, 3) := by decide +kernel
theorem dX7_leftAtCell_15 : decode cX7_leftAtCell 15 = .ok (.aload_n 0, 1) := by decide +kernel
theorem dX7_leftAtCell_16 : decode cX7_leftAtCell 16 = .ok (.getfield 9, 3) := by decide +kernel
theorem dX7_leftAtCell_19 : decode cX7_leftAtCell 19 = .ok (.iload 4, 2) := by decide +kernel
theorem dX7_leftAtCell_21 : decode cX7_leftAtCell 21 = .ok (.baload, 1) := by decide +kernel
theorem dX7_leftAtCell_22 : decode cX7_leftAtCell 22 = .ok (.ifCond .ne 19, 3) := by decide +kernel
theorem dX7_leftAtCell_25 : decode cX7_leftAtCell 25 = .ok (.aload_n 1, 1) := by decide +kernel
theorem dX7_leftAtCell_26 : decode cX7_leftAtCell 26 = .ok (.iload 4, 2) := by decide +kernel
theorem dX7_leftAtCell_28 : decode cX7_leftAtCell 28 = .ok (.invokevirtual 39, 3) := by decide +kernel
theorem dX7_leftAtCell_31 : decode cX7_leftAtCell 31 = .ok (.iload_n 2, 1) := by decide +kernel
theorem dX7_leftAtCell_32 : decode cX7_leftAtCell 32 = .ok (.invokestatic 51, 3) := by decide +kernel
theorem dX7_leftAtCell_35 : decode cX7_leftAtCell 35 = .ok (.ifCond .eq 6, 3) := by decide +kernel
theorem dX7_leftAtCell_38 : decode cX7_leftAtCell 38 = .ok (.iinc 3 1, 3) := by decide +kernel
theorem dX7_leftAtCell_41 : decode cX7_leftAtCell 41 = .ok (.iinc 4 1, 3) := by decide +kernel
theorem dX7_leftAtCell_44 : decode cX7_leftAtCell 44 = .ok (.goto (-39), 3) := by decide +kernel
theorem dX7_leftAtCell_47 : decode cX7_leftAtCell 47 = .ok (.iload_n 3, 1) := by decide +kernel
theorem dX7_leftAtCell_48 : decode cX7_leftAtCell 48 = .ok (.ireturn, 1) := by decide +kernel
theorem dX8_init_0 : decode cX8_init 0 = .ok (.aload_n 0, 1) := by decide +kernel
theorem dX8_init_1 : decode cX8_init 1 = .ok (.invokespecial 3, 3) := by decide +kernel
theorem dX8_init_4 : decode cX8_init 4 = .ok (.aload_n 0, 1) := by decide +kernel
theorem dX8_init_5 : decode cX8_init 5 = .ok (.sipush 288, 3) := by decide +kernel
theorem dX8_init_8 : decode cX8_init 8 = .ok (.newarray .int, 2) := by decide +kernel
theorem dX8_init_10 : decode cX8_init 10 = .ok (.putfield 9, 3) := by decide +kernel
theorem dX8_init_13 : decode cX8_init 13 = .ok (.aload_n 0, 1) := by decide +kernel
theorem dX8_init_14 : decode cX8_init 14 = .ok (.iconst 0, 1) := by decide +kernel
theorem dX8_init_15 : decode cX8_init 15 = .ok (.putfield 15, 3) := by decide +kernel
theorem dX8_init_18 : decode cX8_init 18 = .ok (.return_, 1) := by decide +kernel
theorem dX8_fill_0 : decode cX8_fill 0 = .ok (.aload_n 1, 1) := by decide +kernel
theorem dX8_fill_1 : decode cX8_fill 1 = .ok (.getfield 19, 3) := by decide +kernel
theorem dX8_fill_4 : decode cX8_fill 4 = .ok (.aload_n 1, 1) := by decide +kernel
theorem dX8_fill_5 : decode cX8_fill 5 = .ok (.getfield 24, 3) := by decide +kernel
theorem dX8_fill_8 : decode cX8_fill 8 = .ok (.if_icmp .ne 8, 3) := by decide +kernel
theorem dX8_fill_11 : decode cX8_fill 11 = .ok (.bipush 8, 2) := by decide +kernel
theorem dX8_fill_13 : decode cX8_fill 13 = .ok (.goto 4, 3) := by decide +kernel
theorem dX8_fill_16 : decode cX8_fill 16 = .ok (.iconst 4, 1) := by decide +kernel
theorem dX8_fill_17 : decode cX8_fill 17 = .ok (.istore_n 2, 1) := by decide +kernel
theorem dX8_fill_18 : decode cX8_fill 18 = .ok (.aload_n 0, 1) := by decide +kernel
theorem dX8_fill_19 : decode cX8_fill 19 = .ok (.iconst 0, 1) := by decide +kernel
theorem dX8_fill_20 : decode cX8_fill 20 = .ok (.putfield 15, 3) := by decide +kernel
theorem dX8_fill_23 : decode cX8_fill 23 = .ok (.iconst 0, 1) := by decide +kernel
theorem dX8_fill_24 : decode cX8_fill 24 = .ok (.istore_n 3, 1) := by decide +kernel
theorem dX8_fill_25 : decode cX8_fill 25 = .ok (.iload_n 3, 1) := by decide +kernel
theorem dX8_fill_26 : decode cX8_fill 26 = .ok (.iload_n 2, 1) := by decide +kernel
theorem dX8_fill_27 : decode cX8_fill 27 = .ok (.if_icmp .ge 28, 3) := by decide +kernel
theorem dX8_fill_30 : decode cX8_fill 30 = .ok (.aload_n 0, 1) := by decide +kernel
theorem dX8_fill_31 : decode cX8_fill 31 = .ok (.aload_n 1, 1) := by decide +kernel
theorem dX8_fill_32 : decode cX8_fill 32 = .ok (.iload_n 3, 1) := by decide +kernel
theorem dX8_fill_33 : decode cX8_fill 33 = .ok (.invokevirtual 27, 3) := by decide +kernel
theorem dX8_fill_36 : decode cX8_fill 36 = .ok (.ifCond .eq 13, 3) := by decide +kernel
theorem dX8_fill_39 : decode cX8_fill 39 = .ok (.aload_n 0, 1) := by decide +kernel
theorem dX8_fill_40 : decode cX8_fill 40 = .ok (.dup, 1) := by decide +kernel
theorem dX8_fill_41 : decode cX8_fill 41 = .ok (.getfield 15, 3) := by decide +kernel
theorem dX8_fill_44 : decode cX8_fill 44 = .ok (.iconst 1, 1) := by decide +kernel
theorem dX8_fill_45 : decode cX8_fill 45 = .ok (.iadd, 1) := by decide +kernel
theorem dX8_fill_46 : decode cX8_fill 46 = .ok (.putfield 15, 3) := by decide +kernel
theorem dX8_fill_49 : decode cX8_fill 49 = .ok (.iinc 3 1, 3) := by decide +kernel
theorem dX8_fill_52 : decode cX8_fill 52 = .ok (.goto (-27), 3) := by decide +kernel
theorem dX8_fill_55 : decode cX8_fill 55 = .ok (.return_, 1) := by decide +kernel
theorem dX8_fillNext_0 : decode cX8_fillNext 0 = .ok (.iconst 0, 1) := by decide +kernel
theorem dX8_fillNext_1 : decode cX8_fillNext 1 = .ok (.istore_n 3, 1) := by decide +kernel
theorem dX8_fillNext_2 : decode cX8_fillNext 2 = .ok (.iload_n 3, 1) := by decide +kernel
theorem dX8_fillNext_3 : decode cX8_fillNext 3 = .ok (.aload_n 1, 1) := by decide +kernel
theorem dX8_fillNext_4 : decode cX8_fillNext 4 = .ok (.invokevirtual 31, 3) := by decide +kernel
theorem dX8_fillNext_7 : decode cX8_fillNext 7 = .ok (.if_icmp .ge 51, 3) := by decide +kernel
theorem dX8_fillNext_10 : decode cX8_fillNext 10 = .ok (.aload_n 1, 1) := by decide +kernel
theorem dX8_fillNext_11 : decode cX8_fillNext 11 = .ok (.iload_n 2, 1) := by decide +kernel
theorem dX8_fillNext_12 : decode cX8_fillNext 12 = .ok (.iload_n 3, 1) := by decide +kernel
theorem dX8_fillNext_13 : decode cX8_fillNext 13 = .ok (.invokestatic 35, 3) := by decide +kernel
theorem dX8_fillNext_16 : decode cX8_fillNext 16 = .ok (.istore 4, 2) := by decide +kernel
theorem dX8_fillNext_18 : decode cX8_fillNext 18 = .ok (.aload_n 1, 1) := by decide +kernel
theorem dX8_fillNext_19 : decode cX8_fillNext 19 = .ok (.iload 4, 2) := by decide +kernel
theorem dX8_fillNext_21 : decode cX8_fillNext 21 = .ok (.invokevirtual 39, 3) := by decide +kernel
theorem dX8_fillNext_24 : decode cX8_fillNext 24 = .ok (.aload_n 1, 1) := by decide +kernel
theorem dX8_fillNext_25 : decode cX8_fillNext 25 = .ok (.iload_n 3, 1) := by decide +kernel
theorem dX8_fillNext_26 : decode cX8_fillNext 26 = .ok (.invokevirtual 39, 3) := by decide +kernel
theorem dX8_fillNext_29 : decode cX8_fillNext 29 = .ok (.if_icmp .eq 5, 3) := by decide +kernel
theorem dX8_fillNext_32 : decode cX8_fillNext 32 = .ok (.iconst 0, 1) := by decide +kernel
theorem dX8_fillNext_33 : decode cX8_fillNext 33 = .ok (.ireturn, 1) := by decide +kernel
theorem dX8_fillNext_34 : decode cX8_fillNext 34 = .ok (.aload_n 0, 1) := by decide +kernel
theorem dX8_fillNext_35 : decode cX8_fillNext 35 = .ok (.getfield 9, 3) := by decide +kernel
theorem dX8_fillNext_38 : decode cX8_fillNext 38 = .ok (.aload_n 0, 1) := by decide +kernel
theorem dX8_fillNext_39 : decode cX8_fillNext 39 = .ok (.getfield 15, 3) := by decide +kernel
theorem dX8_fillNext_42 : decode cX8_fillNext 42 = .ok (.bipush 36, 2) := by decide +kernel
theorem dX8_fillNext_44 : decode cX8_fillNext 44 = .ok (.imul, 1) := by decide +kernel
theorem dX8_fillNext_45 : decode cX8_fillNext 45 = .ok (.iload_n 3, 1) := by decide +kernel
theorem dX8_fillNext_46 : decode cX8_fillNext 46 = .ok (.iadd, 1) := by decide +kernel
theorem dX8_fillNext_47 : decode cX8_fillNext 47 = .ok (.iload 4, 2) := by decide +kernel
theorem dX8_fillNext_49 : decode cX8_fillNext 49 = .ok (.invokestatic 43, 3) := by decide +kernel
theorem dX8_fillNext_52 : decode cX8_fillNext 52 = .ok (.iinc 3 1, 3) := by decide +kernel
theorem dX8_fillNext_55 : decode cX8_fillNext 55 = .ok (.goto (-53), 3) := by decide +kernel
theorem dX8_fillNext_58 : decode cX8_fillNext 58 = .ok (.iconst 1, 1) := by decide +kernel
theorem dX8_fillNext_59 : decode cX8_fillNext 59 = .ok (.ireturn, 1) := by decide +kernel
theorem dX8_mapCell_0 : decode cX8_mapCell 0 = .ok (.aload_n 0, 1) := by decide +kernel
theorem dX8_mapCell_1 : decode cX8_mapCell 1 = .ok (.iload_n 2, 1) := by decide +kernel
theorem dX8_mapCell_2 : decode cX8_mapCell 2 = .ok (.invokevirtual 47, 3) := by decide +kernel
theorem dX8_mapCell_5 : decode cX8_mapCell 5 = .ok (.istore_n 3, 1) := by decide +kernel
theorem dX8_mapCell_6 : decode cX8_mapCell 6 = .ok (.aload_n 0, 1) := by decide +kernel
theorem dX8_mapCell_7 : decode cX8_mapCell 7 = .ok (.iload_n 2, 1) := by decide +kernel
theorem dX8_mapCell_8 : decode cX8_mapCell 8 = .ok (.invokevirtual 50, 3) := by decide +kernel
theorem dX8_mapCell_11 : decode cX8_mapCell 11 = .ok (.istore 4, 2) := by decide +kernel
theorem dX8_mapCell_13 : decode cX8_mapCell 13 = .ok (.iload_n 1, 1) := by decide +kernel
theorem dX8_mapCell_14 : decode cX8_mapCell 14 = .ok (.iconst 1, 1) := by decide +kernel
theorem dX8_mapCell_15 : decode cX8_mapCell 15 = .ok (.iand, 1) := by decide +kernel
theorem dX8_mapCell_16 : decode cX8_mapCell 16 = .ok (.ifCond .eq 12, 3) := by decide +kernel
theorem dX8_mapCell_19 : decode cX8_mapCell 19 = .ok (.aload_n 0, 1) := by decide +kernel
theorem dX8_mapCell_20 : decode cX8_mapCell 20 = .ok (.getfield 19, 3) := by decide +kernel
theorem dX8_mapCell_23 : decode cX8_mapCell 23 = .ok (.iconst 1, 1) := by decide +kernel
theorem dX8_mapCell_24 : decode cX8_mapCell 24 = .ok (.isub, 1) := by decide +kernel
theorem dX8_mapCell_25 : decode cX8_mapCell 25 = .ok (.iload_n 3, 1) := by decide +kernel
theorem dX8_mapCell_26 : decode cX8_mapCell 26 = .ok (.isub, 1) := by decide +kernel
theorem dX8_mapCell_27 : decode cX8_mapCell 27 = .ok (.istore_n 3, 1) := by decide +kernel
theorem dX8_mapCell_28 : decode cX8_mapCell 28 = .ok (.iload_n 1, 1) := by decide +kernel
theorem dX8_mapCell_29 : decode cX8_mapCell 29 = .ok (.iconst 2, 1) := by decide +kernel
theorem dX8_mapCell_30 : decode cX8_mapCell 30 = .ok (.iand, 1) := by decide +kernel
theorem dX8_mapCell_31 : decode cX8_mapCell 31 = .ok (.ifCond .eq 14, 3) := by decide +kernel
theorem dX8_mapCell_34 : decode cX8_mapCell 34 = .ok (.aload_n 0, 1) := by decide +kernel
theorem dX8_mapCell_35 : decode cX8_mapCell 35 = .ok (.getfield 24, 3) := by decide +kernel
theorem dX8_mapCell_38 : decode cX8_mapCell 38 = .ok (.iconst 1, 1) := by decide +kernel
theorem dX8_mapCell_39 : decode cX8_mapCell 39 = .ok (.isub, 1) := by decide +kernel
theorem dX8_mapCell_40 : decode cX8_mapCell 40 = .ok (.iload 4, 2) := by decide +kernel
theorem dX8_mapCell_42 : decode cX8_mapCell 42 = .ok (.isub, 1) := by decide +kernel
theorem dX8_mapCell_43 : decode cX8_mapCell 43 = .ok (.istore 4, 2) := by decide +kernel
theorem dX8_mapCell_45 : decode cX8_mapCell 45 = .ok (.iload_n 1, 1) := by decide +kernel
theorem dX8_mapCell_46 : decode cX8_mapCell 46 = .ok (.iconst 4, 1) := by decide +kernel
theorem dX8_mapCell_47 : decode cX8_mapCell 47 = .ok (.iand, 1) := by decide +kernel
theorem dX8_mapCell_48 : decode cX8_mapCell 48 = .ok (.ifCond .eq 15, 3) := by decide +kernel
theorem dX8_mapCell_51 : decode cX8_mapCell 51 = .ok (.iload_n 3, 1) := by decide +kernel
theorem dX8_mapCell_52 : decode cX8_mapCell 52 = .ok (.aload_n 0, 1) := by decide +kernel
theorem dX8_mapCell_53 : decode cX8_mapCell 53 = .ok (.getfield 19, 3) := by decide +kernel
theorem dX8_mapCell_56 : decode cX8_mapCell 56 = .ok (.imul, 1) := by decide +kernel
theorem dX8_mapCell_57 : decode cX8_mapCell 57 = .ok (.iload 4, 2) := by decide +kernel
theorem dX8_mapCell_59 : decode cX8_mapCell 59 = .ok (.iadd, 1) := by decide +kernel
theorem dX8_mapCell_60 : decode cX8_mapCell 60 = .ok (.goto 12, 3) := by decide +kernel
theorem dX8_mapCell_63 : decode cX8_mapCell 63 = .ok (.iload 4, 2) := by decide +kernel
theorem dX8_mapCell_65 : decode cX8_mapCell 65 = .ok (.aload_n 0, 1) := by decide +kernel
theorem dX8_mapCell_66 : decode cX8_mapCell 66 = .ok (.getfield 19, 3) := by decide +kernel
theorem dX8_mapCell_69 : decode cX8_mapCell 69 = .ok (.imul, 1) := by decide +kernel
theorem dX8_mapCell_70 : decode cX8_mapCell 70 = .ok (.iload_n 3, 1) := by decide +kernel
theorem dX8_mapCell_71 : decode cX8_mapCell 71 = .ok (.iadd, 1) := by decide +kernel
theorem dX8_mapCell_72 : decode cX8_mapCell 72 = .ok (.ireturn, 1) := by decide +kernel
theorem dX8_imageOf_0 : decode cX8_imageOf 0 = .ok (.aload_n 0, 1) := by decide +kernel
theorem dX8_imageOf_1 : decode cX8_imageOf 1 = .ok (.getfield 9, 3) := by decide +kernel
theorem dX8_imageOf_4 : decode cX8_imageOf 4 = .ok (.iload_n 1, 1) := by decide +kernel
theorem dX8_imageOf_5 : decode cX8_imageOf 5 = .ok (.bipush 36, 2) := by decide +kernel
theorem dX8_imageOf_7 : decode cX8_imageOf 7 = .ok (.imul, 1) := by decide +kernel
theorem dX8_imageOf_8 : decode cX8_imageOf 8 = .ok (.iload_n 2, 1) := by decide +kernel
theorem dX8_imageOf_9 : decode cX8_imageOf 9 = .ok (.iadd, 1) := by decide +kernel
theorem dX8_imageOf_10 : decode cX8_imageOf 10 = .ok (.invokestatic 53, 3) := by decide +kernel
theorem dX8_imageOf_13 : decode cX8_imageOf 13 = .ok (.ireturn, 1) := by decide +kernel
theorem dX9_init_0 : decode cX9_init 0 = .ok (.aload_n 0, 1) := by decide +kernel
theorem dX9_init_1 : decode cX9_init 1 = .ok (.invokespecial 3, 3) := by decide +kernel
theorem dX9_init_4 : decode cX9_init 4 = .ok (.aload_n 0, 1) := by decide +kernel
theorem dX9_init_5 : decode cX9_init 5 = .ok (.bipush 36, 2) := by decide +kernel
theorem dX9_init_7 : decode cX9_init 7 = .ok (.newarray .int, 2) := by decide +kernel
theorem dX9_init_9 : decode cX9_init 9 = .ok (.putfield 9, 3) := by decide +kernel
theorem dX9_init_12 : decode cX9_init 12 = .ok (.aload_n 0, 1) := by decide +kernel
theorem dX9_init_13 : decode cX9_init 13 = .ok (.bipush 36, 2) := by decide +kernel
theorem dX9_init_15 : decode cX9_init 15 = .ok (.newarray .int, 2) := by decide +kernel
theorem dX9_init_17 : decode cX9_init 17 = .ok (.putfield 15, 3) := by decide +kernel
theorem dX9_init_20 : decode cX9_init 20 = .ok (.aload_n 0, 1) := by decide +kernel
theorem dX9_init_21 : decode cX9_init 21 = .ok (.bipush 8, 2) := by decide +kernel
theorem dX9_init_23 : decode cX9_init 23 = .ok (.newarray .int, 2) := by decide +kernel
theorem dX9_init_25 : decode cX9_init 25 = .ok (.putfield 18, 3) := by decide +kernel
theorem dX9_init_28 : decode cX9_init 28 = .ok (.aload_n 0, 1) := by decide +kernel
theorem dX9_init_29 : decode cX9_init 29 = .ok (.iconst 4, 1) := by decide +kernel
theorem dX9_init_30 : decode cX9_init 30 = .ok (.newarray .long, 2) := by decide +kernel
theorem dX9_init_32 : decode cX9_init 32 = .ok (.putfield 21, 3) := by decide +kernel
theorem dX9_init_35 : decode cX9_init 35 = .ok (.aload_n 0, 1) := by decide +kernel
theorem dX9_init_36 : decode cX9_init 36 = .ok (.lconst 0, 1) := by decide +kernel
theorem dX9_init_37 : decode cX9_init 37 = .ok (.putfield 25, 3) := by decide +kernel
theorem dX9_init_40 : decode cX9_init 40 = .ok (.aload_n 0, 1) := by decide +kernel
theorem dX9_init_41 : decode cX9_init 41 = .ok (.lconst 0, 1) := by decide +kernel
theorem dX9_init_42 : decode cX9_init 42 = .ok (.putfield 29, 3) := by decide +kernel
theorem dX9_init_45 : decode cX9_init 45 = .ok (.aload_n 0, 1) := by decide +kernel
theorem dX9_init_46 : decode cX9_init 46 = .ok (.lconst 0, 1) := by decide +kernel
theorem dX9_init_47 : decode cX9_init 47 = .ok (.putfield 32, 3) := by decide +kernel
theorem dX9_init_50 : decode cX9_init 50 = .ok (.aload_n 0, 1) := by decide +kernel
theorem dX9_init_51 : decode cX9_init 51 = .ok (.iconst 0, 1) := by decide +kernel
theorem dX9_init_52 : decode cX9_init 52 = .ok (.putfield 35, 3) := by decide +kernel
theorem dX9_init_55 : decode cX9_init 55 = .ok (.aload_n 0, 1) := by decide +kernel
theorem dX9_init_56 : decode cX9_init 56 = .ok (.iconst 0, 1) := by decide +kernel
theorem dX9_init_57 : decode cX9_init 57 = .ok (.putfield 39, 3) := by decide +kernel
theorem dX9_init_60 : decode cX9_init 60 = .ok (.aload_n 0, 1) := by decide +kernel
theorem dX9_init_61 : decode cX9_init 61 = .ok (.iconst 0, 1) := by decide +kernel
theorem dX9_init_62 : decode cX9_init 62 = .ok (.putfield 42, 3) := by decide +kernel
theorem dX9_init_65 : decode cX9_init 65 = .ok (.aload_n 0, 1) := by decide +kernel
theorem dX9_init_66 : decode cX9_init 66 = .ok (.iconst 0, 1) := by decide +kernel
theorem dX9_init_67 : decode cX9_init 67 = .ok (.putfield 45, 3) := by decide +kernel
theorem dX9_init_70 : decode cX9_init 70 = .ok (.aload_n 0, 1) := by decide +kernel
theorem dX9_init_71 : decode cX9_init 71 = .ok (.iconst 0, 1) := by decide +kernel
theorem dX9_init_72 : decode cX9_init 72 = .ok (.putfield 48, 3) := by decide +kernel
theorem dX9_init_75 : decode cX9_init 75 = .ok (.aload_n 0, 1) := by decide +kernel
theorem dX9_init_76 : decode cX9_init 76 = .ok (.iconst 1, 1) := by decide +kernel
theorem dX9_init_77 : decode cX9_init 77 = .ok (.putfield 52, 3) := by decide +kernel
theorem dX9_init_80 : decode cX9_init 80 = .ok (.aload_n 0, 1) := by decide +kernel
theorem dX9_init_81 : decode cX9_init 81 = .ok (.iconst 0, 1) := by decide +kernel
theorem dX9_init_82 : decode cX9_init 82 = .ok (.putfield 55, 3) := by decide +kernel
theorem dX9_init_85 : decode cX9_init 85 = .ok (.aload_n 0, 1) := by decide +kernel
theorem dX9_init_86 : decode cX9_init 86 = .ok (.aload_n 1, 1) := by decide +kernel
theorem dX9_init_87 : decode cX9_init 87 = .ok (.putfield 58, 3) := by decide +kernel
theorem dX9_init_90 : decode cX9_init 90 = .ok (.aload_n 0, 1) := by decide +kernel
theorem dX9_init_91 : decode cX9_init 91 = .ok (.aload_n 2, 1) := by decide +kernel
theorem dX9_init_92 : decode cX9_init 92 = .ok (.putfield 62, 3) := by decide +kernel
theorem dX9_init_95 : decode cX9_init 95 = .ok (.return_, 1) := by decide +kernel
theorem dX9_begin_0 : decode cX9_begin 0 = .ok (.iconst 0, 1) := by decide +kernel
theorem dX9_begin_1 : decode cX9_begin 1 = .ok (.istore_n 1, 1) := by decide +kernel
theorem dX9_begin_2 : decode cX9_begin 2 = .ok (.iload_n 1, 1) := by decide +kernel
theorem dX9_begin_3 : decode cX9_begin 3 = .ok (.bipush 8, 2) := by decide +kernel
theorem dX9_begin_5 : decode cX9_begin 5 = .ok (.if_icmp .ge 25, 3) := by decide +kernel
theorem dX9_begin_8 : decode cX9_begin 8 = .ok (.aload_n 0, 1) := by decide +kernel
theorem dX9_begin_9 : decode cX9_begin 9 = .ok (.getfield 18, 3) := by decide +kernel
theorem dX9_begin_12 : decode cX9_begin 12 = .ok (.iload_n 1, 1) := by decide +kernel
theorem dX9_begin_13 : decode cX9_begin 13 = .ok (.aload_n 0, 1) := by decide +kernel
theorem dX9_begin_14 : decode cX9_begin 14 = .ok (.getfield 58, 3) := by decide +kernel
theorem dX9_begin_17 : decode cX9_begin 17 = .ok (.iload_n 1, 1) := by decide +kernel
theorem dX9_begin_18 : decode cX9_begin 18 = .ok (.invokevirtual 66, 3) := by decide +kernel
theorem dX9_begin_21 : decode cX9_begin 21 = .ok (.invokestatic 72, 3) := by decide +kernel
theorem dX9_begin_24 : decode cX9_begin 24 = .ok (.iinc 1 1, 3) := by decide +kernel
theorem dX9_begin_27 : decode cX9_begin 27 = .ok (.goto (-25), 3) := by decide +kernel
theorem dX9_begin_30 : decode cX9_begin 30 = .ok (.iconst 0, 1) := by decide +kernel
theorem dX9_begin_31 : decode cX9_begin 31 = .ok (.istore_n 1, 1) := by decide +kernel
theorem dX9_begin_32 : decode cX9_begin 32 = .ok (.iload_n 1, 1) := by decide +kernel
theorem dX9_begin_33 : decode cX9_begin 33 = .ok (.iconst 4, 1) := by decide +kernel
theorem dX9_begin_34 : decode cX9_begin 34 = .ok (.if_icmp .ge 16, 3) := by decide +kernel
theorem dX9_begin_37 : decode cX9_begin 37 = .ok (.aload_n 0, 1) := by decide +kernel
theorem dX9_begin_38 : decode cX9_begin 38 = .ok (.getfield 21, 3) := by decide +kernel
theorem dX9_begin_41 : decode cX9_begin 41 = .ok (.iload_n 1, 1) := by decide +kernel
theorem dX9_begin_42 : decode cX9_begin 42 = .ok (.lconst 0, 1) := by decide +kernel
theorem dX9_begin_43 : decode cX9_begin 43 = .ok (.lastore, 1) := by decide +kernel
theorem dX9_begin_44 : decode cX9_begin 44 = .ok (.iinc 1 1, 3) := by decide +kernel
theorem dX9_begin_47 : decode cX9_begin 47 = .ok (.goto (-15), 3) := by decide +kernel
theorem dX9_begin_50 : decode cX9_begin 50 = .ok (.aload_n 0, 1) := by decide +kernel
theorem dX9_begin_51 : decode cX9_begin 51 = .ok (.lconst 0, 1) := by decide +kernel
theorem dX9_begin_52 : decode cX9_begin 52 = .ok (.putfield 29, 3) := by decide +kernel
theorem dX9_begin_55 : decode cX9_begin 55 = .ok (.aload_n 0, 1) := by decide +kernel
theorem dX9_begin_56 : decode cX9_begin 56 = .ok (.lconst 0, 1) := by decide +kernel
theorem dX9_begin_57 : decode cX9_begin 57 = .ok (.putfield 32, 3) := by decide +kernel
theorem dX9_begin_60 : decode cX9_begin 60 = .ok (.iconst 0, 1) := by decide +kernel
theorem dX9_begin_61 : decode cX9_begin 61 = .ok (.istore_n 1, 1) := by decide +kernel
theorem dX9_begin_62 : decode cX9_begin 62 = .ok (.iload_n 1, 1) := by decide +kernel
theorem dX9_begin_63 : decode cX9_begin 63 = .ok (.aload_n 0, 1) := by decide +kernel
theorem dX9_begin_64 : decode cX9_begin 64 = .ok (.getfield 58, 3) := by decide +kernel
theorem dX9_begin_67 : decode cX9_begin 67 = .ok (.getfield 76, 3) := by decide +kernel
theorem dX9_begin_70 : decode cX9_begin 70 = .ok (.if_icmp .ge 59, 3) := by decide +kernel
theorem dX9_begin_73 : decode cX9_begin 73 = .ok (.aload_n 0, 1) := by decide +kernel
theorem dX9_begin_74 : decode cX9_begin 74 = .ok (.dup, 1) := by decide +kernel
theorem dX9_begin_75 : decode cX9_begin 75 = .ok (.getfield 29, 3) := by decide +kernel
theorem dX9_begin_78 : decode cX9_begin 78 = .ok (.lconst 1, 1) := by decide +kernel
theorem dX9_begin_79 : decode cX9_begin 79 = .ok (.iload_n 1, 1) := by decide +kernel
theorem dX9_begin_80 : decode cX9_begin 80 = .ok (.aload_n 0, 1) := by decide +kernel
theorem dX9_begin_81 : decode cX9_begin 81 = .ok (.getfield 58, 3) := by decide +kernel
theorem dX9_begin_84 : decode cX9_begin 84 = .ok (.getfield 79, 3) := by decide +kernel
theorem dX9_begin_87 : decode cX9_begin 87 = .ok (.imul, 1) := by decide +kernel
theorem dX9_begin_88 : decode cX9_begin 88 = .ok (.lshl, 1) := by decide +kernel
theorem dX9_begin_89 : decode cX9_begin 89 = .ok (.lor, 1) := by decide +kernel
theorem dX9_begin_90 : decode cX9_begin 90 = .ok (.putfield 29, 3) := by decide +kernel
theorem dX9_begin_93 : decode cX9_begin 93 = .ok (.aload_n 0, 1) := by decide +kernel
theorem dX9_begin_94 : decode cX9_begin 94 = .ok (.dup, 1) := by decide +kernel
theorem dX9_begin_95 : decode cX9_begin 95 = .ok (.getfield 32, 3) := by decide +kernel
theorem dX9_begin_98 : decode cX9_begin 98 = .ok (.lconst 1, 1) := by decide +kernel
theorem dX9_begin_99 : decode cX9_begin 99 = .ok (.iload_n 1, 1) := by decide +kernel
theorem dX9_begin_100 : decode cX9_begin 100 = .ok (.aload_n 0, 1) := by decide +kernel
theorem dX9_begin_101 : decode cX9_begin 101 = .ok (.getfield 58, 3) := by decide +kernel
theorem dX9_begin_104 : decode cX9_begin 104 = .ok (.getfield 79, 3) := by decide +kernel
theorem dX9_begin_107 : decode cX9_begin 107 = .ok (.imul, 1) := by decide +kernel
theorem dX9_begin_108 : decode cX9_begin 108 = .ok (.aload_n 0, 1) := by decide +kernel
theorem dX9_begin_109 : decode cX9_begin 109 = .ok (.getfield 58, 3) := by decide +kernel
theorem dX9_begin_112 : decode cX9_begin 112 = .ok (.getfield 79, 3) := by decide +kernel
theorem dX9_begin_115 : decode cX9_begin 115 = .ok (.iadd, 1) := by decide +kernel
theorem dX9_begin_116 : decode cX9_begin 116 = .ok (.iconst 1, 1) := by decide +kernel
theorem dX9_begin_117 : decode cX9_begin 117 = .ok (.isub, 1) := by decide +kernel
theorem dX9_begin_118 : decode cX9_begin 118 = .ok (.lshl, 1) := by decide +kernel
theorem dX9_begin_119 : decode cX9_begin 119 = .ok (.lor, 1) := by decide +kernel
theorem dX9_begin_120 : decode cX9_begin 120 = .ok (.putfield 32, 3) := by decide +kernel
theorem dX9_begin_123 : decode cX9_begin 123 = .ok (.iinc 1 1, 3) := by decide +kernel
theorem dX9_begin_126 : decode cX9_begin 126 = .ok (.goto (-64), 3) := by decide +kernel
theorem dX9_begin_129 : decode cX9_begin 129 = .ok (.aload_n 0, 1) := by decide +kernel
theorem dX9_begin_130 : decode cX9_begin 130 = .ok (.lconst 0, 1) := by decide +kernel
theorem dX9_begin_131 : decode cX9_begin 131 = .ok (.putfield 25, 3) := by decide +kernel
theorem dX9_begin_134 : decode cX9_begin 134 = .ok (.aload_n 0, 1) := by decide +kernel
theorem dX9_begin_135 : decode cX9_begin 135 = .ok (.iconst 0, 1) := by decide +kernel
theorem dX9_begin_136 : decode cX9_begin 136 = .ok (.putfield 35, 3) := by decide +kernel
theorem dX9_begin_139 : decode cX9_begin 139 = .ok (.aload_n 0, 1) := by decide +kernel
theorem dX9_begin_140 : decode cX9_begin 140 = .ok (.aload_n 0, 1) := by decide +kernel
theorem dX9_begin_141 : decode cX9_begin 141 = .ok (.getfield 58, 3) := by decide +kernel
theorem dX9_begin_144 : decode cX9_begin 144 = .ok (.invokevirtual 82, 3) := by decide +kernel
theorem dX9_begin_147 : decode cX9_begin 147 = .ok (.putfield 39, 3) := by decide +kernel
theorem dX9_begin_150 : decode cX9_begin 150 = .ok (.aload_n 0, 1) := by decide +kernel
theorem dX9_begin_151 : decode cX9_begin 151 = .ok (.iconst 0, 1) := by decide +kernel
theorem dX9_begin_152 : decode cX9_begin 152 = .ok (.putfield 42, 3) := by decide +kernel
theorem dX9_begin_155 : decode cX9_begin 155 = .ok (.aload_n 0, 1) := by decide +kernel
theorem dX9_begin_156 : decode cX9_begin 156 = .ok (.iconst 0, 1) := by decide +kernel
theorem dX9_begin_157 : decode cX9_begin 157 = .ok (.putfield 45, 3) := by decide +kernel
theorem dX9_begin_160 : decode cX9_begin 160 = .ok (.aload_n 0, 1) := by decide +kernel
theorem dX9_begin_161 : decode cX9_begin 161 = .ok (.iconst 1, 1) := by decide +kernel
theorem dX9_begin_162 : decode cX9_begin 162 = .ok (.putfield 48, 3) := by decide +kernel
theorem dX9_begin_165 : decode cX9_begin 165 = .ok (.aload_n 0, 1) := by decide +kernel
theorem dX9_begin_166 : decode cX9_begin 166 = .ok (.iconst 0, 1) := by decide +kernel
theorem dX9_begin_167 : decode cX9_begin 167 = .ok (.putfield 52, 3) := by decide +kernel
theorem dX9_begin_170 : decode cX9_begin 170 = .ok (.aload_n 0, 1) := by decide +kernel
theorem dX9_begin_171 : decode cX9_begin 171 = .ok (.iconst 0, 1) := by decide +kernel
theorem dX9_begin_172 : decode cX9_begin 172 = .ok (.putfield 55, 3) := by decide +kernel
theorem dX9_begin_175 : decode cX9_begin 175 = .ok (.aload_n 0, 1) := by decide +kernel
theorem dX9_begin_176 : decode cX9_begin 176 = .ok (.invokevirtual 85, 3) := by decide +kernel
theorem dX9_begin_179 : decode cX9_begin 179 = .ok (.return_, 1) := by decide +kernel
theorem dX9_advance_0 : decode cX9_advance 0 = .ok (.iconst 0, 1) := by decide +kernel
theorem dX9_advance_1 : decode cX9_advance 1 = .ok (.istore_n 1, 1) := by decide +kernel
theorem dX9_advance_2 : decode cX9_advance 2 = .ok (.iload_n 1, 1) := by decide +kernel
theorem dX9_advance_3 : decode cX9_advance 3 = .ok (.ldc 88, 2) := by decide +kernel
theorem dX9_advance_5 : decode cX9_advance 5 = .ok (.if_icmp .ge 125, 3) := by decide +kernel
theorem dX9_advance_8 : decode cX9_advance 8 = .ok (.aload_n 0, 1) := by decide +kernel
theorem dX9_advance_9 : decode cX9_advance 9 = .ok (.getfield 52, 3) := by decide +kernel
theorem dX9_advance_12 : decode cX9_advance 12 = .ok (.ifCond .ne 118, 3) := by decide +kernel
theorem dX9_advance_15 : decode cX9_advance 15 = .ok (.aload_n 0, 1) := by decide +kernel
theorem dX9_advance_16 : decode cX9_advance 16 = .ok (.getfield 25, 3) := by decide +kernel
theorem dX9_advance_19 : decode cX9_advance 19 = .ok (.aload_n 0, 1) := by decide +kernel
theorem dX9_advance_20 : decode cX9_advance 20 = .ok (.getfield 62, 3) := by decide +kernel
theorem dX9_advance_23 : decode cX9_advance 23 = .ok (.getfield 89, 3) := by decide +kernel
theorem dX9_advance_26 : decode cX9_advance 26 = .ok (.lcmp, 1) := by decide +kernel
theorem dX9_advance_27 : decode cX9_advance 27 = .ok (.ifCond .ne 7, 3) := by decide +kernel
theorem dX9_advance_30 : decode cX9_advance 30 = .ok (.iconst 1, 1) := by decide +kernel
theorem dX9_advance_31 : decode cX9_advance 31 = .ok (.goto 4, 3) := by decide +kernel
theorem dX9_advance_34 : decode cX9_advance 34 = .ok (.iconst 0, 1) := by decide +kernel
theorem dX9_advance_35 : decode cX9_advance 35 = .ok (.istore_n 2, 1) := by decide +kernel
theorem dX9_advance_36 : decode cX9_advance 36 = .ok (.iload_n 2, 1) := by decide +kernel
theorem dX9_advance_37 : decode cX9_advance 37 = .ok (.ifCond .eq 34, 3) := by decide +kernel
theorem dX9_advance_40 : decode cX9_advance 40 = .ok (.aload_n 0, 1) := by decide +kernel
theorem dX9_advance_41 : decode cX9_advance 41 = .ok (.getfield 48, 3) := by decide +kernel
theorem dX9_advance_44 : decode cX9_advance 44 = .ok (.ifCond .eq 27, 3) := by decide +kernel
theorem dX9_advance_47 : decode cX9_advance 47 = .ok (.aload_n 0, 1) := by decide +kernel
theorem dX9_advance_48 : decode cX9_advance 48 = .ok (.invokevirtual 94, 3) := by decide +kernel
theorem dX9_advance_51 : decode cX9_advance 51 = .ok (.ifCond .eq 20, 3) := by decide +kernel
theorem dX9_advance_54 : decode cX9_advance 54 = .ok (.aload_n 0, 1) := by decide +kernel
theorem dX9_advance_55 : decode cX9_advance 55 = .ok (.iconst 0, 1) := by decide +kernel
theorem dX9_advance_56 : decode cX9_advance 56 = .ok (.putfield 48, 3) := by decide +kernel
theorem dX9_advance_59 : decode cX9_advance 59 = .ok (.aload_n 0, 1) := by decide +kernel
theorem dX9_advance_60 : decode cX9_advance 60 = .ok (.dup, 1) := by decide +kernel
theorem dX9_advance_61 : decode cX9_advance 61 = .ok (.getfield 45, 3) := by decide +kernel
theorem dX9_advance_64 : decode cX9_advance 64 = .ok (.iconst 1, 1) := by decide +kernel
theorem dX9_advance_65 : decode cX9_advance 65 = .ok (.iadd, 1) := by decide +kernel
theorem dX9_advance_66 : decode cX9_advance 66 = .ok (.putfield 45, 3) := by decide +kernel
theorem dX9_advance_69 : decode cX9_advance 69 = .ok (.iconst 1, 1) := by decide +kernel
theorem dX9_advance_70 : decode cX9_advance 70 = .ok (.ireturn, 1) := by decide +kernel
theorem dX9_advance_71 : decode cX9_advance 71 = .ok (.iload_n 2, 1) := by decide +kernel
theorem dX9_advance_72 : decode cX9_advance 72 = .ok (.ifCond .eq 7, 3) := by decide +kernel
theorem dX9_advance_75 : decode cX9_advance 75 = .ok (.iconst (-1), 1) := by decide +kernel
theorem dX9_advance_76 : decode cX9_advance 76 = .ok (.goto 7, 3) := by decide +kernel
theorem dX9_advance_79 : decode cX9_advance 79 = .ok (.aload_n 0, 1) := by decide +kernel
theorem dX9_advance_80 : decode cX9_advance 80 = .ok (.invokevirtual 98, 3) := by decide +kernel
theorem dX9_advance_83 : decode cX9_advance 83 = .ok (.istore_n 3, 1) := by decide +kernel
theorem dX9_advance_84 : decode cX9_advance 84 = .ok (.iload_n 3, 1) := by decide +kernel
theorem dX9_advance_85 : decode cX9_advance 85 = .ok (.iconst (-1), 1) := by decide +kernel
theorem dX9_advance_86 : decode cX9_advance 86 = .ok (.if_icmp .ne 10, 3) := by decide +kernel
theorem dX9_advance_89 : decode cX9_advance 89 = .ok (.aload_n 0, 1) := by decide +kernel
theorem dX9_advance_90 : decode cX9_advance 90 = .ok (.invokevirtual 101, 3) := by decide +kernel
theorem dX9_advance_93 : decode cX9_advance 93 = .ok (.goto 31, 3) := by decide +kernel
theorem dX9_advance_96 : decode cX9_advance 96 = .ok (.aload_n 0, 1) := by decide +kernel
theorem dX9_advance_97 : decode cX9_advance 97 = .ok (.getfield 42, 3) := by decide +kernel
theorem dX9_advance_100 : decode cX9_advance 100 = .ok (.sipush 20000, 3) := by decide +kernel
theorem dX9_advance_103 : decode cX9_advance 103 = .ok (.if_icmp .ge 11, 3) := by decide +kernel
theorem dX9_advance_106 : decode cX9_advance 106 = .ok (.aload_n 0, 1) := by decide +kernel
theorem dX9_advance_107 : decode cX9_advance 107 = .ok (.iload_n 3, 1) := by decide +kernel
theorem dX9_advance_108 : decode cX9_advance 108 = .ok (.invokevirtual 104, 3) := by decide +kernel
theorem dX9_advance_111 : decode cX9_advance 111 = .ok (.goto 13, 3) := by decide +kernel
theorem dX9_advance_114 : decode cX9_advance 114 = .ok (.aload_n 0, 1) := by decide +kernel
theorem dX9_advance_115 : decode cX9_advance 115 = .ok (.iconst 1, 1) := by decide +kernel
theorem dX9_advance_116 : decode cX9_advance 116 = .ok (.putfield 52, 3) := by decide +kernel
theorem dX9_advance_119 : decode cX9_advance 119 = .ok (.aload_n 0, 1) := by decide +kernel
theorem dX9_advance_120 : decode cX9_advance 120 = .ok (.iconst 1, 1) := by decide +kernel
theorem dX9_advance_121 : decode cX9_advance 121 = .ok (.putfield 55, 3) := by decide +kernel
theorem dX9_advance_124 : decode cX9_advance 124 = .ok (.iinc 1 1, 3) := by decide +kernel
theorem dX9_advance_127 : decode cX9_advance 127 = .ok (.goto (-125), 3) := by decide +kernel
theorem dX9_advance_130 : decode cX9_advance 130 = .ok (.iconst 0, 1) := by decide +kernel
theorem dX9_advance_131 : decode cX9_advance 131 = .ok (.ireturn, 1) := by decide +kernel
theorem dX9_isCover_0 : decode cX9_isCover 0 = .ok (.aload_n 0, 1) := by decide +kernel
theorem dX9_isCover_1 : decode cX9_isCover 1 = .ok (.getfield 58, 3) := by decide +kernel
theorem dX9_isCover_4 : decode cX9_isCover 4 = .ok (.getfield 108, 3) := by decide +kernel
theorem dX9_isCover_7 : decode cX9_isCover 7 = .ok (.ifCond .eq 14, 3) := by decide +kernel
theorem dX9_isCover_10 : decode cX9_isCover 10 = .ok (.aload_n 0, 1) := by decide +kernel
theorem dX9_isCover_11 : decode cX9_isCover 11 = .ok (.getfield 35, 3) := by decide +kernel
theorem dX9_isCover_14 : decode cX9_isCover 14 = .ok (.aload_n 0, 1) := by decide +kernel
theorem dX9_isCover_15 : decode cX9_isCover 15 = .ok (.getfield 39, 3) := by decide +kernel
theorem dX9_isCover_18 : decode cX9_isCover 18 = .ok (.if_icmp .ne 7, 3) := by decide +kernel
theorem dX9_isCover_21 : decode cX9_isCover 21 = .ok (.iconst 1, 1) := by decide +kernel
theorem dX9_isCover_22 : decode cX9_isCover 22 = .ok (.goto 4, 3) := by decide +kernel
theorem dX9_isCover_25 : decode cX9_isCover 25 = .ok (.iconst 0, 1) := by decide +kernel
theorem dX9_isCover_26 : decode cX9_isCover 26 = .ok (.ireturn, 1) := by decide +kernel
theorem dX9_stepOn_0 : decode cX9_stepOn 0 = .ok (.aload_n 0, 1) := by decide +kernel
theorem dX9_stepOn_1 : decode cX9_stepOn 1 = .ok (.dup, 1) := by decide +kernel
theorem dX9_stepOn_2 : decode cX9_stepOn 2 = .ok (.getfield 42, 3) := by decide +kernel
theorem dX9_stepOn_5 : decode cX9_stepOn 5 = .ok (.iconst 1, 1) := by decide +kernel
theorem dX9_stepOn_6 : decode cX9_stepOn 6 = .ok (.iadd, 1) := by decide +kernel
theorem dX9_stepOn_7 : decode cX9_stepOn 7 = .ok (.putfield 42, 3) := by decide +kernel
theorem dX9_stepOn_10 : decode cX9_stepOn 10 = .ok (.aload_n 0, 1) := by decide +kernel
theorem dX9_stepOn_11 : decode cX9_stepOn 11 = .ok (.iload_n 1, 1) := by decide +kernel
theorem dX9_stepOn_12 : decode cX9_stepOn 12 = .ok (.iconst 1, 1) := by decide +kernel
theorem dX9_stepOn_13 : decode cX9_stepOn 13 = .ok (.invokevirtual 111, 3) := by decide +kernel
theorem dX9_stepOn_16 : decode cX9_stepOn 16 = .ok (.aload_n 0, 1) := by decide +kernel
theorem dX9_stepOn_17 : decode cX9_stepOn 17 = .ok (.getfield 9, 3) := by decide +kernel
theorem dX9_stepOn_20 : decode cX9_stepOn 20 = .ok (.aload_n 0, 1) := by decide +kernel
theorem dX9_stepOn_21 : decode cX9_stepOn 21 = .ok (.getfield 35, 3) := by decide +kernel
theorem dX9_stepOn_24 : decode cX9_stepOn 24 = .ok (.iload_n 1, 1) := by decide +kernel
theorem dX9_stepOn_25 : decode cX9_stepOn 25 = .ok (.invokestatic 72, 3) := by decide +kernel
theorem dX9_stepOn_28 : decode cX9_stepOn 28 = .ok (.aload_n 0, 1) := by decide +kernel
theorem dX9_stepOn_29 : decode cX9_stepOn 29 = .ok (.dup, 1) := by decide +kernel
theorem dX9_stepOn_30 : decode cX9_stepOn 30 = .ok (.getfield 35, 3) := by decide +kernel
theorem dX9_stepOn_33 : decode cX9_stepOn 33 = .ok (.iconst 1, 1) := by decide +kernel
theorem dX9_stepOn_34 : decode cX9_stepOn 34 = .ok (.iadd, 1) := by decide +kernel
theorem dX9_stepOn_35 : decode cX9_stepOn 35 = .ok (.putfield 35, 3) := by decide +kernel
theorem dX9_stepOn_38 : decode cX9_stepOn 38 = .ok (.aload_n 0, 1) := by decide +kernel
theorem dX9_stepOn_39 : decode cX9_stepOn 39 = .ok (.iconst 1, 1) := by decide +kernel
theorem dX9_stepOn_40 : decode cX9_stepOn 40 = .ok (.putfield 48, 3) := by decide +kernel
theorem dX9_stepOn_43 : decode cX9_stepOn 43 = .ok (.aload_n 0, 1) := by decide +kernel
theorem dX9_stepOn_44 : decode cX9_stepOn 44 = .ok (.invokevirtual 85, 3) := by decide +kernel
theorem dX9_stepOn_47 : decode cX9_stepOn 47 = .ok (.return_, 1) := by decide +kernel
theorem dX9_stepBack_0 : decode cX9_stepBack 0 = .ok (.aload_n 0, 1) := by decide +kernel
theorem dX9_stepBack_1 : decode cX9_stepBack 1 = .ok (.getfield 35, 3) := by decide +kernel
theorem dX9_stepBack_4 : decode cX9_stepBack 4 = .ok (.ifCond .ne 11, 3) := by decide +kernel
theorem dX9_stepBack_7 : decode cX9_stepBack 7 = .ok (.aload_n 0, 1) := by decide +kernel
theorem dX9_stepBack_8 : decode cX9_stepBack 8 = .ok (.iconst 1, 1) := by decide +kernel
theorem dX9_stepBack_9 : decode cX9_stepBack 9 = .ok (.putfield 52, 3) := by decide +kernel
theorem dX9_stepBack_12 : decode cX9_stepBack 12 = .ok (.goto 29, 3) := by decide +kernel
theorem dX9_stepBack_15 : decode cX9_stepBack 15 = .ok (.aload_n 0, 1) := by decide +kernel
theorem dX9_stepBack_16 : decode cX9_stepBack 16 = .ok (.dup, 1) := by decide +kernel
theorem dX9_stepBack_17 : decode cX9_stepBack 17 = .ok (.getfield 35, 3) := by decide +kernel
theorem dX9_stepBack_20 : decode cX9_stepBack 20 = .ok (.iconst 1, 1) := by decide +kernel
theorem dX9_stepBack_21 : decode cX9_stepBack 21 = .ok (.isub, 1) := by decide +kernel
theorem dX9_stepBack_22 : decode cX9_stepBack 22 = .ok (.putfield 35, 3) := by decide +kernel
theorem dX9_stepBack_25 : decode cX9_stepBack 25 = .ok (.aload_n 0, 1) := by decide +kernel
theorem dX9_stepBack_26 : decode cX9_stepBack 26 = .ok (.aload_n 0, 1) := by decide +kernel
theorem dX9_stepBack_27 : decode cX9_stepBack 27 = .ok (.getfield 9, 3) := by decide +kernel
theorem dX9_stepBack_30 : decode cX9_stepBack 30 = .ok (.aload_n 0, 1) := by decide +kernel
theorem dX9_stepBack_31 : decode cX9_stepBack 31 = .ok (.getfield 35, 3) := by decide +kernel
theorem dX9_stepBack_34 : decode cX9_stepBack 34 = .ok (.invokestatic 115, 3) := by decide +kernel
theorem dX9_stepBack_37 : decode cX9_stepBack 37 = .ok (.iconst (-1), 1) := by decide +kernel
theorem dX9_stepBack_38 : decode cX9_stepBack 38 = .ok (.invokevirtual 111, 3) := by decide +kernel
theorem dX9_stepBack_41 : decode cX9_stepBack 41 = .ok (.return_, 1) := by decide +kernel
theorem dX9_openLevel_0 : decode cX9_openLevel 0 = .ok (.aload_n 0, 1) := by decide +kernel
theorem dX9_openLevel_1 : decode cX9_openLevel 1 = .ok (.getfield 62, 3) := by decide +kernel
theorem dX9_openLevel_4 : decode cX9_openLevel 4 = .ok (.getfield 89, 3) := by decide +kernel
theorem dX9_openLevel_7 : decode cX9_openLevel 7 = .ok (.aload_n 0, 1) := by decide +kernel
theorem dX9_openLevel_8 : decode cX9_openLevel 8 = .ok (.getfield 25, 3) := by decide +kernel
theorem dX9_openLevel_11 : decode cX9_openLevel 11 = .ok (.ldc2_w 119, 3) := by decide +kernel
theorem dX9_openLevel_14 : decode cX9_openLevel 14 = .ok (.lxor, 1) := by decide +kernel
theorem dX9_openLevel_15 : decode cX9_openLevel 15 = .ok (.land, 1) := by decide +kernel
theorem dX9_openLevel_16 : decode cX9_openLevel 16 = .ok (.invokestatic 121, 3) := by decide +kernel
theorem dX9_openLevel_19 : decode cX9_openLevel 19 = .ok (.istore_n 1, 1) := by decide +kernel
theorem dX9_openLevel_20 : decode cX9_openLevel 20 = .ok (.aload_n 0, 1) := by decide +kernel
theorem dX9_openLevel_21 : decode cX9_openLevel 21 = .ok (.getfield 15, 3) := by decide +kernel
theorem dX9_openLevel_24 : decode cX9_openLevel 24 = .ok (.aload_n 0, 1) := by decide +kernel
theorem dX9_openLevel_25 : decode cX9_openLevel 25 = .ok (.getfield 35, 3) := by decide +kernel
theorem dX9_openLevel_28 : decode cX9_openLevel 28 = .ok (.aload_n 0, 1) := by decide +kernel
theorem dX9_openLevel_29 : decode cX9_openLevel 29 = .ok (.getfield 62, 3) := by decide +kernel
theorem dX9_openLevel_32 : decode cX9_openLevel 32 = .ok (.getfield 125, 3) := by decide +kernel
theorem dX9_openLevel_35 : decode cX9_openLevel 35 = .ok (.iload_n 1, 1) := by decide +kernel
theorem dX9_openLevel_36 : decode cX9_openLevel 36 = .ok (.invokestatic 115, 3) := by decide +kernel
theorem dX9_openLevel_39 : decode cX9_openLevel 39 = .ok (.invokestatic 72, 3) := by decide +kernel
theorem dX9_openLevel_42 : decode cX9_openLevel 42 = .ok (.return_, 1) := by decide +kernel
theorem dX9_nextThatFits_0 : decode cX9_nextThatFits 0 = .ok (.aload_n 0, 1) := by decide +kernel
theorem dX9_nextThatFits_1 : decode cX9_nextThatFits 1 = .ok (.getfield 62, 3) := by decide +kernel
theorem dX9_nextThatFits_4 : decode cX9_nextThatFits 4 = .ok (.getfield 89, 3) := by decide +kernel
theorem dX9_nextThatFits_7 : decode cX9_nextThatFits 7 = .ok (.aload_n 0, 1) := by decide +kernel
theorem dX9_nextThatFits_8 : decode cX9_nextThatFits 8 = .ok (.getfield 25, 3) := by decide +kernel
theorem dX9_nextThatFits_11 : decode cX9_nextThatFits 11 = .ok (.ldc2_w 119, 3) := by decide +kernel
theorem dX9_nextThatFits_14 : decode cX9_nextThatFits 14 = .ok (.lxor, 1) := by decide +kernel
theorem dX9_nextThatFits_15 : decode cX9_nextThatFits 15 = .ok (.land, 1) := by decide +kernel
theorem dX9_nextThatFits_16 : decode cX9_nextThatFits 16 = .ok (.invokestatic 121, 3) := by decide +kernel
theorem dX9_nextThatFits_19 : decode cX9_nextThatFits 19 = .ok (.istore_n 1, 1) := by decide +kernel
theorem dX9_nextThatFits_20 : decode cX9_nextThatFits 20 = .ok (.aload_n 0, 1) := by decide +kernel
theorem dX9_nextThatFits_21 : decode cX9_nextThatFits 21 = .ok (.getfield 62, 3) := by decide +kernel
theorem dX9_nextThatFits_24 : decode cX9_nextThatFits 24 = .ok (.getfield 125, 3) := by decide +kernel
theorem dX9_nextThatFits_27 : decode cX9_nextThatFits 27 = .ok (.iload_n 1, 1) := by decide +kernel
theorem dX9_nextThatFits_28 : decode cX9_nextThatFits 28 = .ok (.iconst 1, 1) := by decide +kernel
theorem dX9_nextThatFits_29 : decode cX9_nextThatFits 29 = .ok (.iadd, 1) := by decide +kernel
theorem dX9_nextThatFits_30 : decode cX9_nextThatFits 30 = .ok (.invokestatic 115, 3) := by decide +kernel
theorem dX9_nextThatFits_33 : decode cX9_nextThatFits 33 = .ok (.istore_n 2, 1) := by decide +kernel
theorem dX9_nextThatFits_34 : decode cX9_nextThatFits 34 = .ok (.aload_n 0, 1) := by decide +kernel
theorem dX9_nextThatFits_35 : decode cX9_nextThatFits 35 = .ok (.getfield 15, 3) := by decide +kernel
theorem dX9_nextThatFits_38 : decode cX9_nextThatFits 38 = .ok (.aload_n 0, 1) := by decide +kernel
theorem dX9_nextThatFits_39 : decode cX9_nextThatFits 39 = .ok (.getfield 35, 3) := by decide +kernel
theorem dX9_nextThatFits_42 : decode cX9_nextThatFits 42 = .ok (.invokestatic 115, 3) := by decide +kernel
theorem dX9_nextThatFits_45 : decode cX9_nextThatFits 45 = .ok (.istore_n 3, 1) := by decide +kernel
theorem dX9_nextThatFits_46 : decode cX9_nextThatFits 46 = .ok (.iload_n 3, 1) := by decide +kernel
theorem dX9_nextThatFits_47 : decode cX9_nextThatFits 47 = .ok (.iload_n 2, 1) := by decide +kernel
theorem dX9_nextThatFits_48 : decode cX9_nextThatFits 48 = .ok (.if_icmp .ge 80, 3) := by decide +kernel
theorem dX9_nextThatFits_51 : decode cX9_nextThatFits 51 = .ok (.aload_n 0, 1) := by decide +kernel
theorem dX9_nextThatFits_52 : decode cX9_nextThatFits 52 = .ok (.getfield 62, 3) := by decide +kernel
theorem dX9_nextThatFits_55 : decode cX9_nextThatFits 55 = .ok (.getfield 128, 3) := by decide +kernel
theorem dX9_nextThatFits_58 : decode cX9_nextThatFits 58 = .ok (.iload_n 3, 1) := by decide +kernel
theorem dX9_nextThatFits_59 : decode cX9_nextThatFits 59 = .ok (.invokestatic 115, 3) := by decide +kernel
theorem dX9_nextThatFits_62 : decode cX9_nextThatFits 62 = .ok (.istore 4, 2) := by decide +kernel
theorem dX9_nextThatFits_64 : decode cX9_nextThatFits 64 = .ok (.aload_n 0, 1) := by decide +kernel
theorem dX9_nextThatFits_65 : decode cX9_nextThatFits 65 = .ok (.getfield 62, 3) := by decide +kernel
theorem dX9_nextThatFits_68 : decode cX9_nextThatFits 68 = .ok (.iload 4, 2) := by decide +kernel
theorem dX9_nextThatFits_70 : decode cX9_nextThatFits 70 = .ok (.invokevirtual 131, 3) := by decide +kernel
theorem dX9_nextThatFits_73 : decode cX9_nextThatFits 73 = .ok (.lstore 5, 2) := by decide +kernel
theorem dX9_nextThatFits_75 : decode cX9_nextThatFits 75 = .ok (.lload 5, 2) := by decide +kernel
theorem dX9_nextThatFits_77 : decode cX9_nextThatFits 77 = .ok (.aload_n 0, 1) := by decide +kernel
theorem dX9_nextThatFits_78 : decode cX9_nextThatFits 78 = .ok (.getfield 25, 3) := by decide +kernel
theorem dX9_nextThatFits_81 : decode cX9_nextThatFits 81 = .ok (.land, 1) := by decide +kernel
theorem dX9_nextThatFits_82 : decode cX9_nextThatFits 82 = .ok (.lconst 0, 1) := by decide +kernel
theorem dX9_nextThatFits_83 : decode cX9_nextThatFits 83 = .ok (.lcmp, 1) := by decide +kernel
theorem dX9_nextThatFits_84 : decode cX9_nextThatFits 84 = .ok (.ifCond .ne 38, 3) := by decide +kernel
theorem dX9_nextThatFits_87 : decode cX9_nextThatFits 87 = .ok (.aload_n 0, 1) := by decide +kernel
theorem dX9_nextThatFits_88 : decode cX9_nextThatFits 88 = .ok (.aload_n 0, 1) := by decide +kernel
theorem dX9_nextThatFits_89 : decode cX9_nextThatFits 89 = .ok (.getfield 62, 3) := by decide +kernel
theorem dX9_nextThatFits_92 : decode cX9_nextThatFits 92 = .ok (.iload 4, 2) := by decide +kernel
theorem dX9_nextThatFits_94 : decode cX9_nextThatFits 94 = .ok (.invokevirtual 135, 3) := by decide +kernel
theorem dX9_nextThatFits_97 : decode cX9_nextThatFits 97 = .ok (.lload 5, 2) := by decide +kernel
theorem dX9_nextThatFits_99 : decode cX9_nextThatFits 99 = .ok (.invokevirtual 138, 3) := by decide +kernel
theorem dX9_nextThatFits_102 : decode cX9_nextThatFits 102 = .ok (.ifCond .eq 20, 3) := by decide +kernel
theorem dX9_nextThatFits_105 : decode cX9_nextThatFits 105 = .ok (.aload_n 0, 1) := by decide +kernel
theorem dX9_nextThatFits_106 : decode cX9_nextThatFits 106 = .ok (.getfield 15, 3) := by decide +kernel
theorem dX9_nextThatFits_109 : decode cX9_nextThatFits 109 = .ok (.aload_n 0, 1) := by decide +kernel
theorem dX9_nextThatFits_110 : decode cX9_nextThatFits 110 = .ok (.getfield 35, 3) := by decide +kernel
theorem dX9_nextThatFits_113 : decode cX9_nextThatFits 113 = .ok (.iload_n 3, 1) := by decide +kernel
theorem dX9_nextThatFits_114 : decode cX9_nextThatFits 114 = .ok (.iconst 1, 1) := by decide +kernel
theorem dX9_nextThatFits_115 : decode cX9_nextThatFits 115 = .ok (.iadd, 1) := by decide +kernel
theorem dX9_nextThatFits_116 : decode cX9_nextThatFits 116 = .ok (.invokestatic 72, 3) := by decide +kernel
theorem dX9_nextThatFits_119 : decode cX9_nextThatFits 119 = .ok (.iload 4, 2) := by decide +kernel
theorem dX9_nextThatFits_121 : decode cX9_nextThatFits 121 = .ok (.ireturn, 1) := by decide +kernel
theorem dX9_nextThatFits_122 : decode cX9_nextThatFits 122 = .ok (.iinc 3 1, 3) := by decide +kernel
theorem dX9_nextThatFits_125 : decode cX9_nextThatFits 125 = .ok (.goto (-79), 3) := by decide +kernel
theorem dX9_nextThatFits_128 : decode cX9_nextThatFits 128 = .ok (.iconst (-1), 1) := by decide +kernel
theorem dX9_nextThatFits_129 : decode cX9_nextThatFits 129 = .ok (.ireturn, 1) := by decide +kernel
theorem dX9_isAllowed_0 : decode cX9_isAllowed 0 = .ok (.aload_n 0, 1) := by decide +kernel
theorem dX9_isAllowed_1 : decode cX9_isAllowed 1 = .ok (.getfield 18, 3) := by decide +kernel
theorem dX9_isAllowed_4 : decode cX9_isAllowed 4 = .ok (.iload_n 1, 1) := by decide +kernel
theorem dX9_isAllowed_5 : decode cX9_isAllowed 5 = .ok (.invokestatic 115, 3) := by decide +kernel
theorem dX9_isAllowed_8 : decode cX9_isAllowed 8 = .ok (.ifCond .ne 5, 3) := by decide +kernel
theorem dX9_isAllowed_11 : decode cX9_isAllowed 11 = .ok (.iconst 0, 1) := by decide +kernel
theorem dX9_isAllowed_12 : decode cX9_isAllowed 12 = .ok (.ireturn, 1) := by decide +kernel
theorem dX9_isAllowed_13 : decode cX9_isAllowed 13 = .ok (.aload_n 0, 1) := by decide +kernel
theorem dX9_isAllowed_14 : decode cX9_isAllowed 14 = .ok (.getfield 58, 3) := by decide +kernel
theorem dX9_isAllowed_17 : decode cX9_isAllowed 17 = .ok (.iload_n 1, 1) := by decide +kernel
theorem dX9_isAllowed_18 : decode cX9_isAllowed 18 = .ok (.invokevirtual 142, 3) := by decide +kernel
theorem dX9_isAllowed_21 : decode cX9_isAllowed 21 = .ok (.istore 4, 2) := by decide +kernel
theorem dX9_isAllowed_23 : decode cX9_isAllowed 23 = .ok (.aload_n 0, 1) := by decide +kernel
theorem dX9_isAllowed_24 : decode cX9_isAllowed 24 = .ok (.getfield 58, 3) := by decide +kernel
theorem dX9_isAllowed_27 : decode cX9_isAllowed 27 = .ok (.getfield 145, 3) := by decide +kernel
theorem dX9_isAllowed_30 : decode cX9_isAllowed 30 = .ok (.ifCond .eq 32, 3) := by decide +kernel
theorem dX9_isAllowed_33 : decode cX9_isAllowed 33 = .ok (.iload 4, 2) := by decide +kernel
theorem dX9_isAllowed_35 : decode cX9_isAllowed 35 = .ok (.ifCond .le 27, 3) := by decide +kernel
theorem dX9_isAllowed_38 : decode cX9_isAllowed 38 = .ok (.iload 4, 2) := by decide +kernel
theorem dX9_isAllowed_40 : decode cX9_isAllowed 40 = .ok (.iconst 4, 1) := by decide +kernel
theorem dX9_isAllowed_41 : decode cX9_isAllowed 41 = .ok (.if_icmp .ge 21, 3) := by decide +kernel
theorem dX9_isAllowed_44 : decode cX9_isAllowed 44 = .ok (.aload_n 0, 1) := by decide +kernel
theorem dX9_isAllowed_45 : decode cX9_isAllowed 45 = .ok (.lload_n 2, 1) := by decide +kernel
theorem dX9_isAllowed_46 : decode cX9_isAllowed 46 = .ok (.invokevirtual 148, 3) := by decide +kernel
theorem dX9_isAllowed_49 : decode cX9_isAllowed 49 = .ok (.aload_n 0, 1) := by decide +kernel
theorem dX9_isAllowed_50 : decode cX9_isAllowed 50 = .ok (.getfield 21, 3) := by decide +kernel
theorem dX9_isAllowed_53 : decode cX9_isAllowed 53 = .ok (.iload 4, 2) := by decide +kernel
theorem dX9_isAllowed_55 : decode cX9_isAllowed 55 = .ok (.laload, 1) := by decide +kernel
theorem dX9_isAllowed_56 : decode cX9_isAllowed 56 = .ok (.land, 1) := by decide +kernel
theorem dX9_isAllowed_57 : decode cX9_isAllowed 57 = .ok (.lconst 0, 1) := by decide +kernel
theorem dX9_isAllowed_58 : decode cX9_isAllowed 58 = .ok (.lcmp, 1) := by decide +kernel
theorem dX9_isAllowed_59 : decode cX9_isAllowed 59 = .ok (.ifCond .ne 7, 3) := by decide +kernel
theorem dX9_isAllowed_62 : decode cX9_isAllowed 62 = .ok (.iconst 1, 1) := by decide +kernel
theorem dX9_isAllowed_63 : decode cX9_isAllowed 63 = .ok (.goto 4, 3) := by decide +kernel
theorem dX9_isAllowed_66 : decode cX9_isAllowed 66 = .ok (.iconst 0, 1) := by decide +kernel
theorem dX9_isAllowed_67 : decode cX9_isAllowed 67 = .ok (.ireturn, 1) := by decide +kernel
theorem dX9_around_0 : decode cX9_around 0 = .ok (.lload_n 1, 1) := by decide +kernel
theorem dX9_around_1 : decode cX9_around 1 = .ok (.aload_n 0, 1) := by decide +kernel
theorem dX9_around_2 : decode cX9_around 2 = .ok (.getfield 32, 3) := by decide +kernel
theorem dX9_around_5 : decode cX9_around 5 = .ok (.ldc2_w 119, 3) := by decide +kernel
theorem dX9_around_8 : decode cX9_around 8 = .ok (.lxor, 1) := by decide +kernel
theorem dX9_around_9 : decode cX9_around 9 = .ok (.land, 1) := by decide +kernel
theorem dX9_around_10 : decode cX9_around 10 = .ok (.iconst 1, 1) := by decide +kernel
theorem dX9_around_11 : decode cX9_around 11 = .ok (.lshl, 1) := by decide +kernel
theorem dX9_around_12 : decode cX9_around 12 = .ok (.lstore_n 3, 1) := by decide +kernel
theorem dX9_around_13 : decode cX9_around 13 = .ok (.lload_n 1, 1) := by decide +kernel
theorem dX9_around_14 : decode cX9_around 14 = .ok (.aload_n 0, 1) := by decide +kernel
theorem dX9_around_15 : decode cX9_around 15 = .ok (.getfield 29, 3) := by decide +kernel
theorem dX9_around_18 : decode cX9_around 18 = .ok (.ldc2_w 119, 3) := by decide +kernel
theorem dX9_around_21 : decode cX9_around 21 = .ok (.lxor, 1) := by decide +kernel
theorem dX9_around_22 : decode cX9_around 22 = .ok (.land, 1) := by decide +kernel
theorem dX9_around_23 : decode cX9_around 23 = .ok (.iconst 1, 1) := by decide +kernel
theorem dX9_around_24 : decode cX9_around 24 = .ok (.lushr, 1) := by decide +kernel
theorem dX9_around_25 : decode cX9_around 25 = .ok (.lstore 5, 2) := by decide +kernel
theorem dX9_around_27 : decode cX9_around 27 = .ok (.lload_n 3, 1) := by decide +kernel
theorem dX9_around_28 : decode cX9_around 28 = .ok (.lload 5, 2) := by decide +kernel
theorem dX9_around_30 : decode cX9_around 30 = .ok (.lor, 1) := by decide +kernel
theorem dX9_around_31 : decode cX9_around 31 = .ok (.lload_n 1, 1) := by decide +kernel
theorem dX9_around_32 : decode cX9_around 32 = .ok (.aload_n 0, 1) := by decide +kernel
theorem dX9_around_33 : decode cX9_around 33 = .ok (.getfield 58, 3) := by decide +kernel
theorem dX9_around_36 : decode cX9_around 36 = .ok (.getfield 79, 3) := by decide +kernel
theorem dX9_around_39 : decode cX9_around 39 = .ok (.lshl, 1) := by decide +kernel
theorem dX9_around_40 : decode cX9_around 40 = .ok (.lor, 1) := by decide +kernel
theorem dX9_around_41 : decode cX9_around 41 = .ok (.lload_n 1, 1) := by decide +kernel
theorem dX9_around_42 : decode cX9_around 42 = .ok (.aload_n 0, 1) := by decide +kernel
theorem dX9_around_43 : decode cX9_around 43 = .ok (.getfield 58, 3) := by decide +kernel
theorem dX9_around_46 : decode cX9_around 46 = .ok (.getfield 79, 3) := by decide +kernel
theorem dX9_around_49 : decode cX9_around 49 = .ok (.lushr, 1) := by decide +kernel
theorem dX9_around_50 : decode cX9_around 50 = .ok (.lor, 1) := by decide +kernel
theorem dX9_around_51 : decode cX9_around 51 = .ok (.lreturn, 1) := by decide +kernel
theorem dX9_change_0 : decode cX9_change 0 = .ok (.aload_n 0, 1) := by decide +kernel
theorem dX9_change_1 : decode cX9_change 1 = .ok (.getfield 62, 3) := by decide +kernel
theorem dX9_change_4 : decode cX9_change 4 = .ok (.iload_n 1, 1) := by decide +kernel
theorem dX9_change_5 : decode cX9_change 5 = .ok (.invokevirtual 131, 3) := by decide +kernel
theorem dX9_change_8 : decode cX9_change 8 = .ok (.lstore_n 3, 1) := by decide +kernel
theorem dX9_change_9 : decode cX9_change 9 = .ok (.aload_n 0, 1) := by decide +kernel
theorem dX9_change_10 : decode cX9_change 10 = .ok (.getfield 62, 3) := by decide +kernel
theorem dX9_change_13 : decode cX9_change 13 = .ok (.iload_n 1, 1) := by decide +kernel
theorem dX9_change_14 : decode cX9_change 14 = .ok (.invokevirtual 135, 3) := by decide +kernel
theorem dX9_change_17 : decode cX9_change 17 = .ok (.istore 5, 2) := by decide +kernel
theorem dX9_change_19 : decode cX9_change 19 = .ok (.aload_n 0, 1) := by decide +kernel
theorem dX9_change_20 : decode cX9_change 20 = .ok (.getfield 58, 3) := by decide +kernel
theorem dX9_change_23 : decode cX9_change 23 = .ok (.iload 5, 2) := by decide +kernel
theorem dX9_change_25 : decode cX9_change 25 = .ok (.invokevirtual 142, 3) := by decide +kernel
theorem dX9_change_28 : decode cX9_change 28 = .ok (.istore 6, 2) := by decide +kernel
theorem dX9_change_30 : decode cX9_change 30 = .ok (.aload_n 0, 1) := by decide +kernel
theorem dX9_change_31 : decode cX9_change 31 = .ok (.dup, 1) := by decide +kernel
theorem dX9_change_32 : decode cX9_change 32 = .ok (.getfield 25, 3) := by decide +kernel
theorem dX9_change_35 : decode cX9_change 35 = .ok (.lload_n 3, 1) := by decide +kernel
theorem dX9_change_36 : decode cX9_change 36 = .ok (.lxor, 1) := by decide +kernel
theorem dX9_change_37 : decode cX9_change 37 = .ok (.putfield 25, 3) := by decide +kernel
theorem dX9_change_40 : decode cX9_change 40 = .ok (.aload_n 0, 1) := by decide +kernel
theorem dX9_change_41 : decode cX9_change 41 = .ok (.getfield 18, 3) := by decide +kernel
theorem dX9_change_44 : decode cX9_change 44 = .ok (.iload 5, 2) := by decide +kernel
theorem dX9_change_46 : decode cX9_change 46 = .ok (.aload_n 0, 1) := by decide +kernel
theorem dX9_change_47 : decode cX9_change 47 = .ok (.getfield 18, 3) := by decide +kernel
theorem dX9_change_50 : decode cX9_change 50 = .ok (.iload 5, 2) := by decide +kernel
theorem dX9_change_52 : decode cX9_change 52 = .ok (.invokestatic 115, 3) := by decide +kernel
theorem dX9_change_55 : decode cX9_change 55 = .ok (.iload_n 2, 1) := by decide +kernel
theorem dX9_change_56 : decode cX9_change 56 = .ok (.isub, 1) := by decide +kernel
theorem dX9_change_57 : decode cX9_change 57 = .ok (.invokestatic 72, 3) := by decide +kernel
theorem dX9_change_60 : decode cX9_change 60 = .ok (.iload 6, 2) := by decide +kernel
theorem dX9_change_62 : decode cX9_change 62 = .ok (.ifCond .lt 20, 3) := by decide +kernel
theorem dX9_change_65 : decode cX9_change 65 = .ok (.iload 6, 2) := by decide +kernel
theorem dX9_change_67 : decode cX9_change 67 = .ok (.iconst 4, 1) := by decide +kernel
theorem dX9_change_68 : decode cX9_change 68 = .ok (.if_icmp .ge 14, 3) := by decide +kernel
theorem dX9_change_71 : decode cX9_change 71 = .ok (.aload_n 0, 1) := by decide +kernel
theorem dX9_change_72 : decode cX9_change 72 = .ok (.getfield 21, 3) := by decide +kernel
theorem dX9_change_75 : decode cX9_change 75 = .ok (.iload 6, 2) := by decide +kernel
theorem dX9_change_77 : decode cX9_change 77 = .ok (.dup2, 1) := by decide +kernel
theorem dX9_change_78 : decode cX9_change 78 = .ok (.laload, 1) := by decide +kernel
theorem dX9_change_79 : decode cX9_change 79 = .ok (.lload_n 3, 1) := by decide +kernel
theorem dX9_change_80 : decode cX9_change 80 = .ok (.lxor, 1) := by decide +kernel
theorem dX9_change_81 : decode cX9_change 81 = .ok (.lastore, 1) := by decide +kernel
theorem dX9_change_82 : decode cX9_change 82 = .ok (.return_, 1) := by decide +kernel
theorem dX9_writeTo_0 : decode cX9_writeTo 0 = .ok (.iconst 0, 1) := by decide +kernel
theorem dX9_writeTo_1 : decode cX9_writeTo 1 = .ok (.istore_n 3, 1) := by decide +kernel
theorem dX9_writeTo_2 : decode cX9_writeTo 2 = .ok (.iload_n 3, 1) := by decide +kernel
theorem dX9_writeTo_3 : decode cX9_writeTo 3 = .ok (.bipush 36, 2) := by decide +kernel
theorem dX9_writeTo_5 : decode cX9_writeTo 5 = .ok (.if_icmp .ge 17, 3) := by decide +kernel
theorem dX9_writeTo_8 : decode cX9_writeTo 8 = .ok (.aload_n 1, 1) := by decide +kernel
theorem dX9_writeTo_9 : decode cX9_writeTo 9 = .ok (.iload_n 2, 1) := by decide +kernel
theorem dX9_writeTo_10 : decode cX9_writeTo 10 = .ok (.iload_n 3, 1) := by decide +kernel
theorem dX9_writeTo_11 : decode cX9_writeTo 11 = .ok (.iadd, 1) := by decide +kernel
theorem dX9_writeTo_12 : decode cX9_writeTo 12 = .ok (.iconst (-1), 1) := by decide +kernel
theorem dX9_writeTo_13 : decode cX9_writeTo 13 = .ok (.invokestatic 72, 3) := by decide +kernel
theorem dX9_writeTo_16 : decode cX9_writeTo 16 = .ok (.iinc 3 1, 3) := by decide +kernel
theorem dX9_writeTo_19 : decode cX9_writeTo 19 = .ok (.goto (-17), 3) := by decide +kernel
theorem dX9_writeTo_22 : decode cX9_writeTo 22 = .ok (.iconst 0, 1) := by decide +kernel
theorem dX9_writeTo_23 : decode cX9_writeTo 23 = .ok (.istore_n 3, 1) := by decide +kernel
theorem dX9_writeTo_24 : decode cX9_writeTo 24 = .ok (.iload_n 3, 1) := by decide +kernel
theorem dX9_writeTo_25 : decode cX9_writeTo 25 = .ok (.aload_n 0, 1) := by decide +kernel
theorem dX9_writeTo_26 : decode cX9_writeTo 26 = .ok (.getfield 35, 3) := by decide +kernel
theorem dX9_writeTo_29 : decode cX9_writeTo 29 = .ok (.if_icmp .ge 70, 3) := by decide +kernel
theorem dX9_writeTo_32 : decode cX9_writeTo 32 = .ok (.aload_n 0, 1) := by decide +kernel
theorem dX9_writeTo_33 : decode cX9_writeTo 33 = .ok (.getfield 9, 3) := by decide +kernel
theorem dX9_writeTo_36 : decode cX9_writeTo 36 = .ok (.iload_n 3, 1) := by decide +kernel
theorem dX9_writeTo_37 : decode cX9_writeTo 37 = .ok (.invokestatic 115, 3) := by decide +kernel
theorem dX9_writeTo_40 : decode cX9_writeTo 40 = .ok (.istore 4, 2) := by decide +kernel
theorem dX9_writeTo_42 : decode cX9_writeTo 42 = .ok (.aload_n 0, 1) := by decide +kernel
theorem dX9_writeTo_43 : decode cX9_writeTo 43 = .ok (.getfield 62, 3) := by decide +kernel
theorem dX9_writeTo_46 : decode cX9_writeTo 46 = .ok (.iload 4, 2) := by decide +kernel
theorem dX9_writeTo_48 : decode cX9_writeTo 48 = .ok (.invokevirtual 131, 3) := by decide +kernel
theorem dX9_writeTo_51 : decode cX9_writeTo 51 = .ok (.lstore 5, 2) := by decide +kernel
theorem dX9_writeTo_53 : decode cX9_writeTo 53 = .ok (.lload 5, 2) := by decide +kernel
theorem dX9_writeTo_55 : decode cX9_writeTo 55 = .ok (.invokestatic 121, 3) := by decide +kernel
theorem dX9_writeTo_58 : decode cX9_writeTo 58 = .ok (.istore 7, 2) := by decide +kernel
theorem dX9_writeTo_60 : decode cX9_writeTo 60 = .ok (.iload 7, 2) := by decide +kernel
theorem dX9_writeTo_62 : decode cX9_writeTo 62 = .ok (.bipush 36, 2) := by decide +kernel
theorem dX9_writeTo_64 : decode cX9_writeTo 64 = .ok (.if_icmp .ge 29, 3) := by decide +kernel
theorem dX9_writeTo_67 : decode cX9_writeTo 67 = .ok (.lload 5, 2) := by decide +kernel
theorem dX9_writeTo_69 : decode cX9_writeTo 69 = .ok (.iload 7, 2) := by decide +kernel
theorem dX9_writeTo_71 : decode cX9_writeTo 71 = .ok (.invokestatic 152, 3) := by decide +kernel
theorem dX9_writeTo_74 : decode cX9_writeTo 74 = .ok (.ifCond .eq 13, 3) := by decide +kernel
theorem dX9_writeTo_77 : decode cX9_writeTo 77 = .ok (.aload_n 1, 1) := by decide +kernel
theorem dX9_writeTo_78 : decode cX9_writeTo 78 = .ok (.iload_n 2, 1) := by decide +kernel
theorem dX9_writeTo_79 : decode cX9_writeTo 79 = .ok (.iload 7, 2) := by decide +kernel
theorem dX9_writeTo_81 : decode cX9_writeTo 81 = .ok (.iadd, 1) := by decide +kernel
theorem dX9_writeTo_82 : decode cX9_writeTo 82 = .ok (.iload 4, 2) := by decide +kernel
theorem dX9_writeTo_84 : decode cX9_writeTo 84 = .ok (.invokestatic 72, 3) := by decide +kernel
theorem dX9_writeTo_87 : decode cX9_writeTo 87 = .ok (.iinc 7 1, 3) := by decide +kernel
theorem dX9_writeTo_90 : decode cX9_writeTo 90 = .ok (.goto (-30), 3) := by decide +kernel
theorem dX9_writeTo_93 : decode cX9_writeTo 93 = .ok (.iinc 3 1, 3) := by decide +kernel
theorem dX9_writeTo_96 : decode cX9_writeTo 96 = .ok (.goto (-72), 3) := by decide +kernel
theorem dX9_writeTo_99 : decode cX9_writeTo 99 = .ok (.return_, 1) := by decide +kernel
theorem dX10_init_0 : decode cX10_init 0 = .ok (.aload_n 0, 1) := by decide +kernel
theorem dX10_init_1 : decode cX10_init 1 = .ok (.invokespecial 3, 3) := by decide +kernel
theorem dX10_init_4 : decode cX10_init 4 = .ok (.aload_n 0, 1) := by decide +kernel
theorem dX10_init_5 : decode cX10_init 5 = .ok (.bipush 36, 2) := by decide +kernel
theorem dX10_init_7 : decode cX10_init 7 = .ok (.newarray .int, 2) := by decide +kernel
theorem dX10_init_9 : decode cX10_init 9 = .ok (.putfield 9, 3) := by decide +kernel
theorem dX10_init_12 : decode cX10_init 12 = .ok (.aload_n 0, 1) := by decide +kernel
theorem dX10_init_13 : decode cX10_init 13 = .ok (.bipush 8, 2) := by decide +kernel
theorem dX10_init_15 : decode cX10_init 15 = .ok (.newarray .int, 2) := by decide +kernel
theorem dX10_init_17 : decode cX10_init 17 = .ok (.putfield 15, 3) := by decide +kernel
theorem dX10_init_20 : decode cX10_init 20 = .ok (.aload_n 0, 1) := by decide +kernel
theorem dX10_init_21 : decode cX10_init 21 = .ok (.iconst 2, 1) := by decide +kernel
theorem dX10_init_22 : decode cX10_init 22 = .ok (.putfield 18, 3) := by decide +kernel
theorem dX10_init_25 : decode cX10_init 25 = .ok (.return_, 1) := by decide +kernel
theorem dX10_excludeCover_0 : decode cX10_excludeCover 0 = .ok (.aload_n 0, 1) := by decide +kernel
theorem dX10_excludeCover_1 : decode cX10_excludeCover 1 = .ok (.iload 5, 2) := by decide +kernel
theorem dX10_excludeCover_3 : decode cX10_excludeCover 3 = .ok (.putfield 18, 3) := by decide +kernel
theorem dX10_excludeCover_6 : decode cX10_excludeCover 6 = .ok (.aload_n 0, 1) := by decide +kernel
theorem dX10_excludeCover_7 : decode cX10_excludeCover 7 = .ok (.aload_n 1, 1) := by decide +kernel
theorem dX10_excludeCover_8 : decode cX10_excludeCover 8 = .ok (.iload_n 3, 1) := by decide +kernel
theorem dX10_excludeCover_9 : decode cX10_excludeCover 9 = .ok (.iload 4, 2) := by decide +kernel
theorem dX10_excludeCover_11 : decode cX10_excludeCover 11 = .ok (.invokevirtual 22, 3) := by decide +kernel
theorem dX10_excludeCover_14 : decode cX10_excludeCover 14 = .ok (.aload_n 0, 1) := by decide +kernel
theorem dX10_excludeCover_15 : decode cX10_excludeCover 15 = .ok (.aload_n 2, 1) := by decide +kernel
theorem dX10_excludeCover_16 : decode cX10_excludeCover 16 = .ok (.invokevirtual 26, 3) := by decide +kernel
theorem dX10_excludeCover_19 : decode cX10_excludeCover 19 = .ok (.iconst 1, 1) := by decide +kernel
theorem dX10_excludeCover_20 : decode cX10_excludeCover 20 = .ok (.istore 6, 2) := by decide +kernel
theorem dX10_excludeCover_22 : decode cX10_excludeCover 22 = .ok (.iconst 0, 1) := by decide +kernel
theorem dX10_excludeCover_23 : decode cX10_excludeCover 23 = .ok (.istore 7, 2) := by decide +kernel
theorem dX10_excludeCover_25 : decode cX10_excludeCover 25 = .ok (.iload 7, 2) := by decide +kernel
theorem dX10_excludeCover_27 : decode cX10_excludeCover 27 = .ok (.aload_n 1, 1) := by decide +kernel
theorem dX10_excludeCover_28 : decode cX10_excludeCover 28 = .ok (.getfield 30, 3) := by decide +kernel
theorem dX10_excludeCover_31 : decode cX10_excludeCover 31 = .ok (.if_icmp .ge 63, 3) := by decide +kernel
theorem dX10_excludeCover_34 : decode cX10_excludeCover 34 = .ok (.aload_n 0, 1) := by decide +kernel
theorem dX10_excludeCover_35 : decode cX10_excludeCover 35 = .ok (.getfield 15, 3) := by decide +kernel
theorem dX10_excludeCover_38 : decode cX10_excludeCover 38 = .ok (.iload 7, 2) := by decide +kernel
theorem dX10_excludeCover_40 : decode cX10_excludeCover 40 = .ok (.invokestatic 35, 3) := by decide +kernel
theorem dX10_excludeCover_43 : decode cX10_excludeCover 43 = .ok (.aload_n 1, 1) := by decide +kernel
theorem dX10_excludeCover_44 : decode cX10_excludeCover 44 = .ok (.getfield 39, 3) := by decide +kernel
theorem dX10_excludeCover_47 : decode cX10_excludeCover 47 = .ok (.ifCond .ne 7, 3) := by decide +kernel
theorem dX10_excludeCover_50 : decode cX10_excludeCover 50 = .ok (.iconst 1, 1) := by decide +kernel
theorem dX10_excludeCover_51 : decode cX10_excludeCover 51 = .ok (.goto 4, 3) := by decide +kernel
theorem dX10_excludeCover_54 : decode cX10_excludeCover 54 = .ok (.iconst 0, 1) := by decide +kernel
theorem dX10_excludeCover_55 : decode cX10_excludeCover 55 = .ok (.ior, 1) := by decide +kernel
theorem dX10_excludeCover_56 : decode cX10_excludeCover 56 = .ok (.istore 8, 2) := by decide +kernel
theorem dX10_excludeCover_58 : decode cX10_excludeCover 58 = .ok (.iconst 0, 1) := by decide +kernel
theorem dX10_excludeCover_59 : decode cX10_excludeCover 59 = .ok (.istore 9, 2) := by decide +kernel
theorem dX10_excludeCover_61 : decode cX10_excludeCover 61 = .ok (.iload 9, 2) := by decide +kernel
theorem dX10_excludeCover_63 : decode cX10_excludeCover 63 = .ok (.aload_n 1, 1) := by decide +kernel
theorem dX10_excludeCover_64 : decode cX10_excludeCover 64 = .ok (.iload 7, 2) := by decide +kernel
theorem dX10_excludeCover_66 : decode cX10_excludeCover 66 = .ok (.invokevirtual 42, 3) := by decide +kernel
theorem dX10_excludeCover_69 : decode cX10_excludeCover 69 = .ok (.if_icmp .ge 19, 3) := by decide +kernel
theorem dX10_excludeCover_72 : decode cX10_excludeCover 72 = .ok (.aload_n 0, 1) := by decide +kernel
theorem dX10_excludeCover_73 : decode cX10_excludeCover 73 = .ok (.iload 6, 2) := by decide +kernel
theorem dX10_excludeCover_75 : decode cX10_excludeCover 75 = .ok (.iload 8, 2) := by decide +kernel
theorem dX10_excludeCover_77 : decode cX10_excludeCover 77 = .ok (.invokevirtual 46, 3) := by decide +kernel
theorem dX10_excludeCover_80 : decode cX10_excludeCover 80 = .ok (.istore 6, 2) := by decide +kernel
theorem dX10_excludeCover_82 : decode cX10_excludeCover 82 = .ok (.iinc 9 1, 3) := by decide +kernel
theorem dX10_excludeCover_85 : decode cX10_excludeCover 85 = .ok (.goto (-24), 3) := by decide +kernel
theorem dX10_excludeCover_88 : decode cX10_excludeCover 88 = .ok (.iinc 7 1, 3) := by decide +kernel
theorem dX10_excludeCover_91 : decode cX10_excludeCover 91 = .ok (.goto (-66), 3) := by decide +kernel
theorem dX10_excludeCover_94 : decode cX10_excludeCover 94 = .ok (.iload 6, 2) := by decide +kernel
theorem dX10_excludeCover_96 : decode cX10_excludeCover 96 = .ok (.aload_n 0, 1) := by decide +kernel
theorem dX10_excludeCover_97 : decode cX10_excludeCover 97 = .ok (.aload_n 2, 1) := by decide +kernel
theorem dX10_excludeCover_98 : decode cX10_excludeCover 98 = .ok (.getfield 50, 3) := by decide +kernel
theorem dX10_excludeCover_101 : decode cX10_excludeCover 101 = .ok (.invokevirtual 56, 3) := by decide +kernel
theorem dX10_excludeCover_104 : decode cX10_excludeCover 104 = .ok (.iushr, 1) := by decide +kernel
theorem dX10_excludeCover_105 : decode cX10_excludeCover 105 = .ok (.iconst 1, 1) := by decide +kernel
theorem dX10_excludeCover_106 : decode cX10_excludeCover 106 = .ok (.iand, 1) := by decide +kernel
theorem dX10_excludeCover_107 : decode cX10_excludeCover 107 = .ok (.ifCond .ne 7, 3) := by decide +kernel
theorem dX10_excludeCover_110 : decode cX10_excludeCover 110 = .ok (.iconst 1, 1) := by decide +kernel
theorem dX10_excludeCover_111 : decode cX10_excludeCover 111 = .ok (.goto 4, 3) := by decide +kernel
theorem dX10_excludeCover_114 : decode cX10_excludeCover 114 = .ok (.iconst 0, 1) := by decide +kernel
theorem dX10_excludeCover_115 : decode cX10_excludeCover 115 = .ok (.ireturn, 1) := by decide +kernel
theorem dX10_weighCells_0 : decode cX10_weighCells 0 = .ok (.iconst 0, 1) := by decide +kernel
theorem dX10_weighCells_1 : decode cX10_weighCells 1 = .ok (.istore 4, 2) := by decide +kernel
theorem dX10_weighCells_3 : decode cX10_weighCells 3 = .ok (.iload 4, 2) := by decide +kernel
theorem dX10_weighCells_5 : decode cX10_weighCells 5 = .ok (.aload_n 0, 1) := by decide +kernel
theorem dX10_weighCells_6 : decode cX10_weighCells 6 = .ok (.getfield 9, 3) := by decide +kernel
theorem dX10_weighCells_9 : decode cX10_weighCells 9 = .ok (.arraylength, 1) := by decide +kernel
theorem dX10_weighCells_10 : decode cX10_weighCells 10 = .ok (.if_icmp .ge 37, 3) := by decide +kernel
theorem dX10_weighCells_13 : decode cX10_weighCells 13 = .ok (.aload_n 0, 1) := by decide +kernel
theorem dX10_weighCells_14 : decode cX10_weighCells 14 = .ok (.getfield 9, 3) := by decide +kernel
theorem dX10_weighCells_17 : decode cX10_weighCells 17 = .ok (.iload 4, 2) := by decide +kernel
theorem dX10_weighCells_19 : decode cX10_weighCells 19 = .ok (.aload_n 0, 1) := by decide +kernel
theorem dX10_weighCells_20 : decode cX10_weighCells 20 = .ok (.iload_n 2, 1) := by decide +kernel
theorem dX10_weighCells_21 : decode cX10_weighCells 21 = .ok (.aload_n 1, 1) := by decide +kernel
theorem dX10_weighCells_22 : decode cX10_weighCells 22 = .ok (.iload 4, 2) := by decide +kernel
theorem dX10_weighCells_24 : decode cX10_weighCells 24 = .ok (.invokevirtual 60, 3) := by decide +kernel
theorem dX10_weighCells_27 : decode cX10_weighCells 27 = .ok (.imul, 1) := by decide +kernel
theorem dX10_weighCells_28 : decode cX10_weighCells 28 = .ok (.iload_n 3, 1) := by decide +kernel
theorem dX10_weighCells_29 : decode cX10_weighCells 29 = .ok (.aload_n 1, 1) := by decide +kernel
theorem dX10_weighCells_30 : decode cX10_weighCells 30 = .ok (.iload 4, 2) := by decide +kernel
theorem dX10_weighCells_32 : decode cX10_weighCells 32 = .ok (.invokevirtual 63, 3) := by decide +kernel
theorem dX10_weighCells_35 : decode cX10_weighCells 35 = .ok (.imul, 1) := by decide +kernel
theorem dX10_weighCells_36 : decode cX10_weighCells 36 = .ok (.iadd, 1) := by decide +kernel
theorem dX10_weighCells_37 : decode cX10_weighCells 37 = .ok (.invokevirtual 66, 3) := by decide +kernel
theorem dX10_weighCells_40 : decode cX10_weighCells 40 = .ok (.iastore, 1) := by decide +kernel
theorem dX10_weighCells_41 : decode cX10_weighCells 41 = .ok (.iinc 4 1, 3) := by decide +kernel
theorem dX10_weighCells_44 : decode cX10_weighCells 44 = .ok (.goto (-41), 3) := by decide +kernel
theorem dX10_weighCells_47 : decode cX10_weighCells 47 = .ok (.return_, 1) := by decide +kernel
theorem dX10_weighPieces_0 : decode cX10_weighPieces 0 = .ok (.iconst 0, 1) := by decide +kernel
theorem dX10_weighPieces_1 : decode cX10_weighPieces 1 = .ok (.istore_n 2, 1) := by decide +kernel
theorem dX10_weighPieces_2 : decode cX10_weighPieces 2 = .ok (.iload_n 2, 1) := by decide +kernel
theorem dX10_weighPieces_3 : decode cX10_weighPieces 3 = .ok (.aload_n 0, 1) := by decide +kernel
theorem dX10_weighPieces_4 : decode cX10_weighPieces 4 = .ok (.getfield 15, 3) := by decide +kernel
theorem dX10_weighPieces_7 : decode cX10_weighPieces 7 = .ok (.arraylength, 1) := by decide +kernel
theorem dX10_weighPieces_8 : decode cX10_weighPieces 8 = .ok (.if_icmp .ge 16, 3) := by decide +kernel
theorem dX10_weighPieces_11 : decode cX10_weighPieces 11 = .ok (.aload_n 0, 1) := by decide +kernel
theorem dX10_weighPieces_12 : decode cX10_weighPieces 12 = .ok (.getfield 15, 3) := by decide +kernel
theorem dX10_weighPieces_15 : decode cX10_weighPieces 15 = .ok (.iload_n 2, 1) := by decide +kernel
theorem dX10_weighPieces_16 : decode cX10_weighPieces 16 = .ok (.iconst 0, 1) := by decide +kernel
theorem dX10_weighPieces_17 : decode cX10_weighPieces 17 = .ok (.iastore, 1) := by decide +kernel
theorem dX10_weighPieces_18 : decode cX10_weighPieces 18 = .ok (.iinc 2 1, 3) := by decide +kernel
theorem dX10_weighPieces_21 : decode cX10_weighPieces 21 = .ok (.goto (-19), 3) := by decide +kernel
theorem dX10_weighPieces_24 : decode cX10_weighPieces 24 = .ok (.iconst 0, 1) := by decide +kernel
theorem dX10_weighPieces_25 : decode cX10_weighPieces 25 = .ok (.istore_n 2, 1) := by decide +kernel
theorem dX10_weighPieces_26 : decode cX10_weighPieces 26 = .ok (.iload_n 2, 1) := by decide +kernel
theorem dX10_weighPieces_27 : decode cX10_weighPieces 27 = .ok (.aload_n 1, 1) := by decide +kernel
theorem dX10_weighPieces_28 : decode cX10_weighPieces 28 = .ok (.getfield 69, 3) := by decide +kernel
theorem dX10_weighPieces_31 : decode cX10_weighPieces 31 = .ok (.if_icmp .ge 47, 3) := by decide +kernel
theorem dX10_weighPieces_34 : decode cX10_weighPieces 34 = .ok (.aload_n 1, 1) := by decide +kernel
theorem dX10_weighPieces_35 : decode cX10_weighPieces 35 = .ok (.iload_n 2, 1) := by decide +kernel
theorem dX10_weighPieces_36 : decode cX10_weighPieces 36 = .ok (.invokevirtual 72, 3) := by decide +kernel
theorem dX10_weighPieces_39 : decode cX10_weighPieces 39 = .ok (.istore_n 3, 1) := by decide +kernel
theorem dX10_weighPieces_40 : decode cX10_weighPieces 40 = .ok (.aload_n 0, 1) := by decide +kernel
theorem dX10_weighPieces_41 : decode cX10_weighPieces 41 = .ok (.aload_n 1, 1) := by decide +kernel
theorem dX10_weighPieces_42 : decode cX10_weighPieces 42 = .ok (.iload_n 2, 1) := by decide +kernel
theorem dX10_weighPieces_43 : decode cX10_weighPieces 43 = .ok (.invokevirtual 75, 3) := by decide +kernel
theorem dX10_weighPieces_46 : decode cX10_weighPieces 46 = .ok (.invokevirtual 56, 3) := by decide +kernel
theorem dX10_weighPieces_49 : decode cX10_weighPieces 49 = .ok (.istore 4, 2) := by decide +kernel
theorem dX10_weighPieces_51 : decode cX10_weighPieces 51 = .ok (.aload_n 0, 1) := by decide +kernel
theorem dX10_weighPieces_52 : decode cX10_weighPieces 52 = .ok (.getfield 15, 3) := by decide +kernel
theorem dX10_weighPieces_55 : decode cX10_weighPieces 55 = .ok (.iload_n 3, 1) := by decide +kernel
theorem dX10_weighPieces_56 : decode cX10_weighPieces 56 = .ok (.aload_n 0, 1) := by decide +kernel
theorem dX10_weighPieces_57 : decode cX10_weighPieces 57 = .ok (.getfield 15, 3) := by decide +kernel
theorem dX10_weighPieces_60 : decode cX10_weighPieces 60 = .ok (.iload_n 3, 1) := by decide +kernel
theorem dX10_weighPieces_61 : decode cX10_weighPieces 61 = .ok (.invokestatic 35, 3) := by decide +kernel
theorem dX10_weighPieces_64 : decode cX10_weighPieces 64 = .ok (.iconst 1, 1) := by decide +kernel
theorem dX10_weighPieces_65 : decode cX10_weighPieces 65 = .ok (.iload 4, 2) := by decide +kernel
theorem dX10_weighPieces_67 : decode cX10_weighPieces 67 = .ok (.ishl, 1) := by decide +kernel
theorem dX10_weighPieces_68 : decode cX10_weighPieces 68 = .ok (.ior, 1) := by decide +kernel
theorem dX10_weighPieces_69 : decode cX10_weighPieces 69 = .ok (.invokestatic 79, 3) := by decide +kernel
theorem dX10_weighPieces_72 : decode cX10_weighPieces 72 = .ok (.iinc 2 1, 3) := by decide +kernel
theorem dX10_weighPieces_75 : decode cX10_weighPieces 75 = .ok (.goto (-49), 3) := by decide +kernel
theorem dX10_weighPieces_78 : decode cX10_weighPieces 78 = .ok (.return_, 1) := by decide +kernel
theorem dX10_weightOf_0 : decode cX10_weightOf 0 = .ok (.iconst 0, 1) := by decide +kernel
theorem dX10_weightOf_1 : decode cX10_weightOf 1 = .ok (.istore_n 3, 1) := by decide +kernel
theorem dX10_weightOf_2 : decode cX10_weightOf 2 = .ok (.lload_n 1, 1) := by decide +kernel
theorem dX10_weightOf_3 : decode cX10_weightOf 3 = .ok (.invokestatic 83, 3) := by decide +kernel
theorem dX10_weightOf_6 : decode cX10_weightOf 6 = .ok (.istore 4, 2) := by decide +kernel
theorem dX10_weightOf_8 : decode cX10_weightOf 8 = .ok (.iload 4, 2) := by decide +kernel
theorem dX10_weightOf_10 : decode cX10_weightOf 10 = .ok (.bipush 36, 2) := by decide +kernel
theorem dX10_weightOf_12 : decode cX10_weightOf 12 = .ok (.if_icmp .ge 39, 3) := by decide +kernel
theorem dX10_weightOf_15 : decode cX10_weightOf 15 = .ok (.lload_n 1, 1) := by decide +kernel
theorem dX10_weightOf_16 : decode cX10_weightOf 16 = .ok (.iload 4, 2) := by decide +kernel
theorem dX10_weightOf_18 : decode cX10_weightOf 18 = .ok (.lushr, 1) := by decide +kernel
theorem dX10_weightOf_19 : decode cX10_weightOf 19 = .ok (.lconst 0, 1) := by decide +kernel
theorem dX10_weightOf_20 : decode cX10_weightOf 20 = .ok (.lcmp, 1) := by decide +kernel
theorem dX10_weightOf_21 : decode cX10_weightOf 21 = .ok (.ifCond .eq 30, 3) := by decide +kernel
theorem dX10_weightOf_24 : decode cX10_weightOf 24 = .ok (.lload_n 1, 1) := by decide +kernel
theorem dX10_weightOf_25 : decode cX10_weightOf 25 = .ok (.iload 4, 2) := by decide +kernel
theorem dX10_weightOf_27 : decode cX10_weightOf 27 = .ok (.invokestatic 86, 3) := by decide +kernel
theorem dX10_weightOf_30 : decode cX10_weightOf 30 = .ok (.ifCond .eq 15, 3) := by decide +kernel
theorem dX10_weightOf_33 : decode cX10_weightOf 33 = .ok (.iload_n 3, 1) := by decide +kernel
theorem dX10_weightOf_34 : decode cX10_weightOf 34 = .ok (.aload_n 0, 1) := by decide +kernel
theorem dX10_weightOf_35 : decode cX10_weightOf 35 = .ok (.getfield 9, 3) := by decide +kernel
theorem dX10_weightOf_38 : decode cX10_weightOf 38 = .ok (.iload 4, 2) := by decide +kernel
theorem dX10_weightOf_40 : decode cX10_weightOf 40 = .ok (.invokestatic 35, 3) := by decide +kernel
theorem dX10_weightOf_43 : decode cX10_weightOf 43 = .ok (.iadd, 1) := by decide +kernel
theorem dX10_weightOf_44 : decode cX10_weightOf 44 = .ok (.istore_n 3, 1) := by decide +kernel
theorem dX10_weightOf_45 : decode cX10_weightOf 45 = .ok (.iinc 4 1, 3) := by decide +kernel
theorem dX10_weightOf_48 : decode cX10_weightOf 48 = .ok (.goto (-40), 3) := by decide +kernel
theorem dX10_weightOf_51 : decode cX10_weightOf 51 = .ok (.aload_n 0, 1) := by decide +kernel
theorem dX10_weightOf_52 : decode cX10_weightOf 52 = .ok (.iload_n 3, 1) := by decide +kernel
theorem dX10_weightOf_53 : decode cX10_weightOf 53 = .ok (.invokevirtual 66, 3) := by decide +kernel
theorem dX10_weightOf_56 : decode cX10_weightOf 56 = .ok (.ireturn, 1) := by decide +kernel
theorem dX10_rest_0 : decode cX10_rest 0 = .ok (.aload_n 0, 1) := by decide +kernel
theorem dX10_rest_1 : decode cX10_rest 1 = .ok (.getfield 18, 3) := by decide +kernel
theorem dX10_rest_4 : decode cX10_rest 4 = .ok (.ifCond .le 12, 3) := by decide +kernel
theorem dX10_rest_7 : decode cX10_rest 7 = .ok (.iload_n 1, 1) := by decide +kernel
theorem dX10_rest_8 : decode cX10_rest 8 = .ok (.aload_n 0, 1) := by decide +kernel
theorem dX10_rest_9 : decode cX10_rest 9 = .ok (.getfield 18, 3) := by decide +kernel
theorem dX10_rest_12 : decode cX10_rest 12 = .ok (.irem, 1) := by decide +kernel
theorem dX10_rest_13 : decode cX10_rest 13 = .ok (.goto 4, 3) := by decide +kernel
theorem dX10_rest_16 : decode cX10_rest 16 = .ok (.iconst 0, 1) := by decide +kernel
theorem dX10_rest_17 : decode cX10_rest 17 = .ok (.ireturn, 1) := by decide +kernel
theorem dX10_addAll_0 : decode cX10_addAll 0 = .ok (.iconst 0, 1) := by decide +kernel
theorem dX10_addAll_1 : decode cX10_addAll 1 = .ok (.istore_n 3, 1) := by decide +kernel
theorem dX10_addAll_2 : decode cX10_addAll 2 = .ok (.iconst 0, 1) := by decide +kernel
theorem dX10_addAll_3 : decode cX10_addAll 3 = .ok (.istore 4, 2) := by decide +kernel
theorem dX10_addAll_5 : decode cX10_addAll 5 = .ok (.iload 4, 2) := by decide +kernel
theorem dX10_addAll_7 : decode cX10_addAll 7 = .ok (.aload_n 0, 1) := by decide +kernel
theorem dX10_addAll_8 : decode cX10_addAll 8 = .ok (.getfield 18, 3) := by decide +kernel
theorem dX10_addAll_11 : decode cX10_addAll 11 = .ok (.if_icmp .ge 59, 3) := by decide +kernel
theorem dX10_addAll_14 : decode cX10_addAll 14 = .ok (.iconst 0, 1) := by decide +kernel
theorem dX10_addAll_15 : decode cX10_addAll 15 = .ok (.istore 5, 2) := by decide +kernel
theorem dX10_addAll_17 : decode cX10_addAll 17 = .ok (.iload 5, 2) := by decide +kernel
theorem dX10_addAll_19 : decode cX10_addAll 19 = .ok (.aload_n 0, 1) := by decide +kernel
theorem dX10_addAll_20 : decode cX10_addAll 20 = .ok (.getfield 18, 3) := by decide +kernel
theorem dX10_addAll_23 : decode cX10_addAll 23 = .ok (.if_icmp .ge 41, 3) := by decide +kernel
theorem dX10_addAll_26 : decode cX10_addAll 26 = .ok (.iload_n 1, 1) := by decide +kernel
theorem dX10_addAll_27 : decode cX10_addAll 27 = .ok (.iload 4, 2) := by decide +kernel
theorem dX10_addAll_29 : decode cX10_addAll 29 = .ok (.iushr, 1) := by decide +kernel
theorem dX10_addAll_30 : decode cX10_addAll 30 = .ok (.iconst 1, 1) := by decide +kernel
theorem dX10_addAll_31 : decode cX10_addAll 31 = .ok (.iand, 1) := by decide +kernel
theorem dX10_addAll_32 : decode cX10_addAll 32 = .ok (.ifCond .eq 26, 3) := by decide +kernel
theorem dX10_addAll_35 : decode cX10_addAll 35 = .ok (.iload_n 2, 1) := by decide +kernel
theorem dX10_addAll_36 : decode cX10_addAll 36 = .ok (.iload 5, 2) := by decide +kernel
theorem dX10_addAll_38 : decode cX10_addAll 38 = .ok (.iushr, 1) := by decide +kernel
theorem dX10_addAll_39 : decode cX10_addAll 39 = .ok (.iconst 1, 1) := by decide +kernel
theorem dX10_addAll_40 : decode cX10_addAll 40 = .ok (.iand, 1) := by decide +kernel
theorem dX10_addAll_41 : decode cX10_addAll 41 = .ok (.ifCond .eq 17, 3) := by decide +kernel
theorem dX10_addAll_44 : decode cX10_addAll 44 = .ok (.iload_n 3, 1) := by decide +kernel
theorem dX10_addAll_45 : decode cX10_addAll 45 = .ok (.iconst 1, 1) := by decide +kernel
theorem dX10_addAll_46 : decode cX10_addAll 46 = .ok (.aload_n 0, 1) := by decide +kernel
theorem dX10_addAll_47 : decode cX10_addAll 47 = .ok (.iload 4, 2) := by decide +kernel
theorem dX10_addAll_49 : decode cX10_addAll 49 = .ok (.iload 5, 2) := by decide +kernel
theorem dX10_addAll_51 : decode cX10_addAll 51 = .ok (.iadd, 1) := by decide +kernel
theorem dX10_addAll_52 : decode cX10_addAll 52 = .ok (.invokevirtual 66, 3) := by decide +kernel
theorem dX10_addAll_55 : decode cX10_addAll 55 = .ok (.ishl, 1) := by decide +kernel
theorem dX10_addAll_56 : decode cX10_addAll 56 = .ok (.ior, 1) := by decide +kernel
theorem dX10_addAll_57 : decode cX10_addAll 57 = .ok (.istore_n 3, 1) := by decide +kernel
theorem dX10_addAll_58 : decode cX10_addAll 58 = .ok (.iinc 5 1, 3) := by decide +kernel
theorem dX10_addAll_61 : decode cX10_addAll 61 = .ok (.goto (-44), 3) := by decide +kernel
theorem dX10_addAll_64 : decode cX10_addAll 64 = .ok (.iinc 4 1, 3) := by decide +kernel
theorem dX10_addAll_67 : decode cX10_addAll 67 = .ok (.goto (-62), 3) := by decide +kernel
theorem dX10_addAll_70 : decode cX10_addAll 70 = .ok (.iload_n 3, 1) := by decide +kernel
theorem dX10_addAll_71 : decode cX10_addAll 71 = .ok (.ireturn, 1) := by decide +kernel
theorem dX11_init_0 : decode cX11_init 0 = .ok (.aload_n 0, 1) := by decide +kernel
theorem dX11_init_1 : decode cX11_init 1 = .ok (.invokespecial 3, 3) := by decide +kernel
theorem dX11_init_4 : decode cX11_init 4 = .ok (.aload_n 0, 1) := by decide +kernel
theorem dX11_init_5 : decode cX11_init 5 = .ok (.new 9, 3) := by decide +kernel
theorem dX11_init_8 : decode cX11_init 8 = .ok (.dup, 1) := by decide +kernel
theorem dX11_init_9 : decode cX11_init 9 = .ok (.invokespecial 11, 3) := by decide +kernel
theorem dX11_init_12 : decode cX11_init 12 = .ok (.putfield 12, 3) := by decide +kernel
theorem dX11_init_15 : decode cX11_init 15 = .ok (.aload_n 0, 1) := by decide +kernel
theorem dX11_init_16 : decode cX11_init 16 = .ok (.new 16, 3) := by decide +kernel
theorem dX11_init_19 : decode cX11_init 19 = .ok (.dup, 1) := by decide +kernel
theorem dX11_init_20 : decode cX11_init 20 = .ok (.invokespecial 18, 3) := by decide +kernel
theorem dX11_init_23 : decode cX11_init 23 = .ok (.putfield 19, 3) := by decide +kernel
theorem dX11_init_26 : decode cX11_init 26 = .ok (.aload_n 0, 1) := by decide +kernel
theorem dX11_init_27 : decode cX11_init 27 = .ok (.new 23, 3) := by decide +kernel
theorem dX11_init_30 : decode cX11_init 30 = .ok (.dup, 1) := by decide +kernel
theorem dX11_init_31 : decode cX11_init 31 = .ok (.invokespecial 25, 3) := by decide +kernel
theorem dX11_init_34 : decode cX11_init 34 = .ok (.putfield 26, 3) := by decide +kernel
theorem dX11_init_37 : decode cX11_init 37 = .ok (.aload_n 0, 1) := by decide +kernel
theorem dX11_init_38 : decode cX11_init 38 = .ok (.new 30, 3) := by decide +kernel
theorem dX11_init_41 : decode cX11_init 41 = .ok (.dup, 1) := by decide +kernel
theorem dX11_init_42 : decode cX11_init 42 = .ok (.invokespecial 32, 3) := by decide +kernel
theorem dX11_init_45 : decode cX11_init 45 = .ok (.putfield 33, 3) := by decide +kernel
theorem dX11_init_48 : decode cX11_init 48 = .ok (.aload_n 0, 1) := by decide +kernel
theorem dX11_init_49 : decode cX11_init 49 = .ok (.new 37, 3) := by decide +kernel
theorem dX11_init_52 : decode cX11_init 52 = .ok (.dup, 1) := by decide +kernel
theorem dX11_init_53 : decode cX11_init 53 = .ok (.invokespecial 39, 3) := by decide +kernel
theorem dX11_init_56 : decode cX11_init 56 = .ok (.putfield 40, 3) := by decide +kernel
theorem dX11_init_59 : decode cX11_init 59 = .ok (.aload_n 0, 1) := by decide +kernel
theorem dX11_init_60 : decode cX11_init 60 = .ok (.new 44, 3) := by decide +kernel
theorem dX11_init_63 : decode cX11_init 63 = .ok (.dup, 1) := by decide +kernel
theorem dX11_init_64 : decode cX11_init 64 = .ok (.invokespecial 46, 3) := by decide +kernel
theorem dX11_init_67 : decode cX11_init 67 = .ok (.putfield 47, 3) := by decide +kernel
theorem dX11_init_70 : decode cX11_init 70 = .ok (.aload_n 0, 1) := by decide +kernel
theorem dX11_init_71 : decode cX11_init 71 = .ok (.new 51, 3) := by decide +kernel
theorem dX11_init_74 : decode cX11_init 74 = .ok (.dup, 1) := by decide +kernel
theorem dX11_init_75 : decode cX11_init 75 = .ok (.aload_n 0, 1) := by decide +kernel
theorem dX11_init_76 : decode cX11_init 76 = .ok (.getfield 12, 3) := by decide +kernel
theorem dX11_init_79 : decode cX11_init 79 = .ok (.aload_n 0, 1) := by decide +kernel
theorem dX11_init_80 : decode cX11_init 80 = .ok (.getfield 40, 3) := by decide +kernel
theorem dX11_init_83 : decode cX11_init 83 = .ok (.invokespecial 53, 3) := by decide +kernel
theorem dX11_init_86 : decode cX11_init 86 = .ok (.putfield 56, 3) := by decide +kernel
theorem dX11_init_89 : decode cX11_init 89 = .ok (.aload_n 0, 1) := by decide +kernel
theorem dX11_init_90 : decode cX11_init 90 = .ok (.new 60, 3) := by decide +kernel
theorem dX11_init_93 : decode cX11_init 93 = .ok (.dup, 1) := by decide +kernel
theorem dX11_init_94 : decode cX11_init 94 = .ok (.aload_n 0, 1) := by decide +kernel
theorem dX11_init_95 : decode cX11_init 95 = .ok (.getfield 56, 3) := by decide +kernel
theorem dX11_init_98 : decode cX11_init 98 = .ok (.aload_n 0, 1) := by decide +kernel
theorem dX11_init_99 : decode cX11_init 99 = .ok (.getfield 40, 3) := by decide +kernel
theorem dX11_init_102 : decode cX11_init 102 = .ok (.aload_n 0, 1) := by decide +kernel
theorem dX11_init_103 : decode cX11_init 103 = .ok (.getfield 47, 3) := by decide +kernel
theorem dX11_init_106 : decode cX11_init 106 = .ok (.invokespecial 62, 3) := by decide +kernel
theorem dX11_init_109 : decode cX11_init 109 = .ok (.putfield 65, 3) := by decide +kernel
theorem dX11_init_112 : decode cX11_init 112 = .ok (.aload_n 0, 1) := by decide +kernel
theorem dX11_init_113 : decode cX11_init 113 = .ok (.new 69, 3) := by decide +kernel
theorem dX11_init_116 : decode cX11_init 116 = .ok (.dup, 1) := by decide +kernel
theorem dX11_init_117 : decode cX11_init 117 = .ok (.invokespecial 71, 3) := by decide +kernel
theorem dX11_init_120 : decode cX11_init 120 = .ok (.putfield 72, 3) := by decide +kernel
theorem dX11_init_123 : decode cX11_init 123 = .ok (.aload_n 0, 1) := by decide +kernel
theorem dX11_init_124 : decode cX11_init 124 = .ok (.new 76, 3) := by decide +kernel
theorem dX11_init_127 : decode cX11_init 127 = .ok (.dup, 1) := by decide +kernel
theorem dX11_init_128 : decode cX11_init 128 = .ok (.invokespecial 78, 3) := by decide +kernel
theorem dX11_init_131 : decode cX11_init 131 = .ok (.putfield 79, 3) := by decide +kernel
theorem dX11_init_134 : decode cX11_init 134 = .ok (.aload_n 0, 1) := by decide +kernel
theorem dX11_init_135 : decode cX11_init 135 = .ok (.iconst 0, 1) := by decide +kernel
theorem dX11_init_136 : decode cX11_init 136 = .ok (.putfield 83, 3) := by decide +kernel
theorem dX11_init_139 : decode cX11_init 139 = .ok (.aload_n 0, 1) := by decide +kernel
theorem dX11_init_140 : decode cX11_init 140 = .ok (.iconst 0, 1) := by decide +kernel
theorem dX11_init_141 : decode cX11_init 141 = .ok (.putfield 87, 3) := by decide +kernel
theorem dX11_init_144 : decode cX11_init 144 = .ok (.aload_n 0, 1) := by decide +kernel
theorem dX11_init_145 : decode cX11_init 145 = .ok (.iconst 0, 1) := by decide +kernel
theorem dX11_init_146 : decode cX11_init 146 = .ok (.putfield 90, 3) := by decide +kernel
theorem dX11_init_149 : decode cX11_init 149 = .ok (.return_, 1) := by decide +kernel
theorem dX11_setBoard_0 : decode cX11_setBoard 0 = .ok (.iload_n 1, 1) := by decide +kernel
theorem dX11_setBoard_1 : decode cX11_setBoard 1 = .ok (.iconst 1, 1) := by decide +kernel
theorem dX11_setBoard_2 : decode cX11_setBoard 2 = .ok (.bipush 6, 2) := by decide +kernel
theorem dX11_setBoard_4 : decode cX11_setBoard 4 = .ok (.invokestatic 93, 3) := by decide +kernel
theorem dX11_setBoard_7 : decode cX11_setBoard 7 = .ok (.ifCond .eq 13, 3) := by decide +kernel
theorem dX11_setBoard_10 : decode cX11_setBoard 10 = .ok (.iload_n 2, 1) := by decide +kernel
theorem dX11_setBoard_11 : decode cX11_setBoard 11 = .ok (.iconst 1, 1) := by decide +kernel
theorem dX11_setBoard_12 : decode cX11_setBoard 12 = .ok (.bipush 6, 2) := by decide +kernel
theorem dX11_setBoard_14 : decode cX11_setBoard 14 = .ok (.invokestatic 93, 3) := by decide +kernel
theorem dX11_setBoard_17 : decode cX11_setBoard 17 = .ok (.ifCond .ne 5, 3) := by decide +kernel
theorem dX11_setBoard_20 : decode cX11_setBoard 20 = .ok (.iconst (-1), 1) := by decide +kernel
theorem dX11_setBoard_21 : decode cX11_setBoard 21 = .ok (.ireturn, 1) := by decide +kernel
theorem dX11_setBoard_22 : decode cX11_setBoard 22 = .ok (.aload_n 0, 1) := by decide +kernel
theorem dX11_setBoard_23 : decode cX11_setBoard 23 = .ok (.invokevirtual 97, 3) := by decide +kernel
theorem dX11_setBoard_26 : decode cX11_setBoard 26 = .ok (.aload_n 0, 1) := by decide +kernel
theorem dX11_setBoard_27 : decode cX11_setBoard 27 = .ok (.getfield 12, 3) := by decide +kernel
theorem dX11_setBoard_30 : decode cX11_setBoard 30 = .ok (.iload_n 1, 1) := by decide +kernel
theorem dX11_setBoard_31 : decode cX11_setBoard 31 = .ok (.iload_n 2, 1) := by decide +kernel
theorem dX11_setBoard_32 : decode cX11_setBoard 32 = .ok (.invokevirtual 100, 3) := by decide +kernel
theorem dX11_setBoard_35 : decode cX11_setBoard 35 = .ok (.aload_n 0, 1) := by decide +kernel
theorem dX11_setBoard_36 : decode cX11_setBoard 36 = .ok (.getfield 12, 3) := by decide +kernel
theorem dX11_setBoard_39 : decode cX11_setBoard 39 = .ok (.invokevirtual 104, 3) := by decide +kernel
theorem dX11_setBoard_42 : decode cX11_setBoard 42 = .ok (.ireturn, 1) := by decide +kernel
theorem dX11_setHole_0 : decode cX11_setHole 0 = .ok (.aload_n 0, 1) := by decide +kernel
theorem dX11_setHole_1 : decode cX11_setHole 1 = .ok (.getfield 12, 3) := by decide +kernel
theorem dX11_setHole_4 : decode cX11_setHole 4 = .ok (.iload_n 1, 1) := by decide +kernel
theorem dX11_setHole_5 : decode cX11_setHole 5 = .ok (.invokevirtual 108, 3) := by decide +kernel
theorem dX11_setHole_8 : decode cX11_setHole 8 = .ok (.ifCond .eq 12, 3) := by decide +kernel
theorem dX11_setHole_11 : decode cX11_setHole 11 = .ok (.iload_n 2, 1) := by decide +kernel
theorem dX11_setHole_12 : decode cX11_setHole 12 = .ok (.iconst 0, 1) := by decide +kernel
theorem dX11_setHole_13 : decode cX11_setHole 13 = .ok (.iconst 1, 1) := by decide +kernel
theorem dX11_setHole_14 : decode cX11_setHole 14 = .ok (.invokestatic 93, 3) := by decide +kernel
theorem dX11_setHole_17 : decode cX11_setHole 17 = .ok (.ifCond .ne 5, 3) := by decide +kernel
theorem dX11_setHole_20 : decode cX11_setHole 20 = .ok (.iconst (-1), 1) := by decide +kernel
theorem dX11_setHole_21 : decode cX11_setHole 21 = .ok (.ireturn, 1) := by decide +kernel
theorem dX11_setHole_22 : decode cX11_setHole 22 = .ok (.aload_n 0, 1) := by decide +kernel
theorem dX11_setHole_23 : decode cX11_setHole 23 = .ok (.getfield 12, 3) := by decide +kernel
theorem dX11_setHole_26 : decode cX11_setHole 26 = .ok (.iload_n 1, 1) := by decide +kernel
theorem dX11_setHole_27 : decode cX11_setHole 27 = .ok (.invokevirtual 112, 3) := by decide +kernel
theorem dX11_setHole_30 : decode cX11_setHole 30 = .ok (.iload_n 2, 1) := by decide +kernel
theorem dX11_setHole_31 : decode cX11_setHole 31 = .ok (.iconst 1, 1) := by decide +kernel
theorem dX11_setHole_32 : decode cX11_setHole 32 = .ok (.if_icmp .ne 7, 3) := by decide +kernel
theorem dX11_setHole_35 : decode cX11_setHole 35 = .ok (.iconst 1, 1) := by decide +kernel
theorem dX11_setHole_36 : decode cX11_setHole 36 = .ok (.goto 4, 3) := by decide +kernel
theorem dX11_setHole_39 : decode cX11_setHole 39 = .ok (.iconst 0, 1) := by decide +kernel
theorem dX11_setHole_40 : decode cX11_setHole 40 = .ok (.if_icmp .ne 6, 3) := by decide +kernel
theorem dX11_setHole_43 : decode cX11_setHole 43 = .ok (.bipush (-2), 2) := by decide +kernel
theorem dX11_setHole_45 : decode cX11_setHole 45 = .ok (.ireturn, 1) := by decide +kernel
theorem dX11_setHole_46 : decode cX11_setHole 46 = .ok (.aload_n 0, 1) := by decide +kernel
theorem dX11_setHole_47 : decode cX11_setHole 47 = .ok (.invokevirtual 97, 3) := by decide +kernel
theorem dX11_setHole_50 : decode cX11_setHole 50 = .ok (.aload_n 0, 1) := by decide +kernel
theorem dX11_setHole_51 : decode cX11_setHole 51 = .ok (.getfield 12, 3) := by decide +kernel
theorem dX11_setHole_54 : decode cX11_setHole 54 = .ok (.iload_n 1, 1) := by decide +kernel
theorem dX11_setHole_55 : decode cX11_setHole 55 = .ok (.iload_n 2, 1) := by decide +kernel
theorem dX11_setHole_56 : decode cX11_setHole 56 = .ok (.iconst 1, 1) := by decide +kernel
theorem dX11_setHole_57 : decode cX11_setHole 57 = .ok (.if_icmp .ne 7, 3) := by decide +kernel
theorem dX11_setHole_60 : decode cX11_setHole 60 = .ok (.iconst (-1), 1) := by decide +kernel
theorem dX11_setHole_61 : decode cX11_setHole 61 = .ok (.goto 4, 3) := by decide +kernel
theorem dX11_setHole_64 : decode cX11_setHole 64 = .ok (.iconst 0, 1) := by decide +kernel
theorem dX11_setHole_65 : decode cX11_setHole 65 = .ok (.invokevirtual 115, 3) := by decide +kernel
theorem dX11_setHole_68 : decode cX11_setHole 68 = .ok (.aload_n 0, 1) := by decide +kernel
theorem dX11_setHole_69 : decode cX11_setHole 69 = .ok (.getfield 12, 3) := by decide +kernel
theorem dX11_setHole_72 : decode cX11_setHole 72 = .ok (.invokevirtual 118, 3) := by decide +kernel
theorem dX11_setHole_75 : decode cX11_setHole 75 = .ok (.ireturn, 1) := by decide +kernel
theorem dX11_setColour_0 : decode cX11_setColour 0 = .ok (.aload_n 0, 1) := by decide +kernel
theorem dX11_setColour_1 : decode cX11_setColour 1 = .ok (.getfield 12, 3) := by decide +kernel
theorem dX11_setColour_4 : decode cX11_setColour 4 = .ok (.iload_n 1, 1) := by decide +kernel
theorem dX11_setColour_5 : decode cX11_setColour 5 = .ok (.invokevirtual 108, 3) := by decide +kernel
theorem dX11_setColour_8 : decode cX11_setColour 8 = .ok (.ifCond .eq 12, 3) := by decide +kernel
theorem dX11_setColour_11 : decode cX11_setColour 11 = .ok (.iload_n 2, 1) := by decide +kernel
theorem dX11_setColour_12 : decode cX11_setColour 12 = .ok (.iconst 0, 1) := by decide +kernel
theorem dX11_setColour_13 : decode cX11_setColour 13 = .ok (.iconst 3, 1) := by decide +kernel
theorem dX11_setColour_14 : decode cX11_setColour 14 = .ok (.invokestatic 93, 3) := by decide +kernel
theorem dX11_setColour_17 : decode cX11_setColour 17 = .ok (.ifCond .ne 5, 3) := by decide +kernel
theorem dX11_setColour_20 : decode cX11_setColour 20 = .ok (.iconst (-1), 1) := by decide +kernel
theorem dX11_setColour_21 : decode cX11_setColour 21 = .ok (.ireturn, 1) := by decide +kernel
theorem dX11_setColour_22 : decode cX11_setColour 22 = .ok (.aload_n 0, 1) := by decide +kernel
theorem dX11_setColour_23 : decode cX11_setColour 23 = .ok (.getfield 12, 3) := by decide +kernel
theorem dX11_setColour_26 : decode cX11_setColour 26 = .ok (.iload_n 1, 1) := by decide +kernel
theorem dX11_setColour_27 : decode cX11_setColour 27 = .ok (.invokevirtual 112, 3) := by decide +kernel
theorem dX11_setColour_30 : decode cX11_setColour 30 = .ok (.ifCond .eq 6, 3) := by decide +kernel
theorem dX11_setColour_33 : decode cX11_setColour 33 = .ok (.bipush (-2), 2) := by decide +kernel
theorem dX11_setColour_35 : decode cX11_setColour 35 = .ok (.ireturn, 1) := by decide +kernel
theorem dX11_setColour_36 : decode cX11_setColour 36 = .ok (.aload_n 0, 1) := by decide +kernel
theorem dX11_setColour_37 : decode cX11_setColour 37 = .ok (.getfield 12, 3) := by decide +kernel
theorem dX11_setColour_40 : decode cX11_setColour 40 = .ok (.iload_n 1, 1) := by decide +kernel
theorem dX11_setColour_41 : decode cX11_setColour 41 = .ok (.invokevirtual 121, 3) := by decide +kernel
theorem dX11_setColour_44 : decode cX11_setColour 44 = .ok (.istore_n 3, 1) := by decide +kernel
theorem dX11_setColour_45 : decode cX11_setColour 45 = .ok (.aload_n 0, 1) := by decide +kernel
theorem dX11_setColour_46 : decode cX11_setColour 46 = .ok (.invokevirtual 97, 3) := by decide +kernel
theorem dX11_setColour_49 : decode cX11_setColour 49 = .ok (.aload_n 0, 1) := by decide +kernel
theorem dX11_setColour_50 : decode cX11_setColour 50 = .ok (.getfield 12, 3) := by decide +kernel
theorem dX11_setColour_53 : decode cX11_setColour 53 = .ok (.iload_n 1, 1) := by decide +kernel
theorem dX11_setColour_54 : decode cX11_setColour 54 = .ok (.iload_n 2, 1) := by decide +kernel
theorem dX11_setColour_55 : decode cX11_setColour 55 = .ok (.invokevirtual 115, 3) := by decide +kernel
theorem dX11_setColour_58 : decode cX11_setColour 58 = .ok (.iload_n 3, 1) := by decide +kernel
theorem dX11_setColour_59 : decode cX11_setColour 59 = .ok (.ireturn, 1) := by decide +kernel
theorem dX11_addPiece_0 : decode cX11_addPiece 0 = .ok (.iload_n 1, 1) := by decide +kernel
theorem dX11_addPiece_1 : decode cX11_addPiece 1 = .ok (.invokestatic 125, 3) := by decide +kernel
theorem dX11_addPiece_4 : decode cX11_addPiece 4 = .ok (.ifCond .eq 21, 3) := by decide +kernel
theorem dX11_addPiece_7 : decode cX11_addPiece 7 = .ok (.iload_n 2, 1) := by decide +kernel
theorem dX11_addPiece_8 : decode cX11_addPiece 8 = .ok (.iconst 0, 1) := by decide +kernel
theorem dX11_addPiece_9 : decode cX11_addPiece 9 = .ok (.iconst 2, 1) := by decide +kernel
theorem dX11_addPiece_10 : decode cX11_addPiece 10 = .ok (.invokestatic 93, 3) := by decide +kernel
theorem dX11_addPiece_13 : decode cX11_addPiece 13 = .ok (.ifCond .eq 12, 3) := by decide +kernel
theorem dX11_addPiece_16 : decode cX11_addPiece 16 = .ok (.iload_n 3, 1) := by decide +kernel
theorem dX11_addPiece_17 : decode cX11_addPiece 17 = .ok (.iconst 0, 1) := by decide +kernel
theorem dX11_addPiece_18 : decode cX11_addPiece 18 = .ok (.iconst 3, 1) := by decide +kernel
theorem dX11_addPiece_19 : decode cX11_addPiece 19 = .ok (.invokestatic 93, 3) := by decide +kernel
theorem dX11_addPiece_22 : decode cX11_addPiece 22 = .ok (.ifCond .ne 5, 3) := by decide +kernel
theorem dX11_addPiece_25 : decode cX11_addPiece 25 = .ok (.iconst (-1), 1) := by decide +kernel
theorem dX11_addPiece_26 : decode cX11_addPiece 26 = .ok (.ireturn, 1) := by decide +kernel
theorem dX11_addPiece_27 : decode cX11_addPiece 27 = .ok (.aload_n 0, 1) := by decide +kernel
theorem dX11_addPiece_28 : decode cX11_addPiece 28 = .ok (.getfield 12, 3) := by decide +kernel
theorem dX11_addPiece_31 : decode cX11_addPiece 31 = .ok (.getfield 130, 3) := by decide +kernel
theorem dX11_addPiece_34 : decode cX11_addPiece 34 = .ok (.bipush 8, 2) := by decide +kernel
theorem dX11_addPiece_36 : decode cX11_addPiece 36 = .ok (.if_icmp .lt 6, 3) := by decide +kernel
theorem dX11_addPiece_39 : decode cX11_addPiece 39 = .ok (.bipush (-3), 2) := by decide +kernel
theorem dX11_addPiece_41 : decode cX11_addPiece 41 = .ok (.ireturn, 1) := by decide +kernel
theorem dX11_addPiece_42 : decode cX11_addPiece 42 = .ok (.aload_n 0, 1) := by decide +kernel
theorem dX11_addPiece_43 : decode cX11_addPiece 43 = .ok (.invokevirtual 97, 3) := by decide +kernel
theorem dX11_addPiece_46 : decode cX11_addPiece 46 = .ok (.aload_n 0, 1) := by decide +kernel
theorem dX11_addPiece_47 : decode cX11_addPiece 47 = .ok (.getfield 12, 3) := by decide +kernel
theorem dX11_addPiece_50 : decode cX11_addPiece 50 = .ok (.iload_n 1, 1) := by decide +kernel
theorem dX11_addPiece_51 : decode cX11_addPiece 51 = .ok (.invokestatic 134, 3) := by decide +kernel
theorem dX11_addPiece_54 : decode cX11_addPiece 54 = .ok (.iload_n 2, 1) := by decide +kernel
theorem dX11_addPiece_55 : decode cX11_addPiece 55 = .ok (.iload_n 3, 1) := by decide +kernel
theorem dX11_addPiece_56 : decode cX11_addPiece 56 = .ok (.iconst 1, 1) := by decide +kernel
theorem dX11_addPiece_57 : decode cX11_addPiece 57 = .ok (.invokevirtual 137, 3) := by decide +kernel
theorem dX11_addPiece_60 : decode cX11_addPiece 60 = .ok (.aload_n 0, 1) := by decide +kernel
theorem dX11_addPiece_61 : decode cX11_addPiece 61 = .ok (.getfield 12, 3) := by decide +kernel
theorem dX11_addPiece_64 : decode cX11_addPiece 64 = .ok (.getfield 130, 3) := by decide +kernel
theorem dX11_addPiece_67 : decode cX11_addPiece 67 = .ok (.iconst 1, 1) := by decide +kernel
theorem dX11_addPiece_68 : decode cX11_addPiece 68 = .ok (.isub, 1) := by decide +kernel
theorem dX11_addPiece_69 : decode cX11_addPiece 69 = .ok (.ireturn, 1) := by decide +kernel
theorem dX11_removePiece_0 : decode cX11_removePiece 0 = .ok (.aload_n 0, 1) := by decide +kernel
theorem dX11_removePiece_1 : decode cX11_removePiece 1 = .ok (.getfield 12, 3) := by decide +kernel
theorem dX11_removePiece_4 : decode cX11_removePiece 4 = .ok (.iload_n 1, 1) := by decide +kernel
theorem dX11_removePiece_5 : decode cX11_removePiece 5 = .ok (.invokevirtual 141, 3) := by decide +kernel
theorem dX11_removePiece_8 : decode cX11_removePiece 8 = .ok (.ifCond .ne 5, 3) := by decide +kernel
theorem dX11_removePiece_11 : decode cX11_removePiece 11 = .ok (.iconst (-1), 1) := by decide +kernel
theorem dX11_removePiece_12 : decode cX11_removePiece 12 = .ok (.ireturn, 1) := by decide +kernel
theorem dX11_removePiece_13 : decode cX11_removePiece 13 = .ok (.aload_n 0, 1) := by decide +kernel
theorem dX11_removePiece_14 : decode cX11_removePiece 14 = .ok (.invokevirtual 97, 3) := by decide +kernel
theorem dX11_removePiece_17 : decode cX11_removePiece 17 = .ok (.aload_n 0, 1) := by decide +kernel
theorem dX11_removePiece_18 : decode cX11_removePiece 18 = .ok (.getfield 12, 3) := by decide +kernel
theorem dX11_removePiece_21 : decode cX11_removePiece 21 = .ok (.iload_n 1, 1) := by decide +kernel
theorem dX11_removePiece_22 : decode cX11_removePiece 22 = .ok (.invokevirtual 144, 3) := by decide +kernel
theorem dX11_removePiece_25 : decode cX11_removePiece 25 = .ok (.aload_n 0, 1) := by decide +kernel
theorem dX11_removePiece_26 : decode cX11_removePiece 26 = .ok (.getfield 12, 3) := by decide +kernel
theorem dX11_removePiece_29 : decode cX11_removePiece 29 = .ok (.getfield 130, 3) := by decide +kernel
theorem dX11_removePiece_32 : decode cX11_removePiece 32 = .ok (.ireturn, 1) := by decide +kernel
theorem dX11_setCopies_0 : decode cX11_setCopies 0 = .ok (.aload_n 0, 1) := by decide +kernel
theorem dX11_setCopies_1 : decode cX11_setCopies 1 = .ok (.getfield 12, 3) := by decide +kernel
theorem dX11_setCopies_4 : decode cX11_setCopies 4 = .ok (.iload_n 1, 1) := by decide +kernel
theorem dX11_setCopies_5 : decode cX11_setCopies 5 = .ok (.invokevirtual 141, 3) := by decide +kernel
theorem dX11_setCopies_8 : decode cX11_setCopies 8 = .ok (.ifCond .eq 13, 3) := by decide +kernel
theorem dX11_setCopies_11 : decode cX11_setCopies 11 = .ok (.iload_n 2, 1) := by decide +kernel
theorem dX11_setCopies_12 : decode cX11_setCopies 12 = .ok (.iconst 1, 1) := by decide +kernel
theorem dX11_setCopies_13 : decode cX11_setCopies 13 = .ok (.bipush 9, 2) := by decide +kernel
theorem dX11_setCopies_15 : decode cX11_setCopies 15 = .ok (.invokestatic 93, 3) := by decide +kernel
theorem dX11_setCopies_18 : decode cX11_setCopies 18 = .ok (.ifCond .ne 5, 3) := by decide +kernel
theorem dX11_setCopies_21 : decode cX11_setCopies 21 = .ok (.iconst (-1), 1) := by decide +kernel
theorem dX11_setCopies_22 : decode cX11_setCopies 22 = .ok (.ireturn, 1) := by decide +kernel
theorem dX11_setCopies_23 : decode cX11_setCopies 23 = .ok (.aload_n 0, 1) := by decide +kernel
theorem dX11_setCopies_24 : decode cX11_setCopies 24 = .ok (.getfield 12, 3) := by decide +kernel
theorem dX11_setCopies_27 : decode cX11_setCopies 27 = .ok (.iload_n 1, 1) := by decide +kernel
theorem dX11_setCopies_28 : decode cX11_setCopies 28 = .ok (.invokevirtual 148, 3) := by decide +kernel
theorem dX11_setCopies_31 : decode cX11_setCopies 31 = .ok (.istore_n 3, 1) := by decide +kernel
theorem dX11_setCopies_32 : decode cX11_setCopies 32 = .ok (.aload_n 0, 1) := by decide +kernel
theorem dX11_setCopies_33 : decode cX11_setCopies 33 = .ok (.invokevirtual 97, 3) := by decide +kernel
theorem dX11_setCopies_36 : decode cX11_setCopies 36 = .ok (.aload_n 0, 1) := by decide +kernel
theorem dX11_setCopies_37 : decode cX11_setCopies 37 = .ok (.getfield 12, 3) := by decide +kernel
theorem dX11_setCopies_40 : decode cX11_setCopies 40 = .ok (.getfield 151, 3) := by decide +kernel
theorem dX11_setCopies_43 : decode cX11_setCopies 43 = .ok (.iload_n 1, 1) := by decide +kernel
theorem dX11_setCopies_44 : decode cX11_setCopies 44 = .ok (.iload_n 2, 1) := by decide +kernel
theorem dX11_setCopies_45 : decode cX11_setCopies 45 = .ok (.invokestatic 155, 3) := by decide +kernel
theorem dX11_setCopies_48 : decode cX11_setCopies 48 = .ok (.iload_n 3, 1) := by decide +kernel
theorem dX11_setCopies_49 : decode cX11_setCopies 49 = .ok (.ireturn, 1) := by decide +kernel
theorem dX11_setMode_0 : decode cX11_setMode 0 = .ok (.iload_n 1, 1) := by decide +kernel
theorem dX11_setMode_1 : decode cX11_setMode 1 = .ok (.iconst 0, 1) := by decide +kernel
theorem dX11_setMode_2 : decode cX11_setMode 2 = .ok (.iconst 1, 1) := by decide +kernel
theorem dX11_setMode_3 : decode cX11_setMode 3 = .ok (.invokestatic 93, 3) := by decide +kernel
theorem dX11_setMode_6 : decode cX11_setMode 6 = .ok (.ifCond .ne 5, 3) := by decide +kernel
theorem dX11_setMode_9 : decode cX11_setMode 9 = .ok (.iconst (-1), 1) := by decide +kernel
theorem dX11_setMode_10 : decode cX11_setMode 10 = .ok (.ireturn, 1) := by decide +kernel
theorem dX11_setMode_11 : decode cX11_setMode 11 = .ok (.aload_n 0, 1) := by decide +kernel
theorem dX11_setMode_12 : decode cX11_setMode 12 = .ok (.getfield 12, 3) := by decide +kernel
theorem dX11_setMode_15 : decode cX11_setMode 15 = .ok (.getfield 159, 3) := by decide +kernel
theorem dX11_setMode_18 : decode cX11_setMode 18 = .ok (.istore_n 2, 1) := by decide +kernel
theorem dX11_setMode_19 : decode cX11_setMode 19 = .ok (.aload_n 0, 1) := by decide +kernel
theorem dX11_setMode_20 : decode cX11_setMode 20 = .ok (.invokevirtual 97, 3) := by decide +kernel
theorem dX11_setMode_23 : decode cX11_setMode 23 = .ok (.aload_n 0, 1) := by decide +kernel
theorem dX11_setMode_24 : decode cX11_setMode 24 = .ok (.getfield 12, 3) := by decide +kernel
theorem dX11_setMode_27 : decode cX11_setMode 27 = .ok (.iload_n 1, 1) := by decide +kernel
theorem dX11_setMode_28 : decode cX11_setMode 28 = .ok (.putfield 159, 3) := by decide +kernel
theorem dX11_setMode_31 : decode cX11_setMode 31 = .ok (.iload_n 2, 1) := by decide +kernel
theorem dX11_setMode_32 : decode cX11_setMode 32 = .ok (.ireturn, 1) := by decide +kernel
theorem dX11_setRule_0 : decode cX11_setRule 0 = .ok (.iload_n 1, 1) := by decide +kernel
theorem dX11_setRule_1 : decode cX11_setRule 1 = .ok (.iconst 0, 1) := by decide +kernel
theorem dX11_setRule_2 : decode cX11_setRule 2 = .ok (.iconst 1, 1) := by decide +kernel
theorem dX11_setRule_3 : decode cX11_setRule 3 = .ok (.invokestatic 93, 3) := by decide +kernel
theorem dX11_setRule_6 : decode cX11_setRule 6 = .ok (.ifCond .ne 5, 3) := by decide +kernel
theorem dX11_setRule_9 : decode cX11_setRule 9 = .ok (.iconst (-1), 1) := by decide +kernel
theorem dX11_setRule_10 : decode cX11_setRule 10 = .ok (.ireturn, 1) := by decide +kernel
theorem dX11_setRule_11 : decode cX11_setRule 11 = .ok (.aload_n 0, 1) := by decide +kernel
theorem dX11_setRule_12 : decode cX11_setRule 12 = .ok (.getfield 12, 3) := by decide +kernel
theorem dX11_setRule_15 : decode cX11_setRule 15 = .ok (.getfield 162, 3) := by decide +kernel
theorem dX11_setRule_18 : decode cX11_setRule 18 = .ok (.istore_n 2, 1) := by decide +kernel
theorem dX11_setRule_19 : decode cX11_setRule 19 = .ok (.aload_n 0, 1) := by decide +kernel
theorem dX11_setRule_20 : decode cX11_setRule 20 = .ok (.invokevirtual 97, 3) := by decide +kernel
theorem dX11_setRule_23 : decode cX11_setRule 23 = .ok (.aload_n 0, 1) := by decide +kernel
theorem dX11_setRule_24 : decode cX11_setRule 24 = .ok (.getfield 12, 3) := by decide +kernel
theorem dX11_setRule_27 : decode cX11_setRule 27 = .ok (.iload_n 1, 1) := by decide +kernel
theorem dX11_setRule_28 : decode cX11_setRule 28 = .ok (.putfield 162, 3) := by decide +kernel
theorem dX11_setRule_31 : decode cX11_setRule 31 = .ok (.iload_n 2, 1) := by decide +kernel
theorem dX11_setRule_32 : decode cX11_setRule 32 = .ok (.ireturn, 1) := by decide +kernel
theorem dX11_count_0 : decode cX11_count 0 = .ok (.iload_n 1, 1) := by decide +kernel
theorem dX11_count_1 : decode cX11_count 1 = .ok (.tableswitch 143 0 9 #[55, 63, 71, 79, 87, 95, 103, 111, 123, 135], 55) := by decide +kernel
theorem dX11_count_56 : decode cX11_count 56 = .ok (.aload_n 0, 1) := by decide +kernel
theorem dX11_count_57 : decode cX11_count 57 = .ok (.getfield 12, 3) := by decide +kernel
theorem dX11_count_60 : decode cX11_count 60 = .ok (.getfield 165, 3) := by decide +kernel
theorem dX11_count_63 : decode cX11_count 63 = .ok (.ireturn, 1) := by decide +kernel
theorem dX11_count_64 : decode cX11_count 64 = .ok (.aload_n 0, 1) := by decide +kernel
theorem dX11_count_65 : decode cX11_count 65 = .ok (.getfield 12, 3) := by decide +kernel
theorem dX11_count_68 : decode cX11_count 68 = .ok (.getfield 168, 3) := by decide +kernel
theorem dX11_count_71 : decode cX11_count 71 = .ok (.ireturn, 1) := by decide +kernel
theorem dX11_count_72 : decode cX11_count 72 = .ok (.aload_n 0, 1) := by decide +kernel
theorem dX11_count_73 : decode cX11_count 73 = .ok (.getfield 12, 3) := by decide +kernel
theorem dX11_count_76 : decode cX11_count 76 = .ok (.invokevirtual 118, 3) := by decide +kernel
theorem dX11_count_79 : decode cX11_count 79 = .ok (.ireturn, 1) := by decide +kernel
theorem dX11_count_80 : decode cX11_count 80 = .ok (.aload_n 0, 1) := by decide +kernel
theorem dX11_count_81 : decode cX11_count 81 = .ok (.getfield 12, 3) := by decide +kernel
theorem dX11_count_84 : decode cX11_count 84 = .ok (.getfield 130, 3) := by decide +kernel
theorem dX11_count_87 : decode cX11_count 87 = .ok (.ireturn, 1) := by decide +kernel
theorem dX11_count_88 : decode cX11_count 88 = .ok (.aload_n 0, 1) := by decide +kernel
theorem dX11_count_89 : decode cX11_count 89 = .ok (.getfield 12, 3) := by decide +kernel
theorem dX11_count_92 : decode cX11_count 92 = .ok (.getfield 159, 3) := by decide +kernel
theorem dX11_count_95 : decode cX11_count 95 = .ok (.ireturn, 1) := by decide +kernel
theorem dX11_count_96 : decode cX11_count 96 = .ok (.aload_n 0, 1) := by decide +kernel
theorem dX11_count_97 : decode cX11_count 97 = .ok (.getfield 12, 3) := by decide +kernel
theorem dX11_count_100 : decode cX11_count 100 = .ok (.getfield 162, 3) := by decide +kernel
theorem dX11_count_103 : decode cX11_count 103 = .ok (.ireturn, 1) := by decide +kernel
theorem dX11_count_104 : decode cX11_count 104 = .ok (.aload_n 0, 1) := by decide +kernel
theorem dX11_count_105 : decode cX11_count 105 = .ok (.getfield 12, 3) := by decide +kernel
theorem dX11_count_108 : decode cX11_count 108 = .ok (.invokevirtual 171, 3) := by decide +kernel
theorem dX11_count_111 : decode cX11_count 111 = .ok (.ireturn, 1) := by decide +kernel
theorem dX11_count_112 : decode cX11_count 112 = .ok (.aload_n 0, 1) := by decide +kernel
theorem dX11_count_113 : decode cX11_count 113 = .ok (.invokevirtual 174, 3) := by decide +kernel
theorem dX11_count_116 : decode cX11_count 116 = .ok (.aload_n 0, 1) := by decide +kernel
theorem dX11_count_117 : decode cX11_count 117 = .ok (.getfield 40, 3) := by decide +kernel
theorem dX11_count_120 : decode cX11_count 120 = .ok (.getfield 177, 3) := by decide +kernel
theorem dX11_count_123 : decode cX11_count 123 = .ok (.ireturn, 1) := by decide +kernel
theorem dX11_count_124 : decode cX11_count 124 = .ok (.aload_n 0, 1) := by decide +kernel
theorem dX11_count_125 : decode cX11_count 125 = .ok (.invokevirtual 174, 3) := by decide +kernel
theorem dX11_count_128 : decode cX11_count 128 = .ok (.aload_n 0, 1) := by decide +kernel
theorem dX11_count_129 : decode cX11_count 129 = .ok (.getfield 47, 3) := by decide +kernel
theorem dX11_count_132 : decode cX11_count 132 = .ok (.getfield 180, 3) := by decide +kernel
theorem dX11_count_135 : decode cX11_count 135 = .ok (.ireturn, 1) := by decide +kernel
theorem dX11_count_136 : decode cX11_count 136 = .ok (.aload_n 0, 1) := by decide +kernel
theorem dX11_count_137 : decode cX11_count 137 = .ok (.getfield 19, 3) := by decide +kernel
theorem dX11_count_140 : decode cX11_count 140 = .ok (.getfield 181, 3) := by decide +kernel
theorem dX11_count_143 : decode cX11_count 143 = .ok (.ireturn, 1) := by decide +kernel
theorem dX11_count_144 : decode cX11_count 144 = .ok (.iconst (-1), 1) := by decide +kernel
theorem dX11_count_145 : decode cX11_count 145 = .ok (.ireturn, 1) := by decide +kernel
theorem dX11_colour_0 : decode cX11_colour 0 = .ok (.aload_n 0, 1) := by decide +kernel
theorem dX11_colour_1 : decode cX11_colour 1 = .ok (.getfield 12, 3) := by decide +kernel
theorem dX11_colour_4 : decode cX11_colour 4 = .ok (.iload_n 1, 1) := by decide +kernel
theorem dX11_colour_5 : decode cX11_colour 5 = .ok (.invokevirtual 108, 3) := by decide +kernel
theorem dX11_colour_8 : decode cX11_colour 8 = .ok (.ifCond .ne 5, 3) := by decide +kernel
theorem dX11_colour_11 : decode cX11_colour 11 = .ok (.iconst (-1), 1) := by decide +kernel
theorem dX11_colour_12 : decode cX11_colour 12 = .ok (.ireturn, 1) := by decide +kernel
theorem dX11_colour_13 : decode cX11_colour 13 = .ok (.aload_n 0, 1) := by decide +kernel
theorem dX11_colour_14 : decode cX11_colour 14 = .ok (.getfield 12, 3) := by decide +kernel
theorem dX11_colour_17 : decode cX11_colour 17 = .ok (.iload_n 1, 1) := by decide +kernel
theorem dX11_colour_18 : decode cX11_colour 18 = .ok (.invokevirtual 112, 3) := by decide +kernel
theorem dX11_colour_21 : decode cX11_colour 21 = .ok (.ifCond .eq 8, 3) := by decide +kernel
theorem dX11_colour_24 : decode cX11_colour 24 = .ok (.bipush (-9), 2) := by decide +kernel
theorem dX11_colour_26 : decode cX11_colour 26 = .ok (.goto 11, 3) := by decide +kernel
theorem dX11_colour_29 : decode cX11_colour 29 = .ok (.aload_n 0, 1) := by decide +kernel
theorem dX11_colour_30 : decode cX11_colour 30 = .ok (.getfield 12, 3) := by decide +kernel
theorem dX11_colour_33 : decode cX11_colour 33 = .ok (.iload_n 1, 1) := by decide +kernel
theorem dX11_colour_34 : decode cX11_colour 34 = .ok (.invokevirtual 121, 3) := by decide +kernel
theorem dX11_colour_37 : decode cX11_colour 37 = .ok (.ireturn, 1) := by decide +kernel
theorem dX11_piece_0 : decode cX11_piece 0 = .ok (.aload_n 0, 1) := by decide +kernel
theorem dX11_piece_1 : decode cX11_piece 1 = .ok (.getfield 12, 3) := by decide +kernel
theorem dX11_piece_4 : decode cX11_piece 4 = .ok (.iload_n 1, 1) := by decide +kernel
theorem dX11_piece_5 : decode cX11_piece 5 = .ok (.invokevirtual 141, 3) := by decide +kernel
theorem dX11_piece_8 : decode cX11_piece 8 = .ok (.ifCond .ne 5, 3) := by decide +kernel
theorem dX11_piece_11 : decode cX11_piece 11 = .ok (.iconst (-1), 1) := by decide +kernel
theorem dX11_piece_12 : decode cX11_piece 12 = .ok (.ireturn, 1) := by decide +kernel
theorem dX11_piece_13 : decode cX11_piece 13 = .ok (.iload_n 2, 1) := by decide +kernel
theorem dX11_piece_14 : decode cX11_piece 14 = .ok (.tableswitch 116 0 6 #[42, 51, 60, 69, 78, 90, 103], 42) := by decide +kernel
theorem dX11_piece_56 : decode cX11_piece 56 = .ok (.aload_n 0, 1) := by decide +kernel
theorem dX11_piece_57 : decode cX11_piece 57 = .ok (.getfield 12, 3) := by decide +kernel
theorem dX11_piece_60 : decode cX11_piece 60 = .ok (.iload_n 1, 1) := by decide +kernel
theorem dX11_piece_61 : decode cX11_piece 61 = .ok (.invokevirtual 182, 3) := by decide +kernel
theorem dX11_piece_64 : decode cX11_piece 64 = .ok (.ireturn, 1) := by decide +kernel
theorem dX11_piece_65 : decode cX11_piece 65 = .ok (.aload_n 0, 1) := by decide +kernel
theorem dX11_piece_66 : decode cX11_piece 66 = .ok (.getfield 12, 3) := by decide +kernel
theorem dX11_piece_69 : decode cX11_piece 69 = .ok (.iload_n 1, 1) := by decide +kernel
theorem dX11_piece_70 : decode cX11_piece 70 = .ok (.invokevirtual 185, 3) := by decide +kernel
theorem dX11_piece_73 : decode cX11_piece 73 = .ok (.ireturn, 1) := by decide +kernel
theorem dX11_piece_74 : decode cX11_piece 74 = .ok (.aload_n 0, 1) := by decide +kernel
theorem dX11_piece_75 : decode cX11_piece 75 = .ok (.getfield 12, 3) := by decide +kernel
theorem dX11_piece_78 : decode cX11_piece 78 = .ok (.iload_n 1, 1) := by decide +kernel
theorem dX11_piece_79 : decode cX11_piece 79 = .ok (.invokevirtual 188, 3) := by decide +kernel
theorem dX11_piece_82 : decode cX11_piece 82 = .ok (.ireturn, 1) := by decide +kernel
theorem dX11_piece_83 : decode cX11_piece 83 = .ok (.aload_n 0, 1) := by decide +kernel
theorem dX11_piece_84 : decode cX11_piece 84 = .ok (.getfield 12, 3) := by decide +kernel
theorem dX11_piece_87 : decode cX11_piece 87 = .ok (.iload_n 1, 1) := by decide +kernel
theorem dX11_piece_88 : decode cX11_piece 88 = .ok (.invokevirtual 148, 3) := by decide +kernel
theorem dX11_piece_91 : decode cX11_piece 91 = .ok (.ireturn, 1) := by decide +kernel
theorem dX11_piece_92 : decode cX11_piece 92 = .ok (.aload_n 0, 1) := by decide +kernel
theorem dX11_piece_93 : decode cX11_piece 93 = .ok (.getfield 12, 3) := by decide +kernel
theorem dX11_piece_96 : decode cX11_piece 96 = .ok (.iload_n 1, 1) := by decide +kernel
theorem dX11_piece_97 : decode cX11_piece 97 = .ok (.invokevirtual 182, 3) := by decide +kernel
theorem dX11_piece_100 : decode cX11_piece 100 = .ok (.invokestatic 191, 3) := by decide +kernel
theorem dX11_piece_103 : decode cX11_piece 103 = .ok (.ireturn, 1) := by decide +kernel
theorem dX11_piece_104 : decode cX11_piece 104 = .ok (.aload_n 0, 1) := by decide +kernel
theorem dX11_piece_105 : decode cX11_piece 105 = .ok (.invokevirtual 174, 3) := by decide +kernel
theorem dX11_piece_108 : decode cX11_piece 108 = .ok (.aload_n 0, 1) := by decide +kernel
theorem dX11_piece_109 : decode cX11_piece 109 = .ok (.getfield 33, 3) := by decide +kernel
theorem dX11_piece_112 : decode cX11_piece 112 = .ok (.iload_n 1, 1) := by decide +kernel
theorem dX11_piece_113 : decode cX11_piece 113 = .ok (.invokevirtual 196, 3) := by decide +kernel
theorem dX11_piece_116 : decode cX11_piece 116 = .ok (.ireturn, 1) := by decide +kernel
theorem dX11_piece_117 : decode cX11_piece 117 = .ok (.aload_n 0, 1) := by decide +kernel
theorem dX11_piece_118 : decode cX11_piece 118 = .ok (.invokevirtual 174, 3) := by decide +kernel
theorem dX11_piece_121 : decode cX11_piece 121 = .ok (.aload_n 0, 1) := by decide +kernel
theorem dX11_piece_122 : decode cX11_piece 122 = .ok (.getfield 40, 3) := by decide +kernel
theorem dX11_piece_125 : decode cX11_piece 125 = .ok (.iload_n 1, 1) := by decide +kernel
theorem dX11_piece_126 : decode cX11_piece 126 = .ok (.invokevirtual 199, 3) := by decide +kernel
theorem dX11_piece_129 : decode cX11_piece 129 = .ok (.ireturn, 1) := by decide +kernel
theorem dX11_piece_130 : decode cX11_piece 130 = .ok (.iconst (-1), 1) := by decide +kernel
theorem dX11_piece_131 : decode cX11_piece 131 = .ok (.ireturn, 1) := by decide +kernel
theorem dX11_form_0 : decode cX11_form 0 = .ok (.aload_n 0, 1) := by decide +kernel
theorem dX11_form_1 : decode cX11_form 1 = .ok (.getfield 12, 3) := by decide +kernel
theorem dX11_form_4 : decode cX11_form 4 = .ok (.iload_n 1, 1) := by decide +kernel
theorem dX11_form_5 : decode cX11_form 5 = .ok (.invokevirtual 141, 3) := by decide +kernel
theorem dX11_form_8 : decode cX11_form 8 = .ok (.ifCond .eq 7, 3) := by decide +kernel
theorem dX11_form_11 : decode cX11_form 11 = .ok (.iload_n 2, 1) := by decide +kernel
theorem dX11_form_12 : decode cX11_form 12 = .ok (.ifCond .ge 5, 3) := by decide +kernel
theorem dX11_form_15 : decode cX11_form 15 = .ok (.iconst (-1), 1) := by decide +kernel
theorem dX11_form_16 : decode cX11_form 16 = .ok (.ireturn, 1) := by decide +kernel
theorem dX11_form_17 : decode cX11_form 17 = .ok (.aload_n 0, 1) := by decide +kernel
theorem dX11_form_18 : decode cX11_form 18 = .ok (.invokevirtual 174, 3) := by decide +kernel
theorem dX11_form_21 : decode cX11_form 21 = .ok (.iload_n 2, 1) := by decide +kernel
theorem dX11_form_22 : decode cX11_form 22 = .ok (.aload_n 0, 1) := by decide +kernel
theorem dX11_form_23 : decode cX11_form 23 = .ok (.getfield 33, 3) := by decide +kernel
theorem dX11_form_26 : decode cX11_form 26 = .ok (.iload_n 1, 1) := by decide +kernel
theorem dX11_form_27 : decode cX11_form 27 = .ok (.invokevirtual 196, 3) := by decide +kernel
theorem dX11_form_30 : decode cX11_form 30 = .ok (.if_icmp .ge 15, 3) := by decide +kernel
theorem dX11_form_33 : decode cX11_form 33 = .ok (.aload_n 0, 1) := by decide +kernel
theorem dX11_form_34 : decode cX11_form 34 = .ok (.getfield 33, 3) := by decide +kernel
theorem dX11_form_37 : decode cX11_form 37 = .ok (.iload_n 1, 1) := by decide +kernel
theorem dX11_form_38 : decode cX11_form 38 = .ok (.iload_n 2, 1) := by decide +kernel
theorem dX11_form_39 : decode cX11_form 39 = .ok (.invokevirtual 200, 3) := by decide +kernel
theorem dX11_form_42 : decode cX11_form 42 = .ok (.goto 5, 3) := by decide +kernel
theorem dX11_form_45 : decode cX11_form 45 = .ok (.bipush (-9), 2) := by decide +kernel
theorem dX11_form_47 : decode cX11_form 47 = .ok (.ireturn, 1) := by decide +kernel
theorem dX11_placement_0 : decode cX11_placement 0 = .ok (.iload_n 1, 1) := by decide +kernel
theorem dX11_placement_1 : decode cX11_placement 1 = .ok (.ifCond .lt 12, 3) := by decide +kernel
theorem dX11_placement_4 : decode cX11_placement 4 = .ok (.iload_n 2, 1) := by decide +kernel
theorem dX11_placement_5 : decode cX11_placement 5 = .ok (.iconst 0, 1) := by decide +kernel
theorem dX11_placement_6 : decode cX11_placement 6 = .ok (.iconst 4, 1) := by decide +kernel
theorem dX11_placement_7 : decode cX11_placement 7 = .ok (.invokestatic 93, 3) := by decide +kernel
theorem dX11_placement_10 : decode cX11_placement 10 = .ok (.ifCond .ne 5, 3) := by decide +kernel
theorem dX11_placement_13 : decode cX11_placement 13 = .ok (.iconst (-1), 1) := by decide +kernel
theorem dX11_placement_14 : decode cX11_placement 14 = .ok (.ireturn, 1) := by decide +kernel
theorem dX11_placement_15 : decode cX11_placement 15 = .ok (.aload_n 0, 1) := by decide +kernel
theorem dX11_placement_16 : decode cX11_placement 16 = .ok (.invokevirtual 174, 3) := by decide +kernel
theorem dX11_placement_19 : decode cX11_placement 19 = .ok (.iload_n 1, 1) := by decide +kernel
theorem dX11_placement_20 : decode cX11_placement 20 = .ok (.aload_n 0, 1) := by decide +kernel
theorem dX11_placement_21 : decode cX11_placement 21 = .ok (.getfield 40, 3) := by decide +kernel
theorem dX11_placement_24 : decode cX11_placement 24 = .ok (.getfield 177, 3) := by decide +kernel
theorem dX11_placement_27 : decode cX11_placement 27 = .ok (.if_icmp .lt 6, 3) := by decide +kernel
theorem dX11_placement_30 : decode cX11_placement 30 = .ok (.bipush (-9), 2) := by decide +kernel
theorem dX11_placement_32 : decode cX11_placement 32 = .ok (.ireturn, 1) := by decide +kernel
theorem dX11_placement_33 : decode cX11_placement 33 = .ok (.iload_n 2, 1) := by decide +kernel
theorem dX11_placement_34 : decode cX11_placement 34 = .ok (.tableswitch 69 0 3 #[30, 39, 48, 57], 30) := by decide +kernel
theorem dX11_placement_64 : decode cX11_placement 64 = .ok (.aload_n 0, 1) := by decide +kernel
theorem dX11_placement_65 : decode cX11_placement 65 = .ok (.getfield 40, 3) := by decide +kernel
theorem dX11_placement_68 : decode cX11_placement 68 = .ok (.iload_n 1, 1) := by decide +kernel
theorem dX11_placement_69 : decode cX11_placement 69 = .ok (.invokevirtual 203, 3) := by decide +kernel
theorem dX11_placement_72 : decode cX11_placement 72 = .ok (.ireturn, 1) := by decide +kernel
theorem dX11_placement_73 : decode cX11_placement 73 = .ok (.aload_n 0, 1) := by decide +kernel
theorem dX11_placement_74 : decode cX11_placement 74 = .ok (.getfield 40, 3) := by decide +kernel
theorem dX11_placement_77 : decode cX11_placement 77 = .ok (.iload_n 1, 1) := by decide +kernel
theorem dX11_placement_78 : decode cX11_placement 78 = .ok (.invokevirtual 206, 3) := by decide +kernel
theorem dX11_placement_81 : decode cX11_placement 81 = .ok (.ireturn, 1) := by decide +kernel
theorem dX11_placement_82 : decode cX11_placement 82 = .ok (.aload_n 0, 1) := by decide +kernel
theorem dX11_placement_83 : decode cX11_placement 83 = .ok (.getfield 40, 3) := by decide +kernel
theorem dX11_placement_86 : decode cX11_placement 86 = .ok (.iload_n 1, 1) := by decide +kernel
theorem dX11_placement_87 : decode cX11_placement 87 = .ok (.invokevirtual 209, 3) := by decide +kernel
theorem dX11_placement_90 : decode cX11_placement 90 = .ok (.ireturn, 1) := by decide +kernel
theorem dX11_placement_91 : decode cX11_placement 91 = .ok (.aload_n 0, 1) := by decide +kernel
theorem dX11_placement_92 : decode cX11_placement 92 = .ok (.getfield 40, 3) := by decide +kernel
theorem dX11_placement_95 : decode cX11_placement 95 = .ok (.iload_n 1, 1) := by decide +kernel
theorem dX11_placement_96 : decode cX11_placement 96 = .ok (.invokevirtual 212, 3) := by decide +kernel
theorem dX11_placement_99 : decode cX11_placement 99 = .ok (.invokestatic 216, 3) := by decide +kernel
theorem dX11_placement_102 : decode cX11_placement 102 = .ok (.ireturn, 1) := by decide +kernel
theorem dX11_placement_103 : decode cX11_placement 103 = .ok (.aload_n 0, 1) := by decide +kernel
theorem dX11_placement_104 : decode cX11_placement 104 = .ok (.getfield 40, 3) := by decide +kernel
theorem dX11_placement_107 : decode cX11_placement 107 = .ok (.iload_n 1, 1) := by decide +kernel
theorem dX11_placement_108 : decode cX11_placement 108 = .ok (.invokevirtual 212, 3) := by decide +kernel
theorem dX11_placement_111 : decode cX11_placement 111 = .ok (.invokestatic 220, 3) := by decide +kernel
theorem dX11_placement_114 : decode cX11_placement 114 = .ok (.ireturn, 1) := by decide +kernel
theorem dX11_appendCharacter_0 : decode cX11_appendCharacter 0 = .ok (.iload_n 1, 1) := by decide +kernel
theorem dX11_appendCharacter_1 : decode cX11_appendCharacter 1 = .ok (.iconst 0, 1) := by decide +kernel
theorem dX11_appendCharacter_2 : decode cX11_appendCharacter 2 = .ok (.sipush 255, 3) := by decide +kernel
theorem dX11_appendCharacter_5 : decode cX11_appendCharacter 5 = .ok (.invokestatic 93, 3) := by decide +kernel
theorem dX11_appendCharacter_8 : decode cX11_appendCharacter 8 = .ok (.ifCond .ne 5, 3) := by decide +kernel
theorem dX11_appendCharacter_11 : decode cX11_appendCharacter 11 = .ok (.iconst (-1), 1) := by decide +kernel
theorem dX11_appendCharacter_12 : decode cX11_appendCharacter 12 = .ok (.ireturn, 1) := by decide +kernel
theorem dX11_appendCharacter_13 : decode cX11_appendCharacter 13 = .ok (.aload_n 0, 1) := by decide +kernel
theorem dX11_appendCharacter_14 : decode cX11_appendCharacter 14 = .ok (.getfield 26, 3) := by decide +kernel
theorem dX11_appendCharacter_17 : decode cX11_appendCharacter 17 = .ok (.getfield 223, 3) := by decide +kernel
theorem dX11_appendCharacter_20 : decode cX11_appendCharacter 20 = .ok (.sipush 160, 3) := by decide +kernel
theorem dX11_appendCharacter_23 : decode cX11_appendCharacter 23 = .ok (.if_icmp .lt 6, 3) := by decide +kernel
theorem dX11_appendCharacter_26 : decode cX11_appendCharacter 26 = .ok (.bipush (-3), 2) := by decide +kernel
theorem dX11_appendCharacter_28 : decode cX11_appendCharacter 28 = .ok (.ireturn, 1) := by decide +kernel
theorem dX11_appendCharacter_29 : decode cX11_appendCharacter 29 = .ok (.aload_n 0, 1) := by decide +kernel
theorem dX11_appendCharacter_30 : decode cX11_appendCharacter 30 = .ok (.getfield 26, 3) := by decide +kernel
theorem dX11_appendCharacter_33 : decode cX11_appendCharacter 33 = .ok (.iload_n 1, 1) := by decide +kernel
theorem dX11_appendCharacter_34 : decode cX11_appendCharacter 34 = .ok (.invokevirtual 226, 3) := by decide +kernel
theorem dX11_appendCharacter_37 : decode cX11_appendCharacter 37 = .ok (.aload_n 0, 1) := by decide +kernel
theorem dX11_appendCharacter_38 : decode cX11_appendCharacter 38 = .ok (.getfield 26, 3) := by decide +kernel
theorem dX11_appendCharacter_41 : decode cX11_appendCharacter 41 = .ok (.getfield 223, 3) := by decide +kernel
theorem dX11_appendCharacter_44 : decode cX11_appendCharacter 44 = .ok (.ireturn, 1) := by decide +kernel
theorem dX11_clearText_0 : decode cX11_clearText 0 = .ok (.aload_n 0, 1) := by decide +kernel
theorem dX11_clearText_1 : decode cX11_clearText 1 = .ok (.getfield 26, 3) := by decide +kernel
theorem dX11_clearText_4 : decode cX11_clearText 4 = .ok (.getfield 223, 3) := by decide +kernel
theorem dX11_clearText_7 : decode cX11_clearText 7 = .ok (.istore_n 1, 1) := by decide +kernel
theorem dX11_clearText_8 : decode cX11_clearText 8 = .ok (.aload_n 0, 1) := by decide +kernel
theorem dX11_clearText_9 : decode cX11_clearText 9 = .ok (.getfield 26, 3) := by decide +kernel
theorem dX11_clearText_12 : decode cX11_clearText 12 = .ok (.iconst 0, 1) := by decide +kernel
theorem dX11_clearText_13 : decode cX11_clearText 13 = .ok (.putfield 223, 3) := by decide +kernel
theorem dX11_clearText_16 : decode cX11_clearText 16 = .ok (.iload_n 1, 1) := by decide +kernel
theorem dX11_clearText_17 : decode cX11_clearText 17 = .ok (.ireturn, 1) := by decide +kernel
theorem dX11_load_0 : decode cX11_load 0 = .ok (.aload_n 0, 1) := by decide +kernel
theorem dX11_load_1 : decode cX11_load 1 = .ok (.getfield 26, 3) := by decide +kernel
theorem dX11_load_4 : decode cX11_load 4 = .ok (.invokevirtual 228, 3) := by decide +kernel
theorem dX11_load_7 : decode cX11_load 7 = .ok (.istore_n 1, 1) := by decide +kernel
theorem dX11_load_8 : decode cX11_load 8 = .ok (.iload_n 1, 1) := by decide +kernel
theorem dX11_load_9 : decode cX11_load 9 = .ok (.iconst (-1), 1) := by decide +kernel
theorem dX11_load_10 : decode cX11_load 10 = .ok (.if_icmp .eq 8, 3) := by decide +kernel
theorem dX11_load_13 : decode cX11_load 13 = .ok (.bipush (-10), 2) := by decide +kernel
theorem dX11_load_15 : decode cX11_load 15 = .ok (.iload_n 1, 1) := by decide +kernel
theorem dX11_load_16 : decode cX11_load 16 = .ok (.isub, 1) := by decide +kernel
theorem dX11_load_17 : decode cX11_load 17 = .ok (.ireturn, 1) := by decide +kernel
theorem dX11_load_18 : decode cX11_load 18 = .ok (.aload_n 0, 1) := by decide +kernel
theorem dX11_load_19 : decode cX11_load 19 = .ok (.invokevirtual 97, 3) := by decide +kernel
theorem dX11_load_22 : decode cX11_load 22 = .ok (.aload_n 0, 1) := by decide +kernel
theorem dX11_load_23 : decode cX11_load 23 = .ok (.getfield 26, 3) := by decide +kernel
theorem dX11_load_26 : decode cX11_load 26 = .ok (.aload_n 0, 1) := by decide +kernel
theorem dX11_load_27 : decode cX11_load 27 = .ok (.getfield 12, 3) := by decide +kernel
theorem dX11_load_30 : decode cX11_load 30 = .ok (.invokevirtual 231, 3) := by decide +kernel
theorem dX11_load_33 : decode cX11_load 33 = .ok (.aload_n 0, 1) := by decide +kernel
theorem dX11_load_34 : decode cX11_load 34 = .ok (.getfield 26, 3) := by decide +kernel
theorem dX11_load_37 : decode cX11_load 37 = .ok (.iconst 0, 1) := by decide +kernel
theorem dX11_load_38 : decode cX11_load 38 = .ok (.putfield 223, 3) := by decide +kernel
theorem dX11_load_41 : decode cX11_load 41 = .ok (.aload_n 0, 1) := by decide +kernel
theorem dX11_load_42 : decode cX11_load 42 = .ok (.getfield 12, 3) := by decide +kernel
theorem dX11_load_45 : decode cX11_load 45 = .ok (.getfield 130, 3) := by decide +kernel
theorem dX11_load_48 : decode cX11_load 48 = .ok (.ireturn, 1) := by decide +kernel
theorem dX11_covers_0 : decode cX11_covers 0 = .ok (.aload_n 0, 1) := by decide +kernel
theorem dX11_covers_1 : decode cX11_covers 1 = .ok (.invokevirtual 235, 3) := by decide +kernel
theorem dX11_covers_4 : decode cX11_covers 4 = .ok (.aload_n 0, 1) := by decide +kernel
theorem dX11_covers_5 : decode cX11_covers 5 = .ok (.getfield 65, 3) := by decide +kernel
theorem dX11_covers_8 : decode cX11_covers 8 = .ok (.getfield 238, 3) := by decide +kernel
theorem dX11_covers_11 : decode cX11_covers 11 = .ok (.ifCond .eq 13, 3) := by decide +kernel
theorem dX11_covers_14 : decode cX11_covers 14 = .ok (.aload_n 0, 1) := by decide +kernel
theorem dX11_covers_15 : decode cX11_covers 15 = .ok (.getfield 65, 3) := by decide +kernel
theorem dX11_covers_18 : decode cX11_covers 18 = .ok (.getfield 241, 3) := by decide +kernel
theorem dX11_covers_21 : decode cX11_covers 21 = .ok (.goto 5, 3) := by decide +kernel
theorem dX11_covers_24 : decode cX11_covers 24 = .ok (.bipush (-4), 2) := by decide +kernel
theorem dX11_covers_26 : decode cX11_covers 26 = .ok (.ireturn, 1) := by decide +kernel
theorem dX11_tries_0 : decode cX11_tries 0 = .ok (.aload_n 0, 1) := by decide +kernel
theorem dX11_tries_1 : decode cX11_tries 1 = .ok (.invokevirtual 235, 3) := by decide +kernel
theorem dX11_tries_4 : decode cX11_tries 4 = .ok (.aload_n 0, 1) := by decide +kernel
theorem dX11_tries_5 : decode cX11_tries 5 = .ok (.getfield 65, 3) := by decide +kernel
theorem dX11_tries_8 : decode cX11_tries 8 = .ok (.getfield 238, 3) := by decide +kernel
theorem dX11_tries_11 : decode cX11_tries 11 = .ok (.ifCond .eq 13, 3) := by decide +kernel
theorem dX11_tries_14 : decode cX11_tries 14 = .ok (.aload_n 0, 1) := by decide +kernel
theorem dX11_tries_15 : decode cX11_tries 15 = .ok (.getfield 65, 3) := by decide +kernel
theorem dX11_tries_18 : decode cX11_tries 18 = .ok (.getfield 242, 3) := by decide +kernel
theorem dX11_tries_21 : decode cX11_tries 21 = .ok (.goto 5, 3) := by decide +kernel
theorem dX11_tries_24 : decode cX11_tries 24 = .ok (.bipush (-4), 2) := by decide +kernel
theorem dX11_tries_26 : decode cX11_tries 26 = .ok (.ireturn, 1) := by decide +kernel
theorem dX11_coverAt_0 : decode cX11_coverAt 0 = .ok (.iload_n 1, 1) := by decide +kernel
theorem dX11_coverAt_1 : decode cX11_coverAt 1 = .ok (.ifCond .lt 14, 3) := by decide +kernel
theorem dX11_coverAt_4 : decode cX11_coverAt 4 = .ok (.aload_n 0, 1) := by decide +kernel
theorem dX11_coverAt_5 : decode cX11_coverAt 5 = .ok (.getfield 12, 3) := by decide +kernel
theorem dX11_coverAt_8 : decode cX11_coverAt 8 = .ok (.iload_n 2, 1) := by decide +kernel
theorem dX11_coverAt_9 : decode cX11_coverAt 9 = .ok (.invokevirtual 108, 3) := by decide +kernel
theorem dX11_coverAt_12 : decode cX11_coverAt 12 = .ok (.ifCond .ne 5, 3) := by decide +kernel
theorem dX11_coverAt_15 : decode cX11_coverAt 15 = .ok (.iconst (-1), 1) := by decide +kernel
theorem dX11_coverAt_16 : decode cX11_coverAt 16 = .ok (.ireturn, 1) := by decide +kernel
theorem dX11_coverAt_17 : decode cX11_coverAt 17 = .ok (.aload_n 0, 1) := by decide +kernel
theorem dX11_coverAt_18 : decode cX11_coverAt 18 = .ok (.invokevirtual 235, 3) := by decide +kernel
theorem dX11_coverAt_21 : decode cX11_coverAt 21 = .ok (.iload_n 1, 1) := by decide +kernel
theorem dX11_coverAt_22 : decode cX11_coverAt 22 = .ok (.aload_n 0, 1) := by decide +kernel
theorem dX11_coverAt_23 : decode cX11_coverAt 23 = .ok (.getfield 65, 3) := by decide +kernel
theorem dX11_coverAt_26 : decode cX11_coverAt 26 = .ok (.getfield 241, 3) := by decide +kernel
theorem dX11_coverAt_29 : decode cX11_coverAt 29 = .ok (.if_icmp .lt 8, 3) := by decide +kernel
theorem dX11_coverAt_32 : decode cX11_coverAt 32 = .ok (.aload_n 0, 1) := by decide +kernel
theorem dX11_coverAt_33 : decode cX11_coverAt 33 = .ok (.invokevirtual 245, 3) := by decide +kernel
theorem dX11_coverAt_36 : decode cX11_coverAt 36 = .ok (.ireturn, 1) := by decide +kernel
theorem dX11_coverAt_37 : decode cX11_coverAt 37 = .ok (.aload_n 0, 1) := by decide +kernel
theorem dX11_coverAt_38 : decode cX11_coverAt 38 = .ok (.getfield 12, 3) := by decide +kernel
theorem dX11_coverAt_41 : decode cX11_coverAt 41 = .ok (.iload_n 2, 1) := by decide +kernel
theorem dX11_coverAt_42 : decode cX11_coverAt 42 = .ok (.invokevirtual 112, 3) := by decide +kernel
theorem dX11_coverAt_45 : decode cX11_coverAt 45 = .ok (.ifCond .eq 6, 3) := by decide +kernel
theorem dX11_coverAt_48 : decode cX11_coverAt 48 = .ok (.bipush (-9), 2) := by decide +kernel
theorem dX11_coverAt_50 : decode cX11_coverAt 50 = .ok (.ireturn, 1) := by decide +kernel
theorem dX11_coverAt_51 : decode cX11_coverAt 51 = .ok (.aload_n 0, 1) := by decide +kernel
theorem dX11_coverAt_52 : decode cX11_coverAt 52 = .ok (.getfield 65, 3) := by decide +kernel
theorem dX11_coverAt_55 : decode cX11_coverAt 55 = .ok (.aload_n 0, 1) := by decide +kernel
theorem dX11_coverAt_56 : decode cX11_coverAt 56 = .ok (.getfield 65, 3) := by decide +kernel
theorem dX11_coverAt_59 : decode cX11_coverAt 59 = .ok (.iload_n 1, 1) := by decide +kernel
theorem dX11_coverAt_60 : decode cX11_coverAt 60 = .ok (.iconst 0, 1) := by decide +kernel
theorem dX11_coverAt_61 : decode cX11_coverAt 61 = .ok (.invokevirtual 248, 3) := by decide +kernel
theorem dX11_coverAt_64 : decode cX11_coverAt 64 = .ok (.iload_n 2, 1) := by decide +kernel
theorem dX11_coverAt_65 : decode cX11_coverAt 65 = .ok (.invokevirtual 251, 3) := by decide +kernel
theorem dX11_coverAt_68 : decode cX11_coverAt 68 = .ok (.ireturn, 1) := by decide +kernel
theorem dX11_used_0 : decode cX11_used 0 = .ok (.iload_n 1, 1) := by decide +kernel
theorem dX11_used_1 : decode cX11_used 1 = .ok (.ifCond .lt 14, 3) := by decide +kernel
theorem dX11_used_4 : decode cX11_used 4 = .ok (.aload_n 0, 1) := by decide +kernel
theorem dX11_used_5 : decode cX11_used 5 = .ok (.getfield 12, 3) := by decide +kernel
theorem dX11_used_8 : decode cX11_used 8 = .ok (.iload_n 2, 1) := by decide +kernel
theorem dX11_used_9 : decode cX11_used 9 = .ok (.invokevirtual 141, 3) := by decide +kernel
theorem dX11_used_12 : decode cX11_used 12 = .ok (.ifCond .ne 5, 3) := by decide +kernel
theorem dX11_used_15 : decode cX11_used 15 = .ok (.iconst (-1), 1) := by decide +kernel
theorem dX11_used_16 : decode cX11_used 16 = .ok (.ireturn, 1) := by decide +kernel
theorem dX11_used_17 : decode cX11_used 17 = .ok (.aload_n 0, 1) := by decide +kernel
theorem dX11_used_18 : decode cX11_used 18 = .ok (.invokevirtual 235, 3) := by decide +kernel
theorem dX11_used_21 : decode cX11_used 21 = .ok (.iload_n 1, 1) := by decide +kernel
theorem dX11_used_22 : decode cX11_used 22 = .ok (.aload_n 0, 1) := by decide +kernel
theorem dX11_used_23 : decode cX11_used 23 = .ok (.getfield 65, 3) := by decide +kernel
theorem dX11_used_26 : decode cX11_used 26 = .ok (.getfield 241, 3) := by decide +kernel
theorem dX11_used_29 : decode cX11_used 29 = .ok (.if_icmp .lt 8, 3) := by decide +kernel
theorem dX11_used_32 : decode cX11_used 32 = .ok (.aload_n 0, 1) := by decide +kernel
theorem dX11_used_33 : decode cX11_used 33 = .ok (.invokevirtual 245, 3) := by decide +kernel
theorem dX11_used_36 : decode cX11_used 36 = .ok (.ireturn, 1) := by decide +kernel
theorem dX11_used_37 : decode cX11_used 37 = .ok (.aload_n 0, 1) := by decide +kernel
theorem dX11_used_38 : decode cX11_used 38 = .ok (.getfield 65, 3) := by decide +kernel
theorem dX11_used_41 : decode cX11_used 41 = .ok (.iload_n 2, 1) := by decide +kernel
theorem dX11_used_42 : decode cX11_used 42 = .ok (.aload_n 0, 1) := by decide +kernel
theorem dX11_used_43 : decode cX11_used 43 = .ok (.getfield 65, 3) := by decide +kernel
theorem dX11_used_46 : decode cX11_used 46 = .ok (.iload_n 1, 1) := by decide +kernel
theorem dX11_used_47 : decode cX11_used 47 = .ok (.iconst 0, 1) := by decide +kernel
theorem dX11_used_48 : decode cX11_used 48 = .ok (.invokevirtual 248, 3) := by decide +kernel
theorem dX11_used_51 : decode cX11_used 51 = .ok (.invokevirtual 254, 3) := by decide +kernel
theorem dX11_used_54 : decode cX11_used 54 = .ok (.ireturn, 1) := by decide +kernel
theorem dX11_classes_0 : decode cX11_classes 0 = .ok (.aload_n 0, 1) := by decide +kernel
theorem dX11_classes_1 : decode cX11_classes 1 = .ok (.invokevirtual 235, 3) := by decide +kernel
theorem dX11_classes_4 : decode cX11_classes 4 = .ok (.aload_n 0, 1) := by decide +kernel
theorem dX11_classes_5 : decode cX11_classes 5 = .ok (.getfield 65, 3) := by decide +kernel
theorem dX11_classes_8 : decode cX11_classes 8 = .ok (.getfield 238, 3) := by decide +kernel
theorem dX11_classes_11 : decode cX11_classes 11 = .ok (.ifCond .ne 6, 3) := by decide +kernel
theorem dX11_classes_14 : decode cX11_classes 14 = .ok (.bipush (-4), 2) := by decide +kernel
theorem dX11_classes_16 : decode cX11_classes 16 = .ok (.ireturn, 1) := by decide +kernel
theorem dX11_classes_17 : decode cX11_classes 17 = .ok (.aload_n 0, 1) := by decide +kernel
theorem dX11_classes_18 : decode cX11_classes 18 = .ok (.getfield 65, 3) := by decide +kernel
theorem dX11_classes_21 : decode cX11_classes 21 = .ok (.getfield 241, 3) := by decide +kernel
theorem dX11_classes_24 : decode cX11_classes 24 = .ok (.bipush 100, 2) := by decide +kernel
theorem dX11_classes_26 : decode cX11_classes 26 = .ok (.if_icmp .le 8, 3) := by decide +kernel
theorem dX11_classes_29 : decode cX11_classes 29 = .ok (.bipush (-3), 2) := by decide +kernel
theorem dX11_classes_31 : decode cX11_classes 31 = .ok (.goto 10, 3) := by decide +kernel
theorem dX11_classes_34 : decode cX11_classes 34 = .ok (.aload_n 0, 1) := by decide +kernel
theorem dX11_classes_35 : decode cX11_classes 35 = .ok (.getfield 65, 3) := by decide +kernel
theorem dX11_classes_38 : decode cX11_classes 38 = .ok (.invokevirtual 257, 3) := by decide +kernel
theorem dX11_classes_41 : decode cX11_classes 41 = .ok (.ireturn, 1) := by decide +kernel
theorem dX11_alike_0 : decode cX11_alike 0 = .ok (.iload_n 1, 1) := by decide +kernel
theorem dX11_alike_1 : decode cX11_alike 1 = .ok (.ifCond .lt 7, 3) := by decide +kernel
theorem dX11_alike_4 : decode cX11_alike 4 = .ok (.iload_n 2, 1) := by decide +kernel
theorem dX11_alike_5 : decode cX11_alike 5 = .ok (.ifCond .ge 5, 3) := by decide +kernel
theorem dX11_alike_8 : decode cX11_alike 8 = .ok (.iconst (-1), 1) := by decide +kernel
theorem dX11_alike_9 : decode cX11_alike 9 = .ok (.ireturn, 1) := by decide +kernel
theorem dX11_alike_10 : decode cX11_alike 10 = .ok (.aload_n 0, 1) := by decide +kernel
theorem dX11_alike_11 : decode cX11_alike 11 = .ok (.invokevirtual 235, 3) := by decide +kernel
theorem dX11_alike_14 : decode cX11_alike 14 = .ok (.iload_n 1, 1) := by decide +kernel
theorem dX11_alike_15 : decode cX11_alike 15 = .ok (.aload_n 0, 1) := by decide +kernel
theorem dX11_alike_16 : decode cX11_alike 16 = .ok (.getfield 65, 3) := by decide +kernel
theorem dX11_alike_19 : decode cX11_alike 19 = .ok (.getfield 241, 3) := by decide +kernel
theorem dX11_alike_22 : decode cX11_alike 22 = .ok (.if_icmp .ge 14, 3) := by decide +kernel
theorem dX11_alike_25 : decode cX11_alike 25 = .ok (.iload_n 2, 1) := by decide +kernel
theorem dX11_alike_26 : decode cX11_alike 26 = .ok (.aload_n 0, 1) := by decide +kernel
theorem dX11_alike_27 : decode cX11_alike 27 = .ok (.getfield 65, 3) := by decide +kernel
theorem dX11_alike_30 : decode cX11_alike 30 = .ok (.getfield 241, 3) := by decide +kernel
theorem dX11_alike_33 : decode cX11_alike 33 = .ok (.if_icmp .lt 8, 3) := by decide +kernel
theorem dX11_alike_36 : decode cX11_alike 36 = .ok (.aload_n 0, 1) := by decide +kernel
theorem dX11_alike_37 : decode cX11_alike 37 = .ok (.invokevirtual 245, 3) := by decide +kernel
theorem dX11_alike_40 : decode cX11_alike 40 = .ok (.ireturn, 1) := by decide +kernel
theorem dX11_alike_41 : decode cX11_alike 41 = .ok (.aload_n 0, 1) := by decide +kernel
theorem dX11_alike_42 : decode cX11_alike 42 = .ok (.getfield 65, 3) := by decide +kernel
theorem dX11_alike_45 : decode cX11_alike 45 = .ok (.aload_n 0, 1) := by decide +kernel
theorem dX11_alike_46 : decode cX11_alike 46 = .ok (.getfield 65, 3) := by decide +kernel
theorem dX11_alike_49 : decode cX11_alike 49 = .ok (.iload_n 1, 1) := by decide +kernel
theorem dX11_alike_50 : decode cX11_alike 50 = .ok (.iconst 0, 1) := by decide +kernel
theorem dX11_alike_51 : decode cX11_alike 51 = .ok (.invokevirtual 248, 3) := by decide +kernel
theorem dX11_alike_54 : decode cX11_alike 54 = .ok (.aload_n 0, 1) := by decide +kernel
theorem dX11_alike_55 : decode cX11_alike 55 = .ok (.getfield 65, 3) := by decide +kernel
theorem dX11_alike_58 : decode cX11_alike 58 = .ok (.iload_n 2, 1) := by decide +kernel
theorem dX11_alike_59 : decode cX11_alike 59 = .ok (.iconst 1, 1) := by decide +kernel
theorem dX11_alike_60 : decode cX11_alike 60 = .ok (.invokevirtual 248, 3) := by decide +kernel
theorem dX11_alike_63 : decode cX11_alike 63 = .ok (.invokevirtual 260, 3) := by decide +kernel
theorem dX11_alike_66 : decode cX11_alike 66 = .ok (.ifCond .eq 7, 3) := by decide +kernel
theorem dX11_alike_69 : decode cX11_alike 69 = .ok (.iconst 1, 1) := by decide +kernel
theorem dX11_alike_70 : decode cX11_alike 70 = .ok (.goto 4, 3) := by decide +kernel
theorem dX11_alike_73 : decode cX11_alike 73 = .ok (.iconst 0, 1) := by decide +kernel
theorem dX11_alike_74 : decode cX11_alike 74 = .ok (.ireturn, 1) := by decide +kernel
theorem dX11_fewest_0 : decode cX11_fewest 0 = .ok (.aload_n 0, 1) := by decide +kernel
theorem dX11_fewest_1 : decode cX11_fewest 1 = .ok (.invokevirtual 235, 3) := by decide +kernel
theorem dX11_fewest_4 : decode cX11_fewest 4 = .ok (.aload_n 0, 1) := by decide +kernel
theorem dX11_fewest_5 : decode cX11_fewest 5 = .ok (.getfield 65, 3) := by decide +kernel
theorem dX11_fewest_8 : decode cX11_fewest 8 = .ok (.getfield 238, 3) := by decide +kernel
theorem dX11_fewest_11 : decode cX11_fewest 11 = .ok (.ifCond .ne 6, 3) := by decide +kernel
theorem dX11_fewest_14 : decode cX11_fewest 14 = .ok (.bipush (-4), 2) := by decide +kernel
theorem dX11_fewest_16 : decode cX11_fewest 16 = .ok (.ireturn, 1) := by decide +kernel
theorem dX11_fewest_17 : decode cX11_fewest 17 = .ok (.aload_n 0, 1) := by decide +kernel
theorem dX11_fewest_18 : decode cX11_fewest 18 = .ok (.getfield 65, 3) := by decide +kernel
theorem dX11_fewest_21 : decode cX11_fewest 21 = .ok (.getfield 241, 3) := by decide +kernel
theorem dX11_fewest_24 : decode cX11_fewest 24 = .ok (.ifCond .ne 8, 3) := by decide +kernel
theorem dX11_fewest_27 : decode cX11_fewest 27 = .ok (.bipush (-9), 2) := by decide +kernel
theorem dX11_fewest_29 : decode cX11_fewest 29 = .ok (.goto 10, 3) := by decide +kernel
theorem dX11_fewest_32 : decode cX11_fewest 32 = .ok (.aload_n 0, 1) := by decide +kernel
theorem dX11_fewest_33 : decode cX11_fewest 33 = .ok (.getfield 65, 3) := by decide +kernel
theorem dX11_fewest_36 : decode cX11_fewest 36 = .ok (.getfield 264, 3) := by decide +kernel
theorem dX11_fewest_39 : decode cX11_fewest 39 = .ok (.ireturn, 1) := by decide +kernel
theorem dX11_useful_0 : decode cX11_useful 0 = .ok (.aload_n 0, 1) := by decide +kernel
theorem dX11_useful_1 : decode cX11_useful 1 = .ok (.getfield 12, 3) := by decide +kernel
theorem dX11_useful_4 : decode cX11_useful 4 = .ok (.iload_n 1, 1) := by decide +kernel
theorem dX11_useful_5 : decode cX11_useful 5 = .ok (.invokevirtual 141, 3) := by decide +kernel
theorem dX11_useful_8 : decode cX11_useful 8 = .ok (.ifCond .ne 5, 3) := by decide +kernel
theorem dX11_useful_11 : decode cX11_useful 11 = .ok (.iconst (-1), 1) := by decide +kernel
theorem dX11_useful_12 : decode cX11_useful 12 = .ok (.ireturn, 1) := by decide +kernel
theorem dX11_useful_13 : decode cX11_useful 13 = .ok (.aload_n 0, 1) := by decide +kernel
theorem dX11_useful_14 : decode cX11_useful 14 = .ok (.invokevirtual 267, 3) := by decide +kernel
theorem dX11_useful_17 : decode cX11_useful 17 = .ok (.aload_n 0, 1) := by decide +kernel
theorem dX11_useful_18 : decode cX11_useful 18 = .ok (.getfield 72, 3) := by decide +kernel
theorem dX11_useful_21 : decode cX11_useful 21 = .ok (.aload_n 0, 1) := by decide +kernel
theorem dX11_useful_22 : decode cX11_useful 22 = .ok (.getfield 40, 3) := by decide +kernel
theorem dX11_useful_25 : decode cX11_useful 25 = .ok (.iload_n 1, 1) := by decide +kernel
theorem dX11_useful_26 : decode cX11_useful 26 = .ok (.invokevirtual 270, 3) := by decide +kernel
theorem dX11_useful_29 : decode cX11_useful 29 = .ok (.ireturn, 1) := by decide +kernel
theorem dX11_usefulAt_0 : decode cX11_usefulAt 0 = .ok (.aload_n 0, 1) := by decide +kernel
theorem dX11_usefulAt_1 : decode cX11_usefulAt 1 = .ok (.getfield 12, 3) := by decide +kernel
theorem dX11_usefulAt_4 : decode cX11_usefulAt 4 = .ok (.iload_n 1, 1) := by decide +kernel
theorem dX11_usefulAt_5 : decode cX11_usefulAt 5 = .ok (.invokevirtual 108, 3) := by decide +kernel
theorem dX11_usefulAt_8 : decode cX11_usefulAt 8 = .ok (.ifCond .ne 5, 3) := by decide +kernel
theorem dX11_usefulAt_11 : decode cX11_usefulAt 11 = .ok (.iconst (-1), 1) := by decide +kernel
theorem dX11_usefulAt_12 : decode cX11_usefulAt 12 = .ok (.ireturn, 1) := by decide +kernel
theorem dX11_usefulAt_13 : decode cX11_usefulAt 13 = .ok (.aload_n 0, 1) := by decide +kernel
theorem dX11_usefulAt_14 : decode cX11_usefulAt 14 = .ok (.getfield 12, 3) := by decide +kernel
theorem dX11_usefulAt_17 : decode cX11_usefulAt 17 = .ok (.iload_n 1, 1) := by decide +kernel
theorem dX11_usefulAt_18 : decode cX11_usefulAt 18 = .ok (.invokevirtual 112, 3) := by decide +kernel
theorem dX11_usefulAt_21 : decode cX11_usefulAt 21 = .ok (.ifCond .eq 6, 3) := by decide +kernel
theorem dX11_usefulAt_24 : decode cX11_usefulAt 24 = .ok (.bipush (-9), 2) := by decide +kernel
theorem dX11_usefulAt_26 : decode cX11_usefulAt 26 = .ok (.ireturn, 1) := by decide +kernel
theorem dX11_usefulAt_27 : decode cX11_usefulAt 27 = .ok (.aload_n 0, 1) := by decide +kernel
theorem dX11_usefulAt_28 : decode cX11_usefulAt 28 = .ok (.invokevirtual 267, 3) := by decide +kernel
theorem dX11_usefulAt_31 : decode cX11_usefulAt 31 = .ok (.aload_n 0, 1) := by decide +kernel
theorem dX11_usefulAt_32 : decode cX11_usefulAt 32 = .ok (.getfield 72, 3) := by decide +kernel
theorem dX11_usefulAt_35 : decode cX11_usefulAt 35 = .ok (.aload_n 0, 1) := by decide +kernel
theorem dX11_usefulAt_36 : decode cX11_usefulAt 36 = .ok (.getfield 40, 3) := by decide +kernel
theorem dX11_usefulAt_39 : decode cX11_usefulAt 39 = .ok (.iload_n 1, 1) := by decide +kernel
theorem dX11_usefulAt_40 : decode cX11_usefulAt 40 = .ok (.invokevirtual 274, 3) := by decide +kernel
theorem dX11_usefulAt_43 : decode cX11_usefulAt 43 = .ok (.ireturn, 1) := by decide +kernel
theorem dX11_proves_0 : decode cX11_proves 0 = .ok (.iload_n 3, 1) := by decide +kernel
theorem dX11_proves_1 : decode cX11_proves 1 = .ok (.iconst 2, 1) := by decide +kernel
theorem dX11_proves_2 : decode cX11_proves 2 = .ok (.iconst 5, 1) := by decide +kernel
theorem dX11_proves_3 : decode cX11_proves 3 = .ok (.invokestatic 93, 3) := by decide +kernel
theorem dX11_proves_6 : decode cX11_proves 6 = .ok (.ifCond .eq 25, 3) := by decide +kernel
theorem dX11_proves_9 : decode cX11_proves 9 = .ok (.iload_n 1, 1) := by decide +kernel
theorem dX11_proves_10 : decode cX11_proves 10 = .ok (.iconst 0, 1) := by decide +kernel
theorem dX11_proves_11 : decode cX11_proves 11 = .ok (.iload_n 3, 1) := by decide +kernel
theorem dX11_proves_12 : decode cX11_proves 12 = .ok (.iconst 1, 1) := by decide +kernel
theorem dX11_proves_13 : decode cX11_proves 13 = .ok (.isub, 1) := by decide +kernel
theorem dX11_proves_14 : decode cX11_proves 14 = .ok (.invokestatic 93, 3) := by decide +kernel
theorem dX11_proves_17 : decode cX11_proves 17 = .ok (.ifCond .eq 14, 3) := by decide +kernel
theorem dX11_proves_20 : decode cX11_proves 20 = .ok (.iload_n 2, 1) := by decide +kernel
theorem dX11_proves_21 : decode cX11_proves 21 = .ok (.iconst 0, 1) := by decide +kernel
theorem dX11_proves_22 : decode cX11_proves 22 = .ok (.iload_n 3, 1) := by decide +kernel
theorem dX11_proves_23 : decode cX11_proves 23 = .ok (.iconst 1, 1) := by decide +kernel
theorem dX11_proves_24 : decode cX11_proves 24 = .ok (.isub, 1) := by decide +kernel
theorem dX11_proves_25 : decode cX11_proves 25 = .ok (.invokestatic 93, 3) := by decide +kernel
theorem dX11_proves_28 : decode cX11_proves 28 = .ok (.ifCond .ne 5, 3) := by decide +kernel
theorem dX11_proves_31 : decode cX11_proves 31 = .ok (.iconst (-1), 1) := by decide +kernel
theorem dX11_proves_32 : decode cX11_proves 32 = .ok (.ireturn, 1) := by decide +kernel
theorem dX11_proves_33 : decode cX11_proves 33 = .ok (.aload_n 0, 1) := by decide +kernel
theorem dX11_proves_34 : decode cX11_proves 34 = .ok (.invokevirtual 174, 3) := by decide +kernel
theorem dX11_proves_37 : decode cX11_proves 37 = .ok (.aload_n 0, 1) := by decide +kernel
theorem dX11_proves_38 : decode cX11_proves 38 = .ok (.getfield 79, 3) := by decide +kernel
theorem dX11_proves_41 : decode cX11_proves 41 = .ok (.aload_n 0, 1) := by decide +kernel
theorem dX11_proves_42 : decode cX11_proves 42 = .ok (.getfield 12, 3) := by decide +kernel
theorem dX11_proves_45 : decode cX11_proves 45 = .ok (.aload_n 0, 1) := by decide +kernel
theorem dX11_proves_46 : decode cX11_proves 46 = .ok (.getfield 40, 3) := by decide +kernel
theorem dX11_proves_49 : decode cX11_proves 49 = .ok (.iload_n 1, 1) := by decide +kernel
theorem dX11_proves_50 : decode cX11_proves 50 = .ok (.iload_n 2, 1) := by decide +kernel
theorem dX11_proves_51 : decode cX11_proves 51 = .ok (.iload_n 3, 1) := by decide +kernel
theorem dX11_proves_52 : decode cX11_proves 52 = .ok (.invokevirtual 277, 3) := by decide +kernel
theorem dX11_proves_55 : decode cX11_proves 55 = .ok (.ifCond .eq 7, 3) := by decide +kernel
theorem dX11_proves_58 : decode cX11_proves 58 = .ok (.iconst 1, 1) := by decide +kernel
theorem dX11_proves_59 : decode cX11_proves 59 = .ok (.goto 4, 3) := by decide +kernel
theorem dX11_proves_62 : decode cX11_proves 62 = .ok (.iconst 0, 1) := by decide +kernel
theorem dX11_proves_63 : decode cX11_proves 63 = .ok (.ireturn, 1) := by decide +kernel
theorem dX11_proof_0 : decode cX11_proof 0 = .ok (.aload_n 0, 1) := by decide +kernel
theorem dX11_proof_1 : decode cX11_proof 1 = .ok (.invokevirtual 174, 3) := by decide +kernel
theorem dX11_proof_4 : decode cX11_proof 4 = .ok (.iconst 2, 1) := by decide +kernel
theorem dX11_proof_5 : decode cX11_proof 5 = .ok (.istore_n 1, 1) := by decide +kernel
theorem dX11_proof_6 : decode cX11_proof 6 = .ok (.iload_n 1, 1) := by decide +kernel
theorem dX11_proof_7 : decode cX11_proof 7 = .ok (.iconst 5, 1) := by decide +kernel
theorem dX11_proof_8 : decode cX11_proof 8 = .ok (.if_icmp .gt 68, 3) := by decide +kernel
theorem dX11_proof_11 : decode cX11_proof 11 = .ok (.iconst 0, 1) := by decide +kernel
theorem dX11_proof_12 : decode cX11_proof 12 = .ok (.istore_n 2, 1) := by decide +kernel
theorem dX11_proof_13 : decode cX11_proof 13 = .ok (.iload_n 2, 1) := by decide +kernel
theorem dX11_proof_14 : decode cX11_proof 14 = .ok (.iload_n 1, 1) := by decide +kernel
theorem dX11_proof_15 : decode cX11_proof 15 = .ok (.if_icmp .ge 55, 3) := by decide +kernel
theorem dX11_proof_18 : decode cX11_proof 18 = .ok (.iconst 0, 1) := by decide +kernel
theorem dX11_proof_19 : decode cX11_proof 19 = .ok (.istore_n 3, 1) := by decide +kernel
theorem dX11_proof_20 : decode cX11_proof 20 = .ok (.iload_n 3, 1) := by decide +kernel
theorem dX11_proof_21 : decode cX11_proof 21 = .ok (.iload_n 1, 1) := by decide +kernel
theorem dX11_proof_22 : decode cX11_proof 22 = .ok (.if_icmp .ge 42, 3) := by decide +kernel
theorem dX11_proof_25 : decode cX11_proof 25 = .ok (.aload_n 0, 1) := by decide +kernel
theorem dX11_proof_26 : decode cX11_proof 26 = .ok (.getfield 79, 3) := by decide +kernel
theorem dX11_proof_29 : decode cX11_proof 29 = .ok (.aload_n 0, 1) := by decide +kernel
theorem dX11_proof_30 : decode cX11_proof 30 = .ok (.getfield 12, 3) := by decide +kernel
theorem dX11_proof_33 : decode cX11_proof 33 = .ok (.aload_n 0, 1) := by decide +kernel
theorem dX11_proof_34 : decode cX11_proof 34 = .ok (.getfield 40, 3) := by decide +kernel
theorem dX11_proof_37 : decode cX11_proof 37 = .ok (.iload_n 2, 1) := by decide +kernel
theorem dX11_proof_38 : decode cX11_proof 38 = .ok (.iload_n 3, 1) := by decide +kernel
theorem dX11_proof_39 : decode cX11_proof 39 = .ok (.iload_n 1, 1) := by decide +kernel
theorem dX11_proof_40 : decode cX11_proof 40 = .ok (.invokevirtual 277, 3) := by decide +kernel
theorem dX11_proof_43 : decode cX11_proof 43 = .ok (.ifCond .eq 15, 3) := by decide +kernel
theorem dX11_proof_46 : decode cX11_proof 46 = .ok (.bipush 100, 2) := by decide +kernel
theorem dX11_proof_48 : decode cX11_proof 48 = .ok (.iload_n 1, 1) := by decide +kernel
theorem dX11_proof_49 : decode cX11_proof 49 = .ok (.imul, 1) := by decide +kernel
theorem dX11_proof_50 : decode cX11_proof 50 = .ok (.bipush 10, 2) := by decide +kernel
theorem dX11_proof_52 : decode cX11_proof 52 = .ok (.iload_n 2, 1) := by decide +kernel
theorem dX11_proof_53 : decode cX11_proof 53 = .ok (.imul, 1) := by decide +kernel
theorem dX11_proof_54 : decode cX11_proof 54 = .ok (.iadd, 1) := by decide +kernel
theorem dX11_proof_55 : decode cX11_proof 55 = .ok (.iload_n 3, 1) := by decide +kernel
theorem dX11_proof_56 : decode cX11_proof 56 = .ok (.iadd, 1) := by decide +kernel
theorem dX11_proof_57 : decode cX11_proof 57 = .ok (.ireturn, 1) := by decide +kernel
theorem dX11_proof_58 : decode cX11_proof 58 = .ok (.iinc 3 1, 3) := by decide +kernel
theorem dX11_proof_61 : decode cX11_proof 61 = .ok (.goto (-41), 3) := by decide +kernel
theorem dX11_proof_64 : decode cX11_proof 64 = .ok (.iinc 2 1, 3) := by decide +kernel
theorem dX11_proof_67 : decode cX11_proof 67 = .ok (.goto (-54), 3) := by decide +kernel
theorem dX11_proof_70 : decode cX11_proof 70 = .ok (.iinc 1 1, 3) := by decide +kernel
theorem dX11_proof_73 : decode cX11_proof 73 = .ok (.goto (-67), 3) := by decide +kernel
theorem dX11_proof_76 : decode cX11_proof 76 = .ok (.bipush (-9), 2) := by decide +kernel
theorem dX11_proof_78 : decode cX11_proof 78 = .ok (.ireturn, 1) := by decide +kernel
theorem dX11_undo_0 : decode cX11_undo 0 = .ok (.aload_n 0, 1) := by decide +kernel
theorem dX11_undo_1 : decode cX11_undo 1 = .ok (.getfield 19, 3) := by decide +kernel
theorem dX11_undo_4 : decode cX11_undo 4 = .ok (.getfield 181, 3) := by decide +kernel
theorem dX11_undo_7 : decode cX11_undo 7 = .ok (.ifCond .ne 6, 3) := by decide +kernel
theorem dX11_undo_10 : decode cX11_undo 10 = .ok (.bipush (-2), 2) := by decide +kernel
theorem dX11_undo_12 : decode cX11_undo 12 = .ok (.ireturn, 1) := by decide +kernel
theorem dX11_undo_13 : decode cX11_undo 13 = .ok (.aload_n 0, 1) := by decide +kernel
theorem dX11_undo_14 : decode cX11_undo 14 = .ok (.invokevirtual 281, 3) := by decide +kernel
theorem dX11_undo_17 : decode cX11_undo 17 = .ok (.aload_n 0, 1) := by decide +kernel
theorem dX11_undo_18 : decode cX11_undo 18 = .ok (.getfield 19, 3) := by decide +kernel
theorem dX11_undo_21 : decode cX11_undo 21 = .ok (.aload_n 0, 1) := by decide +kernel
theorem dX11_undo_22 : decode cX11_undo 22 = .ok (.getfield 12, 3) := by decide +kernel
theorem dX11_undo_25 : decode cX11_undo 25 = .ok (.invokevirtual 284, 3) := by decide +kernel
theorem dX11_undo_28 : decode cX11_undo 28 = .ok (.aload_n 0, 1) := by decide +kernel
theorem dX11_undo_29 : decode cX11_undo 29 = .ok (.getfield 19, 3) := by decide +kernel
theorem dX11_undo_32 : decode cX11_undo 32 = .ok (.getfield 181, 3) := by decide +kernel
theorem dX11_undo_35 : decode cX11_undo 35 = .ok (.ireturn, 1) := by decide +kernel
theorem dX11_prepareChange_0 : decode cX11_prepareChange 0 = .ok (.aload_n 0, 1) := by decide +kernel
theorem dX11_prepareChange_1 : decode cX11_prepareChange 1 = .ok (.getfield 19, 3) := by decide +kernel
theorem dX11_prepareChange_4 : decode cX11_prepareChange 4 = .ok (.aload_n 0, 1) := by decide +kernel
theorem dX11_prepareChange_5 : decode cX11_prepareChange 5 = .ok (.getfield 12, 3) := by decide +kernel
theorem dX11_prepareChange_8 : decode cX11_prepareChange 8 = .ok (.invokevirtual 287, 3) := by decide +kernel
theorem dX11_prepareChange_11 : decode cX11_prepareChange 11 = .ok (.aload_n 0, 1) := by decide +kernel
theorem dX11_prepareChange_12 : decode cX11_prepareChange 12 = .ok (.invokevirtual 281, 3) := by decide +kernel
theorem dX11_prepareChange_15 : decode cX11_prepareChange 15 = .ok (.return_, 1) := by decide +kernel
theorem dX11_forgetDerived_0 : decode cX11_forgetDerived 0 = .ok (.aload_n 0, 1) := by decide +kernel
theorem dX11_forgetDerived_1 : decode cX11_forgetDerived 1 = .ok (.iconst 0, 1) := by decide +kernel
theorem dX11_forgetDerived_2 : decode cX11_forgetDerived 2 = .ok (.putfield 83, 3) := by decide +kernel
theorem dX11_forgetDerived_5 : decode cX11_forgetDerived 5 = .ok (.aload_n 0, 1) := by decide +kernel
theorem dX11_forgetDerived_6 : decode cX11_forgetDerived 6 = .ok (.iconst 0, 1) := by decide +kernel
theorem dX11_forgetDerived_7 : decode cX11_forgetDerived 7 = .ok (.putfield 87, 3) := by decide +kernel
theorem dX11_forgetDerived_10 : decode cX11_forgetDerived 10 = .ok (.aload_n 0, 1) := by decide +kernel
theorem dX11_forgetDerived_11 : decode cX11_forgetDerived 11 = .ok (.iconst 0, 1) := by decide +kernel
theorem dX11_forgetDerived_12 : decode cX11_forgetDerived 12 = .ok (.putfield 90, 3) := by decide +kernel
theorem dX11_forgetDerived_15 : decode cX11_forgetDerived 15 = .ok (.return_, 1) := by decide +kernel
theorem dX11_placeAll_0 : decode cX11_placeAll 0 = .ok (.aload_n 0, 1) := by decide +kernel
theorem dX11_placeAll_1 : decode cX11_placeAll 1 = .ok (.getfield 83, 3) := by decide +kernel
theorem dX11_placeAll_4 : decode cX11_placeAll 4 = .ok (.ifCond .ne 45, 3) := by decide +kernel
theorem dX11_placeAll_7 : decode cX11_placeAll 7 = .ok (.aload_n 0, 1) := by decide +kernel
theorem dX11_placeAll_8 : decode cX11_placeAll 8 = .ok (.getfield 33, 3) := by decide +kernel
theorem dX11_placeAll_11 : decode cX11_placeAll 11 = .ok (.aload_n 0, 1) := by decide +kernel
theorem dX11_placeAll_12 : decode cX11_placeAll 12 = .ok (.getfield 12, 3) := by decide +kernel
theorem dX11_placeAll_15 : decode cX11_placeAll 15 = .ok (.invokevirtual 290, 3) := by decide +kernel
theorem dX11_placeAll_18 : decode cX11_placeAll 18 = .ok (.aload_n 0, 1) := by decide +kernel
theorem dX11_placeAll_19 : decode cX11_placeAll 19 = .ok (.getfield 40, 3) := by decide +kernel
theorem dX11_placeAll_22 : decode cX11_placeAll 22 = .ok (.aload_n 0, 1) := by decide +kernel
theorem dX11_placeAll_23 : decode cX11_placeAll 23 = .ok (.getfield 12, 3) := by decide +kernel
theorem dX11_placeAll_26 : decode cX11_placeAll 26 = .ok (.aload_n 0, 1) := by decide +kernel
theorem dX11_placeAll_27 : decode cX11_placeAll 27 = .ok (.getfield 33, 3) := by decide +kernel
theorem dX11_placeAll_30 : decode cX11_placeAll 30 = .ok (.invokevirtual 293, 3) := by decide +kernel
theorem dX11_placeAll_33 : decode cX11_placeAll 33 = .ok (.aload_n 0, 1) := by decide +kernel
theorem dX11_placeAll_34 : decode cX11_placeAll 34 = .ok (.getfield 47, 3) := by decide +kernel
theorem dX11_placeAll_37 : decode cX11_placeAll 37 = .ok (.aload_n 0, 1) := by decide +kernel
theorem dX11_placeAll_38 : decode cX11_placeAll 38 = .ok (.getfield 12, 3) := by decide +kernel
theorem dX11_placeAll_41 : decode cX11_placeAll 41 = .ok (.invokevirtual 296, 3) := by decide +kernel
theorem dX11_placeAll_44 : decode cX11_placeAll 44 = .ok (.aload_n 0, 1) := by decide +kernel
theorem dX11_placeAll_45 : decode cX11_placeAll 45 = .ok (.iconst 1, 1) := by decide +kernel
theorem dX11_placeAll_46 : decode cX11_placeAll 46 = .ok (.putfield 83, 3) := by decide +kernel
theorem dX11_placeAll_49 : decode cX11_placeAll 49 = .ok (.return_, 1) := by decide +kernel
theorem dX11_searchAll_0 : decode cX11_searchAll 0 = .ok (.aload_n 0, 1) := by decide +kernel
theorem dX11_searchAll_1 : decode cX11_searchAll 1 = .ok (.getfield 87, 3) := by decide +kernel
theorem dX11_searchAll_4 : decode cX11_searchAll 4 = .ok (.ifCond .ne 19, 3) := by decide +kernel
theorem dX11_searchAll_7 : decode cX11_searchAll 7 = .ok (.aload_n 0, 1) := by decide +kernel
theorem dX11_searchAll_8 : decode cX11_searchAll 8 = .ok (.invokevirtual 174, 3) := by decide +kernel
theorem dX11_searchAll_11 : decode cX11_searchAll 11 = .ok (.aload_n 0, 1) := by decide +kernel
theorem dX11_searchAll_12 : decode cX11_searchAll 12 = .ok (.getfield 65, 3) := by decide +kernel
theorem dX11_searchAll_15 : decode cX11_searchAll 15 = .ok (.invokevirtual 297, 3) := by decide +kernel
theorem dX11_searchAll_18 : decode cX11_searchAll 18 = .ok (.aload_n 0, 1) := by decide +kernel
theorem dX11_searchAll_19 : decode cX11_searchAll 19 = .ok (.iconst 1, 1) := by decide +kernel
theorem dX11_searchAll_20 : decode cX11_searchAll 20 = .ok (.putfield 87, 3) := by decide +kernel
theorem dX11_searchAll_23 : decode cX11_searchAll 23 = .ok (.return_, 1) := by decide +kernel
theorem dX11_siftAll_0 : decode cX11_siftAll 0 = .ok (.aload_n 0, 1) := by decide +kernel
theorem dX11_siftAll_1 : decode cX11_siftAll 1 = .ok (.getfield 90, 3) := by decide +kernel
theorem dX11_siftAll_4 : decode cX11_siftAll 4 = .ok (.ifCond .ne 23, 3) := by decide +kernel
theorem dX11_siftAll_7 : decode cX11_siftAll 7 = .ok (.aload_n 0, 1) := by decide +kernel
theorem dX11_siftAll_8 : decode cX11_siftAll 8 = .ok (.invokevirtual 174, 3) := by decide +kernel
theorem dX11_siftAll_11 : decode cX11_siftAll 11 = .ok (.aload_n 0, 1) := by decide +kernel
theorem dX11_siftAll_12 : decode cX11_siftAll 12 = .ok (.getfield 72, 3) := by decide +kernel
theorem dX11_siftAll_15 : decode cX11_siftAll 15 = .ok (.aload_n 0, 1) := by decide +kernel
theorem dX11_siftAll_16 : decode cX11_siftAll 16 = .ok (.getfield 40, 3) := by decide +kernel
theorem dX11_siftAll_19 : decode cX11_siftAll 19 = .ok (.invokevirtual 300, 3) := by decide +kernel
theorem dX11_siftAll_22 : decode cX11_siftAll 22 = .ok (.aload_n 0, 1) := by decide +kernel
theorem dX11_siftAll_23 : decode cX11_siftAll 23 = .ok (.iconst 1, 1) := by decide +kernel
theorem dX11_siftAll_24 : decode cX11_siftAll 24 = .ok (.putfield 90, 3) := by decide +kernel
theorem dX11_siftAll_27 : decode cX11_siftAll 27 = .ok (.return_, 1) := by decide +kernel
theorem dX11_whyNoCover_0 : decode cX11_whyNoCover 0 = .ok (.aload_n 0, 1) := by decide +kernel
theorem dX11_whyNoCover_1 : decode cX11_whyNoCover 1 = .ok (.getfield 65, 3) := by decide +kernel
theorem dX11_whyNoCover_4 : decode cX11_whyNoCover 4 = .ok (.getfield 238, 3) := by decide +kernel
theorem dX11_whyNoCover_7 : decode cX11_whyNoCover 7 = .ok (.ifCond .eq 8, 3) := by decide +kernel
theorem dX11_whyNoCover_10 : decode cX11_whyNoCover 10 = .ok (.bipush (-9), 2) := by decide +kernel
theorem dX11_whyNoCover_12 : decode cX11_whyNoCover 12 = .ok (.goto 5, 3) := by decide +kernel
theorem dX11_whyNoCover_15 : decode cX11_whyNoCover 15 = .ok (.bipush (-4), 2) := by decide +kernel
theorem dX11_whyNoCover_17 : decode cX11_whyNoCover 17 = .ok (.ireturn, 1) := by decide +kernel
theorem dX11_isWithin_0 : decode cX11_isWithin 0 = .ok (.iload_n 0, 1) := by decide +kernel
theorem dX11_isWithin_1 : decode cX11_isWithin 1 = .ok (.iload_n 1, 1) := by decide +kernel
theorem dX11_isWithin_2 : decode cX11_isWithin 2 = .ok (.if_icmp .lt 12, 3) := by decide +kernel
theorem dX11_isWithin_5 : decode cX11_isWithin 5 = .ok (.iload_n 0, 1) := by decide +kernel
theorem dX11_isWithin_6 : decode cX11_isWithin 6 = .ok (.iload_n 2, 1) := by decide +kernel
theorem dX11_isWithin_7 : decode cX11_isWithin 7 = .ok (.if_icmp .gt 7, 3) := by decide +kernel
theorem dX11_isWithin_10 : decode cX11_isWithin 10 = .ok (.iconst 1, 1) := by decide +kernel
theorem dX11_isWithin_11 : decode cX11_isWithin 11 = .ok (.goto 4, 3) := by decide +kernel
theorem dX11_isWithin_14 : decode cX11_isWithin 14 = .ok (.iconst 0, 1) := by decide +kernel
theorem dX11_isWithin_15 : decode cX11_isWithin 15 = .ok (.ireturn, 1) := by decide +kernel
theorem dX11_at_0 : decode cX11_at 0 = .ok (.iload_n 1, 1) := by decide +kernel
theorem dX11_at_1 : decode cX11_at 1 = .ok (.ifCond .lt 15, 3) := by decide +kernel
theorem dX11_at_4 : decode cX11_at 4 = .ok (.iload_n 1, 1) := by decide +kernel
theorem dX11_at_5 : decode cX11_at 5 = .ok (.aload_n 0, 1) := by decide +kernel
theorem dX11_at_6 : decode cX11_at 6 = .ok (.arraylength, 1) := by decide +kernel
theorem dX11_at_7 : decode cX11_at 7 = .ok (.if_icmp .ge 9, 3) := by decide +kernel
theorem dX11_at_10 : decode cX11_at 10 = .ok (.aload_n 0, 1) := by decide +kernel
theorem dX11_at_11 : decode cX11_at 11 = .ok (.iload_n 1, 1) := by decide +kernel
theorem dX11_at_12 : decode cX11_at 12 = .ok (.iaload, 1) := by decide +kernel
theorem dX11_at_13 : decode cX11_at 13 = .ok (.goto 4, 3) := by decide +kernel
theorem dX11_at_16 : decode cX11_at 16 = .ok (.iconst 0, 1) := by decide +kernel
theorem dX11_at_17 : decode cX11_at 17 = .ok (.ireturn, 1) := by decide +kernel
theorem dX11_put_0 : decode cX11_put 0 = .ok (.iload_n 1, 1) := by decide +kernel
theorem dX11_put_1 : decode cX11_put 1 = .ok (.ifCond .lt 13, 3) := by decide +kernel
theorem dX11_put_4 : decode cX11_put 4 = .ok (.iload_n 1, 1) := by decide +kernel
theorem dX11_put_5 : decode cX11_put 5 = .ok (.aload_n 0, 1) := by decide +kernel
theorem dX11_put_6 : decode cX11_put 6 = .ok (.arraylength, 1) := by decide +kernel
theorem dX11_put_7 : decode cX11_put 7 = .ok (.if_icmp .ge 7, 3) := by decide +kernel
theorem dX11_put_10 : decode cX11_put 10 = .ok (.aload_n 0, 1) := by decide +kernel
theorem dX11_put_11 : decode cX11_put 11 = .ok (.iload_n 1, 1) := by decide +kernel
theorem dX11_put_12 : decode cX11_put 12 = .ok (.iload_n 2, 1) := by decide +kernel
theorem dX11_put_13 : decode cX11_put 13 = .ok (.iastore, 1) := by decide +kernel
theorem dX11_put_14 : decode cX11_put 14 = .ok (.return_, 1) := by decide +kernel
theorem dX11_smallestCell_0 : decode cX11_smallestCell 0 = .ok (.lload_n 0, 1) := by decide +kernel
theorem dX11_smallestCell_1 : decode cX11_smallestCell 1 = .ok (.lload_n 0, 1) := by decide +kernel
theorem dX11_smallestCell_2 : decode cX11_smallestCell 2 = .ok (.lneg, 1) := by decide +kernel
theorem dX11_smallestCell_3 : decode cX11_smallestCell 3 = .ok (.land, 1) := by decide +kernel
theorem dX11_smallestCell_4 : decode cX11_smallestCell 4 = .ok (.lconst 1, 1) := by decide +kernel
theorem dX11_smallestCell_5 : decode cX11_smallestCell 5 = .ok (.lsub, 1) := by decide +kernel
theorem dX11_smallestCell_6 : decode cX11_smallestCell 6 = .ok (.invokestatic 304, 3) := by decide +kernel
theorem dX11_smallestCell_9 : decode cX11_smallestCell 9 = .ok (.ireturn, 1) := by decide +kernel
theorem dX11_greatestCell_0 : decode cX11_greatestCell 0 = .ok (.bipush 35, 2) := by decide +kernel
theorem dX11_greatestCell_2 : decode cX11_greatestCell 2 = .ok (.istore_n 2, 1) := by decide +kernel
theorem dX11_greatestCell_3 : decode cX11_greatestCell 3 = .ok (.iload_n 2, 1) := by decide +kernel
theorem dX11_greatestCell_4 : decode cX11_greatestCell 4 = .ok (.ifCond .le 17, 3) := by decide +kernel
theorem dX11_greatestCell_7 : decode cX11_greatestCell 7 = .ok (.lload_n 0, 1) := by decide +kernel
theorem dX11_greatestCell_8 : decode cX11_greatestCell 8 = .ok (.iload_n 2, 1) := by decide +kernel
theorem dX11_greatestCell_9 : decode cX11_greatestCell 9 = .ok (.invokestatic 308, 3) := by decide +kernel
theorem dX11_greatestCell_12 : decode cX11_greatestCell 12 = .ok (.ifCond .ne 9, 3) := by decide +kernel
theorem dX11_greatestCell_15 : decode cX11_greatestCell 15 = .ok (.iinc 2 (-1), 3) := by decide +kernel
theorem dX11_greatestCell_18 : decode cX11_greatestCell 18 = .ok (.goto (-15), 3) := by decide +kernel
theorem dX11_greatestCell_21 : decode cX11_greatestCell 21 = .ok (.iload_n 2, 1) := by decide +kernel
theorem dX11_greatestCell_22 : decode cX11_greatestCell 22 = .ok (.ireturn, 1) := by decide +kernel
theorem dX11_holds_0 : decode cX11_holds 0 = .ok (.lload_n 0, 1) := by decide +kernel
theorem dX11_holds_1 : decode cX11_holds 1 = .ok (.iload_n 2, 1) := by decide +kernel
theorem dX11_holds_2 : decode cX11_holds 2 = .ok (.lushr, 1) := by decide +kernel
theorem dX11_holds_3 : decode cX11_holds 3 = .ok (.lconst 1, 1) := by decide +kernel
theorem dX11_holds_4 : decode cX11_holds 4 = .ok (.land, 1) := by decide +kernel
theorem dX11_holds_5 : decode cX11_holds 5 = .ok (.lconst 0, 1) := by decide +kernel
theorem dX11_holds_6 : decode cX11_holds 6 = .ok (.lcmp, 1) := by decide +kernel
theorem dX11_holds_7 : decode cX11_holds 7 = .ok (.ifCond .eq 7, 3) := by decide +kernel
theorem dX11_holds_10 : decode cX11_holds 10 = .ok (.iconst 1, 1) := by decide +kernel
theorem dX11_holds_11 : decode cX11_holds 11 = .ok (.goto 4, 3) := by decide +kernel
theorem dX11_holds_14 : decode cX11_holds 14 = .ok (.iconst 0, 1) := by decide +kernel
theorem dX11_holds_15 : decode cX11_holds 15 = .ok (.ireturn, 1) := by decide +kernel
theorem dX12_init_0 : decode cX12_init 0 = .ok (.aload_n 0, 1) := by decide +kernel
theorem dX12_init_1 : decode cX12_init 1 = .ok (.invokespecial 1, 3) := by decide +kernel
theorem dX12_init_4 : decode cX12_init 4 = .ok (.aload_n 0, 1) := by decide +kernel
theorem dX12_init_5 : decode cX12_init 5 = .ok (.bipush 73, 2) := by decide +kernel
theorem dX12_init_7 : decode cX12_init 7 = .ok (.newarray .int, 2) := by decide +kernel
theorem dX12_init_9 : decode cX12_init 9 = .ok (.putfield 7, 3) := by decide +kernel
theorem dX12_init_12 : decode cX12_init 12 = .ok (.aload_n 0, 1) := by decide +kernel
theorem dX12_init_13 : decode cX12_init 13 = .ok (.sipush 438, 3) := by decide +kernel
theorem dX12_init_16 : decode cX12_init 16 = .ok (.newarray .int, 2) := by decide +kernel
theorem dX12_init_18 : decode cX12_init 18 = .ok (.putfield 13, 3) := by decide +kernel
theorem dX12_init_21 : decode cX12_init 21 = .ok (.aload_n 0, 1) := by decide +kernel
theorem dX12_init_22 : decode cX12_init 22 = .ok (.sipush 160, 3) := by decide +kernel
theorem dX12_init_25 : decode cX12_init 25 = .ok (.newarray .byte, 2) := by decide +kernel
theorem dX12_init_27 : decode cX12_init 27 = .ok (.putfield 16, 3) := by decide +kernel
theorem dX12_init_30 : decode cX12_init 30 = .ok (.aload_n 0, 1) := by decide +kernel
theorem dX12_init_31 : decode cX12_init 31 = .ok (.bipush 9, 2) := by decide +kernel
theorem dX12_init_33 : decode cX12_init 33 = .ok (.newarray .int, 2) := by decide +kernel
theorem dX12_init_35 : decode cX12_init 35 = .ok (.putfield 20, 3) := by decide +kernel
theorem dX12_init_38 : decode cX12_init 38 = .ok (.aload_n 0, 1) := by decide +kernel
theorem dX12_init_39 : decode cX12_init 39 = .ok (.sipush 2304, 3) := by decide +kernel
theorem dX12_init_42 : decode cX12_init 42 = .ok (.newarray .int, 2) := by decide +kernel
theorem dX12_init_44 : decode cX12_init 44 = .ok (.putfield 23, 3) := by decide +kernel
theorem dX12_init_47 : decode cX12_init 47 = .ok (.aload_n 0, 1) := by decide +kernel
theorem dX12_init_48 : decode cX12_init 48 = .ok (.sipush 2304, 3) := by decide +kernel
theorem dX12_init_51 : decode cX12_init 51 = .ok (.newarray .int, 2) := by decide +kernel
theorem dX12_init_53 : decode cX12_init 53 = .ok (.putfield 26, 3) := by decide +kernel
theorem dX12_init_56 : decode cX12_init 56 = .ok (.aload_n 0, 1) := by decide +kernel
theorem dX12_init_57 : decode cX12_init 57 = .ok (.sipush 2304, 3) := by decide +kernel
theorem dX12_init_60 : decode cX12_init 60 = .ok (.newarray .int, 2) := by decide +kernel
theorem dX12_init_62 : decode cX12_init 62 = .ok (.putfield 29, 3) := by decide +kernel
theorem dX12_init_65 : decode cX12_init 65 = .ok (.aload_n 0, 1) := by decide +kernel
theorem dX12_init_66 : decode cX12_init 66 = .ok (.sipush 2304, 3) := by decide +kernel
theorem dX12_init_69 : decode cX12_init 69 = .ok (.newarray .long, 2) := by decide +kernel
theorem dX12_init_71 : decode cX12_init 71 = .ok (.putfield 32, 3) := by decide +kernel
theorem dX12_init_74 : decode cX12_init 74 = .ok (.aload_n 0, 1) := by decide +kernel
theorem dX12_init_75 : decode cX12_init 75 = .ok (.sipush 2304, 3) := by decide +kernel
theorem dX12_init_78 : decode cX12_init 78 = .ok (.newarray .int, 2) := by decide +kernel
theorem dX12_init_80 : decode cX12_init 80 = .ok (.putfield 36, 3) := by decide +kernel
theorem dX12_init_83 : decode cX12_init 83 = .ok (.aload_n 0, 1) := by decide +kernel
theorem dX12_init_84 : decode cX12_init 84 = .ok (.bipush 73, 2) := by decide +kernel
theorem dX12_init_86 : decode cX12_init 86 = .ok (.newarray .int, 2) := by decide +kernel
theorem dX12_init_88 : decode cX12_init 88 = .ok (.putfield 39, 3) := by decide +kernel
theorem dX12_init_91 : decode cX12_init 91 = .ok (.aload_n 0, 1) := by decide +kernel
theorem dX12_init_92 : decode cX12_init 92 = .ok (.bipush 36, 2) := by decide +kernel
theorem dX12_init_94 : decode cX12_init 94 = .ok (.newarray .int, 2) := by decide +kernel
theorem dX12_init_96 : decode cX12_init 96 = .ok (.putfield 42, 3) := by decide +kernel
theorem dX12_init_99 : decode cX12_init 99 = .ok (.aload_n 0, 1) := by decide +kernel
theorem dX12_init_100 : decode cX12_init 100 = .ok (.bipush 37, 2) := by decide +kernel
theorem dX12_init_102 : decode cX12_init 102 = .ok (.newarray .int, 2) := by decide +kernel
theorem dX12_init_104 : decode cX12_init 104 = .ok (.putfield 45, 3) := by decide +kernel
theorem dX12_init_107 : decode cX12_init 107 = .ok (.aload_n 0, 1) := by decide +kernel
theorem dX12_init_108 : decode cX12_init 108 = .ok (.bipush 37, 2) := by decide +kernel
theorem dX12_init_110 : decode cX12_init 110 = .ok (.newarray .int, 2) := by decide +kernel
theorem dX12_init_112 : decode cX12_init 112 = .ok (.putfield 48, 3) := by decide +kernel
theorem dX12_init_115 : decode cX12_init 115 = .ok (.aload_n 0, 1) := by decide +kernel
theorem dX12_init_116 : decode cX12_init 116 = .ok (.iconst 4, 1) := by decide +kernel
theorem dX12_init_117 : decode cX12_init 117 = .ok (.newarray .long, 2) := by decide +kernel
theorem dX12_init_119 : decode cX12_init 119 = .ok (.putfield 51, 3) := by decide +kernel
theorem dX12_init_122 : decode cX12_init 122 = .ok (.aload_n 0, 1) := by decide +kernel
theorem dX12_init_123 : decode cX12_init 123 = .ok (.bipush 8, 2) := by decide +kernel
theorem dX12_init_125 : decode cX12_init 125 = .ok (.newarray .int, 2) := by decide +kernel
theorem dX12_init_127 : decode cX12_init 127 = .ok (.putfield 54, 3) := by decide +kernel
theorem dX12_init_130 : decode cX12_init 130 = .ok (.aload_n 0, 1) := by decide +kernel
theorem dX12_init_131 : decode cX12_init 131 = .ok (.sipush 32400, 3) := by decide +kernel
theorem dX12_init_134 : decode cX12_init 134 = .ok (.newarray .int, 2) := by decide +kernel
theorem dX12_init_136 : decode cX12_init 136 = .ok (.putfield 57, 3) := by decide +kernel
theorem dX12_init_139 : decode cX12_init 139 = .ok (.aload_n 0, 1) := by decide +kernel
theorem dX12_init_140 : decode cX12_init 140 = .ok (.sipush 2304, 3) := by decide +kernel
theorem dX12_init_143 : decode cX12_init 143 = .ok (.newarray .boolean, 2) := by decide +kernel
theorem dX12_init_145 : decode cX12_init 145 = .ok (.putfield 60, 3) := by decide +kernel
theorem dX12_init_148 : decode cX12_init 148 = .ok (.aload_n 0, 1) := by decide +kernel
theorem dX12_init_149 : decode cX12_init 149 = .ok (.getfield 7, 3) := by decide +kernel
theorem dX12_init_152 : decode cX12_init 152 = .ok (.iconst 0, 1) := by decide +kernel
theorem dX12_init_153 : decode cX12_init 153 = .ok (.iconst 4, 1) := by decide +kernel
theorem dX12_init_154 : decode cX12_init 154 = .ok (.iastore, 1) := by decide +kernel
theorem dX12_init_155 : decode cX12_init 155 = .ok (.aload_n 0, 1) := by decide +kernel
theorem dX12_init_156 : decode cX12_init 156 = .ok (.getfield 7, 3) := by decide +kernel
theorem dX12_init_159 : decode cX12_init 159 = .ok (.iconst 1, 1) := by decide +kernel
theorem dX12_init_160 : decode cX12_init 160 = .ok (.iconst 4, 1) := by decide +kernel
theorem dX12_init_161 : decode cX12_init 161 = .ok (.iastore, 1) := by decide +kernel
theorem dX12_init_162 : decode cX12_init 162 = .ok (.return_, 1) := by decide +kernel
end
section
theorem dX12_in_0 : decode cX12_in 0 = .ok (.iload_n 0, 1) := by decide +kernel
theorem dX12_in_1 : decode cX12_in 1 = .ok (.iload_n 1, 1) := by decide +kernel
theorem dX12_in_2 : decode cX12_in 2 = .ok (.if_icmp .lt 12, 3) := by decide +kernel
theorem dX12_in_5 : decode cX12_in 5 = .ok (.iload_n 0, 1) := by decide +kernel
theorem dX12_in_6 : decode cX12_in 6 = .ok (.iload_n 2, 1) := by decide +kernel
theorem dX12_in_7 : decode cX12_in 7 = .ok (.if_icmp .gt 7, 3) := by decide +kernel
theorem dX12_in_10 : decode cX12_in 10 = .ok (.iconst 1, 1) := by decide +kernel
theorem dX12_in_11 : decode cX12_in 11 = .ok (.goto 4, 3) := by decide +kernel
theorem dX12_in_14 : decode cX12_in 14 = .ok (.iconst 0, 1) := by decide +kernel
theorem dX12_in_15 : decode cX12_in 15 = .ok (.ireturn, 1) := by decide +kernel
theorem dX12_note_0 : decode cX12_note 0 = .ok (.aload_n 0, 1) := by decide +kernel
theorem dX12_note_1 : decode cX12_note 1 = .ok (.getfield 64, 3) := by decide +kernel
theorem dX12_note_4 : decode cX12_note 4 = .ok (.bipush 6, 2) := by decide +kernel
theorem dX12_note_6 : decode cX12_note 6 = .ok (.if_icmp .ne 43, 3) := by decide +kernel
theorem dX12_note_9 : decode cX12_note 9 = .ok (.iconst 0, 1) := by decide +kernel
theorem dX12_note_10 : decode cX12_note 10 = .ok (.istore_n 1, 1) := by decide +kernel
theorem dX12_note_11 : decode cX12_note 11 = .ok (.iload_n 1, 1) := by decide +kernel
theorem dX12_note_12 : decode cX12_note 12 = .ok (.sipush 365, 3) := by decide +kernel
theorem dX12_note_15 : decode cX12_note 15 = .ok (.if_icmp .ge 24, 3) := by decide +kernel
theorem dX12_note_18 : decode cX12_note 18 = .ok (.aload_n 0, 1) := by decide +kernel
theorem dX12_note_19 : decode cX12_note 19 = .ok (.getfield 13, 3) := by decide +kernel
theorem dX12_note_22 : decode cX12_note 22 = .ok (.iload_n 1, 1) := by decide +kernel
theorem dX12_note_23 : decode cX12_note 23 = .ok (.aload_n 0, 1) := by decide +kernel
theorem dX12_note_24 : decode cX12_note 24 = .ok (.getfield 13, 3) := by decide +kernel
theorem dX12_note_27 : decode cX12_note 27 = .ok (.iload_n 1, 1) := by decide +kernel
theorem dX12_note_28 : decode cX12_note 28 = .ok (.bipush 73, 2) := by decide +kernel
theorem dX12_note_30 : decode cX12_note 30 = .ok (.iadd, 1) := by decide +kernel
theorem dX12_note_31 : decode cX12_note 31 = .ok (.iaload, 1) := by decide +kernel
theorem dX12_note_32 : decode cX12_note 32 = .ok (.iastore, 1) := by decide +kernel
theorem dX12_note_33 : decode cX12_note 33 = .ok (.iinc 1 1, 3) := by decide +kernel
theorem dX12_note_36 : decode cX12_note 36 = .ok (.goto (-25), 3) := by decide +kernel
theorem dX12_note_39 : decode cX12_note 39 = .ok (.aload_n 0, 1) := by decide +kernel
theorem dX12_note_40 : decode cX12_note 40 = .ok (.dup, 1) := by decide +kernel
theorem dX12_note_41 : decode cX12_note 41 = .ok (.getfield 64, 3) := by decide +kernel
theorem dX12_note_44 : decode cX12_note 44 = .ok (.iconst 1, 1) := by decide +kernel
theorem dX12_note_45 : decode cX12_note 45 = .ok (.isub, 1) := by decide +kernel
theorem dX12_note_46 : decode cX12_note 46 = .ok (.putfield 64, 3) := by decide +kernel
theorem dX12_note_49 : decode cX12_note 49 = .ok (.iconst 0, 1) := by decide +kernel
theorem dX12_note_50 : decode cX12_note 50 = .ok (.istore_n 1, 1) := by decide +kernel
theorem dX12_note_51 : decode cX12_note 51 = .ok (.iload_n 1, 1) := by decide +kernel
theorem dX12_note_52 : decode cX12_note 52 = .ok (.bipush 73, 2) := by decide +kernel
theorem dX12_note_54 : decode cX12_note 54 = .ok (.if_icmp .ge 29, 3) := by decide +kernel
theorem dX12_note_57 : decode cX12_note 57 = .ok (.aload_n 0, 1) := by decide +kernel
theorem dX12_note_58 : decode cX12_note 58 = .ok (.getfield 13, 3) := by decide +kernel
theorem dX12_note_61 : decode cX12_note 61 = .ok (.bipush 73, 2) := by decide +kernel
theorem dX12_note_63 : decode cX12_note 63 = .ok (.aload_n 0, 1) := by decide +kernel
theorem dX12_note_64 : decode cX12_note 64 = .ok (.getfield 64, 3) := by decide +kernel
theorem dX12_note_67 : decode cX12_note 67 = .ok (.imul, 1) := by decide +kernel
theorem dX12_note_68 : decode cX12_note 68 = .ok (.iload_n 1, 1) := by decide +kernel
theorem dX12_note_69 : decode cX12_note 69 = .ok (.iadd, 1) := by decide +kernel
theorem dX12_note_70 : decode cX12_note 70 = .ok (.aload_n 0, 1) := by decide +kernel
theorem dX12_note_71 : decode cX12_note 71 = .ok (.getfield 7, 3) := by decide +kernel
theorem dX12_note_74 : decode cX12_note 74 = .ok (.iload_n 1, 1) := by decide +kernel
theorem dX12_note_75 : decode cX12_note 75 = .ok (.iaload, 1) := by decide +kernel
theorem dX12_note_76 : decode cX12_note 76 = .ok (.iastore, 1) := by decide +kernel
theorem dX12_note_77 : decode cX12_note 77 = .ok (.iinc 1 1, 3) := by decide +kernel
theorem dX12_note_80 : decode cX12_note 80 = .ok (.goto (-29), 3) := by decide +kernel
theorem dX12_note_83 : decode cX12_note 83 = .ok (.aload_n 0, 1) := by decide +kernel
theorem dX12_note_84 : decode cX12_note 84 = .ok (.dup, 1) := by decide +kernel
theorem dX12_note_85 : decode cX12_note 85 = .ok (.getfield 64, 3) := by decide +kernel
theorem dX12_note_88 : decode cX12_note 88 = .ok (.iconst 1, 1) := by decide +kernel
theorem dX12_note_89 : decode cX12_note 89 = .ok (.iadd, 1) := by decide +kernel
theorem dX12_note_90 : decode cX12_note 90 = .ok (.putfield 64, 3) := by decide +kernel
theorem dX12_note_93 : decode cX12_note 93 = .ok (.return_, 1) := by decide +kernel
theorem dX12_undo_0 : decode cX12_undo 0 = .ok (.aload_n 0, 1) := by decide +kernel
theorem dX12_undo_1 : decode cX12_undo 1 = .ok (.getfield 64, 3) := by decide +kernel
theorem dX12_undo_4 : decode cX12_undo 4 = .ok (.ifCond .ne 6, 3) := by decide +kernel
theorem dX12_undo_7 : decode cX12_undo 7 = .ok (.bipush (-2), 2) := by decide +kernel
theorem dX12_undo_9 : decode cX12_undo 9 = .ok (.ireturn, 1) := by decide +kernel
theorem dX12_undo_10 : decode cX12_undo 10 = .ok (.aload_n 0, 1) := by decide +kernel
theorem dX12_undo_11 : decode cX12_undo 11 = .ok (.dup, 1) := by decide +kernel
theorem dX12_undo_12 : decode cX12_undo 12 = .ok (.getfield 64, 3) := by decide +kernel
theorem dX12_undo_15 : decode cX12_undo 15 = .ok (.iconst 1, 1) := by decide +kernel
theorem dX12_undo_16 : decode cX12_undo 16 = .ok (.isub, 1) := by decide +kernel
theorem dX12_undo_17 : decode cX12_undo 17 = .ok (.putfield 64, 3) := by decide +kernel
theorem dX12_undo_20 : decode cX12_undo 20 = .ok (.iconst 0, 1) := by decide +kernel
theorem dX12_undo_21 : decode cX12_undo 21 = .ok (.istore_n 1, 1) := by decide +kernel
theorem dX12_undo_22 : decode cX12_undo 22 = .ok (.iload_n 1, 1) := by decide +kernel
theorem dX12_undo_23 : decode cX12_undo 23 = .ok (.bipush 73, 2) := by decide +kernel
theorem dX12_undo_25 : decode cX12_undo 25 = .ok (.if_icmp .ge 29, 3) := by decide +kernel
theorem dX12_undo_28 : decode cX12_undo 28 = .ok (.aload_n 0, 1) := by decide +kernel
theorem dX12_undo_29 : decode cX12_undo 29 = .ok (.getfield 7, 3) := by decide +kernel
theorem dX12_undo_32 : decode cX12_undo 32 = .ok (.iload_n 1, 1) := by decide +kernel
theorem dX12_undo_33 : decode cX12_undo 33 = .ok (.aload_n 0, 1) := by decide +kernel
theorem dX12_undo_34 : decode cX12_undo 34 = .ok (.getfield 13, 3) := by decide +kernel
theorem dX12_undo_37 : decode cX12_undo 37 = .ok (.bipush 73, 2) := by decide +kernel
theorem dX12_undo_39 : decode cX12_undo 39 = .ok (.aload_n 0, 1) := by decide +kernel
theorem dX12_undo_40 : decode cX12_undo 40 = .ok (.getfield 64, 3) := by decide +kernel
theorem dX12_undo_43 : decode cX12_undo 43 = .ok (.imul, 1) := by decide +kernel
theorem dX12_undo_44 : decode cX12_undo 44 = .ok (.iload_n 1, 1) := by decide +kernel
theorem dX12_undo_45 : decode cX12_undo 45 = .ok (.iadd, 1) := by decide +kernel
theorem dX12_undo_46 : decode cX12_undo 46 = .ok (.iaload, 1) := by decide +kernel
theorem dX12_undo_47 : decode cX12_undo 47 = .ok (.iastore, 1) := by decide +kernel
theorem dX12_undo_48 : decode cX12_undo 48 = .ok (.iinc 1 1, 3) := by decide +kernel
theorem dX12_undo_51 : decode cX12_undo 51 = .ok (.goto (-29), 3) := by decide +kernel
theorem dX12_undo_54 : decode cX12_undo 54 = .ok (.aload_n 0, 1) := by decide +kernel
theorem dX12_undo_55 : decode cX12_undo 55 = .ok (.getfield 64, 3) := by decide +kernel
theorem dX12_undo_58 : decode cX12_undo 58 = .ok (.ireturn, 1) := by decide +kernel
theorem dX12_cells_0 : decode cX12_cells 0 = .ok (.aload_n 0, 1) := by decide +kernel
theorem dX12_cells_1 : decode cX12_cells 1 = .ok (.getfield 7, 3) := by decide +kernel
theorem dX12_cells_4 : decode cX12_cells 4 = .ok (.iconst 0, 1) := by decide +kernel
theorem dX12_cells_5 : decode cX12_cells 5 = .ok (.iaload, 1) := by decide +kernel
theorem dX12_cells_6 : decode cX12_cells 6 = .ok (.aload_n 0, 1) := by decide +kernel
theorem dX12_cells_7 : decode cX12_cells 7 = .ok (.getfield 7, 3) := by decide +kernel
theorem dX12_cells_10 : decode cX12_cells 10 = .ok (.iconst 1, 1) := by decide +kernel
theorem dX12_cells_11 : decode cX12_cells 11 = .ok (.iaload, 1) := by decide +kernel
theorem dX12_cells_12 : decode cX12_cells 12 = .ok (.imul, 1) := by decide +kernel
theorem dX12_cells_13 : decode cX12_cells 13 = .ok (.ireturn, 1) := by decide +kernel
theorem dX12_isCell_0 : decode cX12_isCell 0 = .ok (.iload_n 1, 1) := by decide +kernel
theorem dX12_isCell_1 : decode cX12_isCell 1 = .ok (.iconst 0, 1) := by decide +kernel
theorem dX12_isCell_2 : decode cX12_isCell 2 = .ok (.aload_n 0, 1) := by decide +kernel
theorem dX12_isCell_3 : decode cX12_isCell 3 = .ok (.invokevirtual 68, 3) := by decide +kernel
theorem dX12_isCell_6 : decode cX12_isCell 6 = .ok (.iconst 1, 1) := by decide +kernel
theorem dX12_isCell_7 : decode cX12_isCell 7 = .ok (.isub, 1) := by decide +kernel
theorem dX12_isCell_8 : decode cX12_isCell 8 = .ok (.invokestatic 72, 3) := by decide +kernel
theorem dX12_isCell_11 : decode cX12_isCell 11 = .ok (.ireturn, 1) := by decide +kernel
theorem dX12_isOpen_0 : decode cX12_isOpen 0 = .ok (.aload_n 0, 1) := by decide +kernel
theorem dX12_isOpen_1 : decode cX12_isOpen 1 = .ok (.getfield 7, 3) := by decide +kernel
theorem dX12_isOpen_4 : decode cX12_isOpen 4 = .ok (.iconst 5, 1) := by decide +kernel
theorem dX12_isOpen_5 : decode cX12_isOpen 5 = .ok (.iload_n 1, 1) := by decide +kernel
theorem dX12_isOpen_6 : decode cX12_isOpen 6 = .ok (.iadd, 1) := by decide +kernel
theorem dX12_isOpen_7 : decode cX12_isOpen 7 = .ok (.iaload, 1) := by decide +kernel
theorem dX12_isOpen_8 : decode cX12_isOpen 8 = .ok (.iconst (-1), 1) := by decide +kernel
theorem dX12_isOpen_9 : decode cX12_isOpen 9 = .ok (.if_icmp .eq 7, 3) := by decide +kernel
theorem dX12_isOpen_12 : decode cX12_isOpen 12 = .ok (.iconst 1, 1) := by decide +kernel
theorem dX12_isOpen_13 : decode cX12_isOpen 13 = .ok (.goto 4, 3) := by decide +kernel
theorem dX12_isOpen_16 : decode cX12_isOpen 16 = .ok (.iconst 0, 1) := by decide +kernel
theorem dX12_isOpen_17 : decode cX12_isOpen 17 = .ok (.ireturn, 1) := by decide +kernel
theorem dX12_isPiece_0 : decode cX12_isPiece 0 = .ok (.iload_n 1, 1) := by decide +kernel
theorem dX12_isPiece_1 : decode cX12_isPiece 1 = .ok (.iconst 0, 1) := by decide +kernel
theorem dX12_isPiece_2 : decode cX12_isPiece 2 = .ok (.aload_n 0, 1) := by decide +kernel
theorem dX12_isPiece_3 : decode cX12_isPiece 3 = .ok (.getfield 7, 3) := by decide +kernel
theorem dX12_isPiece_6 : decode cX12_isPiece 6 = .ok (.iconst 4, 1) := by decide +kernel
theorem dX12_isPiece_7 : decode cX12_isPiece 7 = .ok (.iaload, 1) := by decide +kernel
theorem dX12_isPiece_8 : decode cX12_isPiece 8 = .ok (.iconst 1, 1) := by decide +kernel
theorem dX12_isPiece_9 : decode cX12_isPiece 9 = .ok (.isub, 1) := by decide +kernel
theorem dX12_isPiece_10 : decode cX12_isPiece 10 = .ok (.invokestatic 72, 3) := by decide +kernel
theorem dX12_isPiece_13 : decode cX12_isPiece 13 = .ok (.ireturn, 1) := by decide +kernel
theorem dX12_its_0 : decode cX12_its 0 = .ok (.aload_n 0, 1) := by decide +kernel
theorem dX12_its_1 : decode cX12_its 1 = .ok (.getfield 7, 3) := by decide +kernel
theorem dX12_its_4 : decode cX12_its 4 = .ok (.bipush 41, 2) := by decide +kernel
theorem dX12_its_6 : decode cX12_its 6 = .ok (.iconst 4, 1) := by decide +kernel
theorem dX12_its_7 : decode cX12_its 7 = .ok (.iload_n 1, 1) := by decide +kernel
theorem dX12_its_8 : decode cX12_its 8 = .ok (.imul, 1) := by decide +kernel
theorem dX12_its_9 : decode cX12_its 9 = .ok (.iadd, 1) := by decide +kernel
theorem dX12_its_10 : decode cX12_its 10 = .ok (.iload_n 2, 1) := by decide +kernel
theorem dX12_its_11 : decode cX12_its 11 = .ok (.iadd, 1) := by decide +kernel
theorem dX12_its_12 : decode cX12_its 12 = .ok (.iaload, 1) := by decide +kernel
theorem dX12_its_13 : decode cX12_its 13 = .ok (.ireturn, 1) := by decide +kernel
theorem dX12_opens_0 : decode cX12_opens 0 = .ok (.iconst 0, 1) := by decide +kernel
theorem dX12_opens_1 : decode cX12_opens 1 = .ok (.istore_n 1, 1) := by decide +kernel
theorem dX12_opens_2 : decode cX12_opens 2 = .ok (.iconst 0, 1) := by decide +kernel
theorem dX12_opens_3 : decode cX12_opens 3 = .ok (.istore_n 2, 1) := by decide +kernel
theorem dX12_opens_4 : decode cX12_opens 4 = .ok (.iload_n 2, 1) := by decide +kernel
theorem dX12_opens_5 : decode cX12_opens 5 = .ok (.aload_n 0, 1) := by decide +kernel
theorem dX12_opens_6 : decode cX12_opens 6 = .ok (.invokevirtual 68, 3) := by decide +kernel
theorem dX12_opens_9 : decode cX12_opens 9 = .ok (.if_icmp .ge 25, 3) := by decide +kernel
theorem dX12_opens_12 : decode cX12_opens 12 = .ok (.iload_n 1, 1) := by decide +kernel
theorem dX12_opens_13 : decode cX12_opens 13 = .ok (.aload_n 0, 1) := by decide +kernel
theorem dX12_opens_14 : decode cX12_opens 14 = .ok (.iload_n 2, 1) := by decide +kernel
theorem dX12_opens_15 : decode cX12_opens 15 = .ok (.invokevirtual 76, 3) := by decide +kernel
theorem dX12_opens_18 : decode cX12_opens 18 = .ok (.ifCond .eq 7, 3) := by decide +kernel
theorem dX12_opens_21 : decode cX12_opens 21 = .ok (.iconst 1, 1) := by decide +kernel
theorem dX12_opens_22 : decode cX12_opens 22 = .ok (.goto 4, 3) := by decide +kernel
theorem dX12_opens_25 : decode cX12_opens 25 = .ok (.iconst 0, 1) := by decide +kernel
theorem dX12_opens_26 : decode cX12_opens 26 = .ok (.iadd, 1) := by decide +kernel
theorem dX12_opens_27 : decode cX12_opens 27 = .ok (.istore_n 1, 1) := by decide +kernel
theorem dX12_opens_28 : decode cX12_opens 28 = .ok (.iinc 2 1, 3) := by decide +kernel
theorem dX12_opens_31 : decode cX12_opens 31 = .ok (.goto (-27), 3) := by decide +kernel
theorem dX12_opens_34 : decode cX12_opens 34 = .ok (.iload_n 1, 1) := by decide +kernel
theorem dX12_opens_35 : decode cX12_opens 35 = .ok (.ireturn, 1) := by decide +kernel
theorem dX12_squares_0 : decode cX12_squares 0 = .ok (.iconst 0, 1) := by decide +kernel
theorem dX12_squares_1 : decode cX12_squares 1 = .ok (.istore_n 1, 1) := by decide +kernel
theorem dX12_squares_2 : decode cX12_squares 2 = .ok (.iconst 0, 1) := by decide +kernel
theorem dX12_squares_3 : decode cX12_squares 3 = .ok (.istore_n 2, 1) := by decide +kernel
theorem dX12_squares_4 : decode cX12_squares 4 = .ok (.iload_n 2, 1) := by decide +kernel
theorem dX12_squares_5 : decode cX12_squares 5 = .ok (.bipush 16, 2) := by decide +kernel
theorem dX12_squares_7 : decode cX12_squares 7 = .ok (.if_icmp .ge 17, 3) := by decide +kernel
theorem dX12_squares_10 : decode cX12_squares 10 = .ok (.iload_n 1, 1) := by decide +kernel
theorem dX12_squares_11 : decode cX12_squares 11 = .ok (.iload_n 0, 1) := by decide +kernel
theorem dX12_squares_12 : decode cX12_squares 12 = .ok (.iload_n 2, 1) := by decide +kernel
theorem dX12_squares_13 : decode cX12_squares 13 = .ok (.ishr, 1) := by decide +kernel
theorem dX12_squares_14 : decode cX12_squares 14 = .ok (.iconst 1, 1) := by decide +kernel
theorem dX12_squares_15 : decode cX12_squares 15 = .ok (.iand, 1) := by decide +kernel
theorem dX12_squares_16 : decode cX12_squares 16 = .ok (.iadd, 1) := by decide +kernel
theorem dX12_squares_17 : decode cX12_squares 17 = .ok (.istore_n 1, 1) := by decide +kernel
theorem dX12_squares_18 : decode cX12_squares 18 = .ok (.iinc 2 1, 3) := by decide +kernel
theorem dX12_squares_21 : decode cX12_squares 21 = .ok (.goto (-17), 3) := by decide +kernel
theorem dX12_squares_24 : decode cX12_squares 24 = .ok (.iload_n 1, 1) := by decide +kernel
theorem dX12_squares_25 : decode cX12_squares 25 = .ok (.ireturn, 1) := by decide +kernel
theorem dX12_normal_0 : decode cX12_normal 0 = .ok (.iload_n 0, 1) := by decide +kernel
theorem dX12_normal_1 : decode cX12_normal 1 = .ok (.istore_n 1, 1) := by decide +kernel
theorem dX12_normal_2 : decode cX12_normal 2 = .ok (.iload_n 1, 1) := by decide +kernel
theorem dX12_normal_3 : decode cX12_normal 3 = .ok (.bipush 15, 2) := by decide +kernel
theorem dX12_normal_5 : decode cX12_normal 5 = .ok (.iand, 1) := by decide +kernel
theorem dX12_normal_6 : decode cX12_normal 6 = .ok (.ifCond .ne 10, 3) := by decide +kernel
theorem dX12_normal_9 : decode cX12_normal 9 = .ok (.iload_n 1, 1) := by decide +kernel
theorem dX12_normal_10 : decode cX12_normal 10 = .ok (.iconst 4, 1) := by decide +kernel
theorem dX12_normal_11 : decode cX12_normal 11 = .ok (.ishr, 1) := by decide +kernel
theorem dX12_normal_12 : decode cX12_normal 12 = .ok (.istore_n 1, 1) := by decide +kernel
theorem dX12_normal_13 : decode cX12_normal 13 = .ok (.goto (-11), 3) := by decide +kernel
theorem dX12_normal_16 : decode cX12_normal 16 = .ok (.iload_n 1, 1) := by decide +kernel
theorem dX12_normal_17 : decode cX12_normal 17 = .ok (.sipush 4369, 3) := by decide +kernel
theorem dX12_normal_20 : decode cX12_normal 20 = .ok (.iand, 1) := by decide +kernel
theorem dX12_normal_21 : decode cX12_normal 21 = .ok (.ifCond .ne 10, 3) := by decide +kernel
theorem dX12_normal_24 : decode cX12_normal 24 = .ok (.iload_n 1, 1) := by decide +kernel
theorem dX12_normal_25 : decode cX12_normal 25 = .ok (.iconst 1, 1) := by decide +kernel
theorem dX12_normal_26 : decode cX12_normal 26 = .ok (.ishr, 1) := by decide +kernel
theorem dX12_normal_27 : decode cX12_normal 27 = .ok (.istore_n 1, 1) := by decide +kernel
theorem dX12_normal_28 : decode cX12_normal 28 = .ok (.goto (-12), 3) := by decide +kernel
theorem dX12_normal_31 : decode cX12_normal 31 = .ok (.iload_n 1, 1) := by decide +kernel
theorem dX12_normal_32 : decode cX12_normal 32 = .ok (.ireturn, 1) := by decide +kernel
theorem dX12_grown_0 : decode cX12_grown 0 = .ok (.iload_n 0, 1) := by decide +kernel
theorem dX12_grown_1 : decode cX12_grown 1 = .ok (.sipush 30583, 3) := by decide +kernel
theorem dX12_grown_4 : decode cX12_grown 4 = .ok (.iand, 1) := by decide +kernel
theorem dX12_grown_5 : decode cX12_grown 5 = .ok (.iconst 1, 1) := by decide +kernel
theorem dX12_grown_6 : decode cX12_grown 6 = .ok (.ishl, 1) := by decide +kernel
theorem dX12_grown_7 : decode cX12_grown 7 = .ok (.istore_n 1, 1) := by decide +kernel
theorem dX12_grown_8 : decode cX12_grown 8 = .ok (.iload_n 0, 1) := by decide +kernel
theorem dX12_grown_9 : decode cX12_grown 9 = .ok (.ldc 80, 2) := by decide +kernel
theorem dX12_grown_11 : decode cX12_grown 11 = .ok (.iand, 1) := by decide +kernel
theorem dX12_grown_12 : decode cX12_grown 12 = .ok (.iconst 1, 1) := by decide +kernel
theorem dX12_grown_13 : decode cX12_grown 13 = .ok (.ishr, 1) := by decide +kernel
theorem dX12_grown_14 : decode cX12_grown 14 = .ok (.istore_n 2, 1) := by decide +kernel
theorem dX12_grown_15 : decode cX12_grown 15 = .ok (.iload_n 0, 1) := by decide +kernel
theorem dX12_grown_16 : decode cX12_grown 16 = .ok (.iload_n 1, 1) := by decide +kernel
theorem dX12_grown_17 : decode cX12_grown 17 = .ok (.ior, 1) := by decide +kernel
theorem dX12_grown_18 : decode cX12_grown 18 = .ok (.iload_n 2, 1) := by decide +kernel
theorem dX12_grown_19 : decode cX12_grown 19 = .ok (.ior, 1) := by decide +kernel
theorem dX12_grown_20 : decode cX12_grown 20 = .ok (.iload_n 0, 1) := by decide +kernel
theorem dX12_grown_21 : decode cX12_grown 21 = .ok (.iconst 4, 1) := by decide +kernel
theorem dX12_grown_22 : decode cX12_grown 22 = .ok (.ishl, 1) := by decide +kernel
theorem dX12_grown_23 : decode cX12_grown 23 = .ok (.ior, 1) := by decide +kernel
theorem dX12_grown_24 : decode cX12_grown 24 = .ok (.iload_n 0, 1) := by decide +kernel
theorem dX12_grown_25 : decode cX12_grown 25 = .ok (.iconst 4, 1) := by decide +kernel
theorem dX12_grown_26 : decode cX12_grown 26 = .ok (.ishr, 1) := by decide +kernel
theorem dX12_grown_27 : decode cX12_grown 27 = .ok (.ior, 1) := by decide +kernel
theorem dX12_grown_28 : decode cX12_grown 28 = .ok (.ldc 81, 2) := by decide +kernel
theorem dX12_grown_30 : decode cX12_grown 30 = .ok (.iand, 1) := by decide +kernel
theorem dX12_grown_31 : decode cX12_grown 31 = .ok (.ireturn, 1) := by decide +kernel
theorem dX12_isShape_0 : decode cX12_isShape 0 = .ok (.iload_n 0, 1) := by decide +kernel
theorem dX12_isShape_1 : decode cX12_isShape 1 = .ok (.iconst 1, 1) := by decide +kernel
theorem dX12_isShape_2 : decode cX12_isShape 2 = .ok (.ldc 81, 2) := by decide +kernel
theorem dX12_isShape_4 : decode cX12_isShape 4 = .ok (.invokestatic 72, 3) := by decide +kernel
theorem dX12_isShape_7 : decode cX12_isShape 7 = .ok (.ifCond .eq 11, 3) := by decide +kernel
theorem dX12_isShape_10 : decode cX12_isShape 10 = .ok (.iload_n 0, 1) := by decide +kernel
theorem dX12_isShape_11 : decode cX12_isShape 11 = .ok (.invokestatic 82, 3) := by decide +kernel
theorem dX12_isShape_14 : decode cX12_isShape 14 = .ok (.iconst 5, 1) := by decide +kernel
theorem dX12_isShape_15 : decode cX12_isShape 15 = .ok (.if_icmp .le 5, 3) := by decide +kernel
theorem dX12_isShape_18 : decode cX12_isShape 18 = .ok (.iconst 0, 1) := by decide +kernel
theorem dX12_isShape_19 : decode cX12_isShape 19 = .ok (.ireturn, 1) := by decide +kernel
theorem dX12_isShape_20 : decode cX12_isShape 20 = .ok (.iload_n 0, 1) := by decide +kernel
theorem dX12_isShape_21 : decode cX12_isShape 21 = .ok (.iload_n 0, 1) := by decide +kernel
theorem dX12_isShape_22 : decode cX12_isShape 22 = .ok (.ineg, 1) := by decide +kernel
theorem dX12_isShape_23 : decode cX12_isShape 23 = .ok (.iand, 1) := by decide +kernel
theorem dX12_isShape_24 : decode cX12_isShape 24 = .ok (.istore_n 1, 1) := by decide +kernel
theorem dX12_isShape_25 : decode cX12_isShape 25 = .ok (.iconst 0, 1) := by decide +kernel
theorem dX12_isShape_26 : decode cX12_isShape 26 = .ok (.istore_n 2, 1) := by decide +kernel
theorem dX12_isShape_27 : decode cX12_isShape 27 = .ok (.iload_n 2, 1) := by decide +kernel
theorem dX12_isShape_28 : decode cX12_isShape 28 = .ok (.iconst 5, 1) := by decide +kernel
theorem dX12_isShape_29 : decode cX12_isShape 29 = .ok (.if_icmp .ge 16, 3) := by decide +kernel
theorem dX12_isShape_32 : decode cX12_isShape 32 = .ok (.iload_n 1, 1) := by decide +kernel
theorem dX12_isShape_33 : decode cX12_isShape 33 = .ok (.invokestatic 86, 3) := by decide +kernel
theorem dX12_isShape_36 : decode cX12_isShape 36 = .ok (.iload_n 0, 1) := by decide +kernel
theorem dX12_isShape_37 : decode cX12_isShape 37 = .ok (.iand, 1) := by decide +kernel
theorem dX12_isShape_38 : decode cX12_isShape 38 = .ok (.istore_n 1, 1) := by decide +kernel
theorem dX12_isShape_39 : decode cX12_isShape 39 = .ok (.iinc 2 1, 3) := by decide +kernel
theorem dX12_isShape_42 : decode cX12_isShape 42 = .ok (.goto (-15), 3) := by decide +kernel
theorem dX12_isShape_45 : decode cX12_isShape 45 = .ok (.iload_n 1, 1) := by decide +kernel
theorem dX12_isShape_46 : decode cX12_isShape 46 = .ok (.iload_n 0, 1) := by decide +kernel
theorem dX12_isShape_47 : decode cX12_isShape 47 = .ok (.if_icmp .ne 7, 3) := by decide +kernel
theorem dX12_isShape_50 : decode cX12_isShape 50 = .ok (.iconst 1, 1) := by decide +kernel
theorem dX12_isShape_51 : decode cX12_isShape 51 = .ok (.goto 4, 3) := by decide +kernel
theorem dX12_isShape_54 : decode cX12_isShape 54 = .ok (.iconst 0, 1) := by decide +kernel
theorem dX12_isShape_55 : decode cX12_isShape 55 = .ok (.ireturn, 1) := by decide +kernel
theorem dX12_changed_0 : decode cX12_changed 0 = .ok (.iconst 0, 1) := by decide +kernel
theorem dX12_changed_1 : decode cX12_changed 1 = .ok (.istore_n 2, 1) := by decide +kernel
theorem dX12_changed_2 : decode cX12_changed 2 = .ok (.iconst 0, 1) := by decide +kernel
theorem dX12_changed_3 : decode cX12_changed 3 = .ok (.istore_n 3, 1) := by decide +kernel
theorem dX12_changed_4 : decode cX12_changed 4 = .ok (.iload_n 3, 1) := by decide +kernel
theorem dX12_changed_5 : decode cX12_changed 5 = .ok (.iconst 4, 1) := by decide +kernel
theorem dX12_changed_6 : decode cX12_changed 6 = .ok (.if_icmp .ge 65, 3) := by decide +kernel
theorem dX12_changed_9 : decode cX12_changed 9 = .ok (.iconst 0, 1) := by decide +kernel
theorem dX12_changed_10 : decode cX12_changed 10 = .ok (.istore 4, 2) := by decide +kernel
theorem dX12_changed_12 : decode cX12_changed 12 = .ok (.iload 4, 2) := by decide +kernel
theorem dX12_changed_14 : decode cX12_changed 14 = .ok (.iconst 4, 1) := by decide +kernel
theorem dX12_changed_15 : decode cX12_changed 15 = .ok (.if_icmp .ge 50, 3) := by decide +kernel
theorem dX12_changed_18 : decode cX12_changed 18 = .ok (.iload_n 1, 1) := by decide +kernel
theorem dX12_changed_19 : decode cX12_changed 19 = .ok (.ifCond .ne 14, 3) := by decide +kernel
theorem dX12_changed_22 : decode cX12_changed 22 = .ok (.iconst 4, 1) := by decide +kernel
theorem dX12_changed_23 : decode cX12_changed 23 = .ok (.iload 4, 2) := by decide +kernel
theorem dX12_changed_25 : decode cX12_changed 25 = .ok (.imul, 1) := by decide +kernel
theorem dX12_changed_26 : decode cX12_changed 26 = .ok (.iconst 3, 1) := by decide +kernel
theorem dX12_changed_27 : decode cX12_changed 27 = .ok (.iadd, 1) := by decide +kernel
theorem dX12_changed_28 : decode cX12_changed 28 = .ok (.iload_n 3, 1) := by decide +kernel
theorem dX12_changed_29 : decode cX12_changed 29 = .ok (.isub, 1) := by decide +kernel
theorem dX12_changed_30 : decode cX12_changed 30 = .ok (.goto 11, 3) := by decide +kernel
theorem dX12_changed_33 : decode cX12_changed 33 = .ok (.iconst 4, 1) := by decide +kernel
theorem dX12_changed_34 : decode cX12_changed 34 = .ok (.iload_n 3, 1) := by decide +kernel
theorem dX12_changed_35 : decode cX12_changed 35 = .ok (.imul, 1) := by decide +kernel
theorem dX12_changed_36 : decode cX12_changed 36 = .ok (.iconst 3, 1) := by decide +kernel
theorem dX12_changed_37 : decode cX12_changed 37 = .ok (.iadd, 1) := by decide +kernel
theorem dX12_changed_38 : decode cX12_changed 38 = .ok (.iload 4, 2) := by decide +kernel
theorem dX12_changed_40 : decode cX12_changed 40 = .ok (.isub, 1) := by decide +kernel
theorem dX12_changed_41 : decode cX12_changed 41 = .ok (.istore 5, 2) := by decide +kernel
theorem dX12_changed_43 : decode cX12_changed 43 = .ok (.iload_n 2, 1) := by decide +kernel
theorem dX12_changed_44 : decode cX12_changed 44 = .ok (.iload_n 0, 1) := by decide +kernel
theorem dX12_changed_45 : decode cX12_changed 45 = .ok (.iconst 4, 1) := by decide +kernel
theorem dX12_changed_46 : decode cX12_changed 46 = .ok (.iload_n 3, 1) := by decide +kernel
theorem dX12_changed_47 : decode cX12_changed 47 = .ok (.imul, 1) := by decide +kernel
theorem dX12_changed_48 : decode cX12_changed 48 = .ok (.iload 4, 2) := by decide +kernel
theorem dX12_changed_50 : decode cX12_changed 50 = .ok (.iadd, 1) := by decide +kernel
theorem dX12_changed_51 : decode cX12_changed 51 = .ok (.ishr, 1) := by decide +kernel
theorem dX12_changed_52 : decode cX12_changed 52 = .ok (.iconst 1, 1) := by decide +kernel
theorem dX12_changed_53 : decode cX12_changed 53 = .ok (.iand, 1) := by decide +kernel
theorem dX12_changed_54 : decode cX12_changed 54 = .ok (.iload 5, 2) := by decide +kernel
theorem dX12_changed_56 : decode cX12_changed 56 = .ok (.ishl, 1) := by decide +kernel
theorem dX12_changed_57 : decode cX12_changed 57 = .ok (.ior, 1) := by decide +kernel
theorem dX12_changed_58 : decode cX12_changed 58 = .ok (.istore_n 2, 1) := by decide +kernel
theorem dX12_changed_59 : decode cX12_changed 59 = .ok (.iinc 4 1, 3) := by decide +kernel
theorem dX12_changed_62 : decode cX12_changed 62 = .ok (.goto (-50), 3) := by decide +kernel
theorem dX12_changed_65 : decode cX12_changed 65 = .ok (.iinc 3 1, 3) := by decide +kernel
theorem dX12_changed_68 : decode cX12_changed 68 = .ok (.goto (-64), 3) := by decide +kernel
theorem dX12_changed_71 : decode cX12_changed 71 = .ok (.iload_n 2, 1) := by decide +kernel
theorem dX12_changed_72 : decode cX12_changed 72 = .ok (.invokestatic 89, 3) := by decide +kernel
theorem dX12_changed_75 : decode cX12_changed 75 = .ok (.ireturn, 1) := by decide +kernel
theorem dX12_addsForm_0 : decode cX12_addsForm 0 = .ok (.iconst 0, 1) := by decide +kernel
theorem dX12_addsForm_1 : decode cX12_addsForm 1 = .ok (.istore_n 2, 1) := by decide +kernel
theorem dX12_addsForm_2 : decode cX12_addsForm 2 = .ok (.iload_n 2, 1) := by decide +kernel
theorem dX12_addsForm_3 : decode cX12_addsForm 3 = .ok (.aload_n 0, 1) := by decide +kernel
theorem dX12_addsForm_4 : decode cX12_addsForm 4 = .ok (.getfield 92, 3) := by decide +kernel
theorem dX12_addsForm_7 : decode cX12_addsForm 7 = .ok (.if_icmp .ge 19, 3) := by decide +kernel
theorem dX12_addsForm_10 : decode cX12_addsForm 10 = .ok (.aload_n 0, 1) := by decide +kernel
theorem dX12_addsForm_11 : decode cX12_addsForm 11 = .ok (.getfield 20, 3) := by decide +kernel
theorem dX12_addsForm_14 : decode cX12_addsForm 14 = .ok (.iload_n 2, 1) := by decide +kernel
theorem dX12_addsForm_15 : decode cX12_addsForm 15 = .ok (.iaload, 1) := by decide +kernel
theorem dX12_addsForm_16 : decode cX12_addsForm 16 = .ok (.iload_n 1, 1) := by decide +kernel
theorem dX12_addsForm_17 : decode cX12_addsForm 17 = .ok (.if_icmp .ge 9, 3) := by decide +kernel
theorem dX12_addsForm_20 : decode cX12_addsForm 20 = .ok (.iinc 2 1, 3) := by decide +kernel
theorem dX12_addsForm_23 : decode cX12_addsForm 23 = .ok (.goto (-21), 3) := by decide +kernel
theorem dX12_addsForm_26 : decode cX12_addsForm 26 = .ok (.iload_n 2, 1) := by decide +kernel
theorem dX12_addsForm_27 : decode cX12_addsForm 27 = .ok (.aload_n 0, 1) := by decide +kernel
theorem dX12_addsForm_28 : decode cX12_addsForm 28 = .ok (.getfield 92, 3) := by decide +kernel
theorem dX12_addsForm_31 : decode cX12_addsForm 31 = .ok (.if_icmp .eq 13, 3) := by decide +kernel
theorem dX12_addsForm_34 : decode cX12_addsForm 34 = .ok (.aload_n 0, 1) := by decide +kernel
theorem dX12_addsForm_35 : decode cX12_addsForm 35 = .ok (.getfield 20, 3) := by decide +kernel
theorem dX12_addsForm_38 : decode cX12_addsForm 38 = .ok (.iload_n 2, 1) := by decide +kernel
theorem dX12_addsForm_39 : decode cX12_addsForm 39 = .ok (.iaload, 1) := by decide +kernel
theorem dX12_addsForm_40 : decode cX12_addsForm 40 = .ok (.iload_n 1, 1) := by decide +kernel
theorem dX12_addsForm_41 : decode cX12_addsForm 41 = .ok (.if_icmp .eq 50, 3) := by decide +kernel
theorem dX12_addsForm_44 : decode cX12_addsForm 44 = .ok (.aload_n 0, 1) := by decide +kernel
theorem dX12_addsForm_45 : decode cX12_addsForm 45 = .ok (.getfield 92, 3) := by decide +kernel
theorem dX12_addsForm_48 : decode cX12_addsForm 48 = .ok (.istore_n 3, 1) := by decide +kernel
theorem dX12_addsForm_49 : decode cX12_addsForm 49 = .ok (.iload_n 3, 1) := by decide +kernel
theorem dX12_addsForm_50 : decode cX12_addsForm 50 = .ok (.iload_n 2, 1) := by decide +kernel
theorem dX12_addsForm_51 : decode cX12_addsForm 51 = .ok (.if_icmp .le 23, 3) := by decide +kernel
theorem dX12_addsForm_54 : decode cX12_addsForm 54 = .ok (.aload_n 0, 1) := by decide +kernel
theorem dX12_addsForm_55 : decode cX12_addsForm 55 = .ok (.getfield 20, 3) := by decide +kernel
theorem dX12_addsForm_58 : decode cX12_addsForm 58 = .ok (.iload_n 3, 1) := by decide +kernel
theorem dX12_addsForm_59 : decode cX12_addsForm 59 = .ok (.aload_n 0, 1) := by decide +kernel
theorem dX12_addsForm_60 : decode cX12_addsForm 60 = .ok (.getfield 20, 3) := by decide +kernel
theorem dX12_addsForm_63 : decode cX12_addsForm 63 = .ok (.iload_n 3, 1) := by decide +kernel
theorem dX12_addsForm_64 : decode cX12_addsForm 64 = .ok (.iconst 1, 1) := by decide +kernel
theorem dX12_addsForm_65 : decode cX12_addsForm 65 = .ok (.isub, 1) := by decide +kernel
theorem dX12_addsForm_66 : decode cX12_addsForm 66 = .ok (.iaload, 1) := by decide +kernel
theorem dX12_addsForm_67 : decode cX12_addsForm 67 = .ok (.iastore, 1) := by decide +kernel
theorem dX12_addsForm_68 : decode cX12_addsForm 68 = .ok (.iinc 3 (-1), 3) := by decide +kernel
theorem dX12_addsForm_71 : decode cX12_addsForm 71 = .ok (.goto (-22), 3) := by decide +kernel
theorem dX12_addsForm_74 : decode cX12_addsForm 74 = .ok (.aload_n 0, 1) := by decide +kernel
theorem dX12_addsForm_75 : decode cX12_addsForm 75 = .ok (.getfield 20, 3) := by decide +kernel
theorem dX12_addsForm_78 : decode cX12_addsForm 78 = .ok (.iload_n 2, 1) := by decide +kernel
theorem dX12_addsForm_79 : decode cX12_addsForm 79 = .ok (.iload_n 1, 1) := by decide +kernel
theorem dX12_addsForm_80 : decode cX12_addsForm 80 = .ok (.iastore, 1) := by decide +kernel
theorem dX12_addsForm_81 : decode cX12_addsForm 81 = .ok (.aload_n 0, 1) := by decide +kernel
theorem dX12_addsForm_82 : decode cX12_addsForm 82 = .ok (.dup, 1) := by decide +kernel
theorem dX12_addsForm_83 : decode cX12_addsForm 83 = .ok (.getfield 92, 3) := by decide +kernel
theorem dX12_addsForm_86 : decode cX12_addsForm 86 = .ok (.iconst 1, 1) := by decide +kernel
theorem dX12_addsForm_87 : decode cX12_addsForm 87 = .ok (.iadd, 1) := by decide +kernel
theorem dX12_addsForm_88 : decode cX12_addsForm 88 = .ok (.putfield 92, 3) := by decide +kernel
theorem dX12_addsForm_91 : decode cX12_addsForm 91 = .ok (.return_, 1) := by decide +kernel
theorem dX12_findsForms_0 : decode cX12_findsForms 0 = .ok (.aload_n 0, 1) := by decide +kernel
theorem dX12_findsForms_1 : decode cX12_findsForms 1 = .ok (.iconst 0, 1) := by decide +kernel
theorem dX12_findsForms_2 : decode cX12_findsForms 2 = .ok (.putfield 92, 3) := by decide +kernel
theorem dX12_findsForms_5 : decode cX12_findsForms 5 = .ok (.aload_n 0, 1) := by decide +kernel
theorem dX12_findsForms_6 : decode cX12_findsForms 6 = .ok (.iload_n 1, 1) := by decide +kernel
theorem dX12_findsForms_7 : decode cX12_findsForms 7 = .ok (.iconst 0, 1) := by decide +kernel
theorem dX12_findsForms_8 : decode cX12_findsForms 8 = .ok (.invokevirtual 95, 3) := by decide +kernel
theorem dX12_findsForms_11 : decode cX12_findsForms 11 = .ok (.istore_n 2, 1) := by decide +kernel
theorem dX12_findsForms_12 : decode cX12_findsForms 12 = .ok (.iconst 0, 1) := by decide +kernel
theorem dX12_findsForms_13 : decode cX12_findsForms 13 = .ok (.istore_n 3, 1) := by decide +kernel
theorem dX12_findsForms_14 : decode cX12_findsForms 14 = .ok (.iload_n 3, 1) := by decide +kernel
theorem dX12_findsForms_15 : decode cX12_findsForms 15 = .ok (.bipush 8, 2) := by decide +kernel
theorem dX12_findsForms_17 : decode cX12_findsForms 17 = .ok (.if_icmp .ge 70, 3) := by decide +kernel
theorem dX12_findsForms_20 : decode cX12_findsForms 20 = .ok (.aload_n 0, 1) := by decide +kernel
theorem dX12_findsForms_21 : decode cX12_findsForms 21 = .ok (.iload_n 1, 1) := by decide +kernel
theorem dX12_findsForms_22 : decode cX12_findsForms 22 = .ok (.iconst 1, 1) := by decide +kernel
theorem dX12_findsForms_23 : decode cX12_findsForms 23 = .ok (.invokevirtual 95, 3) := by decide +kernel
theorem dX12_findsForms_26 : decode cX12_findsForms 26 = .ok (.iconst 2, 1) := by decide +kernel
theorem dX12_findsForms_27 : decode cX12_findsForms 27 = .ok (.if_icmp .eq 22, 3) := by decide +kernel
theorem dX12_findsForms_30 : decode cX12_findsForms 30 = .ok (.iload_n 3, 1) := by decide +kernel
theorem dX12_findsForms_31 : decode cX12_findsForms 31 = .ok (.ifCond .eq 18, 3) := by decide +kernel
theorem dX12_findsForms_34 : decode cX12_findsForms 34 = .ok (.aload_n 0, 1) := by decide +kernel
theorem dX12_findsForms_35 : decode cX12_findsForms 35 = .ok (.iload_n 1, 1) := by decide +kernel
theorem dX12_findsForms_36 : decode cX12_findsForms 36 = .ok (.iconst 1, 1) := by decide +kernel
theorem dX12_findsForms_37 : decode cX12_findsForms 37 = .ok (.invokevirtual 95, 3) := by decide +kernel
theorem dX12_findsForms_40 : decode cX12_findsForms 40 = .ok (.iconst 1, 1) := by decide +kernel
theorem dX12_findsForms_41 : decode cX12_findsForms 41 = .ok (.if_icmp .ne 12, 3) := by decide +kernel
theorem dX12_findsForms_44 : decode cX12_findsForms 44 = .ok (.iload_n 3, 1) := by decide +kernel
theorem dX12_findsForms_45 : decode cX12_findsForms 45 = .ok (.iconst 4, 1) := by decide +kernel
theorem dX12_findsForms_46 : decode cX12_findsForms 46 = .ok (.if_icmp .ge 7, 3) := by decide +kernel
theorem dX12_findsForms_49 : decode cX12_findsForms 49 = .ok (.iconst 1, 1) := by decide +kernel
theorem dX12_findsForms_50 : decode cX12_findsForms 50 = .ok (.goto 4, 3) := by decide +kernel
theorem dX12_findsForms_53 : decode cX12_findsForms 53 = .ok (.iconst 0, 1) := by decide +kernel
theorem dX12_findsForms_54 : decode cX12_findsForms 54 = .ok (.istore 4, 2) := by decide +kernel
theorem dX12_findsForms_56 : decode cX12_findsForms 56 = .ok (.iload 4, 2) := by decide +kernel
theorem dX12_findsForms_58 : decode cX12_findsForms 58 = .ok (.ifCond .eq 8, 3) := by decide +kernel
theorem dX12_findsForms_61 : decode cX12_findsForms 61 = .ok (.aload_n 0, 1) := by decide +kernel
theorem dX12_findsForms_62 : decode cX12_findsForms 62 = .ok (.iload_n 2, 1) := by decide +kernel
theorem dX12_findsForms_63 : decode cX12_findsForms 63 = .ok (.invokevirtual 99, 3) := by decide +kernel
theorem dX12_findsForms_66 : decode cX12_findsForms 66 = .ok (.iload_n 2, 1) := by decide +kernel
theorem dX12_findsForms_67 : decode cX12_findsForms 67 = .ok (.iload_n 3, 1) := by decide +kernel
theorem dX12_findsForms_68 : decode cX12_findsForms 68 = .ok (.iconst 3, 1) := by decide +kernel
theorem dX12_findsForms_69 : decode cX12_findsForms 69 = .ok (.if_icmp .ne 7, 3) := by decide +kernel
theorem dX12_findsForms_72 : decode cX12_findsForms 72 = .ok (.iconst 1, 1) := by decide +kernel
theorem dX12_findsForms_73 : decode cX12_findsForms 73 = .ok (.goto 4, 3) := by decide +kernel
theorem dX12_findsForms_76 : decode cX12_findsForms 76 = .ok (.iconst 0, 1) := by decide +kernel
theorem dX12_findsForms_77 : decode cX12_findsForms 77 = .ok (.invokestatic 103, 3) := by decide +kernel
theorem dX12_findsForms_80 : decode cX12_findsForms 80 = .ok (.istore_n 2, 1) := by decide +kernel
theorem dX12_findsForms_81 : decode cX12_findsForms 81 = .ok (.iinc 3 1, 3) := by decide +kernel
theorem dX12_findsForms_84 : decode cX12_findsForms 84 = .ok (.goto (-70), 3) := by decide +kernel
theorem dX12_findsForms_87 : decode cX12_findsForms 87 = .ok (.return_, 1) := by decide +kernel
theorem dX12_cellsOf_0 : decode cX12_cellsOf 0 = .ok (.lconst 0, 1) := by decide +kernel
theorem dX12_cellsOf_1 : decode cX12_cellsOf 1 = .ok (.lstore 5, 2) := by decide +kernel
theorem dX12_cellsOf_3 : decode cX12_cellsOf 3 = .ok (.iconst 0, 1) := by decide +kernel
theorem dX12_cellsOf_4 : decode cX12_cellsOf 4 = .ok (.istore 7, 2) := by decide +kernel
theorem dX12_cellsOf_6 : decode cX12_cellsOf 6 = .ok (.iload 7, 2) := by decide +kernel
theorem dX12_cellsOf_8 : decode cX12_cellsOf 8 = .ok (.bipush 16, 2) := by decide +kernel
theorem dX12_cellsOf_10 : decode cX12_cellsOf 10 = .ok (.if_icmp .ge 117, 3) := by decide +kernel
theorem dX12_cellsOf_13 : decode cX12_cellsOf 13 = .ok (.iload_n 1, 1) := by decide +kernel
theorem dX12_cellsOf_14 : decode cX12_cellsOf 14 = .ok (.iload 7, 2) := by decide +kernel
theorem dX12_cellsOf_16 : decode cX12_cellsOf 16 = .ok (.ishr, 1) := by decide +kernel
theorem dX12_cellsOf_17 : decode cX12_cellsOf 17 = .ok (.iconst 1, 1) := by decide +kernel
theorem dX12_cellsOf_18 : decode cX12_cellsOf 18 = .ok (.iand, 1) := by decide +kernel
theorem dX12_cellsOf_19 : decode cX12_cellsOf 19 = .ok (.iconst 1, 1) := by decide +kernel
theorem dX12_cellsOf_20 : decode cX12_cellsOf 20 = .ok (.if_icmp .ne 101, 3) := by decide +kernel
theorem dX12_cellsOf_23 : decode cX12_cellsOf 23 = .ok (.iload_n 2, 1) := by decide +kernel
theorem dX12_cellsOf_24 : decode cX12_cellsOf 24 = .ok (.iload 7, 2) := by decide +kernel
theorem dX12_cellsOf_26 : decode cX12_cellsOf 26 = .ok (.iconst 4, 1) := by decide +kernel
theorem dX12_cellsOf_27 : decode cX12_cellsOf 27 = .ok (.irem, 1) := by decide +kernel
theorem dX12_cellsOf_28 : decode cX12_cellsOf 28 = .ok (.iadd, 1) := by decide +kernel
theorem dX12_cellsOf_29 : decode cX12_cellsOf 29 = .ok (.istore 8, 2) := by decide +kernel
theorem dX12_cellsOf_31 : decode cX12_cellsOf 31 = .ok (.iload_n 3, 1) := by decide +kernel
theorem dX12_cellsOf_32 : decode cX12_cellsOf 32 = .ok (.iload 7, 2) := by decide +kernel
theorem dX12_cellsOf_34 : decode cX12_cellsOf 34 = .ok (.iconst 4, 1) := by decide +kernel
theorem dX12_cellsOf_35 : decode cX12_cellsOf 35 = .ok (.idiv, 1) := by decide +kernel
theorem dX12_cellsOf_36 : decode cX12_cellsOf 36 = .ok (.iadd, 1) := by decide +kernel
theorem dX12_cellsOf_37 : decode cX12_cellsOf 37 = .ok (.istore 9, 2) := by decide +kernel
theorem dX12_cellsOf_39 : decode cX12_cellsOf 39 = .ok (.iload 9, 2) := by decide +kernel
theorem dX12_cellsOf_41 : decode cX12_cellsOf 41 = .ok (.aload_n 0, 1) := by decide +kernel
theorem dX12_cellsOf_42 : decode cX12_cellsOf 42 = .ok (.getfield 7, 3) := by decide +kernel
theorem dX12_cellsOf_45 : decode cX12_cellsOf 45 = .ok (.iconst 0, 1) := by decide +kernel
theorem dX12_cellsOf_46 : decode cX12_cellsOf 46 = .ok (.iaload, 1) := by decide +kernel
theorem dX12_cellsOf_47 : decode cX12_cellsOf 47 = .ok (.imul, 1) := by decide +kernel
theorem dX12_cellsOf_48 : decode cX12_cellsOf 48 = .ok (.iload 8, 2) := by decide +kernel
theorem dX12_cellsOf_50 : decode cX12_cellsOf 50 = .ok (.iadd, 1) := by decide +kernel
theorem dX12_cellsOf_51 : decode cX12_cellsOf 51 = .ok (.istore 10, 2) := by decide +kernel
theorem dX12_cellsOf_53 : decode cX12_cellsOf 53 = .ok (.iload 8, 2) := by decide +kernel
theorem dX12_cellsOf_55 : decode cX12_cellsOf 55 = .ok (.aload_n 0, 1) := by decide +kernel
theorem dX12_cellsOf_56 : decode cX12_cellsOf 56 = .ok (.getfield 7, 3) := by decide +kernel
theorem dX12_cellsOf_59 : decode cX12_cellsOf 59 = .ok (.iconst 0, 1) := by decide +kernel
theorem dX12_cellsOf_60 : decode cX12_cellsOf 60 = .ok (.iaload, 1) := by decide +kernel
theorem dX12_cellsOf_61 : decode cX12_cellsOf 61 = .ok (.if_icmp .ge 49, 3) := by decide +kernel
theorem dX12_cellsOf_64 : decode cX12_cellsOf 64 = .ok (.iload 9, 2) := by decide +kernel
theorem dX12_cellsOf_66 : decode cX12_cellsOf 66 = .ok (.aload_n 0, 1) := by decide +kernel
theorem dX12_cellsOf_67 : decode cX12_cellsOf 67 = .ok (.getfield 7, 3) := by decide +kernel
theorem dX12_cellsOf_70 : decode cX12_cellsOf 70 = .ok (.iconst 1, 1) := by decide +kernel
theorem dX12_cellsOf_71 : decode cX12_cellsOf 71 = .ok (.iaload, 1) := by decide +kernel
theorem dX12_cellsOf_72 : decode cX12_cellsOf 72 = .ok (.if_icmp .ge 38, 3) := by decide +kernel
theorem dX12_cellsOf_75 : decode cX12_cellsOf 75 = .ok (.aload_n 0, 1) := by decide +kernel
theorem dX12_cellsOf_76 : decode cX12_cellsOf 76 = .ok (.iload 10, 2) := by decide +kernel
theorem dX12_cellsOf_78 : decode cX12_cellsOf 78 = .ok (.invokevirtual 76, 3) := by decide +kernel
theorem dX12_cellsOf_81 : decode cX12_cellsOf 81 = .ok (.ifCond .eq 29, 3) := by decide +kernel
theorem dX12_cellsOf_84 : decode cX12_cellsOf 84 = .ok (.aload_n 0, 1) := by decide +kernel
theorem dX12_cellsOf_85 : decode cX12_cellsOf 85 = .ok (.getfield 7, 3) := by decide +kernel
theorem dX12_cellsOf_88 : decode cX12_cellsOf 88 = .ok (.iconst 5, 1) := by decide +kernel
theorem dX12_cellsOf_89 : decode cX12_cellsOf 89 = .ok (.iload 10, 2) := by decide +kernel
theorem dX12_cellsOf_91 : decode cX12_cellsOf 91 = .ok (.iadd, 1) := by decide +kernel
theorem dX12_cellsOf_92 : decode cX12_cellsOf 92 = .ok (.iaload, 1) := by decide +kernel
theorem dX12_cellsOf_93 : decode cX12_cellsOf 93 = .ok (.ifCond .eq 19, 3) := by decide +kernel
theorem dX12_cellsOf_96 : decode cX12_cellsOf 96 = .ok (.aload_n 0, 1) := by decide +kernel
theorem dX12_cellsOf_97 : decode cX12_cellsOf 97 = .ok (.getfield 7, 3) := by decide +kernel
theorem dX12_cellsOf_100 : decode cX12_cellsOf 100 = .ok (.iconst 5, 1) := by decide +kernel
theorem dX12_cellsOf_101 : decode cX12_cellsOf 101 = .ok (.iload 10, 2) := by decide +kernel
theorem dX12_cellsOf_103 : decode cX12_cellsOf 103 = .ok (.iadd, 1) := by decide +kernel
theorem dX12_cellsOf_104 : decode cX12_cellsOf 104 = .ok (.iaload, 1) := by decide +kernel
theorem dX12_cellsOf_105 : decode cX12_cellsOf 105 = .ok (.iload 4, 2) := by decide +kernel
theorem dX12_cellsOf_107 : decode cX12_cellsOf 107 = .ok (.if_icmp .eq 5, 3) := by decide +kernel
theorem dX12_cellsOf_110 : decode cX12_cellsOf 110 = .ok (.lconst 0, 1) := by decide +kernel
theorem dX12_cellsOf_111 : decode cX12_cellsOf 111 = .ok (.lreturn, 1) := by decide +kernel
theorem dX12_cellsOf_112 : decode cX12_cellsOf 112 = .ok (.lload 5, 2) := by decide +kernel
theorem dX12_cellsOf_114 : decode cX12_cellsOf 114 = .ok (.lconst 1, 1) := by decide +kernel
theorem dX12_cellsOf_115 : decode cX12_cellsOf 115 = .ok (.iload 10, 2) := by decide +kernel
theorem dX12_cellsOf_117 : decode cX12_cellsOf 117 = .ok (.lshl, 1) := by decide +kernel
theorem dX12_cellsOf_118 : decode cX12_cellsOf 118 = .ok (.lor, 1) := by decide +kernel
theorem dX12_cellsOf_119 : decode cX12_cellsOf 119 = .ok (.lstore 5, 2) := by decide +kernel
theorem dX12_cellsOf_121 : decode cX12_cellsOf 121 = .ok (.iinc 7 1, 3) := by decide +kernel
theorem dX12_cellsOf_124 : decode cX12_cellsOf 124 = .ok (.goto (-118), 3) := by decide +kernel
theorem dX12_cellsOf_127 : decode cX12_cellsOf 127 = .ok (.lload 5, 2) := by decide +kernel
theorem dX12_cellsOf_129 : decode cX12_cellsOf 129 = .ok (.lreturn, 1) := by decide +kernel
theorem dX12_lowest_0 : decode cX12_lowest 0 = .ok (.iconst 0, 1) := by decide +kernel
theorem dX12_lowest_1 : decode cX12_lowest 1 = .ok (.istore_n 2, 1) := by decide +kernel
theorem dX12_lowest_2 : decode cX12_lowest 2 = .ok (.lload_n 0, 1) := by decide +kernel
theorem dX12_lowest_3 : decode cX12_lowest 3 = .ok (.iload_n 2, 1) := by decide +kernel
theorem dX12_lowest_4 : decode cX12_lowest 4 = .ok (.lshr, 1) := by decide +kernel
theorem dX12_lowest_5 : decode cX12_lowest 5 = .ok (.lconst 1, 1) := by decide +kernel
theorem dX12_lowest_6 : decode cX12_lowest 6 = .ok (.land, 1) := by decide +kernel
theorem dX12_lowest_7 : decode cX12_lowest 7 = .ok (.lconst 0, 1) := by decide +kernel
theorem dX12_lowest_8 : decode cX12_lowest 8 = .ok (.lcmp, 1) := by decide +kernel
theorem dX12_lowest_9 : decode cX12_lowest 9 = .ok (.ifCond .ne 9, 3) := by decide +kernel
theorem dX12_lowest_12 : decode cX12_lowest 12 = .ok (.iinc 2 1, 3) := by decide +kernel
theorem dX12_lowest_15 : decode cX12_lowest 15 = .ok (.goto (-13), 3) := by decide +kernel
theorem dX12_lowest_18 : decode cX12_lowest 18 = .ok (.iload_n 2, 1) := by decide +kernel
theorem dX12_lowest_19 : decode cX12_lowest 19 = .ok (.ireturn, 1) := by decide +kernel
theorem dX12_findsPlacements_0 : decode cX12_findsPlacements 0 = .ok (.aload_n 0, 1) := by decide +kernel
theorem dX12_findsPlacements_1 : decode cX12_findsPlacements 1 = .ok (.iconst 0, 1) := by decide +kernel
theorem dX12_findsPlacements_2 : decode cX12_findsPlacements 2 = .ok (.putfield 106, 3) := by decide +kernel
theorem dX12_findsPlacements_5 : decode cX12_findsPlacements 5 = .ok (.iconst 0, 1) := by decide +kernel
theorem dX12_findsPlacements_6 : decode cX12_findsPlacements 6 = .ok (.istore_n 1, 1) := by decide +kernel
theorem dX12_findsPlacements_7 : decode cX12_findsPlacements 7 = .ok (.iload_n 1, 1) := by decide +kernel
theorem dX12_findsPlacements_8 : decode cX12_findsPlacements 8 = .ok (.aload_n 0, 1) := by decide +kernel
theorem dX12_findsPlacements_9 : decode cX12_findsPlacements 9 = .ok (.getfield 7, 3) := by decide +kernel
theorem dX12_findsPlacements_12 : decode cX12_findsPlacements 12 = .ok (.iconst 4, 1) := by decide +kernel
theorem dX12_findsPlacements_13 : decode cX12_findsPlacements 13 = .ok (.iaload, 1) := by decide +kernel
theorem dX12_findsPlacements_14 : decode cX12_findsPlacements 14 = .ok (.if_icmp .ge 152, 3) := by decide +kernel
theorem dX12_findsPlacements_17 : decode cX12_findsPlacements 17 = .ok (.aload_n 0, 1) := by decide +kernel
theorem dX12_findsPlacements_18 : decode cX12_findsPlacements 18 = .ok (.iload_n 1, 1) := by decide +kernel
theorem dX12_findsPlacements_19 : decode cX12_findsPlacements 19 = .ok (.invokevirtual 109, 3) := by decide +kernel
theorem dX12_findsPlacements_22 : decode cX12_findsPlacements 22 = .ok (.iconst 0, 1) := by decide +kernel
theorem dX12_findsPlacements_23 : decode cX12_findsPlacements 23 = .ok (.istore_n 2, 1) := by decide +kernel
theorem dX12_findsPlacements_24 : decode cX12_findsPlacements 24 = .ok (.iload_n 2, 1) := by decide +kernel
theorem dX12_findsPlacements_25 : decode cX12_findsPlacements 25 = .ok (.aload_n 0, 1) := by decide +kernel
theorem dX12_findsPlacements_26 : decode cX12_findsPlacements 26 = .ok (.getfield 92, 3) := by decide +kernel
theorem dX12_findsPlacements_29 : decode cX12_findsPlacements 29 = .ok (.if_icmp .ge 131, 3) := by decide +kernel
theorem dX12_findsPlacements_32 : decode cX12_findsPlacements 32 = .ok (.iconst 0, 1) := by decide +kernel
theorem dX12_findsPlacements_33 : decode cX12_findsPlacements 33 = .ok (.istore_n 3, 1) := by decide +kernel
theorem dX12_findsPlacements_34 : decode cX12_findsPlacements 34 = .ok (.iload_n 3, 1) := by decide +kernel
theorem dX12_findsPlacements_35 : decode cX12_findsPlacements 35 = .ok (.aload_n 0, 1) := by decide +kernel
theorem dX12_findsPlacements_36 : decode cX12_findsPlacements 36 = .ok (.invokevirtual 68, 3) := by decide +kernel
theorem dX12_findsPlacements_39 : decode cX12_findsPlacements 39 = .ok (.if_icmp .ge 115, 3) := by decide +kernel
theorem dX12_findsPlacements_42 : decode cX12_findsPlacements 42 = .ok (.aload_n 0, 1) := by decide +kernel
theorem dX12_findsPlacements_43 : decode cX12_findsPlacements 43 = .ok (.aload_n 0, 1) := by decide +kernel
theorem dX12_findsPlacements_44 : decode cX12_findsPlacements 44 = .ok (.getfield 20, 3) := by decide +kernel
theorem dX12_findsPlacements_47 : decode cX12_findsPlacements 47 = .ok (.iload_n 2, 1) := by decide +kernel
theorem dX12_findsPlacements_48 : decode cX12_findsPlacements 48 = .ok (.iaload, 1) := by decide +kernel
theorem dX12_findsPlacements_49 : decode cX12_findsPlacements 49 = .ok (.iload_n 3, 1) := by decide +kernel
theorem dX12_findsPlacements_50 : decode cX12_findsPlacements 50 = .ok (.aload_n 0, 1) := by decide +kernel
theorem dX12_findsPlacements_51 : decode cX12_findsPlacements 51 = .ok (.getfield 7, 3) := by decide +kernel
theorem dX12_findsPlacements_54 : decode cX12_findsPlacements 54 = .ok (.iconst 0, 1) := by decide +kernel
theorem dX12_findsPlacements_55 : decode cX12_findsPlacements 55 = .ok (.iaload, 1) := by decide +kernel
theorem dX12_findsPlacements_56 : decode cX12_findsPlacements 56 = .ok (.irem, 1) := by decide +kernel
theorem dX12_findsPlacements_57 : decode cX12_findsPlacements 57 = .ok (.iload_n 3, 1) := by decide +kernel
theorem dX12_findsPlacements_58 : decode cX12_findsPlacements 58 = .ok (.aload_n 0, 1) := by decide +kernel
theorem dX12_findsPlacements_59 : decode cX12_findsPlacements 59 = .ok (.getfield 7, 3) := by decide +kernel
theorem dX12_findsPlacements_62 : decode cX12_findsPlacements 62 = .ok (.iconst 0, 1) := by decide +kernel
theorem dX12_findsPlacements_63 : decode cX12_findsPlacements 63 = .ok (.iaload, 1) := by decide +kernel
theorem dX12_findsPlacements_64 : decode cX12_findsPlacements 64 = .ok (.idiv, 1) := by decide +kernel
theorem dX12_findsPlacements_65 : decode cX12_findsPlacements 65 = .ok (.aload_n 0, 1) := by decide +kernel
theorem dX12_findsPlacements_66 : decode cX12_findsPlacements 66 = .ok (.iload_n 1, 1) := by decide +kernel
theorem dX12_findsPlacements_67 : decode cX12_findsPlacements 67 = .ok (.iconst 2, 1) := by decide +kernel
theorem dX12_findsPlacements_68 : decode cX12_findsPlacements 68 = .ok (.invokevirtual 95, 3) := by decide +kernel
theorem dX12_findsPlacements_71 : decode cX12_findsPlacements 71 = .ok (.invokevirtual 112, 3) := by decide +kernel
theorem dX12_findsPlacements_74 : decode cX12_findsPlacements 74 = .ok (.lstore 4, 2) := by decide +kernel
theorem dX12_findsPlacements_76 : decode cX12_findsPlacements 76 = .ok (.lload 4, 2) := by decide +kernel
theorem dX12_findsPlacements_78 : decode cX12_findsPlacements 78 = .ok (.lconst 0, 1) := by decide +kernel
theorem dX12_findsPlacements_79 : decode cX12_findsPlacements 79 = .ok (.lcmp, 1) := by decide +kernel
theorem dX12_findsPlacements_80 : decode cX12_findsPlacements 80 = .ok (.ifCond .eq 68, 3) := by decide +kernel
theorem dX12_findsPlacements_83 : decode cX12_findsPlacements 83 = .ok (.aload_n 0, 1) := by decide +kernel
theorem dX12_findsPlacements_84 : decode cX12_findsPlacements 84 = .ok (.getfield 23, 3) := by decide +kernel
theorem dX12_findsPlacements_87 : decode cX12_findsPlacements 87 = .ok (.aload_n 0, 1) := by decide +kernel
theorem dX12_findsPlacements_88 : decode cX12_findsPlacements 88 = .ok (.getfield 106, 3) := by decide +kernel
theorem dX12_findsPlacements_91 : decode cX12_findsPlacements 91 = .ok (.iload_n 1, 1) := by decide +kernel
theorem dX12_findsPlacements_92 : decode cX12_findsPlacements 92 = .ok (.iastore, 1) := by decide +kernel
theorem dX12_findsPlacements_93 : decode cX12_findsPlacements 93 = .ok (.aload_n 0, 1) := by decide +kernel
theorem dX12_findsPlacements_94 : decode cX12_findsPlacements 94 = .ok (.getfield 26, 3) := by decide +kernel
theorem dX12_findsPlacements_97 : decode cX12_findsPlacements 97 = .ok (.aload_n 0, 1) := by decide +kernel
theorem dX12_findsPlacements_98 : decode cX12_findsPlacements 98 = .ok (.getfield 106, 3) := by decide +kernel
theorem dX12_findsPlacements_101 : decode cX12_findsPlacements 101 = .ok (.iload_n 2, 1) := by decide +kernel
theorem dX12_findsPlacements_102 : decode cX12_findsPlacements 102 = .ok (.iastore, 1) := by decide +kernel
theorem dX12_findsPlacements_103 : decode cX12_findsPlacements 103 = .ok (.aload_n 0, 1) := by decide +kernel
theorem dX12_findsPlacements_104 : decode cX12_findsPlacements 104 = .ok (.getfield 29, 3) := by decide +kernel
theorem dX12_findsPlacements_107 : decode cX12_findsPlacements 107 = .ok (.aload_n 0, 1) := by decide +kernel
theorem dX12_findsPlacements_108 : decode cX12_findsPlacements 108 = .ok (.getfield 106, 3) := by decide +kernel
theorem dX12_findsPlacements_111 : decode cX12_findsPlacements 111 = .ok (.iload_n 3, 1) := by decide +kernel
theorem dX12_findsPlacements_112 : decode cX12_findsPlacements 112 = .ok (.iastore, 1) := by decide +kernel
theorem dX12_findsPlacements_113 : decode cX12_findsPlacements 113 = .ok (.aload_n 0, 1) := by decide +kernel
theorem dX12_findsPlacements_114 : decode cX12_findsPlacements 114 = .ok (.getfield 32, 3) := by decide +kernel
theorem dX12_findsPlacements_117 : decode cX12_findsPlacements 117 = .ok (.aload_n 0, 1) := by decide +kernel
theorem dX12_findsPlacements_118 : decode cX12_findsPlacements 118 = .ok (.getfield 106, 3) := by decide +kernel
theorem dX12_findsPlacements_121 : decode cX12_findsPlacements 121 = .ok (.lload 4, 2) := by decide +kernel
theorem dX12_findsPlacements_123 : decode cX12_findsPlacements 123 = .ok (.lastore, 1) := by decide +kernel
theorem dX12_findsPlacements_124 : decode cX12_findsPlacements 124 = .ok (.aload_n 0, 1) := by decide +kernel
theorem dX12_findsPlacements_125 : decode cX12_findsPlacements 125 = .ok (.getfield 36, 3) := by decide +kernel
theorem dX12_findsPlacements_128 : decode cX12_findsPlacements 128 = .ok (.aload_n 0, 1) := by decide +kernel
theorem dX12_findsPlacements_129 : decode cX12_findsPlacements 129 = .ok (.getfield 106, 3) := by decide +kernel
theorem dX12_findsPlacements_132 : decode cX12_findsPlacements 132 = .ok (.lload 4, 2) := by decide +kernel
theorem dX12_findsPlacements_134 : decode cX12_findsPlacements 134 = .ok (.invokestatic 116, 3) := by decide +kernel
theorem dX12_findsPlacements_137 : decode cX12_findsPlacements 137 = .ok (.iastore, 1) := by decide +kernel
theorem dX12_findsPlacements_138 : decode cX12_findsPlacements 138 = .ok (.aload_n 0, 1) := by decide +kernel
theorem dX12_findsPlacements_139 : decode cX12_findsPlacements 139 = .ok (.dup, 1) := by decide +kernel
theorem dX12_findsPlacements_140 : decode cX12_findsPlacements 140 = .ok (.getfield 106, 3) := by decide +kernel
theorem dX12_findsPlacements_143 : decode cX12_findsPlacements 143 = .ok (.iconst 1, 1) := by decide +kernel
theorem dX12_findsPlacements_144 : decode cX12_findsPlacements 144 = .ok (.iadd, 1) := by decide +kernel
theorem dX12_findsPlacements_145 : decode cX12_findsPlacements 145 = .ok (.putfield 106, 3) := by decide +kernel
theorem dX12_findsPlacements_148 : decode cX12_findsPlacements 148 = .ok (.iinc 3 1, 3) := by decide +kernel
theorem dX12_findsPlacements_151 : decode cX12_findsPlacements 151 = .ok (.goto (-117), 3) := by decide +kernel
theorem dX12_findsPlacements_154 : decode cX12_findsPlacements 154 = .ok (.iinc 2 1, 3) := by decide +kernel
theorem dX12_findsPlacements_157 : decode cX12_findsPlacements 157 = .ok (.goto (-133), 3) := by decide +kernel
theorem dX12_findsPlacements_160 : decode cX12_findsPlacements 160 = .ok (.iinc 1 1, 3) := by decide +kernel
theorem dX12_findsPlacements_163 : decode cX12_findsPlacements 163 = .ok (.goto (-156), 3) := by decide +kernel
theorem dX12_findsPlacements_166 : decode cX12_findsPlacements 166 = .ok (.return_, 1) := by decide +kernel
theorem dX12_placementsOf_0 : decode cX12_placementsOf 0 = .ok (.aload_n 0, 1) := by decide +kernel
theorem dX12_placementsOf_1 : decode cX12_placementsOf 1 = .ok (.invokevirtual 120, 3) := by decide +kernel
theorem dX12_placementsOf_4 : decode cX12_placementsOf 4 = .ok (.iconst 0, 1) := by decide +kernel
theorem dX12_placementsOf_5 : decode cX12_placementsOf 5 = .ok (.istore_n 2, 1) := by decide +kernel
theorem dX12_placementsOf_6 : decode cX12_placementsOf 6 = .ok (.iconst 0, 1) := by decide +kernel
theorem dX12_placementsOf_7 : decode cX12_placementsOf 7 = .ok (.istore_n 3, 1) := by decide +kernel
theorem dX12_placementsOf_8 : decode cX12_placementsOf 8 = .ok (.iload_n 3, 1) := by decide +kernel
theorem dX12_placementsOf_9 : decode cX12_placementsOf 9 = .ok (.aload_n 0, 1) := by decide +kernel
theorem dX12_placementsOf_10 : decode cX12_placementsOf 10 = .ok (.getfield 106, 3) := by decide +kernel
theorem dX12_placementsOf_13 : decode cX12_placementsOf 13 = .ok (.if_icmp .ge 27, 3) := by decide +kernel
theorem dX12_placementsOf_16 : decode cX12_placementsOf 16 = .ok (.iload_n 2, 1) := by decide +kernel
theorem dX12_placementsOf_17 : decode cX12_placementsOf 17 = .ok (.aload_n 0, 1) := by decide +kernel
theorem dX12_placementsOf_18 : decode cX12_placementsOf 18 = .ok (.getfield 23, 3) := by decide +kernel
theorem dX12_placementsOf_21 : decode cX12_placementsOf 21 = .ok (.iload_n 3, 1) := by decide +kernel
theorem dX12_placementsOf_22 : decode cX12_placementsOf 22 = .ok (.iaload, 1) := by decide +kernel
theorem dX12_placementsOf_23 : decode cX12_placementsOf 23 = .ok (.iload_n 1, 1) := by decide +kernel
theorem dX12_placementsOf_24 : decode cX12_placementsOf 24 = .ok (.if_icmp .ne 7, 3) := by decide +kernel
theorem dX12_placementsOf_27 : decode cX12_placementsOf 27 = .ok (.iconst 1, 1) := by decide +kernel
theorem dX12_placementsOf_28 : decode cX12_placementsOf 28 = .ok (.goto 4, 3) := by decide +kernel
theorem dX12_placementsOf_31 : decode cX12_placementsOf 31 = .ok (.iconst 0, 1) := by decide +kernel
theorem dX12_placementsOf_32 : decode cX12_placementsOf 32 = .ok (.iadd, 1) := by decide +kernel
theorem dX12_placementsOf_33 : decode cX12_placementsOf 33 = .ok (.istore_n 2, 1) := by decide +kernel
theorem dX12_placementsOf_34 : decode cX12_placementsOf 34 = .ok (.iinc 3 1, 3) := by decide +kernel
theorem dX12_placementsOf_37 : decode cX12_placementsOf 37 = .ok (.goto (-29), 3) := by decide +kernel
theorem dX12_placementsOf_40 : decode cX12_placementsOf 40 = .ok (.iload_n 2, 1) := by decide +kernel
theorem dX12_placementsOf_41 : decode cX12_placementsOf 41 = .ok (.ireturn, 1) := by decide +kernel
theorem dX12_has_0 : decode cX12_has 0 = .ok (.aload_n 0, 1) := by decide +kernel
theorem dX12_has_1 : decode cX12_has 1 = .ok (.getfield 32, 3) := by decide +kernel
theorem dX12_has_4 : decode cX12_has 4 = .ok (.iload_n 1, 1) := by decide +kernel
theorem dX12_has_5 : decode cX12_has 5 = .ok (.laload, 1) := by decide +kernel
theorem dX12_has_6 : decode cX12_has 6 = .ok (.iload_n 2, 1) := by decide +kernel
theorem dX12_has_7 : decode cX12_has 7 = .ok (.lshr, 1) := by decide +kernel
theorem dX12_has_8 : decode cX12_has 8 = .ok (.lconst 1, 1) := by decide +kernel
theorem dX12_has_9 : decode cX12_has 9 = .ok (.land, 1) := by decide +kernel
theorem dX12_has_10 : decode cX12_has 10 = .ok (.lconst 1, 1) := by decide +kernel
theorem dX12_has_11 : decode cX12_has 11 = .ok (.lcmp, 1) := by decide +kernel
theorem dX12_has_12 : decode cX12_has 12 = .ok (.ifCond .ne 7, 3) := by decide +kernel
theorem dX12_has_15 : decode cX12_has 15 = .ok (.iconst 1, 1) := by decide +kernel
theorem dX12_has_16 : decode cX12_has 16 = .ok (.goto 4, 3) := by decide +kernel
theorem dX12_has_19 : decode cX12_has 19 = .ok (.iconst 0, 1) := by decide +kernel
theorem dX12_has_20 : decode cX12_has 20 = .ok (.ireturn, 1) := by decide +kernel
theorem dX12_setBoard_0 : decode cX12_setBoard 0 = .ok (.iload_n 1, 1) := by decide +kernel
theorem dX12_setBoard_1 : decode cX12_setBoard 1 = .ok (.iconst 1, 1) := by decide +kernel
theorem dX12_setBoard_2 : decode cX12_setBoard 2 = .ok (.bipush 6, 2) := by decide +kernel
theorem dX12_setBoard_4 : decode cX12_setBoard 4 = .ok (.invokestatic 72, 3) := by decide +kernel
theorem dX12_setBoard_7 : decode cX12_setBoard 7 = .ok (.ifCond .eq 13, 3) := by decide +kernel
theorem dX12_setBoard_10 : decode cX12_setBoard 10 = .ok (.iload_n 2, 1) := by decide +kernel
theorem dX12_setBoard_11 : decode cX12_setBoard 11 = .ok (.iconst 1, 1) := by decide +kernel
theorem dX12_setBoard_12 : decode cX12_setBoard 12 = .ok (.bipush 6, 2) := by decide +kernel
theorem dX12_setBoard_14 : decode cX12_setBoard 14 = .ok (.invokestatic 72, 3) := by decide +kernel
theorem dX12_setBoard_17 : decode cX12_setBoard 17 = .ok (.ifCond .ne 5, 3) := by decide +kernel
theorem dX12_setBoard_20 : decode cX12_setBoard 20 = .ok (.iconst (-1), 1) := by decide +kernel
theorem dX12_setBoard_21 : decode cX12_setBoard 21 = .ok (.ireturn, 1) := by decide +kernel
theorem dX12_setBoard_22 : decode cX12_setBoard 22 = .ok (.aload_n 0, 1) := by decide +kernel
theorem dX12_setBoard_23 : decode cX12_setBoard 23 = .ok (.invokevirtual 123, 3) := by decide +kernel
theorem dX12_setBoard_26 : decode cX12_setBoard 26 = .ok (.aload_n 0, 1) := by decide +kernel
theorem dX12_setBoard_27 : decode cX12_setBoard 27 = .ok (.getfield 7, 3) := by decide +kernel
theorem dX12_setBoard_30 : decode cX12_setBoard 30 = .ok (.iconst 0, 1) := by decide +kernel
theorem dX12_setBoard_31 : decode cX12_setBoard 31 = .ok (.iload_n 1, 1) := by decide +kernel
theorem dX12_setBoard_32 : decode cX12_setBoard 32 = .ok (.iastore, 1) := by decide +kernel
theorem dX12_setBoard_33 : decode cX12_setBoard 33 = .ok (.aload_n 0, 1) := by decide +kernel
theorem dX12_setBoard_34 : decode cX12_setBoard 34 = .ok (.getfield 7, 3) := by decide +kernel
theorem dX12_setBoard_37 : decode cX12_setBoard 37 = .ok (.iconst 1, 1) := by decide +kernel
theorem dX12_setBoard_38 : decode cX12_setBoard 38 = .ok (.iload_n 2, 1) := by decide +kernel
theorem dX12_setBoard_39 : decode cX12_setBoard 39 = .ok (.iastore, 1) := by decide +kernel
theorem dX12_setBoard_40 : decode cX12_setBoard 40 = .ok (.iconst 0, 1) := by decide +kernel
theorem dX12_setBoard_41 : decode cX12_setBoard 41 = .ok (.istore_n 3, 1) := by decide +kernel
theorem dX12_setBoard_42 : decode cX12_setBoard 42 = .ok (.iload_n 3, 1) := by decide +kernel
theorem dX12_setBoard_43 : decode cX12_setBoard 43 = .ok (.bipush 36, 2) := by decide +kernel
theorem dX12_setBoard_45 : decode cX12_setBoard 45 = .ok (.if_icmp .ge 18, 3) := by decide +kernel
theorem dX12_setBoard_48 : decode cX12_setBoard 48 = .ok (.aload_n 0, 1) := by decide +kernel
theorem dX12_setBoard_49 : decode cX12_setBoard 49 = .ok (.getfield 7, 3) := by decide +kernel
theorem dX12_setBoard_52 : decode cX12_setBoard 52 = .ok (.iconst 5, 1) := by decide +kernel
theorem dX12_setBoard_53 : decode cX12_setBoard 53 = .ok (.iload_n 3, 1) := by decide +kernel
theorem dX12_setBoard_54 : decode cX12_setBoard 54 = .ok (.iadd, 1) := by decide +kernel
theorem dX12_setBoard_55 : decode cX12_setBoard 55 = .ok (.iconst 0, 1) := by decide +kernel
theorem dX12_setBoard_56 : decode cX12_setBoard 56 = .ok (.iastore, 1) := by decide +kernel
theorem dX12_setBoard_57 : decode cX12_setBoard 57 = .ok (.iinc 3 1, 3) := by decide +kernel
theorem dX12_setBoard_60 : decode cX12_setBoard 60 = .ok (.goto (-18), 3) := by decide +kernel
theorem dX12_setBoard_63 : decode cX12_setBoard 63 = .ok (.iload_n 1, 1) := by decide +kernel
theorem dX12_setBoard_64 : decode cX12_setBoard 64 = .ok (.iload_n 2, 1) := by decide +kernel
theorem dX12_setBoard_65 : decode cX12_setBoard 65 = .ok (.imul, 1) := by decide +kernel
theorem dX12_setBoard_66 : decode cX12_setBoard 66 = .ok (.ireturn, 1) := by decide +kernel
theorem dX12_setHole_0 : decode cX12_setHole 0 = .ok (.aload_n 0, 1) := by decide +kernel
theorem dX12_setHole_1 : decode cX12_setHole 1 = .ok (.iload_n 1, 1) := by decide +kernel
theorem dX12_setHole_2 : decode cX12_setHole 2 = .ok (.invokevirtual 126, 3) := by decide +kernel
theorem dX12_setHole_5 : decode cX12_setHole 5 = .ok (.ifCond .eq 12, 3) := by decide +kernel
theorem dX12_setHole_8 : decode cX12_setHole 8 = .ok (.iload_n 2, 1) := by decide +kernel
theorem dX12_setHole_9 : decode cX12_setHole 9 = .ok (.iconst 0, 1) := by decide +kernel
theorem dX12_setHole_10 : decode cX12_setHole 10 = .ok (.iconst 1, 1) := by decide +kernel
theorem dX12_setHole_11 : decode cX12_setHole 11 = .ok (.invokestatic 72, 3) := by decide +kernel
theorem dX12_setHole_14 : decode cX12_setHole 14 = .ok (.ifCond .ne 5, 3) := by decide +kernel
theorem dX12_setHole_17 : decode cX12_setHole 17 = .ok (.iconst (-1), 1) := by decide +kernel
theorem dX12_setHole_18 : decode cX12_setHole 18 = .ok (.ireturn, 1) := by decide +kernel
theorem dX12_setHole_19 : decode cX12_setHole 19 = .ok (.aload_n 0, 1) := by decide +kernel
theorem dX12_setHole_20 : decode cX12_setHole 20 = .ok (.iload_n 1, 1) := by decide +kernel
theorem dX12_setHole_21 : decode cX12_setHole 21 = .ok (.invokevirtual 76, 3) := by decide +kernel
theorem dX12_setHole_24 : decode cX12_setHole 24 = .ok (.iload_n 2, 1) := by decide +kernel
theorem dX12_setHole_25 : decode cX12_setHole 25 = .ok (.ifCond .ne 7, 3) := by decide +kernel
theorem dX12_setHole_28 : decode cX12_setHole 28 = .ok (.iconst 1, 1) := by decide +kernel
theorem dX12_setHole_29 : decode cX12_setHole 29 = .ok (.goto 4, 3) := by decide +kernel
theorem dX12_setHole_32 : decode cX12_setHole 32 = .ok (.iconst 0, 1) := by decide +kernel
theorem dX12_setHole_33 : decode cX12_setHole 33 = .ok (.if_icmp .ne 6, 3) := by decide +kernel
theorem dX12_setHole_36 : decode cX12_setHole 36 = .ok (.bipush (-2), 2) := by decide +kernel
theorem dX12_setHole_38 : decode cX12_setHole 38 = .ok (.ireturn, 1) := by decide +kernel
theorem dX12_setHole_39 : decode cX12_setHole 39 = .ok (.aload_n 0, 1) := by decide +kernel
theorem dX12_setHole_40 : decode cX12_setHole 40 = .ok (.invokevirtual 123, 3) := by decide +kernel
theorem dX12_setHole_43 : decode cX12_setHole 43 = .ok (.aload_n 0, 1) := by decide +kernel
theorem dX12_setHole_44 : decode cX12_setHole 44 = .ok (.getfield 7, 3) := by decide +kernel
theorem dX12_setHole_47 : decode cX12_setHole 47 = .ok (.iconst 5, 1) := by decide +kernel
theorem dX12_setHole_48 : decode cX12_setHole 48 = .ok (.iload_n 1, 1) := by decide +kernel
theorem dX12_setHole_49 : decode cX12_setHole 49 = .ok (.iadd, 1) := by decide +kernel
theorem dX12_setHole_50 : decode cX12_setHole 50 = .ok (.iload_n 2, 1) := by decide +kernel
theorem dX12_setHole_51 : decode cX12_setHole 51 = .ok (.iconst 1, 1) := by decide +kernel
theorem dX12_setHole_52 : decode cX12_setHole 52 = .ok (.if_icmp .ne 7, 3) := by decide +kernel
theorem dX12_setHole_55 : decode cX12_setHole 55 = .ok (.iconst (-1), 1) := by decide +kernel
theorem dX12_setHole_56 : decode cX12_setHole 56 = .ok (.goto 4, 3) := by decide +kernel
theorem dX12_setHole_59 : decode cX12_setHole 59 = .ok (.iconst 0, 1) := by decide +kernel
theorem dX12_setHole_60 : decode cX12_setHole 60 = .ok (.iastore, 1) := by decide +kernel
theorem dX12_setHole_61 : decode cX12_setHole 61 = .ok (.aload_n 0, 1) := by decide +kernel
theorem dX12_setHole_62 : decode cX12_setHole 62 = .ok (.invokevirtual 129, 3) := by decide +kernel
theorem dX12_setHole_65 : decode cX12_setHole 65 = .ok (.ireturn, 1) := by decide +kernel
theorem dX12_setColour_0 : decode cX12_setColour 0 = .ok (.aload_n 0, 1) := by decide +kernel
theorem dX12_setColour_1 : decode cX12_setColour 1 = .ok (.iload_n 1, 1) := by decide +kernel
theorem dX12_setColour_2 : decode cX12_setColour 2 = .ok (.invokevirtual 126, 3) := by decide +kernel
theorem dX12_setColour_5 : decode cX12_setColour 5 = .ok (.ifCond .eq 12, 3) := by decide +kernel
theorem dX12_setColour_8 : decode cX12_setColour 8 = .ok (.iload_n 2, 1) := by decide +kernel
theorem dX12_setColour_9 : decode cX12_setColour 9 = .ok (.iconst 0, 1) := by decide +kernel
theorem dX12_setColour_10 : decode cX12_setColour 10 = .ok (.iconst 3, 1) := by decide +kernel
theorem dX12_setColour_11 : decode cX12_setColour 11 = .ok (.invokestatic 72, 3) := by decide +kernel
theorem dX12_setColour_14 : decode cX12_setColour 14 = .ok (.ifCond .ne 5, 3) := by decide +kernel
theorem dX12_setColour_17 : decode cX12_setColour 17 = .ok (.iconst (-1), 1) := by decide +kernel
theorem dX12_setColour_18 : decode cX12_setColour 18 = .ok (.ireturn, 1) := by decide +kernel
theorem dX12_setColour_19 : decode cX12_setColour 19 = .ok (.aload_n 0, 1) := by decide +kernel
theorem dX12_setColour_20 : decode cX12_setColour 20 = .ok (.iload_n 1, 1) := by decide +kernel
theorem dX12_setColour_21 : decode cX12_setColour 21 = .ok (.invokevirtual 76, 3) := by decide +kernel
theorem dX12_setColour_24 : decode cX12_setColour 24 = .ok (.ifCond .ne 6, 3) := by decide +kernel
theorem dX12_setColour_27 : decode cX12_setColour 27 = .ok (.bipush (-2), 2) := by decide +kernel
theorem dX12_setColour_29 : decode cX12_setColour 29 = .ok (.ireturn, 1) := by decide +kernel
theorem dX12_setColour_30 : decode cX12_setColour 30 = .ok (.aload_n 0, 1) := by decide +kernel
theorem dX12_setColour_31 : decode cX12_setColour 31 = .ok (.invokevirtual 123, 3) := by decide +kernel
theorem dX12_setColour_34 : decode cX12_setColour 34 = .ok (.aload_n 0, 1) := by decide +kernel
theorem dX12_setColour_35 : decode cX12_setColour 35 = .ok (.getfield 7, 3) := by decide +kernel
theorem dX12_setColour_38 : decode cX12_setColour 38 = .ok (.iconst 5, 1) := by decide +kernel
theorem dX12_setColour_39 : decode cX12_setColour 39 = .ok (.iload_n 1, 1) := by decide +kernel
theorem dX12_setColour_40 : decode cX12_setColour 40 = .ok (.iadd, 1) := by decide +kernel
theorem dX12_setColour_41 : decode cX12_setColour 41 = .ok (.iaload, 1) := by decide +kernel
theorem dX12_setColour_42 : decode cX12_setColour 42 = .ok (.istore_n 3, 1) := by decide +kernel
theorem dX12_setColour_43 : decode cX12_setColour 43 = .ok (.aload_n 0, 1) := by decide +kernel
theorem dX12_setColour_44 : decode cX12_setColour 44 = .ok (.getfield 7, 3) := by decide +kernel
theorem dX12_setColour_47 : decode cX12_setColour 47 = .ok (.iconst 5, 1) := by decide +kernel
theorem dX12_setColour_48 : decode cX12_setColour 48 = .ok (.iload_n 1, 1) := by decide +kernel
theorem dX12_setColour_49 : decode cX12_setColour 49 = .ok (.iadd, 1) := by decide +kernel
theorem dX12_setColour_50 : decode cX12_setColour 50 = .ok (.iload_n 2, 1) := by decide +kernel
theorem dX12_setColour_51 : decode cX12_setColour 51 = .ok (.iastore, 1) := by decide +kernel
theorem dX12_setColour_52 : decode cX12_setColour 52 = .ok (.iload_n 3, 1) := by decide +kernel
theorem dX12_setColour_53 : decode cX12_setColour 53 = .ok (.ireturn, 1) := by decide +kernel
theorem dX12_adds_0 : decode cX12_adds 0 = .ok (.bipush 41, 2) := by decide +kernel
theorem dX12_adds_2 : decode cX12_adds 2 = .ok (.iconst 4, 1) := by decide +kernel
theorem dX12_adds_3 : decode cX12_adds 3 = .ok (.aload_n 0, 1) := by decide +kernel
theorem dX12_adds_4 : decode cX12_adds 4 = .ok (.getfield 7, 3) := by decide +kernel
theorem dX12_adds_7 : decode cX12_adds 7 = .ok (.iconst 4, 1) := by decide +kernel
theorem dX12_adds_8 : decode cX12_adds 8 = .ok (.iaload, 1) := by decide +kernel
theorem dX12_adds_9 : decode cX12_adds 9 = .ok (.imul, 1) := by decide +kernel
theorem dX12_adds_10 : decode cX12_adds 10 = .ok (.iadd, 1) := by decide +kernel
theorem dX12_adds_11 : decode cX12_adds 11 = .ok (.istore 5, 2) := by decide +kernel
theorem dX12_adds_13 : decode cX12_adds 13 = .ok (.aload_n 0, 1) := by decide +kernel
theorem dX12_adds_14 : decode cX12_adds 14 = .ok (.getfield 7, 3) := by decide +kernel
theorem dX12_adds_17 : decode cX12_adds 17 = .ok (.iload 5, 2) := by decide +kernel
theorem dX12_adds_19 : decode cX12_adds 19 = .ok (.iconst 0, 1) := by decide +kernel
theorem dX12_adds_20 : decode cX12_adds 20 = .ok (.iadd, 1) := by decide +kernel
theorem dX12_adds_21 : decode cX12_adds 21 = .ok (.iload_n 1, 1) := by decide +kernel
theorem dX12_adds_22 : decode cX12_adds 22 = .ok (.invokestatic 89, 3) := by decide +kernel
theorem dX12_adds_25 : decode cX12_adds 25 = .ok (.iastore, 1) := by decide +kernel
theorem dX12_adds_26 : decode cX12_adds 26 = .ok (.aload_n 0, 1) := by decide +kernel
theorem dX12_adds_27 : decode cX12_adds 27 = .ok (.getfield 7, 3) := by decide +kernel
theorem dX12_adds_30 : decode cX12_adds 30 = .ok (.iload 5, 2) := by decide +kernel
theorem dX12_adds_32 : decode cX12_adds 32 = .ok (.iconst 1, 1) := by decide +kernel
theorem dX12_adds_33 : decode cX12_adds 33 = .ok (.iadd, 1) := by decide +kernel
theorem dX12_adds_34 : decode cX12_adds 34 = .ok (.iload_n 2, 1) := by decide +kernel
theorem dX12_adds_35 : decode cX12_adds 35 = .ok (.iastore, 1) := by decide +kernel
theorem dX12_adds_36 : decode cX12_adds 36 = .ok (.aload_n 0, 1) := by decide +kernel
theorem dX12_adds_37 : decode cX12_adds 37 = .ok (.getfield 7, 3) := by decide +kernel
theorem dX12_adds_40 : decode cX12_adds 40 = .ok (.iload 5, 2) := by decide +kernel
theorem dX12_adds_42 : decode cX12_adds 42 = .ok (.iconst 2, 1) := by decide +kernel
theorem dX12_adds_43 : decode cX12_adds 43 = .ok (.iadd, 1) := by decide +kernel
theorem dX12_adds_44 : decode cX12_adds 44 = .ok (.iload_n 3, 1) := by decide +kernel
theorem dX12_adds_45 : decode cX12_adds 45 = .ok (.iastore, 1) := by decide +kernel
theorem dX12_adds_46 : decode cX12_adds 46 = .ok (.aload_n 0, 1) := by decide +kernel
theorem dX12_adds_47 : decode cX12_adds 47 = .ok (.getfield 7, 3) := by decide +kernel
theorem dX12_adds_50 : decode cX12_adds 50 = .ok (.iload 5, 2) := by decide +kernel
theorem dX12_adds_52 : decode cX12_adds 52 = .ok (.iconst 3, 1) := by decide +kernel
theorem dX12_adds_53 : decode cX12_adds 53 = .ok (.iadd, 1) := by decide +kernel
theorem dX12_adds_54 : decode cX12_adds 54 = .ok (.iload 4, 2) := by decide +kernel
theorem dX12_adds_56 : decode cX12_adds 56 = .ok (.iastore, 1) := by decide +kernel
theorem dX12_adds_57 : decode cX12_adds 57 = .ok (.aload_n 0, 1) := by decide +kernel
theorem dX12_adds_58 : decode cX12_adds 58 = .ok (.getfield 7, 3) := by decide +kernel
theorem dX12_adds_61 : decode cX12_adds 61 = .ok (.iconst 4, 1) := by decide +kernel
theorem dX12_adds_62 : decode cX12_adds 62 = .ok (.dup2, 1) := by decide +kernel
theorem dX12_adds_63 : decode cX12_adds 63 = .ok (.iaload, 1) := by decide +kernel
theorem dX12_adds_64 : decode cX12_adds 64 = .ok (.iconst 1, 1) := by decide +kernel
theorem dX12_adds_65 : decode cX12_adds 65 = .ok (.iadd, 1) := by decide +kernel
theorem dX12_adds_66 : decode cX12_adds 66 = .ok (.iastore, 1) := by decide +kernel
theorem dX12_adds_67 : decode cX12_adds 67 = .ok (.return_, 1) := by decide +kernel
theorem dX12_addPiece_0 : decode cX12_addPiece 0 = .ok (.iload_n 1, 1) := by decide +kernel
theorem dX12_addPiece_1 : decode cX12_addPiece 1 = .ok (.invokestatic 132, 3) := by decide +kernel
theorem dX12_addPiece_4 : decode cX12_addPiece 4 = .ok (.ifCond .eq 21, 3) := by decide +kernel
theorem dX12_addPiece_7 : decode cX12_addPiece 7 = .ok (.iload_n 2, 1) := by decide +kernel
theorem dX12_addPiece_8 : decode cX12_addPiece 8 = .ok (.iconst 0, 1) := by decide +kernel
theorem dX12_addPiece_9 : decode cX12_addPiece 9 = .ok (.iconst 2, 1) := by decide +kernel
theorem dX12_addPiece_10 : decode cX12_addPiece 10 = .ok (.invokestatic 72, 3) := by decide +kernel
theorem dX12_addPiece_13 : decode cX12_addPiece 13 = .ok (.ifCond .eq 12, 3) := by decide +kernel
theorem dX12_addPiece_16 : decode cX12_addPiece 16 = .ok (.iload_n 3, 1) := by decide +kernel
theorem dX12_addPiece_17 : decode cX12_addPiece 17 = .ok (.iconst 0, 1) := by decide +kernel
theorem dX12_addPiece_18 : decode cX12_addPiece 18 = .ok (.iconst 3, 1) := by decide +kernel
theorem dX12_addPiece_19 : decode cX12_addPiece 19 = .ok (.invokestatic 72, 3) := by decide +kernel
theorem dX12_addPiece_22 : decode cX12_addPiece 22 = .ok (.ifCond .ne 5, 3) := by decide +kernel
theorem dX12_addPiece_25 : decode cX12_addPiece 25 = .ok (.iconst (-1), 1) := by decide +kernel
theorem dX12_addPiece_26 : decode cX12_addPiece 26 = .ok (.ireturn, 1) := by decide +kernel
theorem dX12_addPiece_27 : decode cX12_addPiece 27 = .ok (.aload_n 0, 1) := by decide +kernel
theorem dX12_addPiece_28 : decode cX12_addPiece 28 = .ok (.getfield 7, 3) := by decide +kernel
theorem dX12_addPiece_31 : decode cX12_addPiece 31 = .ok (.iconst 4, 1) := by decide +kernel
theorem dX12_addPiece_32 : decode cX12_addPiece 32 = .ok (.iaload, 1) := by decide +kernel
theorem dX12_addPiece_33 : decode cX12_addPiece 33 = .ok (.bipush 8, 2) := by decide +kernel
theorem dX12_addPiece_35 : decode cX12_addPiece 35 = .ok (.if_icmp .ne 6, 3) := by decide +kernel
theorem dX12_addPiece_38 : decode cX12_addPiece 38 = .ok (.bipush (-3), 2) := by decide +kernel
theorem dX12_addPiece_40 : decode cX12_addPiece 40 = .ok (.ireturn, 1) := by decide +kernel
theorem dX12_addPiece_41 : decode cX12_addPiece 41 = .ok (.aload_n 0, 1) := by decide +kernel
theorem dX12_addPiece_42 : decode cX12_addPiece 42 = .ok (.invokevirtual 123, 3) := by decide +kernel
theorem dX12_addPiece_45 : decode cX12_addPiece 45 = .ok (.aload_n 0, 1) := by decide +kernel
theorem dX12_addPiece_46 : decode cX12_addPiece 46 = .ok (.iload_n 1, 1) := by decide +kernel
theorem dX12_addPiece_47 : decode cX12_addPiece 47 = .ok (.iload_n 2, 1) := by decide +kernel
theorem dX12_addPiece_48 : decode cX12_addPiece 48 = .ok (.iload_n 3, 1) := by decide +kernel
theorem dX12_addPiece_49 : decode cX12_addPiece 49 = .ok (.iconst 1, 1) := by decide +kernel
theorem dX12_addPiece_50 : decode cX12_addPiece 50 = .ok (.invokevirtual 135, 3) := by decide +kernel
theorem dX12_addPiece_53 : decode cX12_addPiece 53 = .ok (.aload_n 0, 1) := by decide +kernel
theorem dX12_addPiece_54 : decode cX12_addPiece 54 = .ok (.getfield 7, 3) := by decide +kernel
theorem dX12_addPiece_57 : decode cX12_addPiece 57 = .ok (.iconst 4, 1) := by decide +kernel
theorem dX12_addPiece_58 : decode cX12_addPiece 58 = .ok (.iaload, 1) := by decide +kernel
theorem dX12_addPiece_59 : decode cX12_addPiece 59 = .ok (.iconst 1, 1) := by decide +kernel
theorem dX12_addPiece_60 : decode cX12_addPiece 60 = .ok (.isub, 1) := by decide +kernel
theorem dX12_addPiece_61 : decode cX12_addPiece 61 = .ok (.ireturn, 1) := by decide +kernel
theorem dX12_removePiece_0 : decode cX12_removePiece 0 = .ok (.aload_n 0, 1) := by decide +kernel
theorem dX12_removePiece_1 : decode cX12_removePiece 1 = .ok (.iload_n 1, 1) := by decide +kernel
theorem dX12_removePiece_2 : decode cX12_removePiece 2 = .ok (.invokevirtual 139, 3) := by decide +kernel
theorem dX12_removePiece_5 : decode cX12_removePiece 5 = .ok (.ifCond .ne 5, 3) := by decide +kernel
theorem dX12_removePiece_8 : decode cX12_removePiece 8 = .ok (.iconst (-1), 1) := by decide +kernel
theorem dX12_removePiece_9 : decode cX12_removePiece 9 = .ok (.ireturn, 1) := by decide +kernel
theorem dX12_removePiece_10 : decode cX12_removePiece 10 = .ok (.aload_n 0, 1) := by decide +kernel
theorem dX12_removePiece_11 : decode cX12_removePiece 11 = .ok (.invokevirtual 123, 3) := by decide +kernel
theorem dX12_removePiece_14 : decode cX12_removePiece 14 = .ok (.aload_n 0, 1) := by decide +kernel
theorem dX12_removePiece_15 : decode cX12_removePiece 15 = .ok (.getfield 7, 3) := by decide +kernel
theorem dX12_removePiece_18 : decode cX12_removePiece 18 = .ok (.iconst 4, 1) := by decide +kernel
theorem dX12_removePiece_19 : decode cX12_removePiece 19 = .ok (.dup2, 1) := by decide +kernel
theorem dX12_removePiece_20 : decode cX12_removePiece 20 = .ok (.iaload, 1) := by decide +kernel
theorem dX12_removePiece_21 : decode cX12_removePiece 21 = .ok (.iconst 1, 1) := by decide +kernel
theorem dX12_removePiece_22 : decode cX12_removePiece 22 = .ok (.isub, 1) := by decide +kernel
theorem dX12_removePiece_23 : decode cX12_removePiece 23 = .ok (.iastore, 1) := by decide +kernel
theorem dX12_removePiece_24 : decode cX12_removePiece 24 = .ok (.bipush 41, 2) := by decide +kernel
theorem dX12_removePiece_26 : decode cX12_removePiece 26 = .ok (.iconst 4, 1) := by decide +kernel
theorem dX12_removePiece_27 : decode cX12_removePiece 27 = .ok (.iload_n 1, 1) := by decide +kernel
theorem dX12_removePiece_28 : decode cX12_removePiece 28 = .ok (.imul, 1) := by decide +kernel
theorem dX12_removePiece_29 : decode cX12_removePiece 29 = .ok (.iadd, 1) := by decide +kernel
theorem dX12_removePiece_30 : decode cX12_removePiece 30 = .ok (.istore_n 2, 1) := by decide +kernel
theorem dX12_removePiece_31 : decode cX12_removePiece 31 = .ok (.iload_n 2, 1) := by decide +kernel
theorem dX12_removePiece_32 : decode cX12_removePiece 32 = .ok (.bipush 41, 2) := by decide +kernel
theorem dX12_removePiece_34 : decode cX12_removePiece 34 = .ok (.iconst 4, 1) := by decide +kernel
theorem dX12_removePiece_35 : decode cX12_removePiece 35 = .ok (.aload_n 0, 1) := by decide +kernel
theorem dX12_removePiece_36 : decode cX12_removePiece 36 = .ok (.getfield 7, 3) := by decide +kernel
theorem dX12_removePiece_39 : decode cX12_removePiece 39 = .ok (.iconst 4, 1) := by decide +kernel
theorem dX12_removePiece_40 : decode cX12_removePiece 40 = .ok (.iaload, 1) := by decide +kernel
theorem dX12_removePiece_41 : decode cX12_removePiece 41 = .ok (.imul, 1) := by decide +kernel
theorem dX12_removePiece_42 : decode cX12_removePiece 42 = .ok (.iadd, 1) := by decide +kernel
theorem dX12_removePiece_43 : decode cX12_removePiece 43 = .ok (.if_icmp .ge 23, 3) := by decide +kernel
theorem dX12_removePiece_46 : decode cX12_removePiece 46 = .ok (.aload_n 0, 1) := by decide +kernel
theorem dX12_removePiece_47 : decode cX12_removePiece 47 = .ok (.getfield 7, 3) := by decide +kernel
theorem dX12_removePiece_50 : decode cX12_removePiece 50 = .ok (.iload_n 2, 1) := by decide +kernel
theorem dX12_removePiece_51 : decode cX12_removePiece 51 = .ok (.aload_n 0, 1) := by decide +kernel
theorem dX12_removePiece_52 : decode cX12_removePiece 52 = .ok (.getfield 7, 3) := by decide +kernel
theorem dX12_removePiece_55 : decode cX12_removePiece 55 = .ok (.iload_n 2, 1) := by decide +kernel
theorem dX12_removePiece_56 : decode cX12_removePiece 56 = .ok (.iconst 4, 1) := by decide +kernel
theorem dX12_removePiece_57 : decode cX12_removePiece 57 = .ok (.iadd, 1) := by decide +kernel
theorem dX12_removePiece_58 : decode cX12_removePiece 58 = .ok (.iaload, 1) := by decide +kernel
theorem dX12_removePiece_59 : decode cX12_removePiece 59 = .ok (.iastore, 1) := by decide +kernel
theorem dX12_removePiece_60 : decode cX12_removePiece 60 = .ok (.iinc 2 1, 3) := by decide +kernel
theorem dX12_removePiece_63 : decode cX12_removePiece 63 = .ok (.goto (-32), 3) := by decide +kernel
theorem dX12_removePiece_66 : decode cX12_removePiece 66 = .ok (.aload_n 0, 1) := by decide +kernel
theorem dX12_removePiece_67 : decode cX12_removePiece 67 = .ok (.getfield 7, 3) := by decide +kernel
theorem dX12_removePiece_70 : decode cX12_removePiece 70 = .ok (.iconst 4, 1) := by decide +kernel
theorem dX12_removePiece_71 : decode cX12_removePiece 71 = .ok (.iaload, 1) := by decide +kernel
theorem dX12_removePiece_72 : decode cX12_removePiece 72 = .ok (.ireturn, 1) := by decide +kernel
theorem dX12_sets_0 : decode cX12_sets 0 = .ok (.iload_n 3, 1) := by decide +kernel
theorem dX12_sets_1 : decode cX12_sets 1 = .ok (.ifCond .ne 5, 3) := by decide +kernel
theorem dX12_sets_4 : decode cX12_sets 4 = .ok (.iconst (-1), 1) := by decide +kernel
theorem dX12_sets_5 : decode cX12_sets 5 = .ok (.ireturn, 1) := by decide +kernel
theorem dX12_sets_6 : decode cX12_sets 6 = .ok (.aload_n 0, 1) := by decide +kernel
theorem dX12_sets_7 : decode cX12_sets 7 = .ok (.invokevirtual 123, 3) := by decide +kernel
theorem dX12_sets_10 : decode cX12_sets 10 = .ok (.aload_n 0, 1) := by decide +kernel
theorem dX12_sets_11 : decode cX12_sets 11 = .ok (.getfield 7, 3) := by decide +kernel
theorem dX12_sets_14 : decode cX12_sets 14 = .ok (.iload_n 1, 1) := by decide +kernel
theorem dX12_sets_15 : decode cX12_sets 15 = .ok (.iaload, 1) := by decide +kernel
theorem dX12_sets_16 : decode cX12_sets 16 = .ok (.istore 4, 2) := by decide +kernel
theorem dX12_sets_18 : decode cX12_sets 18 = .ok (.aload_n 0, 1) := by decide +kernel
theorem dX12_sets_19 : decode cX12_sets 19 = .ok (.getfield 7, 3) := by decide +kernel
theorem dX12_sets_22 : decode cX12_sets 22 = .ok (.iload_n 1, 1) := by decide +kernel
theorem dX12_sets_23 : decode cX12_sets 23 = .ok (.iload_n 2, 1) := by decide +kernel
theorem dX12_sets_24 : decode cX12_sets 24 = .ok (.iastore, 1) := by decide +kernel
theorem dX12_sets_25 : decode cX12_sets 25 = .ok (.iload 4, 2) := by decide +kernel
theorem dX12_sets_27 : decode cX12_sets 27 = .ok (.ireturn, 1) := by decide +kernel
theorem dX12_setCopies_0 : decode cX12_setCopies 0 = .ok (.aload_n 0, 1) := by decide +kernel
theorem dX12_setCopies_1 : decode cX12_setCopies 1 = .ok (.aload_n 0, 1) := by decide +kernel
theorem dX12_setCopies_2 : decode cX12_setCopies 2 = .ok (.iload_n 1, 1) := by decide +kernel
theorem dX12_setCopies_3 : decode cX12_setCopies 3 = .ok (.invokevirtual 139, 3) := by decide +kernel
theorem dX12_setCopies_6 : decode cX12_setCopies 6 = .ok (.ifCond .eq 14, 3) := by decide +kernel
theorem dX12_setCopies_9 : decode cX12_setCopies 9 = .ok (.bipush 41, 2) := by decide +kernel
theorem dX12_setCopies_11 : decode cX12_setCopies 11 = .ok (.iconst 4, 1) := by decide +kernel
theorem dX12_setCopies_12 : decode cX12_setCopies 12 = .ok (.iload_n 1, 1) := by decide +kernel
theorem dX12_setCopies_13 : decode cX12_setCopies 13 = .ok (.imul, 1) := by decide +kernel
theorem dX12_setCopies_14 : decode cX12_setCopies 14 = .ok (.iadd, 1) := by decide +kernel
theorem dX12_setCopies_15 : decode cX12_setCopies 15 = .ok (.iconst 3, 1) := by decide +kernel
theorem dX12_setCopies_16 : decode cX12_setCopies 16 = .ok (.iadd, 1) := by decide +kernel
theorem dX12_setCopies_17 : decode cX12_setCopies 17 = .ok (.goto 4, 3) := by decide +kernel
theorem dX12_setCopies_20 : decode cX12_setCopies 20 = .ok (.iconst 0, 1) := by decide +kernel
theorem dX12_setCopies_21 : decode cX12_setCopies 21 = .ok (.iload_n 2, 1) := by decide +kernel
theorem dX12_setCopies_22 : decode cX12_setCopies 22 = .ok (.aload_n 0, 1) := by decide +kernel
theorem dX12_setCopies_23 : decode cX12_setCopies 23 = .ok (.iload_n 1, 1) := by decide +kernel
theorem dX12_setCopies_24 : decode cX12_setCopies 24 = .ok (.invokevirtual 139, 3) := by decide +kernel
theorem dX12_setCopies_27 : decode cX12_setCopies 27 = .ok (.ifCond .eq 17, 3) := by decide +kernel
theorem dX12_setCopies_30 : decode cX12_setCopies 30 = .ok (.iload_n 2, 1) := by decide +kernel
theorem dX12_setCopies_31 : decode cX12_setCopies 31 = .ok (.iconst 1, 1) := by decide +kernel
theorem dX12_setCopies_32 : decode cX12_setCopies 32 = .ok (.bipush 9, 2) := by decide +kernel
theorem dX12_setCopies_34 : decode cX12_setCopies 34 = .ok (.invokestatic 72, 3) := by decide +kernel
theorem dX12_setCopies_37 : decode cX12_setCopies 37 = .ok (.ifCond .eq 7, 3) := by decide +kernel
theorem dX12_setCopies_40 : decode cX12_setCopies 40 = .ok (.iconst 1, 1) := by decide +kernel
theorem dX12_setCopies_41 : decode cX12_setCopies 41 = .ok (.goto 4, 3) := by decide +kernel
theorem dX12_setCopies_44 : decode cX12_setCopies 44 = .ok (.iconst 0, 1) := by decide +kernel
theorem dX12_setCopies_45 : decode cX12_setCopies 45 = .ok (.invokevirtual 142, 3) := by decide +kernel
theorem dX12_setCopies_48 : decode cX12_setCopies 48 = .ok (.ireturn, 1) := by decide +kernel
theorem dX12_setMode_0 : decode cX12_setMode 0 = .ok (.aload_n 0, 1) := by decide +kernel
theorem dX12_setMode_1 : decode cX12_setMode 1 = .ok (.iconst 2, 1) := by decide +kernel
theorem dX12_setMode_2 : decode cX12_setMode 2 = .ok (.iload_n 1, 1) := by decide +kernel
theorem dX12_setMode_3 : decode cX12_setMode 3 = .ok (.iload_n 1, 1) := by decide +kernel
theorem dX12_setMode_4 : decode cX12_setMode 4 = .ok (.iconst 0, 1) := by decide +kernel
theorem dX12_setMode_5 : decode cX12_setMode 5 = .ok (.iconst 1, 1) := by decide +kernel
theorem dX12_setMode_6 : decode cX12_setMode 6 = .ok (.invokestatic 72, 3) := by decide +kernel
theorem dX12_setMode_9 : decode cX12_setMode 9 = .ok (.invokevirtual 142, 3) := by decide +kernel
theorem dX12_setMode_12 : decode cX12_setMode 12 = .ok (.ireturn, 1) := by decide +kernel
theorem dX12_setRule_0 : decode cX12_setRule 0 = .ok (.aload_n 0, 1) := by decide +kernel
theorem dX12_setRule_1 : decode cX12_setRule 1 = .ok (.iconst 3, 1) := by decide +kernel
theorem dX12_setRule_2 : decode cX12_setRule 2 = .ok (.iload_n 1, 1) := by decide +kernel
theorem dX12_setRule_3 : decode cX12_setRule 3 = .ok (.iload_n 1, 1) := by decide +kernel
theorem dX12_setRule_4 : decode cX12_setRule 4 = .ok (.iconst 0, 1) := by decide +kernel
theorem dX12_setRule_5 : decode cX12_setRule 5 = .ok (.iconst 1, 1) := by decide +kernel
theorem dX12_setRule_6 : decode cX12_setRule 6 = .ok (.invokestatic 72, 3) := by decide +kernel
theorem dX12_setRule_9 : decode cX12_setRule 9 = .ok (.invokevirtual 142, 3) := by decide +kernel
theorem dX12_setRule_12 : decode cX12_setRule 12 = .ok (.ireturn, 1) := by decide +kernel
theorem dX12_count_0 : decode cX12_count 0 = .ok (.iconst 0, 1) := by decide +kernel
theorem dX12_count_1 : decode cX12_count 1 = .ok (.istore_n 2, 1) := by decide +kernel
theorem dX12_count_2 : decode cX12_count 2 = .ok (.iload_n 1, 1) := by decide +kernel
theorem dX12_count_3 : decode cX12_count 3 = .ok (.tableswitch 171 0 9 #[53, 53, 60, 65, 72, 79, 86, 125, 134, 166], 53) := by decide +kernel
theorem dX12_count_56 : decode cX12_count 56 = .ok (.aload_n 0, 1) := by decide +kernel
theorem dX12_count_57 : decode cX12_count 57 = .ok (.getfield 7, 3) := by decide +kernel
theorem dX12_count_60 : decode cX12_count 60 = .ok (.iload_n 1, 1) := by decide +kernel
theorem dX12_count_61 : decode cX12_count 61 = .ok (.iaload, 1) := by decide +kernel
theorem dX12_count_62 : decode cX12_count 62 = .ok (.ireturn, 1) := by decide +kernel
theorem dX12_count_63 : decode cX12_count 63 = .ok (.aload_n 0, 1) := by decide +kernel
theorem dX12_count_64 : decode cX12_count 64 = .ok (.invokevirtual 129, 3) := by decide +kernel
theorem dX12_count_67 : decode cX12_count 67 = .ok (.ireturn, 1) := by decide +kernel
theorem dX12_count_68 : decode cX12_count 68 = .ok (.aload_n 0, 1) := by decide +kernel
theorem dX12_count_69 : decode cX12_count 69 = .ok (.getfield 7, 3) := by decide +kernel
theorem dX12_count_72 : decode cX12_count 72 = .ok (.iconst 4, 1) := by decide +kernel
theorem dX12_count_73 : decode cX12_count 73 = .ok (.iaload, 1) := by decide +kernel
theorem dX12_count_74 : decode cX12_count 74 = .ok (.ireturn, 1) := by decide +kernel
theorem dX12_count_75 : decode cX12_count 75 = .ok (.aload_n 0, 1) := by decide +kernel
theorem dX12_count_76 : decode cX12_count 76 = .ok (.getfield 7, 3) := by decide +kernel
theorem dX12_count_79 : decode cX12_count 79 = .ok (.iconst 2, 1) := by decide +kernel
theorem dX12_count_80 : decode cX12_count 80 = .ok (.iaload, 1) := by decide +kernel
theorem dX12_count_81 : decode cX12_count 81 = .ok (.ireturn, 1) := by decide +kernel
theorem dX12_count_82 : decode cX12_count 82 = .ok (.aload_n 0, 1) := by decide +kernel
theorem dX12_count_83 : decode cX12_count 83 = .ok (.getfield 7, 3) := by decide +kernel
theorem dX12_count_86 : decode cX12_count 86 = .ok (.iconst 3, 1) := by decide +kernel
theorem dX12_count_87 : decode cX12_count 87 = .ok (.iaload, 1) := by decide +kernel
theorem dX12_count_88 : decode cX12_count 88 = .ok (.ireturn, 1) := by decide +kernel
theorem dX12_count_89 : decode cX12_count 89 = .ok (.iconst 0, 1) := by decide +kernel
theorem dX12_count_90 : decode cX12_count 90 = .ok (.istore_n 3, 1) := by decide +kernel
theorem dX12_count_91 : decode cX12_count 91 = .ok (.iload_n 3, 1) := by decide +kernel
theorem dX12_count_92 : decode cX12_count 92 = .ok (.aload_n 0, 1) := by decide +kernel
theorem dX12_count_93 : decode cX12_count 93 = .ok (.getfield 7, 3) := by decide +kernel
theorem dX12_count_96 : decode cX12_count 96 = .ok (.iconst 4, 1) := by decide +kernel
theorem dX12_count_97 : decode cX12_count 97 = .ok (.iaload, 1) := by decide +kernel
theorem dX12_count_98 : decode cX12_count 98 = .ok (.if_icmp .ge 28, 3) := by decide +kernel
theorem dX12_count_101 : decode cX12_count 101 = .ok (.iload_n 2, 1) := by decide +kernel
theorem dX12_count_102 : decode cX12_count 102 = .ok (.aload_n 0, 1) := by decide +kernel
theorem dX12_count_103 : decode cX12_count 103 = .ok (.iload_n 3, 1) := by decide +kernel
theorem dX12_count_104 : decode cX12_count 104 = .ok (.iconst 0, 1) := by decide +kernel
theorem dX12_count_105 : decode cX12_count 105 = .ok (.invokevirtual 95, 3) := by decide +kernel
theorem dX12_count_108 : decode cX12_count 108 = .ok (.invokestatic 82, 3) := by decide +kernel
theorem dX12_count_111 : decode cX12_count 111 = .ok (.aload_n 0, 1) := by decide +kernel
theorem dX12_count_112 : decode cX12_count 112 = .ok (.iload_n 3, 1) := by decide +kernel
theorem dX12_count_113 : decode cX12_count 113 = .ok (.iconst 3, 1) := by decide +kernel
theorem dX12_count_114 : decode cX12_count 114 = .ok (.invokevirtual 95, 3) := by decide +kernel
theorem dX12_count_117 : decode cX12_count 117 = .ok (.imul, 1) := by decide +kernel
theorem dX12_count_118 : decode cX12_count 118 = .ok (.iadd, 1) := by decide +kernel
theorem dX12_count_119 : decode cX12_count 119 = .ok (.istore_n 2, 1) := by decide +kernel
theorem dX12_count_120 : decode cX12_count 120 = .ok (.iinc 3 1, 3) := by decide +kernel
theorem dX12_count_123 : decode cX12_count 123 = .ok (.goto (-32), 3) := by decide +kernel
theorem dX12_count_126 : decode cX12_count 126 = .ok (.iload_n 2, 1) := by decide +kernel
theorem dX12_count_127 : decode cX12_count 127 = .ok (.ireturn, 1) := by decide +kernel
theorem dX12_count_128 : decode cX12_count 128 = .ok (.aload_n 0, 1) := by decide +kernel
theorem dX12_count_129 : decode cX12_count 129 = .ok (.invokevirtual 120, 3) := by decide +kernel
theorem dX12_count_132 : decode cX12_count 132 = .ok (.aload_n 0, 1) := by decide +kernel
theorem dX12_count_133 : decode cX12_count 133 = .ok (.getfield 106, 3) := by decide +kernel
theorem dX12_count_136 : decode cX12_count 136 = .ok (.ireturn, 1) := by decide +kernel
theorem dX12_count_137 : decode cX12_count 137 = .ok (.iconst 0, 1) := by decide +kernel
theorem dX12_count_138 : decode cX12_count 138 = .ok (.istore_n 3, 1) := by decide +kernel
theorem dX12_count_139 : decode cX12_count 139 = .ok (.iload_n 3, 1) := by decide +kernel
theorem dX12_count_140 : decode cX12_count 140 = .ok (.bipush 8, 2) := by decide +kernel
theorem dX12_count_142 : decode cX12_count 142 = .ok (.if_icmp .ge 25, 3) := by decide +kernel
theorem dX12_count_145 : decode cX12_count 145 = .ok (.iload_n 2, 1) := by decide +kernel
theorem dX12_count_146 : decode cX12_count 146 = .ok (.aload_n 0, 1) := by decide +kernel
theorem dX12_count_147 : decode cX12_count 147 = .ok (.iload_n 3, 1) := by decide +kernel
theorem dX12_count_148 : decode cX12_count 148 = .ok (.invokevirtual 146, 3) := by decide +kernel
theorem dX12_count_151 : decode cX12_count 151 = .ok (.ifCond .eq 7, 3) := by decide +kernel
theorem dX12_count_154 : decode cX12_count 154 = .ok (.iconst 1, 1) := by decide +kernel
theorem dX12_count_155 : decode cX12_count 155 = .ok (.goto 4, 3) := by decide +kernel
theorem dX12_count_158 : decode cX12_count 158 = .ok (.iconst 0, 1) := by decide +kernel
theorem dX12_count_159 : decode cX12_count 159 = .ok (.iadd, 1) := by decide +kernel
theorem dX12_count_160 : decode cX12_count 160 = .ok (.istore_n 2, 1) := by decide +kernel
theorem dX12_count_161 : decode cX12_count 161 = .ok (.iinc 3 1, 3) := by decide +kernel
theorem dX12_count_164 : decode cX12_count 164 = .ok (.goto (-25), 3) := by decide +kernel
theorem dX12_count_167 : decode cX12_count 167 = .ok (.iload_n 2, 1) := by decide +kernel
theorem dX12_count_168 : decode cX12_count 168 = .ok (.ireturn, 1) := by decide +kernel
theorem dX12_count_169 : decode cX12_count 169 = .ok (.aload_n 0, 1) := by decide +kernel
theorem dX12_count_170 : decode cX12_count 170 = .ok (.getfield 64, 3) := by decide +kernel
theorem dX12_count_173 : decode cX12_count 173 = .ok (.ireturn, 1) := by decide +kernel
theorem dX12_count_174 : decode cX12_count 174 = .ok (.iconst (-1), 1) := by decide +kernel
theorem dX12_count_175 : decode cX12_count 175 = .ok (.ireturn, 1) := by decide +kernel
theorem dX12_colour_0 : decode cX12_colour 0 = .ok (.aload_n 0, 1) := by decide +kernel
theorem dX12_colour_1 : decode cX12_colour 1 = .ok (.iload_n 1, 1) := by decide +kernel
theorem dX12_colour_2 : decode cX12_colour 2 = .ok (.invokevirtual 126, 3) := by decide +kernel
theorem dX12_colour_5 : decode cX12_colour 5 = .ok (.ifCond .ne 7, 3) := by decide +kernel
theorem dX12_colour_8 : decode cX12_colour 8 = .ok (.iconst (-1), 1) := by decide +kernel
theorem dX12_colour_9 : decode cX12_colour 9 = .ok (.goto 24, 3) := by decide +kernel
theorem dX12_colour_12 : decode cX12_colour 12 = .ok (.aload_n 0, 1) := by decide +kernel
theorem dX12_colour_13 : decode cX12_colour 13 = .ok (.iload_n 1, 1) := by decide +kernel
theorem dX12_colour_14 : decode cX12_colour 14 = .ok (.invokevirtual 76, 3) := by decide +kernel
theorem dX12_colour_17 : decode cX12_colour 17 = .ok (.ifCond .eq 14, 3) := by decide +kernel
theorem dX12_colour_20 : decode cX12_colour 20 = .ok (.aload_n 0, 1) := by decide +kernel
theorem dX12_colour_21 : decode cX12_colour 21 = .ok (.getfield 7, 3) := by decide +kernel
theorem dX12_colour_24 : decode cX12_colour 24 = .ok (.iconst 5, 1) := by decide +kernel
theorem dX12_colour_25 : decode cX12_colour 25 = .ok (.iload_n 1, 1) := by decide +kernel
theorem dX12_colour_26 : decode cX12_colour 26 = .ok (.iadd, 1) := by decide +kernel
theorem dX12_colour_27 : decode cX12_colour 27 = .ok (.iaload, 1) := by decide +kernel
theorem dX12_colour_28 : decode cX12_colour 28 = .ok (.goto 5, 3) := by decide +kernel
theorem dX12_colour_31 : decode cX12_colour 31 = .ok (.bipush (-9), 2) := by decide +kernel
theorem dX12_colour_33 : decode cX12_colour 33 = .ok (.ireturn, 1) := by decide +kernel
theorem dX12_piece_0 : decode cX12_piece 0 = .ok (.aload_n 0, 1) := by decide +kernel
theorem dX12_piece_1 : decode cX12_piece 1 = .ok (.iload_n 1, 1) := by decide +kernel
theorem dX12_piece_2 : decode cX12_piece 2 = .ok (.invokevirtual 139, 3) := by decide +kernel
theorem dX12_piece_5 : decode cX12_piece 5 = .ok (.ifCond .eq 13, 3) := by decide +kernel
theorem dX12_piece_8 : decode cX12_piece 8 = .ok (.iload_n 2, 1) := by decide +kernel
theorem dX12_piece_9 : decode cX12_piece 9 = .ok (.iconst 0, 1) := by decide +kernel
theorem dX12_piece_10 : decode cX12_piece 10 = .ok (.bipush 6, 2) := by decide +kernel
theorem dX12_piece_12 : decode cX12_piece 12 = .ok (.invokestatic 72, 3) := by decide +kernel
theorem dX12_piece_15 : decode cX12_piece 15 = .ok (.ifCond .ne 5, 3) := by decide +kernel
theorem dX12_piece_18 : decode cX12_piece 18 = .ok (.iconst (-1), 1) := by decide +kernel
theorem dX12_piece_19 : decode cX12_piece 19 = .ok (.ireturn, 1) := by decide +kernel
theorem dX12_piece_20 : decode cX12_piece 20 = .ok (.aload_n 0, 1) := by decide +kernel
theorem dX12_piece_21 : decode cX12_piece 21 = .ok (.iload_n 1, 1) := by decide +kernel
theorem dX12_piece_22 : decode cX12_piece 22 = .ok (.invokevirtual 109, 3) := by decide +kernel
theorem dX12_piece_25 : decode cX12_piece 25 = .ok (.iload_n 2, 1) := by decide +kernel
theorem dX12_piece_26 : decode cX12_piece 26 = .ok (.iconst 4, 1) := by decide +kernel
theorem dX12_piece_27 : decode cX12_piece 27 = .ok (.if_icmp .ne 15, 3) := by decide +kernel
theorem dX12_piece_30 : decode cX12_piece 30 = .ok (.aload_n 0, 1) := by decide +kernel
theorem dX12_piece_31 : decode cX12_piece 31 = .ok (.iload_n 1, 1) := by decide +kernel
theorem dX12_piece_32 : decode cX12_piece 32 = .ok (.iconst 0, 1) := by decide +kernel
theorem dX12_piece_33 : decode cX12_piece 33 = .ok (.invokevirtual 95, 3) := by decide +kernel
theorem dX12_piece_36 : decode cX12_piece 36 = .ok (.invokestatic 82, 3) := by decide +kernel
theorem dX12_piece_39 : decode cX12_piece 39 = .ok (.goto 7, 3) := by decide +kernel
theorem dX12_piece_42 : decode cX12_piece 42 = .ok (.aload_n 0, 1) := by decide +kernel
theorem dX12_piece_43 : decode cX12_piece 43 = .ok (.getfield 92, 3) := by decide +kernel
theorem dX12_piece_46 : decode cX12_piece 46 = .ok (.istore_n 3, 1) := by decide +kernel
theorem dX12_piece_47 : decode cX12_piece 47 = .ok (.iload_n 2, 1) := by decide +kernel
theorem dX12_piece_48 : decode cX12_piece 48 = .ok (.iconst 4, 1) := by decide +kernel
theorem dX12_piece_49 : decode cX12_piece 49 = .ok (.if_icmp .ge 12, 3) := by decide +kernel
theorem dX12_piece_52 : decode cX12_piece 52 = .ok (.aload_n 0, 1) := by decide +kernel
theorem dX12_piece_53 : decode cX12_piece 53 = .ok (.iload_n 1, 1) := by decide +kernel
theorem dX12_piece_54 : decode cX12_piece 54 = .ok (.iload_n 2, 1) := by decide +kernel
theorem dX12_piece_55 : decode cX12_piece 55 = .ok (.invokevirtual 95, 3) := by decide +kernel
theorem dX12_piece_58 : decode cX12_piece 58 = .ok (.goto 18, 3) := by decide +kernel
theorem dX12_piece_61 : decode cX12_piece 61 = .ok (.iload_n 2, 1) := by decide +kernel
theorem dX12_piece_62 : decode cX12_piece 62 = .ok (.bipush 6, 2) := by decide +kernel
theorem dX12_piece_64 : decode cX12_piece 64 = .ok (.if_icmp .ge 7, 3) := by decide +kernel
theorem dX12_piece_67 : decode cX12_piece 67 = .ok (.iload_n 3, 1) := by decide +kernel
theorem dX12_piece_68 : decode cX12_piece 68 = .ok (.goto 8, 3) := by decide +kernel
theorem dX12_piece_71 : decode cX12_piece 71 = .ok (.aload_n 0, 1) := by decide +kernel
theorem dX12_piece_72 : decode cX12_piece 72 = .ok (.iload_n 1, 1) := by decide +kernel
theorem dX12_piece_73 : decode cX12_piece 73 = .ok (.invokevirtual 149, 3) := by decide +kernel
theorem dX12_piece_76 : decode cX12_piece 76 = .ok (.ireturn, 1) := by decide +kernel
theorem dX12_form_0 : decode cX12_form 0 = .ok (.aload_n 0, 1) := by decide +kernel
theorem dX12_form_1 : decode cX12_form 1 = .ok (.iload_n 1, 1) := by decide +kernel
theorem dX12_form_2 : decode cX12_form 2 = .ok (.invokevirtual 139, 3) := by decide +kernel
theorem dX12_form_5 : decode cX12_form 5 = .ok (.ifCond .eq 7, 3) := by decide +kernel
theorem dX12_form_8 : decode cX12_form 8 = .ok (.iload_n 2, 1) := by decide +kernel
theorem dX12_form_9 : decode cX12_form 9 = .ok (.ifCond .ge 5, 3) := by decide +kernel
theorem dX12_form_12 : decode cX12_form 12 = .ok (.iconst (-1), 1) := by decide +kernel
theorem dX12_form_13 : decode cX12_form 13 = .ok (.ireturn, 1) := by decide +kernel
theorem dX12_form_14 : decode cX12_form 14 = .ok (.aload_n 0, 1) := by decide +kernel
theorem dX12_form_15 : decode cX12_form 15 = .ok (.iload_n 1, 1) := by decide +kernel
theorem dX12_form_16 : decode cX12_form 16 = .ok (.invokevirtual 109, 3) := by decide +kernel
theorem dX12_form_19 : decode cX12_form 19 = .ok (.iload_n 2, 1) := by decide +kernel
theorem dX12_form_20 : decode cX12_form 20 = .ok (.aload_n 0, 1) := by decide +kernel
theorem dX12_form_21 : decode cX12_form 21 = .ok (.getfield 92, 3) := by decide +kernel
theorem dX12_form_24 : decode cX12_form 24 = .ok (.if_icmp .ge 12, 3) := by decide +kernel
theorem dX12_form_27 : decode cX12_form 27 = .ok (.aload_n 0, 1) := by decide +kernel
theorem dX12_form_28 : decode cX12_form 28 = .ok (.getfield 20, 3) := by decide +kernel
theorem dX12_form_31 : decode cX12_form 31 = .ok (.iload_n 2, 1) := by decide +kernel
theorem dX12_form_32 : decode cX12_form 32 = .ok (.iaload, 1) := by decide +kernel
theorem dX12_form_33 : decode cX12_form 33 = .ok (.goto 5, 3) := by decide +kernel
theorem dX12_form_36 : decode cX12_form 36 = .ok (.bipush (-9), 2) := by decide +kernel
theorem dX12_form_38 : decode cX12_form 38 = .ok (.ireturn, 1) := by decide +kernel
theorem dX12_placement_0 : decode cX12_placement 0 = .ok (.iload_n 1, 1) := by decide +kernel
theorem dX12_placement_1 : decode cX12_placement 1 = .ok (.ifCond .lt 12, 3) := by decide +kernel
theorem dX12_placement_4 : decode cX12_placement 4 = .ok (.iload_n 2, 1) := by decide +kernel
theorem dX12_placement_5 : decode cX12_placement 5 = .ok (.iconst 0, 1) := by decide +kernel
theorem dX12_placement_6 : decode cX12_placement 6 = .ok (.iconst 4, 1) := by decide +kernel
theorem dX12_placement_7 : decode cX12_placement 7 = .ok (.invokestatic 72, 3) := by decide +kernel
theorem dX12_placement_10 : decode cX12_placement 10 = .ok (.ifCond .ne 5, 3) := by decide +kernel
theorem dX12_placement_13 : decode cX12_placement 13 = .ok (.iconst (-1), 1) := by decide +kernel
theorem dX12_placement_14 : decode cX12_placement 14 = .ok (.ireturn, 1) := by decide +kernel
theorem dX12_placement_15 : decode cX12_placement 15 = .ok (.aload_n 0, 1) := by decide +kernel
theorem dX12_placement_16 : decode cX12_placement 16 = .ok (.invokevirtual 120, 3) := by decide +kernel
theorem dX12_placement_19 : decode cX12_placement 19 = .ok (.iload_n 1, 1) := by decide +kernel
theorem dX12_placement_20 : decode cX12_placement 20 = .ok (.aload_n 0, 1) := by decide +kernel
theorem dX12_placement_21 : decode cX12_placement 21 = .ok (.getfield 106, 3) := by decide +kernel
theorem dX12_placement_24 : decode cX12_placement 24 = .ok (.if_icmp .lt 6, 3) := by decide +kernel
theorem dX12_placement_27 : decode cX12_placement 27 = .ok (.bipush (-9), 2) := by decide +kernel
theorem dX12_placement_29 : decode cX12_placement 29 = .ok (.ireturn, 1) := by decide +kernel
theorem dX12_placement_30 : decode cX12_placement 30 = .ok (.aload_n 0, 1) := by decide +kernel
theorem dX12_placement_31 : decode cX12_placement 31 = .ok (.getfield 36, 3) := by decide +kernel
theorem dX12_placement_34 : decode cX12_placement 34 = .ok (.iload_n 1, 1) := by decide +kernel
theorem dX12_placement_35 : decode cX12_placement 35 = .ok (.iaload, 1) := by decide +kernel
theorem dX12_placement_36 : decode cX12_placement 36 = .ok (.istore_n 3, 1) := by decide +kernel
theorem dX12_placement_37 : decode cX12_placement 37 = .ok (.iconst 0, 1) := by decide +kernel
theorem dX12_placement_38 : decode cX12_placement 38 = .ok (.istore 4, 2) := by decide +kernel
theorem dX12_placement_40 : decode cX12_placement 40 = .ok (.iload 4, 2) := by decide +kernel
theorem dX12_placement_42 : decode cX12_placement 42 = .ok (.aload_n 0, 1) := by decide +kernel
theorem dX12_placement_43 : decode cX12_placement 43 = .ok (.invokevirtual 68, 3) := by decide +kernel
theorem dX12_placement_46 : decode cX12_placement 46 = .ok (.if_icmp .ge 26, 3) := by decide +kernel
theorem dX12_placement_49 : decode cX12_placement 49 = .ok (.aload_n 0, 1) := by decide +kernel
theorem dX12_placement_50 : decode cX12_placement 50 = .ok (.iload_n 1, 1) := by decide +kernel
theorem dX12_placement_51 : decode cX12_placement 51 = .ok (.iload 4, 2) := by decide +kernel
theorem dX12_placement_53 : decode cX12_placement 53 = .ok (.invokevirtual 152, 3) := by decide +kernel
theorem dX12_placement_56 : decode cX12_placement 56 = .ok (.ifCond .eq 8, 3) := by decide +kernel
theorem dX12_placement_59 : decode cX12_placement 59 = .ok (.iload 4, 2) := by decide +kernel
theorem dX12_placement_61 : decode cX12_placement 61 = .ok (.goto 4, 3) := by decide +kernel
theorem dX12_placement_64 : decode cX12_placement 64 = .ok (.iload_n 3, 1) := by decide +kernel
theorem dX12_placement_65 : decode cX12_placement 65 = .ok (.istore_n 3, 1) := by decide +kernel
theorem dX12_placement_66 : decode cX12_placement 66 = .ok (.iinc 4 1, 3) := by decide +kernel
theorem dX12_placement_69 : decode cX12_placement 69 = .ok (.goto (-29), 3) := by decide +kernel
theorem dX12_placement_72 : decode cX12_placement 72 = .ok (.iload_n 2, 1) := by decide +kernel
theorem dX12_placement_73 : decode cX12_placement 73 = .ok (.tableswitch 59 0 3 #[31, 38, 45, 52], 31) := by decide +kernel
theorem dX12_placement_104 : decode cX12_placement 104 = .ok (.aload_n 0, 1) := by decide +kernel
theorem dX12_placement_105 : decode cX12_placement 105 = .ok (.getfield 23, 3) := by decide +kernel
theorem dX12_placement_108 : decode cX12_placement 108 = .ok (.iload_n 1, 1) := by decide +kernel
theorem dX12_placement_109 : decode cX12_placement 109 = .ok (.iaload, 1) := by decide +kernel
theorem dX12_placement_110 : decode cX12_placement 110 = .ok (.ireturn, 1) := by decide +kernel
theorem dX12_placement_111 : decode cX12_placement 111 = .ok (.aload_n 0, 1) := by decide +kernel
theorem dX12_placement_112 : decode cX12_placement 112 = .ok (.getfield 26, 3) := by decide +kernel
theorem dX12_placement_115 : decode cX12_placement 115 = .ok (.iload_n 1, 1) := by decide +kernel
theorem dX12_placement_116 : decode cX12_placement 116 = .ok (.iaload, 1) := by decide +kernel
theorem dX12_placement_117 : decode cX12_placement 117 = .ok (.ireturn, 1) := by decide +kernel
theorem dX12_placement_118 : decode cX12_placement 118 = .ok (.aload_n 0, 1) := by decide +kernel
theorem dX12_placement_119 : decode cX12_placement 119 = .ok (.getfield 29, 3) := by decide +kernel
theorem dX12_placement_122 : decode cX12_placement 122 = .ok (.iload_n 1, 1) := by decide +kernel
theorem dX12_placement_123 : decode cX12_placement 123 = .ok (.iaload, 1) := by decide +kernel
theorem dX12_placement_124 : decode cX12_placement 124 = .ok (.ireturn, 1) := by decide +kernel
theorem dX12_placement_125 : decode cX12_placement 125 = .ok (.aload_n 0, 1) := by decide +kernel
theorem dX12_placement_126 : decode cX12_placement 126 = .ok (.getfield 36, 3) := by decide +kernel
theorem dX12_placement_129 : decode cX12_placement 129 = .ok (.iload_n 1, 1) := by decide +kernel
theorem dX12_placement_130 : decode cX12_placement 130 = .ok (.iaload, 1) := by decide +kernel
theorem dX12_placement_131 : decode cX12_placement 131 = .ok (.ireturn, 1) := by decide +kernel
theorem dX12_placement_132 : decode cX12_placement 132 = .ok (.iload_n 3, 1) := by decide +kernel
theorem dX12_placement_133 : decode cX12_placement 133 = .ok (.ireturn, 1) := by decide +kernel
theorem dX12_appendCharacter_0 : decode cX12_appendCharacter 0 = .ok (.iload_n 1, 1) := by decide +kernel
theorem dX12_appendCharacter_1 : decode cX12_appendCharacter 1 = .ok (.iconst 0, 1) := by decide +kernel
theorem dX12_appendCharacter_2 : decode cX12_appendCharacter 2 = .ok (.sipush 255, 3) := by decide +kernel
theorem dX12_appendCharacter_5 : decode cX12_appendCharacter 5 = .ok (.invokestatic 72, 3) := by decide +kernel
theorem dX12_appendCharacter_8 : decode cX12_appendCharacter 8 = .ok (.ifCond .ne 5, 3) := by decide +kernel
theorem dX12_appendCharacter_11 : decode cX12_appendCharacter 11 = .ok (.iconst (-1), 1) := by decide +kernel
theorem dX12_appendCharacter_12 : decode cX12_appendCharacter 12 = .ok (.ireturn, 1) := by decide +kernel
theorem dX12_appendCharacter_13 : decode cX12_appendCharacter 13 = .ok (.aload_n 0, 1) := by decide +kernel
theorem dX12_appendCharacter_14 : decode cX12_appendCharacter 14 = .ok (.getfield 156, 3) := by decide +kernel
theorem dX12_appendCharacter_17 : decode cX12_appendCharacter 17 = .ok (.sipush 160, 3) := by decide +kernel
theorem dX12_appendCharacter_20 : decode cX12_appendCharacter 20 = .ok (.if_icmp .ne 6, 3) := by decide +kernel
theorem dX12_appendCharacter_23 : decode cX12_appendCharacter 23 = .ok (.bipush (-3), 2) := by decide +kernel
theorem dX12_appendCharacter_25 : decode cX12_appendCharacter 25 = .ok (.ireturn, 1) := by decide +kernel
theorem dX12_appendCharacter_26 : decode cX12_appendCharacter 26 = .ok (.aload_n 0, 1) := by decide +kernel
theorem dX12_appendCharacter_27 : decode cX12_appendCharacter 27 = .ok (.getfield 16, 3) := by decide +kernel
theorem dX12_appendCharacter_30 : decode cX12_appendCharacter 30 = .ok (.aload_n 0, 1) := by decide +kernel
theorem dX12_appendCharacter_31 : decode cX12_appendCharacter 31 = .ok (.getfield 156, 3) := by decide +kernel
theorem dX12_appendCharacter_34 : decode cX12_appendCharacter 34 = .ok (.iload_n 1, 1) := by decide +kernel
theorem dX12_appendCharacter_35 : decode cX12_appendCharacter 35 = .ok (.i2b, 1) := by decide +kernel
theorem dX12_appendCharacter_36 : decode cX12_appendCharacter 36 = .ok (.bastore, 1) := by decide +kernel
theorem dX12_appendCharacter_37 : decode cX12_appendCharacter 37 = .ok (.aload_n 0, 1) := by decide +kernel
theorem dX12_appendCharacter_38 : decode cX12_appendCharacter 38 = .ok (.dup, 1) := by decide +kernel
theorem dX12_appendCharacter_39 : decode cX12_appendCharacter 39 = .ok (.getfield 156, 3) := by decide +kernel
theorem dX12_appendCharacter_42 : decode cX12_appendCharacter 42 = .ok (.iconst 1, 1) := by decide +kernel
theorem dX12_appendCharacter_43 : decode cX12_appendCharacter 43 = .ok (.iadd, 1) := by decide +kernel
theorem dX12_appendCharacter_44 : decode cX12_appendCharacter 44 = .ok (.putfield 156, 3) := by decide +kernel
theorem dX12_appendCharacter_47 : decode cX12_appendCharacter 47 = .ok (.aload_n 0, 1) := by decide +kernel
theorem dX12_appendCharacter_48 : decode cX12_appendCharacter 48 = .ok (.getfield 156, 3) := by decide +kernel
theorem dX12_appendCharacter_51 : decode cX12_appendCharacter 51 = .ok (.ireturn, 1) := by decide +kernel
theorem dX12_clearText_0 : decode cX12_clearText 0 = .ok (.aload_n 0, 1) := by decide +kernel
theorem dX12_clearText_1 : decode cX12_clearText 1 = .ok (.getfield 156, 3) := by decide +kernel
theorem dX12_clearText_4 : decode cX12_clearText 4 = .ok (.istore_n 1, 1) := by decide +kernel
theorem dX12_clearText_5 : decode cX12_clearText 5 = .ok (.aload_n 0, 1) := by decide +kernel
theorem dX12_clearText_6 : decode cX12_clearText 6 = .ok (.iconst 0, 1) := by decide +kernel
theorem dX12_clearText_7 : decode cX12_clearText 7 = .ok (.putfield 156, 3) := by decide +kernel
theorem dX12_clearText_10 : decode cX12_clearText 10 = .ok (.iload_n 1, 1) := by decide +kernel
theorem dX12_clearText_11 : decode cX12_clearText 11 = .ok (.ireturn, 1) := by decide +kernel
theorem dX12_here_0 : decode cX12_here 0 = .ok (.aload_n 0, 1) := by decide +kernel
theorem dX12_here_1 : decode cX12_here 1 = .ok (.getfield 159, 3) := by decide +kernel
theorem dX12_here_4 : decode cX12_here 4 = .ok (.aload_n 0, 1) := by decide +kernel
theorem dX12_here_5 : decode cX12_here 5 = .ok (.getfield 156, 3) := by decide +kernel
theorem dX12_here_8 : decode cX12_here 8 = .ok (.if_icmp .ge 19, 3) := by decide +kernel
theorem dX12_here_11 : decode cX12_here 11 = .ok (.aload_n 0, 1) := by decide +kernel
theorem dX12_here_12 : decode cX12_here 12 = .ok (.getfield 16, 3) := by decide +kernel
theorem dX12_here_15 : decode cX12_here 15 = .ok (.aload_n 0, 1) := by decide +kernel
theorem dX12_here_16 : decode cX12_here 16 = .ok (.getfield 159, 3) := by decide +kernel
theorem dX12_here_19 : decode cX12_here 19 = .ok (.baload, 1) := by decide +kernel
theorem dX12_here_20 : decode cX12_here 20 = .ok (.sipush 255, 3) := by decide +kernel
theorem dX12_here_23 : decode cX12_here 23 = .ok (.iand, 1) := by decide +kernel
theorem dX12_here_24 : decode cX12_here 24 = .ok (.goto 4, 3) := by decide +kernel
theorem dX12_here_27 : decode cX12_here 27 = .ok (.iconst (-1), 1) := by decide +kernel
theorem dX12_here_28 : decode cX12_here 28 = .ok (.ireturn, 1) := by decide +kernel
theorem dX12_isInRow_0 : decode cX12_isInRow 0 = .ok (.iload_n 2, 1) := by decide +kernel
theorem dX12_isInRow_1 : decode cX12_isInRow 1 = .ok (.ifCond .eq 34, 3) := by decide +kernel
theorem dX12_isInRow_4 : decode cX12_isInRow 4 = .ok (.iload_n 1, 1) := by decide +kernel
theorem dX12_isInRow_5 : decode cX12_isInRow 5 = .ok (.bipush 46, 2) := by decide +kernel
theorem dX12_isInRow_7 : decode cX12_isInRow 7 = .ok (.if_icmp .eq 20, 3) := by decide +kernel
theorem dX12_isInRow_10 : decode cX12_isInRow 10 = .ok (.iload_n 1, 1) := by decide +kernel
theorem dX12_isInRow_11 : decode cX12_isInRow 11 = .ok (.bipush 35, 2) := by decide +kernel
theorem dX12_isInRow_13 : decode cX12_isInRow 13 = .ok (.if_icmp .eq 14, 3) := by decide +kernel
theorem dX12_isInRow_16 : decode cX12_isInRow 16 = .ok (.iload_n 1, 1) := by decide +kernel
theorem dX12_isInRow_17 : decode cX12_isInRow 17 = .ok (.bipush 49, 2) := by decide +kernel
theorem dX12_isInRow_19 : decode cX12_isInRow 19 = .ok (.bipush 51, 2) := by decide +kernel
theorem dX12_isInRow_21 : decode cX12_isInRow 21 = .ok (.invokestatic 72, 3) := by decide +kernel
theorem dX12_isInRow_24 : decode cX12_isInRow 24 = .ok (.ifCond .eq 7, 3) := by decide +kernel
theorem dX12_isInRow_27 : decode cX12_isInRow 27 = .ok (.iconst 1, 1) := by decide +kernel
theorem dX12_isInRow_28 : decode cX12_isInRow 28 = .ok (.goto 24, 3) := by decide +kernel
theorem dX12_isInRow_31 : decode cX12_isInRow 31 = .ok (.iconst 0, 1) := by decide +kernel
theorem dX12_isInRow_32 : decode cX12_isInRow 32 = .ok (.goto 20, 3) := by decide +kernel
theorem dX12_isInRow_35 : decode cX12_isInRow 35 = .ok (.iload_n 1, 1) := by decide +kernel
theorem dX12_isInRow_36 : decode cX12_isInRow 36 = .ok (.bipush 111, 2) := by decide +kernel
theorem dX12_isInRow_38 : decode cX12_isInRow 38 = .ok (.if_icmp .eq 9, 3) := by decide +kernel
theorem dX12_isInRow_41 : decode cX12_isInRow 41 = .ok (.iload_n 1, 1) := by decide +kernel
theorem dX12_isInRow_42 : decode cX12_isInRow 42 = .ok (.bipush 46, 2) := by decide +kernel
theorem dX12_isInRow_44 : decode cX12_isInRow 44 = .ok (.if_icmp .ne 7, 3) := by decide +kernel
theorem dX12_isInRow_47 : decode cX12_isInRow 47 = .ok (.iconst 1, 1) := by decide +kernel
theorem dX12_isInRow_48 : decode cX12_isInRow 48 = .ok (.goto 4, 3) := by decide +kernel
theorem dX12_isInRow_51 : decode cX12_isInRow 51 = .ok (.iconst 0, 1) := by decide +kernel
theorem dX12_isInRow_52 : decode cX12_isInRow 52 = .ok (.istore_n 3, 1) := by decide +kernel
theorem dX12_isInRow_53 : decode cX12_isInRow 53 = .ok (.iload_n 3, 1) := by decide +kernel
theorem dX12_isInRow_54 : decode cX12_isInRow 54 = .ok (.ifCond .eq 63, 3) := by decide +kernel
theorem dX12_isInRow_57 : decode cX12_isInRow 57 = .ok (.iload_n 2, 1) := by decide +kernel
theorem dX12_isInRow_58 : decode cX12_isInRow 58 = .ok (.ifCond .eq 59, 3) := by decide +kernel
theorem dX12_isInRow_61 : decode cX12_isInRow 61 = .ok (.bipush 6, 2) := by decide +kernel
theorem dX12_isInRow_63 : decode cX12_isInRow 63 = .ok (.aload_n 0, 1) := by decide +kernel
theorem dX12_isInRow_64 : decode cX12_isInRow 64 = .ok (.getfield 162, 3) := by decide +kernel
theorem dX12_isInRow_67 : decode cX12_isInRow 67 = .ok (.imul, 1) := by decide +kernel
theorem dX12_isInRow_68 : decode cX12_isInRow 68 = .ok (.aload_n 0, 1) := by decide +kernel
theorem dX12_isInRow_69 : decode cX12_isInRow 69 = .ok (.getfield 165, 3) := by decide +kernel
theorem dX12_isInRow_72 : decode cX12_isInRow 72 = .ok (.iadd, 1) := by decide +kernel
theorem dX12_isInRow_73 : decode cX12_isInRow 73 = .ok (.istore 4, 2) := by decide +kernel
theorem dX12_isInRow_75 : decode cX12_isInRow 75 = .ok (.aload_n 0, 1) := by decide +kernel
theorem dX12_isInRow_76 : decode cX12_isInRow 76 = .ok (.getfield 42, 3) := by decide +kernel
theorem dX12_isInRow_79 : decode cX12_isInRow 79 = .ok (.iload 4, 2) := by decide +kernel
theorem dX12_isInRow_81 : decode cX12_isInRow 81 = .ok (.bipush 36, 2) := by decide +kernel
theorem dX12_isInRow_83 : decode cX12_isInRow 83 = .ok (.if_icmp .ge 8, 3) := by decide +kernel
theorem dX12_isInRow_86 : decode cX12_isInRow 86 = .ok (.iload 4, 2) := by decide +kernel
theorem dX12_isInRow_88 : decode cX12_isInRow 88 = .ok (.goto 4, 3) := by decide +kernel
theorem dX12_isInRow_91 : decode cX12_isInRow 91 = .ok (.iconst 0, 1) := by decide +kernel
theorem dX12_isInRow_92 : decode cX12_isInRow 92 = .ok (.iload_n 1, 1) := by decide +kernel
theorem dX12_isInRow_93 : decode cX12_isInRow 93 = .ok (.bipush 35, 2) := by decide +kernel
theorem dX12_isInRow_95 : decode cX12_isInRow 95 = .ok (.if_icmp .ne 7, 3) := by decide +kernel
theorem dX12_isInRow_98 : decode cX12_isInRow 98 = .ok (.iconst (-1), 1) := by decide +kernel
theorem dX12_isInRow_99 : decode cX12_isInRow 99 = .ok (.goto 17, 3) := by decide +kernel
theorem dX12_isInRow_102 : decode cX12_isInRow 102 = .ok (.iload_n 1, 1) := by decide +kernel
theorem dX12_isInRow_103 : decode cX12_isInRow 103 = .ok (.bipush 46, 2) := by decide +kernel
theorem dX12_isInRow_105 : decode cX12_isInRow 105 = .ok (.if_icmp .ne 7, 3) := by decide +kernel
theorem dX12_isInRow_108 : decode cX12_isInRow 108 = .ok (.iconst 0, 1) := by decide +kernel
theorem dX12_isInRow_109 : decode cX12_isInRow 109 = .ok (.goto 7, 3) := by decide +kernel
theorem dX12_isInRow_112 : decode cX12_isInRow 112 = .ok (.iload_n 1, 1) := by decide +kernel
theorem dX12_isInRow_113 : decode cX12_isInRow 113 = .ok (.bipush 48, 2) := by decide +kernel
theorem dX12_isInRow_115 : decode cX12_isInRow 115 = .ok (.isub, 1) := by decide +kernel
theorem dX12_isInRow_116 : decode cX12_isInRow 116 = .ok (.iastore, 1) := by decide +kernel
theorem dX12_isInRow_117 : decode cX12_isInRow 117 = .ok (.iload_n 3, 1) := by decide +kernel
theorem dX12_isInRow_118 : decode cX12_isInRow 118 = .ok (.ifCond .eq 55, 3) := by decide +kernel
theorem dX12_isInRow_121 : decode cX12_isInRow 121 = .ok (.iload_n 2, 1) := by decide +kernel
theorem dX12_isInRow_122 : decode cX12_isInRow 122 = .ok (.ifCond .ne 51, 3) := by decide +kernel
theorem dX12_isInRow_125 : decode cX12_isInRow 125 = .ok (.iload_n 1, 1) := by decide +kernel
theorem dX12_isInRow_126 : decode cX12_isInRow 126 = .ok (.bipush 111, 2) := by decide +kernel
theorem dX12_isInRow_128 : decode cX12_isInRow 128 = .ok (.if_icmp .ne 45, 3) := by decide +kernel
theorem dX12_isInRow_131 : decode cX12_isInRow 131 = .ok (.aload_n 0, 1) := by decide +kernel
theorem dX12_isInRow_132 : decode cX12_isInRow 132 = .ok (.dup, 1) := by decide +kernel
theorem dX12_isInRow_133 : decode cX12_isInRow 133 = .ok (.getfield 168, 3) := by decide +kernel
theorem dX12_isInRow_136 : decode cX12_isInRow 136 = .ok (.aload_n 0, 1) := by decide +kernel
theorem dX12_isInRow_137 : decode cX12_isInRow 137 = .ok (.getfield 162, 3) := by decide +kernel
theorem dX12_isInRow_140 : decode cX12_isInRow 140 = .ok (.iconst 4, 1) := by decide +kernel
theorem dX12_isInRow_141 : decode cX12_isInRow 141 = .ok (.if_icmp .ge 27, 3) := by decide +kernel
theorem dX12_isInRow_144 : decode cX12_isInRow 144 = .ok (.aload_n 0, 1) := by decide +kernel
theorem dX12_isInRow_145 : decode cX12_isInRow 145 = .ok (.getfield 165, 3) := by decide +kernel
theorem dX12_isInRow_148 : decode cX12_isInRow 148 = .ok (.iconst 4, 1) := by decide +kernel
theorem dX12_isInRow_149 : decode cX12_isInRow 149 = .ok (.if_icmp .ge 19, 3) := by decide +kernel
theorem dX12_isInRow_152 : decode cX12_isInRow 152 = .ok (.iconst 1, 1) := by decide +kernel
theorem dX12_isInRow_153 : decode cX12_isInRow 153 = .ok (.iconst 4, 1) := by decide +kernel
theorem dX12_isInRow_154 : decode cX12_isInRow 154 = .ok (.aload_n 0, 1) := by decide +kernel
theorem dX12_isInRow_155 : decode cX12_isInRow 155 = .ok (.getfield 162, 3) := by decide +kernel
theorem dX12_isInRow_158 : decode cX12_isInRow 158 = .ok (.imul, 1) := by decide +kernel
theorem dX12_isInRow_159 : decode cX12_isInRow 159 = .ok (.aload_n 0, 1) := by decide +kernel
theorem dX12_isInRow_160 : decode cX12_isInRow 160 = .ok (.getfield 165, 3) := by decide +kernel
theorem dX12_isInRow_163 : decode cX12_isInRow 163 = .ok (.iadd, 1) := by decide +kernel
theorem dX12_isInRow_164 : decode cX12_isInRow 164 = .ok (.ishl, 1) := by decide +kernel
theorem dX12_isInRow_165 : decode cX12_isInRow 165 = .ok (.goto 4, 3) := by decide +kernel
theorem dX12_isInRow_168 : decode cX12_isInRow 168 = .ok (.iconst 0, 1) := by decide +kernel
theorem dX12_isInRow_169 : decode cX12_isInRow 169 = .ok (.ior, 1) := by decide +kernel
theorem dX12_isInRow_170 : decode cX12_isInRow 170 = .ok (.putfield 168, 3) := by decide +kernel
theorem dX12_isInRow_173 : decode cX12_isInRow 173 = .ok (.iload_n 3, 1) := by decide +kernel
theorem dX12_isInRow_174 : decode cX12_isInRow 174 = .ok (.ireturn, 1) := by decide +kernel
theorem dX12_readsRows_0 : decode cX12_readsRows 0 = .ok (.iload_n 1, 1) := by decide +kernel
theorem dX12_readsRows_1 : decode cX12_readsRows 1 = .ok (.ifCond .eq 8, 3) := by decide +kernel
theorem dX12_readsRows_4 : decode cX12_readsRows 4 = .ok (.bipush 6, 2) := by decide +kernel
theorem dX12_readsRows_6 : decode cX12_readsRows 6 = .ok (.goto 4, 3) := by decide +kernel
theorem dX12_readsRows_9 : decode cX12_readsRows 9 = .ok (.iconst 4, 1) := by decide +kernel
theorem dX12_readsRows_10 : decode cX12_readsRows 10 = .ok (.istore_n 2, 1) := by decide +kernel
theorem dX12_readsRows_11 : decode cX12_readsRows 11 = .ok (.aload_n 0, 1) := by decide +kernel
theorem dX12_readsRows_12 : decode cX12_readsRows 12 = .ok (.iconst 0, 1) := by decide +kernel
theorem dX12_readsRows_13 : decode cX12_readsRows 13 = .ok (.putfield 171, 3) := by decide +kernel
theorem dX12_readsRows_16 : decode cX12_readsRows 16 = .ok (.aload_n 0, 1) := by decide +kernel
theorem dX12_readsRows_17 : decode cX12_readsRows 17 = .ok (.iconst 0, 1) := by decide +kernel
theorem dX12_readsRows_18 : decode cX12_readsRows 18 = .ok (.putfield 162, 3) := by decide +kernel
theorem dX12_readsRows_21 : decode cX12_readsRows 21 = .ok (.aload_n 0, 1) := by decide +kernel
theorem dX12_readsRows_22 : decode cX12_readsRows 22 = .ok (.iconst 0, 1) := by decide +kernel
theorem dX12_readsRows_23 : decode cX12_readsRows 23 = .ok (.putfield 165, 3) := by decide +kernel
theorem dX12_readsRows_26 : decode cX12_readsRows 26 = .ok (.aload_n 0, 1) := by decide +kernel
theorem dX12_readsRows_27 : decode cX12_readsRows 27 = .ok (.iconst 0, 1) := by decide +kernel
theorem dX12_readsRows_28 : decode cX12_readsRows 28 = .ok (.putfield 168, 3) := by decide +kernel
theorem dX12_readsRows_31 : decode cX12_readsRows 31 = .ok (.iconst 1, 1) := by decide +kernel
theorem dX12_readsRows_32 : decode cX12_readsRows 32 = .ok (.istore_n 3, 1) := by decide +kernel
theorem dX12_readsRows_33 : decode cX12_readsRows 33 = .ok (.iload_n 3, 1) := by decide +kernel
theorem dX12_readsRows_34 : decode cX12_readsRows 34 = .ok (.ifCond .eq 255, 3) := by decide +kernel
theorem dX12_readsRows_37 : decode cX12_readsRows 37 = .ok (.aload_n 0, 1) := by decide +kernel
theorem dX12_readsRows_38 : decode cX12_readsRows 38 = .ok (.getfield 174, 3) := by decide +kernel
theorem dX12_readsRows_41 : decode cX12_readsRows 41 = .ok (.ifCond .ne 248, 3) := by decide +kernel
theorem dX12_readsRows_44 : decode cX12_readsRows 44 = .ok (.aload_n 0, 1) := by decide +kernel
theorem dX12_readsRows_45 : decode cX12_readsRows 45 = .ok (.invokevirtual 178, 3) := by decide +kernel
theorem dX12_readsRows_48 : decode cX12_readsRows 48 = .ok (.istore 4, 2) := by decide +kernel
theorem dX12_readsRows_50 : decode cX12_readsRows 50 = .ok (.aload_n 0, 1) := by decide +kernel
theorem dX12_readsRows_51 : decode cX12_readsRows 51 = .ok (.getfield 165, 3) := by decide +kernel
theorem dX12_readsRows_54 : decode cX12_readsRows 54 = .ok (.aload_n 0, 1) := by decide +kernel
theorem dX12_readsRows_55 : decode cX12_readsRows 55 = .ok (.getfield 162, 3) := by decide +kernel
theorem dX12_readsRows_58 : decode cX12_readsRows 58 = .ok (.ifCond .ne 7, 3) := by decide +kernel
theorem dX12_readsRows_61 : decode cX12_readsRows 61 = .ok (.iload_n 2, 1) := by decide +kernel
theorem dX12_readsRows_62 : decode cX12_readsRows 62 = .ok (.goto 7, 3) := by decide +kernel
theorem dX12_readsRows_65 : decode cX12_readsRows 65 = .ok (.aload_n 0, 1) := by decide +kernel
theorem dX12_readsRows_66 : decode cX12_readsRows 66 = .ok (.getfield 171, 3) := by decide +kernel
theorem dX12_readsRows_69 : decode cX12_readsRows 69 = .ok (.if_icmp .ge 7, 3) := by decide +kernel
theorem dX12_readsRows_72 : decode cX12_readsRows 72 = .ok (.iconst 1, 1) := by decide +kernel
theorem dX12_readsRows_73 : decode cX12_readsRows 73 = .ok (.goto 4, 3) := by decide +kernel
theorem dX12_readsRows_76 : decode cX12_readsRows 76 = .ok (.iconst 0, 1) := by decide +kernel
theorem dX12_readsRows_77 : decode cX12_readsRows 77 = .ok (.istore 5, 2) := by decide +kernel
theorem dX12_readsRows_79 : decode cX12_readsRows 79 = .ok (.iload 5, 2) := by decide +kernel
theorem dX12_readsRows_81 : decode cX12_readsRows 81 = .ok (.ifCond .eq 58, 3) := by decide +kernel
theorem dX12_readsRows_84 : decode cX12_readsRows 84 = .ok (.aload_n 0, 1) := by decide +kernel
theorem dX12_readsRows_85 : decode cX12_readsRows 85 = .ok (.iload 4, 2) := by decide +kernel
theorem dX12_readsRows_87 : decode cX12_readsRows 87 = .ok (.iload_n 1, 1) := by decide +kernel
theorem dX12_readsRows_88 : decode cX12_readsRows 88 = .ok (.invokevirtual 181, 3) := by decide +kernel
theorem dX12_readsRows_91 : decode cX12_readsRows 91 = .ok (.ifCond .eq 48, 3) := by decide +kernel
theorem dX12_readsRows_94 : decode cX12_readsRows 94 = .ok (.aload_n 0, 1) := by decide +kernel
theorem dX12_readsRows_95 : decode cX12_readsRows 95 = .ok (.dup, 1) := by decide +kernel
theorem dX12_readsRows_96 : decode cX12_readsRows 96 = .ok (.getfield 165, 3) := by decide +kernel
theorem dX12_readsRows_99 : decode cX12_readsRows 99 = .ok (.iconst 1, 1) := by decide +kernel
theorem dX12_readsRows_100 : decode cX12_readsRows 100 = .ok (.iadd, 1) := by decide +kernel
theorem dX12_readsRows_101 : decode cX12_readsRows 101 = .ok (.putfield 165, 3) := by decide +kernel
theorem dX12_readsRows_104 : decode cX12_readsRows 104 = .ok (.aload_n 0, 1) := by decide +kernel
theorem dX12_readsRows_105 : decode cX12_readsRows 105 = .ok (.aload_n 0, 1) := by decide +kernel
theorem dX12_readsRows_106 : decode cX12_readsRows 106 = .ok (.getfield 162, 3) := by decide +kernel
theorem dX12_readsRows_109 : decode cX12_readsRows 109 = .ok (.ifCond .ne 10, 3) := by decide +kernel
theorem dX12_readsRows_112 : decode cX12_readsRows 112 = .ok (.aload_n 0, 1) := by decide +kernel
theorem dX12_readsRows_113 : decode cX12_readsRows 113 = .ok (.getfield 165, 3) := by decide +kernel
theorem dX12_readsRows_116 : decode cX12_readsRows 116 = .ok (.goto 7, 3) := by decide +kernel
theorem dX12_readsRows_119 : decode cX12_readsRows 119 = .ok (.aload_n 0, 1) := by decide +kernel
theorem dX12_readsRows_120 : decode cX12_readsRows 120 = .ok (.getfield 171, 3) := by decide +kernel
theorem dX12_readsRows_123 : decode cX12_readsRows 123 = .ok (.putfield 171, 3) := by decide +kernel
theorem dX12_readsRows_126 : decode cX12_readsRows 126 = .ok (.aload_n 0, 1) := by decide +kernel
theorem dX12_readsRows_127 : decode cX12_readsRows 127 = .ok (.dup, 1) := by decide +kernel
theorem dX12_readsRows_128 : decode cX12_readsRows 128 = .ok (.getfield 159, 3) := by decide +kernel
theorem dX12_readsRows_131 : decode cX12_readsRows 131 = .ok (.iconst 1, 1) := by decide +kernel
theorem dX12_readsRows_132 : decode cX12_readsRows 132 = .ok (.iadd, 1) := by decide +kernel
theorem dX12_readsRows_133 : decode cX12_readsRows 133 = .ok (.putfield 159, 3) := by decide +kernel
theorem dX12_readsRows_136 : decode cX12_readsRows 136 = .ok (.goto 150, 3) := by decide +kernel
theorem dX12_readsRows_139 : decode cX12_readsRows 139 = .ok (.aload_n 0, 1) := by decide +kernel
theorem dX12_readsRows_140 : decode cX12_readsRows 140 = .ok (.getfield 165, 3) := by decide +kernel
theorem dX12_readsRows_143 : decode cX12_readsRows 143 = .ok (.ifCond .le 18, 3) := by decide +kernel
theorem dX12_readsRows_146 : decode cX12_readsRows 146 = .ok (.aload_n 0, 1) := by decide +kernel
theorem dX12_readsRows_147 : decode cX12_readsRows 147 = .ok (.getfield 165, 3) := by decide +kernel
theorem dX12_readsRows_150 : decode cX12_readsRows 150 = .ok (.aload_n 0, 1) := by decide +kernel
theorem dX12_readsRows_151 : decode cX12_readsRows 151 = .ok (.getfield 171, 3) := by decide +kernel
theorem dX12_readsRows_154 : decode cX12_readsRows 154 = .ok (.if_icmp .ne 7, 3) := by decide +kernel
theorem dX12_readsRows_157 : decode cX12_readsRows 157 = .ok (.iconst 1, 1) := by decide +kernel
theorem dX12_readsRows_158 : decode cX12_readsRows 158 = .ok (.goto 4, 3) := by decide +kernel
theorem dX12_readsRows_161 : decode cX12_readsRows 161 = .ok (.iconst 0, 1) := by decide +kernel
theorem dX12_readsRows_162 : decode cX12_readsRows 162 = .ok (.istore 6, 2) := by decide +kernel
theorem dX12_readsRows_164 : decode cX12_readsRows 164 = .ok (.iload 4, 2) := by decide +kernel
theorem dX12_readsRows_166 : decode cX12_readsRows 166 = .ok (.bipush 47, 2) := by decide +kernel
theorem dX12_readsRows_168 : decode cX12_readsRows 168 = .ok (.if_icmp .ne 22, 3) := by decide +kernel
theorem dX12_readsRows_171 : decode cX12_readsRows 171 = .ok (.iload 6, 2) := by decide +kernel
theorem dX12_readsRows_173 : decode cX12_readsRows 173 = .ok (.ifCond .eq 17, 3) := by decide +kernel
theorem dX12_readsRows_176 : decode cX12_readsRows 176 = .ok (.aload_n 0, 1) := by decide +kernel
theorem dX12_readsRows_177 : decode cX12_readsRows 177 = .ok (.getfield 162, 3) := by decide +kernel
theorem dX12_readsRows_180 : decode cX12_readsRows 180 = .ok (.iconst 1, 1) := by decide +kernel
theorem dX12_readsRows_181 : decode cX12_readsRows 181 = .ok (.iadd, 1) := by decide +kernel
theorem dX12_readsRows_182 : decode cX12_readsRows 182 = .ok (.iload_n 2, 1) := by decide +kernel
theorem dX12_readsRows_183 : decode cX12_readsRows 183 = .ok (.if_icmp .ge 7, 3) := by decide +kernel
theorem dX12_readsRows_186 : decode cX12_readsRows 186 = .ok (.iconst 1, 1) := by decide +kernel
theorem dX12_readsRows_187 : decode cX12_readsRows 187 = .ok (.goto 4, 3) := by decide +kernel
theorem dX12_readsRows_190 : decode cX12_readsRows 190 = .ok (.iconst 0, 1) := by decide +kernel
theorem dX12_readsRows_191 : decode cX12_readsRows 191 = .ok (.istore 7, 2) := by decide +kernel
theorem dX12_readsRows_193 : decode cX12_readsRows 193 = .ok (.aload_n 0, 1) := by decide +kernel
theorem dX12_readsRows_194 : decode cX12_readsRows 194 = .ok (.dup, 1) := by decide +kernel
theorem dX12_readsRows_195 : decode cX12_readsRows 195 = .ok (.getfield 162, 3) := by decide +kernel
theorem dX12_readsRows_198 : decode cX12_readsRows 198 = .ok (.iload 7, 2) := by decide +kernel
theorem dX12_readsRows_200 : decode cX12_readsRows 200 = .ok (.ifCond .eq 7, 3) := by decide +kernel
theorem dX12_readsRows_203 : decode cX12_readsRows 203 = .ok (.iconst 1, 1) := by decide +kernel
theorem dX12_readsRows_204 : decode cX12_readsRows 204 = .ok (.goto 4, 3) := by decide +kernel
theorem dX12_readsRows_207 : decode cX12_readsRows 207 = .ok (.iconst 0, 1) := by decide +kernel
theorem dX12_readsRows_208 : decode cX12_readsRows 208 = .ok (.iadd, 1) := by decide +kernel
theorem dX12_readsRows_209 : decode cX12_readsRows 209 = .ok (.putfield 162, 3) := by decide +kernel
theorem dX12_readsRows_212 : decode cX12_readsRows 212 = .ok (.aload_n 0, 1) := by decide +kernel
theorem dX12_readsRows_213 : decode cX12_readsRows 213 = .ok (.iload 7, 2) := by decide +kernel
theorem dX12_readsRows_215 : decode cX12_readsRows 215 = .ok (.ifCond .eq 7, 3) := by decide +kernel
theorem dX12_readsRows_218 : decode cX12_readsRows 218 = .ok (.iconst 0, 1) := by decide +kernel
theorem dX12_readsRows_219 : decode cX12_readsRows 219 = .ok (.goto 7, 3) := by decide +kernel
theorem dX12_readsRows_222 : decode cX12_readsRows 222 = .ok (.aload_n 0, 1) := by decide +kernel
theorem dX12_readsRows_223 : decode cX12_readsRows 223 = .ok (.getfield 165, 3) := by decide +kernel
theorem dX12_readsRows_226 : decode cX12_readsRows 226 = .ok (.putfield 165, 3) := by decide +kernel
theorem dX12_readsRows_229 : decode cX12_readsRows 229 = .ok (.aload_n 0, 1) := by decide +kernel
theorem dX12_readsRows_230 : decode cX12_readsRows 230 = .ok (.dup, 1) := by decide +kernel
theorem dX12_readsRows_231 : decode cX12_readsRows 231 = .ok (.getfield 159, 3) := by decide +kernel
theorem dX12_readsRows_234 : decode cX12_readsRows 234 = .ok (.iload 7, 2) := by decide +kernel
theorem dX12_readsRows_236 : decode cX12_readsRows 236 = .ok (.ifCond .eq 7, 3) := by decide +kernel
theorem dX12_readsRows_239 : decode cX12_readsRows 239 = .ok (.iconst 1, 1) := by decide +kernel
theorem dX12_readsRows_240 : decode cX12_readsRows 240 = .ok (.goto 4, 3) := by decide +kernel
theorem dX12_readsRows_243 : decode cX12_readsRows 243 = .ok (.iconst 0, 1) := by decide +kernel
theorem dX12_readsRows_244 : decode cX12_readsRows 244 = .ok (.iadd, 1) := by decide +kernel
theorem dX12_readsRows_245 : decode cX12_readsRows 245 = .ok (.putfield 159, 3) := by decide +kernel
theorem dX12_readsRows_248 : decode cX12_readsRows 248 = .ok (.iload 7, 2) := by decide +kernel
theorem dX12_readsRows_250 : decode cX12_readsRows 250 = .ok (.istore_n 3, 1) := by decide +kernel
theorem dX12_readsRows_251 : decode cX12_readsRows 251 = .ok (.aload_n 0, 1) := by decide +kernel
theorem dX12_readsRows_252 : decode cX12_readsRows 252 = .ok (.iload 7, 2) := by decide +kernel
theorem dX12_readsRows_254 : decode cX12_readsRows 254 = .ok (.ifCond .ne 28, 3) := by decide +kernel
theorem dX12_readsRows_257 : decode cX12_readsRows 257 = .ok (.iload 6, 2) := by decide +kernel
theorem dX12_readsRows_259 : decode cX12_readsRows 259 = .ok (.ifCond .eq 19, 3) := by decide +kernel
theorem dX12_readsRows_262 : decode cX12_readsRows 262 = .ok (.iload 4, 2) := by decide +kernel
theorem dX12_readsRows_264 : decode cX12_readsRows 264 = .ok (.bipush 47, 2) := by decide +kernel
theorem dX12_readsRows_266 : decode cX12_readsRows 266 = .ok (.if_icmp .eq 12, 3) := by decide +kernel
theorem dX12_readsRows_269 : decode cX12_readsRows 269 = .ok (.iload 4, 2) := by decide +kernel
theorem dX12_readsRows_271 : decode cX12_readsRows 271 = .ok (.iload_n 1, 1) := by decide +kernel
theorem dX12_readsRows_272 : decode cX12_readsRows 272 = .ok (.invokestatic 185, 3) := by decide +kernel
theorem dX12_readsRows_275 : decode cX12_readsRows 275 = .ok (.ifCond .eq 7, 3) := by decide +kernel
theorem dX12_readsRows_278 : decode cX12_readsRows 278 = .ok (.iconst 1, 1) := by decide +kernel
theorem dX12_readsRows_279 : decode cX12_readsRows 279 = .ok (.goto 4, 3) := by decide +kernel
theorem dX12_readsRows_282 : decode cX12_readsRows 282 = .ok (.iconst 0, 1) := by decide +kernel
theorem dX12_readsRows_283 : decode cX12_readsRows 283 = .ok (.putfield 174, 3) := by decide +kernel
theorem dX12_readsRows_286 : decode cX12_readsRows 286 = .ok (.goto (-253), 3) := by decide +kernel
theorem dX12_readsRows_289 : decode cX12_readsRows 289 = .ok (.aload_n 0, 1) := by decide +kernel
theorem dX12_readsRows_290 : decode cX12_readsRows 290 = .ok (.dup, 1) := by decide +kernel
theorem dX12_readsRows_291 : decode cX12_readsRows 291 = .ok (.getfield 162, 3) := by decide +kernel
theorem dX12_readsRows_294 : decode cX12_readsRows 294 = .ok (.iconst 1, 1) := by decide +kernel
theorem dX12_readsRows_295 : decode cX12_readsRows 295 = .ok (.iadd, 1) := by decide +kernel
theorem dX12_readsRows_296 : decode cX12_readsRows 296 = .ok (.putfield 162, 3) := by decide +kernel
theorem dX12_readsRows_299 : decode cX12_readsRows 299 = .ok (.return_, 1) := by decide +kernel
theorem dX12_isPart_0 : decode cX12_isPart 0 = .ok (.iload_n 1, 1) := by decide +kernel
theorem dX12_isPart_1 : decode cX12_isPart 1 = .ok (.ifCond .eq 34, 3) := by decide +kernel
theorem dX12_isPart_4 : decode cX12_isPart 4 = .ok (.iload_n 0, 1) := by decide +kernel
theorem dX12_isPart_5 : decode cX12_isPart 5 = .ok (.bipush 46, 2) := by decide +kernel
theorem dX12_isPart_7 : decode cX12_isPart 7 = .ok (.if_icmp .eq 20, 3) := by decide +kernel
theorem dX12_isPart_10 : decode cX12_isPart 10 = .ok (.iload_n 0, 1) := by decide +kernel
theorem dX12_isPart_11 : decode cX12_isPart 11 = .ok (.bipush 35, 2) := by decide +kernel
theorem dX12_isPart_13 : decode cX12_isPart 13 = .ok (.if_icmp .eq 14, 3) := by decide +kernel
theorem dX12_isPart_16 : decode cX12_isPart 16 = .ok (.iload_n 0, 1) := by decide +kernel
theorem dX12_isPart_17 : decode cX12_isPart 17 = .ok (.bipush 49, 2) := by decide +kernel
theorem dX12_isPart_19 : decode cX12_isPart 19 = .ok (.bipush 51, 2) := by decide +kernel
theorem dX12_isPart_21 : decode cX12_isPart 21 = .ok (.invokestatic 72, 3) := by decide +kernel
theorem dX12_isPart_24 : decode cX12_isPart 24 = .ok (.ifCond .eq 7, 3) := by decide +kernel
theorem dX12_isPart_27 : decode cX12_isPart 27 = .ok (.iconst 1, 1) := by decide +kernel
theorem dX12_isPart_28 : decode cX12_isPart 28 = .ok (.goto 24, 3) := by decide +kernel
theorem dX12_isPart_31 : decode cX12_isPart 31 = .ok (.iconst 0, 1) := by decide +kernel
theorem dX12_isPart_32 : decode cX12_isPart 32 = .ok (.goto 20, 3) := by decide +kernel
theorem dX12_isPart_35 : decode cX12_isPart 35 = .ok (.iload_n 0, 1) := by decide +kernel
theorem dX12_isPart_36 : decode cX12_isPart 36 = .ok (.bipush 111, 2) := by decide +kernel
theorem dX12_isPart_38 : decode cX12_isPart 38 = .ok (.if_icmp .eq 9, 3) := by decide +kernel
theorem dX12_isPart_41 : decode cX12_isPart 41 = .ok (.iload_n 0, 1) := by decide +kernel
theorem dX12_isPart_42 : decode cX12_isPart 42 = .ok (.bipush 46, 2) := by decide +kernel
theorem dX12_isPart_44 : decode cX12_isPart 44 = .ok (.if_icmp .ne 7, 3) := by decide +kernel
theorem dX12_isPart_47 : decode cX12_isPart 47 = .ok (.iconst 1, 1) := by decide +kernel
theorem dX12_isPart_48 : decode cX12_isPart 48 = .ok (.goto 4, 3) := by decide +kernel
theorem dX12_isPart_51 : decode cX12_isPart 51 = .ok (.iconst 0, 1) := by decide +kernel
theorem dX12_isPart_52 : decode cX12_isPart 52 = .ok (.ireturn, 1) := by decide +kernel
theorem dX12_readsOption_0 : decode cX12_readsOption 0 = .ok (.aload_n 0, 1) := by decide +kernel
theorem dX12_readsOption_1 : decode cX12_readsOption 1 = .ok (.invokevirtual 178, 3) := by decide +kernel
theorem dX12_readsOption_4 : decode cX12_readsOption 4 = .ok (.istore_n 1, 1) := by decide +kernel
theorem dX12_readsOption_5 : decode cX12_readsOption 5 = .ok (.iload_n 1, 1) := by decide +kernel
theorem dX12_readsOption_6 : decode cX12_readsOption 6 = .ok (.bipush 116, 2) := by decide +kernel
theorem dX12_readsOption_8 : decode cX12_readsOption 8 = .ok (.if_icmp .eq 9, 3) := by decide +kernel
theorem dX12_readsOption_11 : decode cX12_readsOption 11 = .ok (.iload_n 1, 1) := by decide +kernel
theorem dX12_readsOption_12 : decode cX12_readsOption 12 = .ok (.bipush 109, 2) := by decide +kernel
theorem dX12_readsOption_14 : decode cX12_readsOption 14 = .ok (.if_icmp .ne 36, 3) := by decide +kernel
theorem dX12_readsOption_17 : decode cX12_readsOption 17 = .ok (.aload_n 0, 1) := by decide +kernel
theorem dX12_readsOption_18 : decode cX12_readsOption 18 = .ok (.getfield 188, 3) := by decide +kernel
theorem dX12_readsOption_21 : decode cX12_readsOption 21 = .ok (.ifCond .ne 29, 3) := by decide +kernel
theorem dX12_readsOption_24 : decode cX12_readsOption 24 = .ok (.aload_n 0, 1) := by decide +kernel
theorem dX12_readsOption_25 : decode cX12_readsOption 25 = .ok (.iload_n 1, 1) := by decide +kernel
theorem dX12_readsOption_26 : decode cX12_readsOption 26 = .ok (.bipush 116, 2) := by decide +kernel
theorem dX12_readsOption_28 : decode cX12_readsOption 28 = .ok (.if_icmp .ne 7, 3) := by decide +kernel
theorem dX12_readsOption_31 : decode cX12_readsOption 31 = .ok (.iconst 1, 1) := by decide +kernel
theorem dX12_readsOption_32 : decode cX12_readsOption 32 = .ok (.goto 4, 3) := by decide +kernel
theorem dX12_readsOption_35 : decode cX12_readsOption 35 = .ok (.iconst 2, 1) := by decide +kernel
theorem dX12_readsOption_36 : decode cX12_readsOption 36 = .ok (.putfield 188, 3) := by decide +kernel
theorem dX12_readsOption_39 : decode cX12_readsOption 39 = .ok (.aload_n 0, 1) := by decide +kernel
theorem dX12_readsOption_40 : decode cX12_readsOption 40 = .ok (.dup, 1) := by decide +kernel
theorem dX12_readsOption_41 : decode cX12_readsOption 41 = .ok (.getfield 159, 3) := by decide +kernel
theorem dX12_readsOption_44 : decode cX12_readsOption 44 = .ok (.iconst 1, 1) := by decide +kernel
theorem dX12_readsOption_45 : decode cX12_readsOption 45 = .ok (.iadd, 1) := by decide +kernel
theorem dX12_readsOption_46 : decode cX12_readsOption 46 = .ok (.putfield 159, 3) := by decide +kernel
theorem dX12_readsOption_49 : decode cX12_readsOption 49 = .ok (.return_, 1) := by decide +kernel
theorem dX12_readsOption_50 : decode cX12_readsOption 50 = .ok (.iload_n 1, 1) := by decide +kernel
theorem dX12_readsOption_51 : decode cX12_readsOption 51 = .ok (.bipush 99, 2) := by decide +kernel
theorem dX12_readsOption_53 : decode cX12_readsOption 53 = .ok (.if_icmp .ne 14, 3) := by decide +kernel
theorem dX12_readsOption_56 : decode cX12_readsOption 56 = .ok (.aload_n 0, 1) := by decide +kernel
theorem dX12_readsOption_57 : decode cX12_readsOption 57 = .ok (.getfield 191, 3) := by decide +kernel
theorem dX12_readsOption_60 : decode cX12_readsOption 60 = .ok (.ifCond .ne 7, 3) := by decide +kernel
theorem dX12_readsOption_63 : decode cX12_readsOption 63 = .ok (.iconst 1, 1) := by decide +kernel
theorem dX12_readsOption_64 : decode cX12_readsOption 64 = .ok (.goto 4, 3) := by decide +kernel
theorem dX12_readsOption_67 : decode cX12_readsOption 67 = .ok (.iconst 0, 1) := by decide +kernel
theorem dX12_readsOption_68 : decode cX12_readsOption 68 = .ok (.istore_n 2, 1) := by decide +kernel
theorem dX12_readsOption_69 : decode cX12_readsOption 69 = .ok (.aload_n 0, 1) := by decide +kernel
theorem dX12_readsOption_70 : decode cX12_readsOption 70 = .ok (.iload_n 2, 1) := by decide +kernel
theorem dX12_readsOption_71 : decode cX12_readsOption 71 = .ok (.ifCond .ne 20, 3) := by decide +kernel
theorem dX12_readsOption_74 : decode cX12_readsOption 74 = .ok (.iload_n 1, 1) := by decide +kernel
theorem dX12_readsOption_75 : decode cX12_readsOption 75 = .ok (.bipush 120, 2) := by decide +kernel
theorem dX12_readsOption_77 : decode cX12_readsOption 77 = .ok (.if_icmp .ne 10, 3) := by decide +kernel
theorem dX12_readsOption_80 : decode cX12_readsOption 80 = .ok (.aload_n 0, 1) := by decide +kernel
theorem dX12_readsOption_81 : decode cX12_readsOption 81 = .ok (.getfield 194, 3) := by decide +kernel
theorem dX12_readsOption_84 : decode cX12_readsOption 84 = .ok (.ifCond .eq 7, 3) := by decide +kernel
theorem dX12_readsOption_87 : decode cX12_readsOption 87 = .ok (.iconst 1, 1) := by decide +kernel
theorem dX12_readsOption_88 : decode cX12_readsOption 88 = .ok (.goto 4, 3) := by decide +kernel
theorem dX12_readsOption_91 : decode cX12_readsOption 91 = .ok (.iconst 0, 1) := by decide +kernel
theorem dX12_readsOption_92 : decode cX12_readsOption 92 = .ok (.putfield 174, 3) := by decide +kernel
theorem dX12_readsOption_95 : decode cX12_readsOption 95 = .ok (.aload_n 0, 1) := by decide +kernel
theorem dX12_readsOption_96 : decode cX12_readsOption 96 = .ok (.getfield 174, 3) := by decide +kernel
theorem dX12_readsOption_99 : decode cX12_readsOption 99 = .ok (.ifCond .ne 45, 3) := by decide +kernel
theorem dX12_readsOption_102 : decode cX12_readsOption 102 = .ok (.aload_n 0, 1) := by decide +kernel
theorem dX12_readsOption_103 : decode cX12_readsOption 103 = .ok (.dup, 1) := by decide +kernel
theorem dX12_readsOption_104 : decode cX12_readsOption 104 = .ok (.getfield 159, 3) := by decide +kernel
theorem dX12_readsOption_107 : decode cX12_readsOption 107 = .ok (.iconst 1, 1) := by decide +kernel
theorem dX12_readsOption_108 : decode cX12_readsOption 108 = .ok (.iadd, 1) := by decide +kernel
theorem dX12_readsOption_109 : decode cX12_readsOption 109 = .ok (.putfield 159, 3) := by decide +kernel
theorem dX12_readsOption_112 : decode cX12_readsOption 112 = .ok (.aload_n 0, 1) := by decide +kernel
theorem dX12_readsOption_113 : decode cX12_readsOption 113 = .ok (.aload_n 0, 1) := by decide +kernel
theorem dX12_readsOption_114 : decode cX12_readsOption 114 = .ok (.invokevirtual 178, 3) := by decide +kernel
theorem dX12_readsOption_117 : decode cX12_readsOption 117 = .ok (.bipush 49, 2) := by decide +kernel
theorem dX12_readsOption_119 : decode cX12_readsOption 119 = .ok (.iload_n 2, 1) := by decide +kernel
theorem dX12_readsOption_120 : decode cX12_readsOption 120 = .ok (.ifCond .eq 8, 3) := by decide +kernel
theorem dX12_readsOption_123 : decode cX12_readsOption 123 = .ok (.bipush 51, 2) := by decide +kernel
theorem dX12_readsOption_125 : decode cX12_readsOption 125 = .ok (.goto 5, 3) := by decide +kernel
theorem dX12_readsOption_128 : decode cX12_readsOption 128 = .ok (.bipush 57, 2) := by decide +kernel
theorem dX12_readsOption_130 : decode cX12_readsOption 130 = .ok (.invokestatic 72, 3) := by decide +kernel
theorem dX12_readsOption_133 : decode cX12_readsOption 133 = .ok (.ifCond .ne 7, 3) := by decide +kernel
theorem dX12_readsOption_136 : decode cX12_readsOption 136 = .ok (.iconst 1, 1) := by decide +kernel
theorem dX12_readsOption_137 : decode cX12_readsOption 137 = .ok (.goto 4, 3) := by decide +kernel
theorem dX12_readsOption_140 : decode cX12_readsOption 140 = .ok (.iconst 0, 1) := by decide +kernel
theorem dX12_readsOption_141 : decode cX12_readsOption 141 = .ok (.putfield 174, 3) := by decide +kernel
theorem dX12_readsOption_144 : decode cX12_readsOption 144 = .ok (.aload_n 0, 1) := by decide +kernel
theorem dX12_readsOption_145 : decode cX12_readsOption 145 = .ok (.getfield 174, 3) := by decide +kernel
theorem dX12_readsOption_148 : decode cX12_readsOption 148 = .ok (.ifCond .ne 57, 3) := by decide +kernel
theorem dX12_readsOption_151 : decode cX12_readsOption 151 = .ok (.aload_n 0, 1) := by decide +kernel
theorem dX12_readsOption_152 : decode cX12_readsOption 152 = .ok (.iload_n 2, 1) := by decide +kernel
theorem dX12_readsOption_153 : decode cX12_readsOption 153 = .ok (.ifCond .eq 13, 3) := by decide +kernel
theorem dX12_readsOption_156 : decode cX12_readsOption 156 = .ok (.aload_n 0, 1) := by decide +kernel
theorem dX12_readsOption_157 : decode cX12_readsOption 157 = .ok (.invokevirtual 178, 3) := by decide +kernel
theorem dX12_readsOption_160 : decode cX12_readsOption 160 = .ok (.bipush 48, 2) := by decide +kernel
theorem dX12_readsOption_162 : decode cX12_readsOption 162 = .ok (.isub, 1) := by decide +kernel
theorem dX12_readsOption_163 : decode cX12_readsOption 163 = .ok (.goto 7, 3) := by decide +kernel
theorem dX12_readsOption_166 : decode cX12_readsOption 166 = .ok (.aload_n 0, 1) := by decide +kernel
theorem dX12_readsOption_167 : decode cX12_readsOption 167 = .ok (.getfield 191, 3) := by decide +kernel
theorem dX12_readsOption_170 : decode cX12_readsOption 170 = .ok (.putfield 191, 3) := by decide +kernel
theorem dX12_readsOption_173 : decode cX12_readsOption 173 = .ok (.aload_n 0, 1) := by decide +kernel
theorem dX12_readsOption_174 : decode cX12_readsOption 174 = .ok (.iload_n 2, 1) := by decide +kernel
theorem dX12_readsOption_175 : decode cX12_readsOption 175 = .ok (.ifCond .eq 10, 3) := by decide +kernel
theorem dX12_readsOption_178 : decode cX12_readsOption 178 = .ok (.aload_n 0, 1) := by decide +kernel
theorem dX12_readsOption_179 : decode cX12_readsOption 179 = .ok (.getfield 194, 3) := by decide +kernel
theorem dX12_readsOption_182 : decode cX12_readsOption 182 = .ok (.goto 10, 3) := by decide +kernel
theorem dX12_readsOption_185 : decode cX12_readsOption 185 = .ok (.aload_n 0, 1) := by decide +kernel
theorem dX12_readsOption_186 : decode cX12_readsOption 186 = .ok (.invokevirtual 178, 3) := by decide +kernel
theorem dX12_readsOption_189 : decode cX12_readsOption 189 = .ok (.bipush 48, 2) := by decide +kernel
theorem dX12_readsOption_191 : decode cX12_readsOption 191 = .ok (.isub, 1) := by decide +kernel
theorem dX12_readsOption_192 : decode cX12_readsOption 192 = .ok (.putfield 194, 3) := by decide +kernel
theorem dX12_readsOption_195 : decode cX12_readsOption 195 = .ok (.aload_n 0, 1) := by decide +kernel
theorem dX12_readsOption_196 : decode cX12_readsOption 196 = .ok (.dup, 1) := by decide +kernel
theorem dX12_readsOption_197 : decode cX12_readsOption 197 = .ok (.getfield 159, 3) := by decide +kernel
theorem dX12_readsOption_200 : decode cX12_readsOption 200 = .ok (.iconst 1, 1) := by decide +kernel
theorem dX12_readsOption_201 : decode cX12_readsOption 201 = .ok (.iadd, 1) := by decide +kernel
theorem dX12_readsOption_202 : decode cX12_readsOption 202 = .ok (.putfield 159, 3) := by decide +kernel
theorem dX12_readsOption_205 : decode cX12_readsOption 205 = .ok (.return_, 1) := by decide +kernel
theorem dX12_readsPiece_0 : decode cX12_readsPiece 0 = .ok (.aload_n 0, 1) := by decide +kernel
theorem dX12_readsPiece_1 : decode cX12_readsPiece 1 = .ok (.aload_n 0, 1) := by decide +kernel
theorem dX12_readsPiece_2 : decode cX12_readsPiece 2 = .ok (.invokevirtual 178, 3) := by decide +kernel
theorem dX12_readsPiece_5 : decode cX12_readsPiece 5 = .ok (.bipush 124, 2) := by decide +kernel
theorem dX12_readsPiece_7 : decode cX12_readsPiece 7 = .ok (.if_icmp .ne 14, 3) := by decide +kernel
theorem dX12_readsPiece_10 : decode cX12_readsPiece 10 = .ok (.aload_n 0, 1) := by decide +kernel
theorem dX12_readsPiece_11 : decode cX12_readsPiece 11 = .ok (.getfield 7, 3) := by decide +kernel
theorem dX12_readsPiece_14 : decode cX12_readsPiece 14 = .ok (.iconst 4, 1) := by decide +kernel
theorem dX12_readsPiece_15 : decode cX12_readsPiece 15 = .ok (.iaload, 1) := by decide +kernel
theorem dX12_readsPiece_16 : decode cX12_readsPiece 16 = .ok (.bipush 8, 2) := by decide +kernel
theorem dX12_readsPiece_18 : decode cX12_readsPiece 18 = .ok (.if_icmp .ne 7, 3) := by decide +kernel
theorem dX12_readsPiece_21 : decode cX12_readsPiece 21 = .ok (.iconst 1, 1) := by decide +kernel
theorem dX12_readsPiece_22 : decode cX12_readsPiece 22 = .ok (.goto 4, 3) := by decide +kernel
theorem dX12_readsPiece_25 : decode cX12_readsPiece 25 = .ok (.iconst 0, 1) := by decide +kernel
theorem dX12_readsPiece_26 : decode cX12_readsPiece 26 = .ok (.putfield 174, 3) := by decide +kernel
theorem dX12_readsPiece_29 : decode cX12_readsPiece 29 = .ok (.aload_n 0, 1) := by decide +kernel
theorem dX12_readsPiece_30 : decode cX12_readsPiece 30 = .ok (.getfield 174, 3) := by decide +kernel
theorem dX12_readsPiece_33 : decode cX12_readsPiece 33 = .ok (.ifCond .eq 4, 3) := by decide +kernel
theorem dX12_readsPiece_36 : decode cX12_readsPiece 36 = .ok (.return_, 1) := by decide +kernel
theorem dX12_readsPiece_37 : decode cX12_readsPiece 37 = .ok (.aload_n 0, 1) := by decide +kernel
theorem dX12_readsPiece_38 : decode cX12_readsPiece 38 = .ok (.dup, 1) := by decide +kernel
theorem dX12_readsPiece_39 : decode cX12_readsPiece 39 = .ok (.getfield 159, 3) := by decide +kernel
theorem dX12_readsPiece_42 : decode cX12_readsPiece 42 = .ok (.iconst 1, 1) := by decide +kernel
theorem dX12_readsPiece_43 : decode cX12_readsPiece 43 = .ok (.iadd, 1) := by decide +kernel
theorem dX12_readsPiece_44 : decode cX12_readsPiece 44 = .ok (.putfield 159, 3) := by decide +kernel
theorem dX12_readsPiece_47 : decode cX12_readsPiece 47 = .ok (.aload_n 0, 1) := by decide +kernel
theorem dX12_readsPiece_48 : decode cX12_readsPiece 48 = .ok (.iconst 0, 1) := by decide +kernel
theorem dX12_readsPiece_49 : decode cX12_readsPiece 49 = .ok (.invokevirtual 197, 3) := by decide +kernel
theorem dX12_readsPiece_52 : decode cX12_readsPiece 52 = .ok (.aload_n 0, 1) := by decide +kernel
theorem dX12_readsPiece_53 : decode cX12_readsPiece 53 = .ok (.aload_n 0, 1) := by decide +kernel
theorem dX12_readsPiece_54 : decode cX12_readsPiece 54 = .ok (.getfield 174, 3) := by decide +kernel
theorem dX12_readsPiece_57 : decode cX12_readsPiece 57 = .ok (.ifCond .ne 13, 3) := by decide +kernel
theorem dX12_readsPiece_60 : decode cX12_readsPiece 60 = .ok (.aload_n 0, 1) := by decide +kernel
theorem dX12_readsPiece_61 : decode cX12_readsPiece 61 = .ok (.getfield 168, 3) := by decide +kernel
theorem dX12_readsPiece_64 : decode cX12_readsPiece 64 = .ok (.invokestatic 132, 3) := by decide +kernel
theorem dX12_readsPiece_67 : decode cX12_readsPiece 67 = .ok (.ifCond .ne 7, 3) := by decide +kernel
theorem dX12_readsPiece_70 : decode cX12_readsPiece 70 = .ok (.iconst 1, 1) := by decide +kernel
theorem dX12_readsPiece_71 : decode cX12_readsPiece 71 = .ok (.goto 4, 3) := by decide +kernel
theorem dX12_readsPiece_74 : decode cX12_readsPiece 74 = .ok (.iconst 0, 1) := by decide +kernel
theorem dX12_readsPiece_75 : decode cX12_readsPiece 75 = .ok (.putfield 174, 3) := by decide +kernel
theorem dX12_readsPiece_78 : decode cX12_readsPiece 78 = .ok (.aload_n 0, 1) := by decide +kernel
theorem dX12_readsPiece_79 : decode cX12_readsPiece 79 = .ok (.iconst 0, 1) := by decide +kernel
theorem dX12_readsPiece_80 : decode cX12_readsPiece 80 = .ok (.putfield 188, 3) := by decide +kernel
theorem dX12_readsPiece_83 : decode cX12_readsPiece 83 = .ok (.aload_n 0, 1) := by decide +kernel
theorem dX12_readsPiece_84 : decode cX12_readsPiece 84 = .ok (.iconst 0, 1) := by decide +kernel
theorem dX12_readsPiece_85 : decode cX12_readsPiece 85 = .ok (.putfield 191, 3) := by decide +kernel
theorem dX12_readsPiece_88 : decode cX12_readsPiece 88 = .ok (.aload_n 0, 1) := by decide +kernel
theorem dX12_readsPiece_89 : decode cX12_readsPiece 89 = .ok (.iconst 0, 1) := by decide +kernel
theorem dX12_readsPiece_90 : decode cX12_readsPiece 90 = .ok (.putfield 194, 3) := by decide +kernel
theorem dX12_readsPiece_93 : decode cX12_readsPiece 93 = .ok (.aload_n 0, 1) := by decide +kernel
theorem dX12_readsPiece_94 : decode cX12_readsPiece 94 = .ok (.getfield 174, 3) := by decide +kernel
theorem dX12_readsPiece_97 : decode cX12_readsPiece 97 = .ok (.ifCond .ne 30, 3) := by decide +kernel
theorem dX12_readsPiece_100 : decode cX12_readsPiece 100 = .ok (.aload_n 0, 1) := by decide +kernel
theorem dX12_readsPiece_101 : decode cX12_readsPiece 101 = .ok (.getfield 159, 3) := by decide +kernel
theorem dX12_readsPiece_104 : decode cX12_readsPiece 104 = .ok (.aload_n 0, 1) := by decide +kernel
theorem dX12_readsPiece_105 : decode cX12_readsPiece 105 = .ok (.getfield 156, 3) := by decide +kernel
theorem dX12_readsPiece_108 : decode cX12_readsPiece 108 = .ok (.if_icmp .ge 19, 3) := by decide +kernel
theorem dX12_readsPiece_111 : decode cX12_readsPiece 111 = .ok (.aload_n 0, 1) := by decide +kernel
theorem dX12_readsPiece_112 : decode cX12_readsPiece 112 = .ok (.invokevirtual 178, 3) := by decide +kernel
theorem dX12_readsPiece_115 : decode cX12_readsPiece 115 = .ok (.bipush 124, 2) := by decide +kernel
theorem dX12_readsPiece_117 : decode cX12_readsPiece 117 = .ok (.if_icmp .eq 10, 3) := by decide +kernel
theorem dX12_readsPiece_120 : decode cX12_readsPiece 120 = .ok (.aload_n 0, 1) := by decide +kernel
theorem dX12_readsPiece_121 : decode cX12_readsPiece 121 = .ok (.invokevirtual 201, 3) := by decide +kernel
theorem dX12_readsPiece_124 : decode cX12_readsPiece 124 = .ok (.goto (-31), 3) := by decide +kernel
theorem dX12_readsPiece_127 : decode cX12_readsPiece 127 = .ok (.aload_n 0, 1) := by decide +kernel
theorem dX12_readsPiece_128 : decode cX12_readsPiece 128 = .ok (.getfield 174, 3) := by decide +kernel
theorem dX12_readsPiece_131 : decode cX12_readsPiece 131 = .ok (.ifCond .ne 34, 3) := by decide +kernel
theorem dX12_readsPiece_134 : decode cX12_readsPiece 134 = .ok (.aload_n 0, 1) := by decide +kernel
theorem dX12_readsPiece_135 : decode cX12_readsPiece 135 = .ok (.aload_n 0, 1) := by decide +kernel
theorem dX12_readsPiece_136 : decode cX12_readsPiece 136 = .ok (.getfield 168, 3) := by decide +kernel
theorem dX12_readsPiece_139 : decode cX12_readsPiece 139 = .ok (.aload_n 0, 1) := by decide +kernel
theorem dX12_readsPiece_140 : decode cX12_readsPiece 140 = .ok (.getfield 188, 3) := by decide +kernel
theorem dX12_readsPiece_143 : decode cX12_readsPiece 143 = .ok (.aload_n 0, 1) := by decide +kernel
theorem dX12_readsPiece_144 : decode cX12_readsPiece 144 = .ok (.getfield 191, 3) := by decide +kernel
theorem dX12_readsPiece_147 : decode cX12_readsPiece 147 = .ok (.aload_n 0, 1) := by decide +kernel
theorem dX12_readsPiece_148 : decode cX12_readsPiece 148 = .ok (.getfield 194, 3) := by decide +kernel
theorem dX12_readsPiece_151 : decode cX12_readsPiece 151 = .ok (.ifCond .ne 7, 3) := by decide +kernel
theorem dX12_readsPiece_154 : decode cX12_readsPiece 154 = .ok (.iconst 1, 1) := by decide +kernel
theorem dX12_readsPiece_155 : decode cX12_readsPiece 155 = .ok (.goto 7, 3) := by decide +kernel
theorem dX12_readsPiece_158 : decode cX12_readsPiece 158 = .ok (.aload_n 0, 1) := by decide +kernel
theorem dX12_readsPiece_159 : decode cX12_readsPiece 159 = .ok (.getfield 194, 3) := by decide +kernel
theorem dX12_readsPiece_162 : decode cX12_readsPiece 162 = .ok (.invokevirtual 135, 3) := by decide +kernel
theorem dX12_readsPiece_165 : decode cX12_readsPiece 165 = .ok (.return_, 1) := by decide +kernel
theorem dX12_exchanges_0 : decode cX12_exchanges 0 = .ok (.iconst 0, 1) := by decide +kernel
theorem dX12_exchanges_1 : decode cX12_exchanges 1 = .ok (.istore_n 1, 1) := by decide +kernel
theorem dX12_exchanges_2 : decode cX12_exchanges 2 = .ok (.iload_n 1, 1) := by decide +kernel
theorem dX12_exchanges_3 : decode cX12_exchanges 3 = .ok (.bipush 73, 2) := by decide +kernel
theorem dX12_exchanges_5 : decode cX12_exchanges 5 = .ok (.if_icmp .ge 35, 3) := by decide +kernel
theorem dX12_exchanges_8 : decode cX12_exchanges 8 = .ok (.aload_n 0, 1) := by decide +kernel
theorem dX12_exchanges_9 : decode cX12_exchanges 9 = .ok (.getfield 7, 3) := by decide +kernel
theorem dX12_exchanges_12 : decode cX12_exchanges 12 = .ok (.iload_n 1, 1) := by decide +kernel
theorem dX12_exchanges_13 : decode cX12_exchanges 13 = .ok (.iaload, 1) := by decide +kernel
theorem dX12_exchanges_14 : decode cX12_exchanges 14 = .ok (.istore_n 2, 1) := by decide +kernel
theorem dX12_exchanges_15 : decode cX12_exchanges 15 = .ok (.aload_n 0, 1) := by decide +kernel
theorem dX12_exchanges_16 : decode cX12_exchanges 16 = .ok (.getfield 7, 3) := by decide +kernel
theorem dX12_exchanges_19 : decode cX12_exchanges 19 = .ok (.iload_n 1, 1) := by decide +kernel
theorem dX12_exchanges_20 : decode cX12_exchanges 20 = .ok (.aload_n 0, 1) := by decide +kernel
theorem dX12_exchanges_21 : decode cX12_exchanges 21 = .ok (.getfield 39, 3) := by decide +kernel
theorem dX12_exchanges_24 : decode cX12_exchanges 24 = .ok (.iload_n 1, 1) := by decide +kernel
theorem dX12_exchanges_25 : decode cX12_exchanges 25 = .ok (.iaload, 1) := by decide +kernel
theorem dX12_exchanges_26 : decode cX12_exchanges 26 = .ok (.iastore, 1) := by decide +kernel
theorem dX12_exchanges_27 : decode cX12_exchanges 27 = .ok (.aload_n 0, 1) := by decide +kernel
theorem dX12_exchanges_28 : decode cX12_exchanges 28 = .ok (.getfield 39, 3) := by decide +kernel
theorem dX12_exchanges_31 : decode cX12_exchanges 31 = .ok (.iload_n 1, 1) := by decide +kernel
theorem dX12_exchanges_32 : decode cX12_exchanges 32 = .ok (.iload_n 2, 1) := by decide +kernel
theorem dX12_exchanges_33 : decode cX12_exchanges 33 = .ok (.iastore, 1) := by decide +kernel
theorem dX12_exchanges_34 : decode cX12_exchanges 34 = .ok (.iinc 1 1, 3) := by decide +kernel
theorem dX12_exchanges_37 : decode cX12_exchanges 37 = .ok (.goto (-35), 3) := by decide +kernel
theorem dX12_exchanges_40 : decode cX12_exchanges 40 = .ok (.return_, 1) := by decide +kernel
theorem dX12_load_0 : decode cX12_load 0 = .ok (.iconst 0, 1) := by decide +kernel
theorem dX12_load_1 : decode cX12_load 1 = .ok (.istore_n 1, 1) := by decide +kernel
theorem dX12_load_2 : decode cX12_load 2 = .ok (.iload_n 1, 1) := by decide +kernel
theorem dX12_load_3 : decode cX12_load 3 = .ok (.bipush 73, 2) := by decide +kernel
theorem dX12_load_5 : decode cX12_load 5 = .ok (.if_icmp .ge 21, 3) := by decide +kernel
theorem dX12_load_8 : decode cX12_load 8 = .ok (.aload_n 0, 1) := by decide +kernel
theorem dX12_load_9 : decode cX12_load 9 = .ok (.getfield 39, 3) := by decide +kernel
theorem dX12_load_12 : decode cX12_load 12 = .ok (.iload_n 1, 1) := by decide +kernel
theorem dX12_load_13 : decode cX12_load 13 = .ok (.aload_n 0, 1) := by decide +kernel
theorem dX12_load_14 : decode cX12_load 14 = .ok (.getfield 7, 3) := by decide +kernel
theorem dX12_load_17 : decode cX12_load 17 = .ok (.iload_n 1, 1) := by decide +kernel
theorem dX12_load_18 : decode cX12_load 18 = .ok (.iaload, 1) := by decide +kernel
theorem dX12_load_19 : decode cX12_load 19 = .ok (.iastore, 1) := by decide +kernel
theorem dX12_load_20 : decode cX12_load 20 = .ok (.iinc 1 1, 3) := by decide +kernel
theorem dX12_load_23 : decode cX12_load 23 = .ok (.goto (-21), 3) := by decide +kernel
theorem dX12_load_26 : decode cX12_load 26 = .ok (.aload_n 0, 1) := by decide +kernel
theorem dX12_load_27 : decode cX12_load 27 = .ok (.iconst 0, 1) := by decide +kernel
theorem dX12_load_28 : decode cX12_load 28 = .ok (.putfield 159, 3) := by decide +kernel
theorem dX12_load_31 : decode cX12_load 31 = .ok (.aload_n 0, 1) := by decide +kernel
theorem dX12_load_32 : decode cX12_load 32 = .ok (.iconst 0, 1) := by decide +kernel
theorem dX12_load_33 : decode cX12_load 33 = .ok (.putfield 174, 3) := by decide +kernel
theorem dX12_load_36 : decode cX12_load 36 = .ok (.aload_n 0, 1) := by decide +kernel
theorem dX12_load_37 : decode cX12_load 37 = .ok (.iconst 1, 1) := by decide +kernel
theorem dX12_load_38 : decode cX12_load 38 = .ok (.invokevirtual 197, 3) := by decide +kernel
theorem dX12_load_41 : decode cX12_load 41 = .ok (.aload_n 0, 1) := by decide +kernel
theorem dX12_load_42 : decode cX12_load 42 = .ok (.getfield 7, 3) := by decide +kernel
theorem dX12_load_45 : decode cX12_load 45 = .ok (.iconst 4, 1) := by decide +kernel
theorem dX12_load_46 : decode cX12_load 46 = .ok (.iconst 0, 1) := by decide +kernel
theorem dX12_load_47 : decode cX12_load 47 = .ok (.iastore, 1) := by decide +kernel
theorem dX12_load_48 : decode cX12_load 48 = .ok (.aload_n 0, 1) := by decide +kernel
theorem dX12_load_49 : decode cX12_load 49 = .ok (.getfield 7, 3) := by decide +kernel
theorem dX12_load_52 : decode cX12_load 52 = .ok (.iconst 0, 1) := by decide +kernel
theorem dX12_load_53 : decode cX12_load 53 = .ok (.aload_n 0, 1) := by decide +kernel
theorem dX12_load_54 : decode cX12_load 54 = .ok (.getfield 171, 3) := by decide +kernel
theorem dX12_load_57 : decode cX12_load 57 = .ok (.iastore, 1) := by decide +kernel
theorem dX12_load_58 : decode cX12_load 58 = .ok (.aload_n 0, 1) := by decide +kernel
theorem dX12_load_59 : decode cX12_load 59 = .ok (.getfield 7, 3) := by decide +kernel
theorem dX12_load_62 : decode cX12_load 62 = .ok (.iconst 1, 1) := by decide +kernel
theorem dX12_load_63 : decode cX12_load 63 = .ok (.aload_n 0, 1) := by decide +kernel
theorem dX12_load_64 : decode cX12_load 64 = .ok (.getfield 162, 3) := by decide +kernel
theorem dX12_load_67 : decode cX12_load 67 = .ok (.iastore, 1) := by decide +kernel
theorem dX12_load_68 : decode cX12_load 68 = .ok (.iconst 0, 1) := by decide +kernel
theorem dX12_load_69 : decode cX12_load 69 = .ok (.istore_n 1, 1) := by decide +kernel
theorem dX12_load_70 : decode cX12_load 70 = .ok (.iload_n 1, 1) := by decide +kernel
theorem dX12_load_71 : decode cX12_load 71 = .ok (.bipush 36, 2) := by decide +kernel
theorem dX12_load_73 : decode cX12_load 73 = .ok (.if_icmp .ge 83, 3) := by decide +kernel
theorem dX12_load_76 : decode cX12_load 76 = .ok (.aload_n 0, 1) := by decide +kernel
theorem dX12_load_77 : decode cX12_load 77 = .ok (.getfield 171, 3) := by decide +kernel
theorem dX12_load_80 : decode cX12_load 80 = .ok (.ifCond .le 31, 3) := by decide +kernel
theorem dX12_load_83 : decode cX12_load 83 = .ok (.iload_n 1, 1) := by decide +kernel
theorem dX12_load_84 : decode cX12_load 84 = .ok (.aload_n 0, 1) := by decide +kernel
theorem dX12_load_85 : decode cX12_load 85 = .ok (.getfield 171, 3) := by decide +kernel
theorem dX12_load_88 : decode cX12_load 88 = .ok (.ifCond .le 10, 3) := by decide +kernel
theorem dX12_load_91 : decode cX12_load 91 = .ok (.aload_n 0, 1) := by decide +kernel
theorem dX12_load_92 : decode cX12_load 92 = .ok (.getfield 171, 3) := by decide +kernel
theorem dX12_load_95 : decode cX12_load 95 = .ok (.goto 4, 3) := by decide +kernel
theorem dX12_load_98 : decode cX12_load 98 = .ok (.iconst 1, 1) := by decide +kernel
theorem dX12_load_99 : decode cX12_load 99 = .ok (.idiv, 1) := by decide +kernel
theorem dX12_load_100 : decode cX12_load 100 = .ok (.aload_n 0, 1) := by decide +kernel
theorem dX12_load_101 : decode cX12_load 101 = .ok (.getfield 162, 3) := by decide +kernel
theorem dX12_load_104 : decode cX12_load 104 = .ok (.if_icmp .ge 7, 3) := by decide +kernel
theorem dX12_load_107 : decode cX12_load 107 = .ok (.iconst 1, 1) := by decide +kernel
theorem dX12_load_108 : decode cX12_load 108 = .ok (.goto 4, 3) := by decide +kernel
theorem dX12_load_111 : decode cX12_load 111 = .ok (.iconst 0, 1) := by decide +kernel
theorem dX12_load_112 : decode cX12_load 112 = .ok (.istore_n 2, 1) := by decide +kernel
theorem dX12_load_113 : decode cX12_load 113 = .ok (.aload_n 0, 1) := by decide +kernel
theorem dX12_load_114 : decode cX12_load 114 = .ok (.getfield 7, 3) := by decide +kernel
theorem dX12_load_117 : decode cX12_load 117 = .ok (.iconst 5, 1) := by decide +kernel
theorem dX12_load_118 : decode cX12_load 118 = .ok (.iload_n 1, 1) := by decide +kernel
theorem dX12_load_119 : decode cX12_load 119 = .ok (.iadd, 1) := by decide +kernel
theorem dX12_load_120 : decode cX12_load 120 = .ok (.iload_n 2, 1) := by decide +kernel
theorem dX12_load_121 : decode cX12_load 121 = .ok (.ifCond .eq 27, 3) := by decide +kernel
theorem dX12_load_124 : decode cX12_load 124 = .ok (.aload_n 0, 1) := by decide +kernel
theorem dX12_load_125 : decode cX12_load 125 = .ok (.getfield 42, 3) := by decide +kernel
theorem dX12_load_128 : decode cX12_load 128 = .ok (.bipush 6, 2) := by decide +kernel
theorem dX12_load_130 : decode cX12_load 130 = .ok (.iload_n 1, 1) := by decide +kernel
theorem dX12_load_131 : decode cX12_load 131 = .ok (.aload_n 0, 1) := by decide +kernel
theorem dX12_load_132 : decode cX12_load 132 = .ok (.getfield 171, 3) := by decide +kernel
theorem dX12_load_135 : decode cX12_load 135 = .ok (.idiv, 1) := by decide +kernel
theorem dX12_load_136 : decode cX12_load 136 = .ok (.imul, 1) := by decide +kernel
theorem dX12_load_137 : decode cX12_load 137 = .ok (.iload_n 1, 1) := by decide +kernel
theorem dX12_load_138 : decode cX12_load 138 = .ok (.aload_n 0, 1) := by decide +kernel
theorem dX12_load_139 : decode cX12_load 139 = .ok (.getfield 171, 3) := by decide +kernel
theorem dX12_load_142 : decode cX12_load 142 = .ok (.irem, 1) := by decide +kernel
theorem dX12_load_143 : decode cX12_load 143 = .ok (.iadd, 1) := by decide +kernel
theorem dX12_load_144 : decode cX12_load 144 = .ok (.iaload, 1) := by decide +kernel
theorem dX12_load_145 : decode cX12_load 145 = .ok (.goto 4, 3) := by decide +kernel
theorem dX12_load_148 : decode cX12_load 148 = .ok (.iconst 0, 1) := by decide +kernel
theorem dX12_load_149 : decode cX12_load 149 = .ok (.iastore, 1) := by decide +kernel
theorem dX12_load_150 : decode cX12_load 150 = .ok (.iinc 1 1, 3) := by decide +kernel
theorem dX12_load_153 : decode cX12_load 153 = .ok (.goto (-83), 3) := by decide +kernel
theorem dX12_load_156 : decode cX12_load 156 = .ok (.aload_n 0, 1) := by decide +kernel
theorem dX12_load_157 : decode cX12_load 157 = .ok (.getfield 174, 3) := by decide +kernel
theorem dX12_load_160 : decode cX12_load 160 = .ok (.ifCond .ne 21, 3) := by decide +kernel
theorem dX12_load_163 : decode cX12_load 163 = .ok (.aload_n 0, 1) := by decide +kernel
theorem dX12_load_164 : decode cX12_load 164 = .ok (.getfield 159, 3) := by decide +kernel
theorem dX12_load_167 : decode cX12_load 167 = .ok (.aload_n 0, 1) := by decide +kernel
theorem dX12_load_168 : decode cX12_load 168 = .ok (.getfield 156, 3) := by decide +kernel
theorem dX12_load_171 : decode cX12_load 171 = .ok (.if_icmp .ge 10, 3) := by decide +kernel
theorem dX12_load_174 : decode cX12_load 174 = .ok (.aload_n 0, 1) := by decide +kernel
theorem dX12_load_175 : decode cX12_load 175 = .ok (.invokevirtual 204, 3) := by decide +kernel
theorem dX12_load_178 : decode cX12_load 178 = .ok (.goto (-22), 3) := by decide +kernel
theorem dX12_load_181 : decode cX12_load 181 = .ok (.aload_n 0, 1) := by decide +kernel
theorem dX12_load_182 : decode cX12_load 182 = .ok (.invokevirtual 207, 3) := by decide +kernel
theorem dX12_load_185 : decode cX12_load 185 = .ok (.aload_n 0, 1) := by decide +kernel
theorem dX12_load_186 : decode cX12_load 186 = .ok (.getfield 174, 3) := by decide +kernel
theorem dX12_load_189 : decode cX12_load 189 = .ok (.ifCond .eq 11, 3) := by decide +kernel
theorem dX12_load_192 : decode cX12_load 192 = .ok (.bipush (-10), 2) := by decide +kernel
theorem dX12_load_194 : decode cX12_load 194 = .ok (.aload_n 0, 1) := by decide +kernel
theorem dX12_load_195 : decode cX12_load 195 = .ok (.getfield 159, 3) := by decide +kernel
theorem dX12_load_198 : decode cX12_load 198 = .ok (.isub, 1) := by decide +kernel
theorem dX12_load_199 : decode cX12_load 199 = .ok (.ireturn, 1) := by decide +kernel
theorem dX12_load_200 : decode cX12_load 200 = .ok (.aload_n 0, 1) := by decide +kernel
theorem dX12_load_201 : decode cX12_load 201 = .ok (.invokevirtual 123, 3) := by decide +kernel
theorem dX12_load_204 : decode cX12_load 204 = .ok (.aload_n 0, 1) := by decide +kernel
theorem dX12_load_205 : decode cX12_load 205 = .ok (.invokevirtual 207, 3) := by decide +kernel
theorem dX12_load_208 : decode cX12_load 208 = .ok (.aload_n 0, 1) := by decide +kernel
theorem dX12_load_209 : decode cX12_load 209 = .ok (.iconst 0, 1) := by decide +kernel
theorem dX12_load_210 : decode cX12_load 210 = .ok (.putfield 156, 3) := by decide +kernel
theorem dX12_load_213 : decode cX12_load 213 = .ok (.aload_n 0, 1) := by decide +kernel
theorem dX12_load_214 : decode cX12_load 214 = .ok (.getfield 7, 3) := by decide +kernel
theorem dX12_load_217 : decode cX12_load 217 = .ok (.iconst 4, 1) := by decide +kernel
theorem dX12_load_218 : decode cX12_load 218 = .ok (.iaload, 1) := by decide +kernel
theorem dX12_load_219 : decode cX12_load 219 = .ok (.ireturn, 1) := by decide +kernel
theorem dX12_all_0 : decode cX12_all 0 = .ok (.lconst 0, 1) := by decide +kernel
theorem dX12_all_1 : decode cX12_all 1 = .ok (.lstore_n 1, 1) := by decide +kernel
theorem dX12_all_2 : decode cX12_all 2 = .ok (.iconst 0, 1) := by decide +kernel
theorem dX12_all_3 : decode cX12_all 3 = .ok (.istore_n 3, 1) := by decide +kernel
theorem dX12_all_4 : decode cX12_all 4 = .ok (.iload_n 3, 1) := by decide +kernel
theorem dX12_all_5 : decode cX12_all 5 = .ok (.aload_n 0, 1) := by decide +kernel
theorem dX12_all_6 : decode cX12_all 6 = .ok (.invokevirtual 68, 3) := by decide +kernel
theorem dX12_all_9 : decode cX12_all 9 = .ok (.if_icmp .ge 27, 3) := by decide +kernel
theorem dX12_all_12 : decode cX12_all 12 = .ok (.lload_n 1, 1) := by decide +kernel
theorem dX12_all_13 : decode cX12_all 13 = .ok (.aload_n 0, 1) := by decide +kernel
theorem dX12_all_14 : decode cX12_all 14 = .ok (.iload_n 3, 1) := by decide +kernel
theorem dX12_all_15 : decode cX12_all 15 = .ok (.invokevirtual 76, 3) := by decide +kernel
theorem dX12_all_18 : decode cX12_all 18 = .ok (.ifCond .eq 9, 3) := by decide +kernel
theorem dX12_all_21 : decode cX12_all 21 = .ok (.lconst 1, 1) := by decide +kernel
theorem dX12_all_22 : decode cX12_all 22 = .ok (.iload_n 3, 1) := by decide +kernel
theorem dX12_all_23 : decode cX12_all 23 = .ok (.lshl, 1) := by decide +kernel
theorem dX12_all_24 : decode cX12_all 24 = .ok (.goto 4, 3) := by decide +kernel
theorem dX12_all_27 : decode cX12_all 27 = .ok (.lconst 0, 1) := by decide +kernel
theorem dX12_all_28 : decode cX12_all 28 = .ok (.lor, 1) := by decide +kernel
theorem dX12_all_29 : decode cX12_all 29 = .ok (.lstore_n 1, 1) := by decide +kernel
theorem dX12_all_30 : decode cX12_all 30 = .ok (.iinc 3 1, 3) := by decide +kernel
theorem dX12_all_33 : decode cX12_all 33 = .ok (.goto (-29), 3) := by decide +kernel
theorem dX12_all_36 : decode cX12_all 36 = .ok (.lload_n 1, 1) := by decide +kernel
theorem dX12_all_37 : decode cX12_all 37 = .ok (.lreturn, 1) := by decide +kernel
theorem dX12_beside_0 : decode cX12_beside 0 = .ok (.lconst 0, 1) := by decide +kernel
theorem dX12_beside_1 : decode cX12_beside 1 = .ok (.lstore_n 3, 1) := by decide +kernel
theorem dX12_beside_2 : decode cX12_beside 2 = .ok (.iconst 0, 1) := by decide +kernel
theorem dX12_beside_3 : decode cX12_beside 3 = .ok (.istore 5, 2) := by decide +kernel
theorem dX12_beside_5 : decode cX12_beside 5 = .ok (.iload 5, 2) := by decide +kernel
theorem dX12_beside_7 : decode cX12_beside 7 = .ok (.aload_n 0, 1) := by decide +kernel
theorem dX12_beside_8 : decode cX12_beside 8 = .ok (.invokevirtual 68, 3) := by decide +kernel
theorem dX12_beside_11 : decode cX12_beside 11 = .ok (.if_icmp .ge 138, 3) := by decide +kernel
theorem dX12_beside_14 : decode cX12_beside 14 = .ok (.lload_n 1, 1) := by decide +kernel
theorem dX12_beside_15 : decode cX12_beside 15 = .ok (.iload 5, 2) := by decide +kernel
theorem dX12_beside_17 : decode cX12_beside 17 = .ok (.lshr, 1) := by decide +kernel
theorem dX12_beside_18 : decode cX12_beside 18 = .ok (.lconst 1, 1) := by decide +kernel
theorem dX12_beside_19 : decode cX12_beside 19 = .ok (.land, 1) := by decide +kernel
theorem dX12_beside_20 : decode cX12_beside 20 = .ok (.lconst 1, 1) := by decide +kernel
theorem dX12_beside_21 : decode cX12_beside 21 = .ok (.lcmp, 1) := by decide +kernel
theorem dX12_beside_22 : decode cX12_beside 22 = .ok (.ifCond .ne 121, 3) := by decide +kernel
theorem dX12_beside_25 : decode cX12_beside 25 = .ok (.iload 5, 2) := by decide +kernel
theorem dX12_beside_27 : decode cX12_beside 27 = .ok (.aload_n 0, 1) := by decide +kernel
theorem dX12_beside_28 : decode cX12_beside 28 = .ok (.getfield 7, 3) := by decide +kernel
theorem dX12_beside_31 : decode cX12_beside 31 = .ok (.iconst 0, 1) := by decide +kernel
theorem dX12_beside_32 : decode cX12_beside 32 = .ok (.iaload, 1) := by decide +kernel
theorem dX12_beside_33 : decode cX12_beside 33 = .ok (.irem, 1) := by decide +kernel
theorem dX12_beside_34 : decode cX12_beside 34 = .ok (.istore 6, 2) := by decide +kernel
theorem dX12_beside_36 : decode cX12_beside 36 = .ok (.lload_n 3, 1) := by decide +kernel
theorem dX12_beside_37 : decode cX12_beside 37 = .ok (.iload 6, 2) := by decide +kernel
theorem dX12_beside_39 : decode cX12_beside 39 = .ok (.ifCond .le 12, 3) := by decide +kernel
theorem dX12_beside_42 : decode cX12_beside 42 = .ok (.lconst 1, 1) := by decide +kernel
theorem dX12_beside_43 : decode cX12_beside 43 = .ok (.iload 5, 2) := by decide +kernel
theorem dX12_beside_45 : decode cX12_beside 45 = .ok (.iconst 1, 1) := by decide +kernel
theorem dX12_beside_46 : decode cX12_beside 46 = .ok (.isub, 1) := by decide +kernel
theorem dX12_beside_47 : decode cX12_beside 47 = .ok (.lshl, 1) := by decide +kernel
theorem dX12_beside_48 : decode cX12_beside 48 = .ok (.goto 4, 3) := by decide +kernel
theorem dX12_beside_51 : decode cX12_beside 51 = .ok (.lconst 0, 1) := by decide +kernel
theorem dX12_beside_52 : decode cX12_beside 52 = .ok (.lor, 1) := by decide +kernel
theorem dX12_beside_53 : decode cX12_beside 53 = .ok (.lstore_n 3, 1) := by decide +kernel
theorem dX12_beside_54 : decode cX12_beside 54 = .ok (.lload_n 3, 1) := by decide +kernel
theorem dX12_beside_55 : decode cX12_beside 55 = .ok (.iload 6, 2) := by decide +kernel
theorem dX12_beside_57 : decode cX12_beside 57 = .ok (.iconst 1, 1) := by decide +kernel
theorem dX12_beside_58 : decode cX12_beside 58 = .ok (.iadd, 1) := by decide +kernel
theorem dX12_beside_59 : decode cX12_beside 59 = .ok (.aload_n 0, 1) := by decide +kernel
theorem dX12_beside_60 : decode cX12_beside 60 = .ok (.getfield 7, 3) := by decide +kernel
theorem dX12_beside_63 : decode cX12_beside 63 = .ok (.iconst 0, 1) := by decide +kernel
theorem dX12_beside_64 : decode cX12_beside 64 = .ok (.iaload, 1) := by decide +kernel
theorem dX12_beside_65 : decode cX12_beside 65 = .ok (.if_icmp .ge 12, 3) := by decide +kernel
theorem dX12_beside_68 : decode cX12_beside 68 = .ok (.lconst 1, 1) := by decide +kernel
theorem dX12_beside_69 : decode cX12_beside 69 = .ok (.iload 5, 2) := by decide +kernel
theorem dX12_beside_71 : decode cX12_beside 71 = .ok (.iconst 1, 1) := by decide +kernel
theorem dX12_beside_72 : decode cX12_beside 72 = .ok (.iadd, 1) := by decide +kernel
theorem dX12_beside_73 : decode cX12_beside 73 = .ok (.lshl, 1) := by decide +kernel
theorem dX12_beside_74 : decode cX12_beside 74 = .ok (.goto 4, 3) := by decide +kernel
theorem dX12_beside_77 : decode cX12_beside 77 = .ok (.lconst 0, 1) := by decide +kernel
theorem dX12_beside_78 : decode cX12_beside 78 = .ok (.lor, 1) := by decide +kernel
theorem dX12_beside_79 : decode cX12_beside 79 = .ok (.lstore_n 3, 1) := by decide +kernel
theorem dX12_beside_80 : decode cX12_beside 80 = .ok (.lload_n 3, 1) := by decide +kernel
theorem dX12_beside_81 : decode cX12_beside 81 = .ok (.iload 5, 2) := by decide +kernel
theorem dX12_beside_83 : decode cX12_beside 83 = .ok (.aload_n 0, 1) := by decide +kernel
theorem dX12_beside_84 : decode cX12_beside 84 = .ok (.getfield 7, 3) := by decide +kernel
theorem dX12_beside_87 : decode cX12_beside 87 = .ok (.iconst 0, 1) := by decide +kernel
theorem dX12_beside_88 : decode cX12_beside 88 = .ok (.iaload, 1) := by decide +kernel
theorem dX12_beside_89 : decode cX12_beside 89 = .ok (.if_icmp .lt 17, 3) := by decide +kernel
theorem dX12_beside_92 : decode cX12_beside 92 = .ok (.lconst 1, 1) := by decide +kernel
theorem dX12_beside_93 : decode cX12_beside 93 = .ok (.iload 5, 2) := by decide +kernel
theorem dX12_beside_95 : decode cX12_beside 95 = .ok (.aload_n 0, 1) := by decide +kernel
theorem dX12_beside_96 : decode cX12_beside 96 = .ok (.getfield 7, 3) := by decide +kernel
theorem dX12_beside_99 : decode cX12_beside 99 = .ok (.iconst 0, 1) := by decide +kernel
theorem dX12_beside_100 : decode cX12_beside 100 = .ok (.iaload, 1) := by decide +kernel
theorem dX12_beside_101 : decode cX12_beside 101 = .ok (.isub, 1) := by decide +kernel
theorem dX12_beside_102 : decode cX12_beside 102 = .ok (.lshl, 1) := by decide +kernel
theorem dX12_beside_103 : decode cX12_beside 103 = .ok (.goto 4, 3) := by decide +kernel
theorem dX12_beside_106 : decode cX12_beside 106 = .ok (.lconst 0, 1) := by decide +kernel
theorem dX12_beside_107 : decode cX12_beside 107 = .ok (.lor, 1) := by decide +kernel
theorem dX12_beside_108 : decode cX12_beside 108 = .ok (.lstore_n 3, 1) := by decide +kernel
theorem dX12_beside_109 : decode cX12_beside 109 = .ok (.lload_n 3, 1) := by decide +kernel
theorem dX12_beside_110 : decode cX12_beside 110 = .ok (.iload 5, 2) := by decide +kernel
theorem dX12_beside_112 : decode cX12_beside 112 = .ok (.aload_n 0, 1) := by decide +kernel
theorem dX12_beside_113 : decode cX12_beside 113 = .ok (.getfield 7, 3) := by decide +kernel
theorem dX12_beside_116 : decode cX12_beside 116 = .ok (.iconst 0, 1) := by decide +kernel
theorem dX12_beside_117 : decode cX12_beside 117 = .ok (.iaload, 1) := by decide +kernel
theorem dX12_beside_118 : decode cX12_beside 118 = .ok (.iadd, 1) := by decide +kernel
theorem dX12_beside_119 : decode cX12_beside 119 = .ok (.aload_n 0, 1) := by decide +kernel
theorem dX12_beside_120 : decode cX12_beside 120 = .ok (.invokevirtual 68, 3) := by decide +kernel
theorem dX12_beside_123 : decode cX12_beside 123 = .ok (.if_icmp .ge 17, 3) := by decide +kernel
theorem dX12_beside_126 : decode cX12_beside 126 = .ok (.lconst 1, 1) := by decide +kernel
theorem dX12_beside_127 : decode cX12_beside 127 = .ok (.iload 5, 2) := by decide +kernel
theorem dX12_beside_129 : decode cX12_beside 129 = .ok (.aload_n 0, 1) := by decide +kernel
theorem dX12_beside_130 : decode cX12_beside 130 = .ok (.getfield 7, 3) := by decide +kernel
theorem dX12_beside_133 : decode cX12_beside 133 = .ok (.iconst 0, 1) := by decide +kernel
theorem dX12_beside_134 : decode cX12_beside 134 = .ok (.iaload, 1) := by decide +kernel
theorem dX12_beside_135 : decode cX12_beside 135 = .ok (.iadd, 1) := by decide +kernel
theorem dX12_beside_136 : decode cX12_beside 136 = .ok (.lshl, 1) := by decide +kernel
theorem dX12_beside_137 : decode cX12_beside 137 = .ok (.goto 4, 3) := by decide +kernel
theorem dX12_beside_140 : decode cX12_beside 140 = .ok (.lconst 0, 1) := by decide +kernel
theorem dX12_beside_141 : decode cX12_beside 141 = .ok (.lor, 1) := by decide +kernel
theorem dX12_beside_142 : decode cX12_beside 142 = .ok (.lstore_n 3, 1) := by decide +kernel
theorem dX12_beside_143 : decode cX12_beside 143 = .ok (.iinc 5 1, 3) := by decide +kernel
theorem dX12_beside_146 : decode cX12_beside 146 = .ok (.goto (-141), 3) := by decide +kernel
theorem dX12_beside_149 : decode cX12_beside 149 = .ok (.lload_n 3, 1) := by decide +kernel
theorem dX12_beside_150 : decode cX12_beside 150 = .ok (.lreturn, 1) := by decide +kernel
theorem dX12_fits_0 : decode cX12_fits 0 = .ok (.aload_n 0, 1) := by decide +kernel
theorem dX12_fits_1 : decode cX12_fits 1 = .ok (.aload_n 0, 1) := by decide +kernel
theorem dX12_fits_2 : decode cX12_fits 2 = .ok (.getfield 23, 3) := by decide +kernel
theorem dX12_fits_5 : decode cX12_fits 5 = .ok (.iload_n 1, 1) := by decide +kernel
theorem dX12_fits_6 : decode cX12_fits 6 = .ok (.iaload, 1) := by decide +kernel
theorem dX12_fits_7 : decode cX12_fits 7 = .ok (.iconst 2, 1) := by decide +kernel
theorem dX12_fits_8 : decode cX12_fits 8 = .ok (.invokevirtual 95, 3) := by decide +kernel
theorem dX12_fits_11 : decode cX12_fits 11 = .ok (.istore_n 2, 1) := by decide +kernel
theorem dX12_fits_12 : decode cX12_fits 12 = .ok (.aload_n 0, 1) := by decide +kernel
theorem dX12_fits_13 : decode cX12_fits 13 = .ok (.getfield 32, 3) := by decide +kernel
theorem dX12_fits_16 : decode cX12_fits 16 = .ok (.iload_n 1, 1) := by decide +kernel
theorem dX12_fits_17 : decode cX12_fits 17 = .ok (.laload, 1) := by decide +kernel
theorem dX12_fits_18 : decode cX12_fits 18 = .ok (.aload_n 0, 1) := by decide +kernel
theorem dX12_fits_19 : decode cX12_fits 19 = .ok (.getfield 210, 3) := by decide +kernel
theorem dX12_fits_22 : decode cX12_fits 22 = .ok (.land, 1) := by decide +kernel
theorem dX12_fits_23 : decode cX12_fits 23 = .ok (.lconst 0, 1) := by decide +kernel
theorem dX12_fits_24 : decode cX12_fits 24 = .ok (.lcmp, 1) := by decide +kernel
theorem dX12_fits_25 : decode cX12_fits 25 = .ok (.ifCond .ne 21, 3) := by decide +kernel
theorem dX12_fits_28 : decode cX12_fits 28 = .ok (.aload_n 0, 1) := by decide +kernel
theorem dX12_fits_29 : decode cX12_fits 29 = .ok (.getfield 54, 3) := by decide +kernel
theorem dX12_fits_32 : decode cX12_fits 32 = .ok (.aload_n 0, 1) := by decide +kernel
theorem dX12_fits_33 : decode cX12_fits 33 = .ok (.getfield 23, 3) := by decide +kernel
theorem dX12_fits_36 : decode cX12_fits 36 = .ok (.iload_n 1, 1) := by decide +kernel
theorem dX12_fits_37 : decode cX12_fits 37 = .ok (.iaload, 1) := by decide +kernel
theorem dX12_fits_38 : decode cX12_fits 38 = .ok (.iaload, 1) := by decide +kernel
theorem dX12_fits_39 : decode cX12_fits 39 = .ok (.ifCond .le 7, 3) := by decide +kernel
theorem dX12_fits_42 : decode cX12_fits 42 = .ok (.iconst 1, 1) := by decide +kernel
theorem dX12_fits_43 : decode cX12_fits 43 = .ok (.goto 4, 3) := by decide +kernel
theorem dX12_fits_46 : decode cX12_fits 46 = .ok (.iconst 0, 1) := by decide +kernel
theorem dX12_fits_47 : decode cX12_fits 47 = .ok (.istore_n 3, 1) := by decide +kernel
theorem dX12_fits_48 : decode cX12_fits 48 = .ok (.iload_n 3, 1) := by decide +kernel
theorem dX12_fits_49 : decode cX12_fits 49 = .ok (.ifCond .eq 42, 3) := by decide +kernel
theorem dX12_fits_52 : decode cX12_fits 52 = .ok (.aload_n 0, 1) := by decide +kernel
theorem dX12_fits_53 : decode cX12_fits 53 = .ok (.getfield 7, 3) := by decide +kernel
theorem dX12_fits_56 : decode cX12_fits 56 = .ok (.iconst 3, 1) := by decide +kernel
theorem dX12_fits_57 : decode cX12_fits 57 = .ok (.iaload, 1) := by decide +kernel
theorem dX12_fits_58 : decode cX12_fits 58 = .ok (.ifCond .eq 29, 3) := by decide +kernel
theorem dX12_fits_61 : decode cX12_fits 61 = .ok (.iload_n 2, 1) := by decide +kernel
theorem dX12_fits_62 : decode cX12_fits 62 = .ok (.ifCond .eq 25, 3) := by decide +kernel
theorem dX12_fits_65 : decode cX12_fits 65 = .ok (.aload_n 0, 1) := by decide +kernel
theorem dX12_fits_66 : decode cX12_fits 66 = .ok (.aload_n 0, 1) := by decide +kernel
theorem dX12_fits_67 : decode cX12_fits 67 = .ok (.getfield 32, 3) := by decide +kernel
theorem dX12_fits_70 : decode cX12_fits 70 = .ok (.iload_n 1, 1) := by decide +kernel
theorem dX12_fits_71 : decode cX12_fits 71 = .ok (.laload, 1) := by decide +kernel
theorem dX12_fits_72 : decode cX12_fits 72 = .ok (.invokevirtual 214, 3) := by decide +kernel
theorem dX12_fits_75 : decode cX12_fits 75 = .ok (.aload_n 0, 1) := by decide +kernel
theorem dX12_fits_76 : decode cX12_fits 76 = .ok (.getfield 51, 3) := by decide +kernel
theorem dX12_fits_79 : decode cX12_fits 79 = .ok (.iload_n 2, 1) := by decide +kernel
theorem dX12_fits_80 : decode cX12_fits 80 = .ok (.laload, 1) := by decide +kernel
theorem dX12_fits_81 : decode cX12_fits 81 = .ok (.land, 1) := by decide +kernel
theorem dX12_fits_82 : decode cX12_fits 82 = .ok (.lconst 0, 1) := by decide +kernel
theorem dX12_fits_83 : decode cX12_fits 83 = .ok (.lcmp, 1) := by decide +kernel
theorem dX12_fits_84 : decode cX12_fits 84 = .ok (.ifCond .ne 7, 3) := by decide +kernel
theorem dX12_fits_87 : decode cX12_fits 87 = .ok (.iconst 1, 1) := by decide +kernel
theorem dX12_fits_88 : decode cX12_fits 88 = .ok (.goto 4, 3) := by decide +kernel
theorem dX12_fits_91 : decode cX12_fits 91 = .ok (.iconst 0, 1) := by decide +kernel
theorem dX12_fits_92 : decode cX12_fits 92 = .ok (.ireturn, 1) := by decide +kernel
end
section
theorem dX12_turns_0 : decode cX12_turns 0 = .ok (.aload_n 0, 1) := by decide +kernel
theorem dX12_turns_1 : decode cX12_turns 1 = .ok (.dup, 1) := by decide +kernel
theorem dX12_turns_2 : decode cX12_turns 2 = .ok (.getfield 210, 3) := by decide +kernel
theorem dX12_turns_5 : decode cX12_turns 5 = .ok (.aload_n 0, 1) := by decide +kernel
theorem dX12_turns_6 : decode cX12_turns 6 = .ok (.getfield 32, 3) := by decide +kernel
theorem dX12_turns_9 : decode cX12_turns 9 = .ok (.iload_n 1, 1) := by decide +kernel
theorem dX12_turns_10 : decode cX12_turns 10 = .ok (.laload, 1) := by decide +kernel
theorem dX12_turns_11 : decode cX12_turns 11 = .ok (.lxor, 1) := by decide +kernel
theorem dX12_turns_12 : decode cX12_turns 12 = .ok (.putfield 210, 3) := by decide +kernel
theorem dX12_turns_15 : decode cX12_turns 15 = .ok (.aload_n 0, 1) := by decide +kernel
theorem dX12_turns_16 : decode cX12_turns 16 = .ok (.getfield 51, 3) := by decide +kernel
theorem dX12_turns_19 : decode cX12_turns 19 = .ok (.aload_n 0, 1) := by decide +kernel
theorem dX12_turns_20 : decode cX12_turns 20 = .ok (.aload_n 0, 1) := by decide +kernel
theorem dX12_turns_21 : decode cX12_turns 21 = .ok (.getfield 23, 3) := by decide +kernel
theorem dX12_turns_24 : decode cX12_turns 24 = .ok (.iload_n 1, 1) := by decide +kernel
theorem dX12_turns_25 : decode cX12_turns 25 = .ok (.iaload, 1) := by decide +kernel
theorem dX12_turns_26 : decode cX12_turns 26 = .ok (.iconst 2, 1) := by decide +kernel
theorem dX12_turns_27 : decode cX12_turns 27 = .ok (.invokevirtual 95, 3) := by decide +kernel
theorem dX12_turns_30 : decode cX12_turns 30 = .ok (.dup2, 1) := by decide +kernel
theorem dX12_turns_31 : decode cX12_turns 31 = .ok (.laload, 1) := by decide +kernel
theorem dX12_turns_32 : decode cX12_turns 32 = .ok (.aload_n 0, 1) := by decide +kernel
theorem dX12_turns_33 : decode cX12_turns 33 = .ok (.getfield 32, 3) := by decide +kernel
theorem dX12_turns_36 : decode cX12_turns 36 = .ok (.iload_n 1, 1) := by decide +kernel
theorem dX12_turns_37 : decode cX12_turns 37 = .ok (.laload, 1) := by decide +kernel
theorem dX12_turns_38 : decode cX12_turns 38 = .ok (.lxor, 1) := by decide +kernel
theorem dX12_turns_39 : decode cX12_turns 39 = .ok (.lastore, 1) := by decide +kernel
theorem dX12_turns_40 : decode cX12_turns 40 = .ok (.aload_n 0, 1) := by decide +kernel
theorem dX12_turns_41 : decode cX12_turns 41 = .ok (.getfield 54, 3) := by decide +kernel
theorem dX12_turns_44 : decode cX12_turns 44 = .ok (.aload_n 0, 1) := by decide +kernel
theorem dX12_turns_45 : decode cX12_turns 45 = .ok (.getfield 23, 3) := by decide +kernel
theorem dX12_turns_48 : decode cX12_turns 48 = .ok (.iload_n 1, 1) := by decide +kernel
theorem dX12_turns_49 : decode cX12_turns 49 = .ok (.iaload, 1) := by decide +kernel
theorem dX12_turns_50 : decode cX12_turns 50 = .ok (.dup2, 1) := by decide +kernel
theorem dX12_turns_51 : decode cX12_turns 51 = .ok (.iaload, 1) := by decide +kernel
theorem dX12_turns_52 : decode cX12_turns 52 = .ok (.iload_n 2, 1) := by decide +kernel
theorem dX12_turns_53 : decode cX12_turns 53 = .ok (.ifCond .eq 7, 3) := by decide +kernel
theorem dX12_turns_56 : decode cX12_turns 56 = .ok (.iconst (-1), 1) := by decide +kernel
theorem dX12_turns_57 : decode cX12_turns 57 = .ok (.goto 4, 3) := by decide +kernel
theorem dX12_turns_60 : decode cX12_turns 60 = .ok (.iconst 1, 1) := by decide +kernel
theorem dX12_turns_61 : decode cX12_turns 61 = .ok (.iadd, 1) := by decide +kernel
theorem dX12_turns_62 : decode cX12_turns 62 = .ok (.iastore, 1) := by decide +kernel
theorem dX12_turns_63 : decode cX12_turns 63 = .ok (.return_, 1) := by decide +kernel
theorem dX12_begins_0 : decode cX12_begins 0 = .ok (.aload_n 0, 1) := by decide +kernel
theorem dX12_begins_1 : decode cX12_begins 1 = .ok (.invokevirtual 120, 3) := by decide +kernel
theorem dX12_begins_4 : decode cX12_begins 4 = .ok (.aload_n 0, 1) := by decide +kernel
theorem dX12_begins_5 : decode cX12_begins 5 = .ok (.iconst 0, 1) := by decide +kernel
theorem dX12_begins_6 : decode cX12_begins 6 = .ok (.putfield 218, 3) := by decide +kernel
theorem dX12_begins_9 : decode cX12_begins 9 = .ok (.aload_n 0, 1) := by decide +kernel
theorem dX12_begins_10 : decode cX12_begins 10 = .ok (.lconst 0, 1) := by decide +kernel
theorem dX12_begins_11 : decode cX12_begins 11 = .ok (.putfield 210, 3) := by decide +kernel
theorem dX12_begins_14 : decode cX12_begins 14 = .ok (.aload_n 0, 1) := by decide +kernel
theorem dX12_begins_15 : decode cX12_begins 15 = .ok (.iconst 0, 1) := by decide +kernel
theorem dX12_begins_16 : decode cX12_begins 16 = .ok (.putfield 221, 3) := by decide +kernel
theorem dX12_begins_19 : decode cX12_begins 19 = .ok (.aload_n 0, 1) := by decide +kernel
theorem dX12_begins_20 : decode cX12_begins 20 = .ok (.iconst 0, 1) := by decide +kernel
theorem dX12_begins_21 : decode cX12_begins 21 = .ok (.putfield 224, 3) := by decide +kernel
theorem dX12_begins_24 : decode cX12_begins 24 = .ok (.aload_n 0, 1) := by decide +kernel
theorem dX12_begins_25 : decode cX12_begins 25 = .ok (.iconst 0, 1) := by decide +kernel
theorem dX12_begins_26 : decode cX12_begins 26 = .ok (.putfield 227, 3) := by decide +kernel
theorem dX12_begins_29 : decode cX12_begins 29 = .ok (.aload_n 0, 1) := by decide +kernel
theorem dX12_begins_30 : decode cX12_begins 30 = .ok (.getfield 48, 3) := by decide +kernel
theorem dX12_begins_33 : decode cX12_begins 33 = .ok (.iconst 0, 1) := by decide +kernel
theorem dX12_begins_34 : decode cX12_begins 34 = .ok (.iconst 0, 1) := by decide +kernel
theorem dX12_begins_35 : decode cX12_begins 35 = .ok (.iastore, 1) := by decide +kernel
theorem dX12_begins_36 : decode cX12_begins 36 = .ok (.iconst 0, 1) := by decide +kernel
theorem dX12_begins_37 : decode cX12_begins 37 = .ok (.istore_n 1, 1) := by decide +kernel
theorem dX12_begins_38 : decode cX12_begins 38 = .ok (.iload_n 1, 1) := by decide +kernel
theorem dX12_begins_39 : decode cX12_begins 39 = .ok (.iconst 4, 1) := by decide +kernel
theorem dX12_begins_40 : decode cX12_begins 40 = .ok (.if_icmp .ge 16, 3) := by decide +kernel
theorem dX12_begins_43 : decode cX12_begins 43 = .ok (.aload_n 0, 1) := by decide +kernel
theorem dX12_begins_44 : decode cX12_begins 44 = .ok (.getfield 51, 3) := by decide +kernel
theorem dX12_begins_47 : decode cX12_begins 47 = .ok (.iload_n 1, 1) := by decide +kernel
theorem dX12_begins_48 : decode cX12_begins 48 = .ok (.lconst 0, 1) := by decide +kernel
theorem dX12_begins_49 : decode cX12_begins 49 = .ok (.lastore, 1) := by decide +kernel
theorem dX12_begins_50 : decode cX12_begins 50 = .ok (.iinc 1 1, 3) := by decide +kernel
theorem dX12_begins_53 : decode cX12_begins 53 = .ok (.goto (-15), 3) := by decide +kernel
theorem dX12_begins_56 : decode cX12_begins 56 = .ok (.iconst 0, 1) := by decide +kernel
theorem dX12_begins_57 : decode cX12_begins 57 = .ok (.istore_n 1, 1) := by decide +kernel
theorem dX12_begins_58 : decode cX12_begins 58 = .ok (.iload_n 1, 1) := by decide +kernel
theorem dX12_begins_59 : decode cX12_begins 59 = .ok (.aload_n 0, 1) := by decide +kernel
theorem dX12_begins_60 : decode cX12_begins 60 = .ok (.getfield 7, 3) := by decide +kernel
theorem dX12_begins_63 : decode cX12_begins 63 = .ok (.iconst 4, 1) := by decide +kernel
theorem dX12_begins_64 : decode cX12_begins 64 = .ok (.iaload, 1) := by decide +kernel
theorem dX12_begins_65 : decode cX12_begins 65 = .ok (.if_icmp .ge 21, 3) := by decide +kernel
theorem dX12_begins_68 : decode cX12_begins 68 = .ok (.aload_n 0, 1) := by decide +kernel
theorem dX12_begins_69 : decode cX12_begins 69 = .ok (.getfield 54, 3) := by decide +kernel
theorem dX12_begins_72 : decode cX12_begins 72 = .ok (.iload_n 1, 1) := by decide +kernel
theorem dX12_begins_73 : decode cX12_begins 73 = .ok (.aload_n 0, 1) := by decide +kernel
theorem dX12_begins_74 : decode cX12_begins 74 = .ok (.iload_n 1, 1) := by decide +kernel
theorem dX12_begins_75 : decode cX12_begins 75 = .ok (.iconst 3, 1) := by decide +kernel
theorem dX12_begins_76 : decode cX12_begins 76 = .ok (.invokevirtual 95, 3) := by decide +kernel
theorem dX12_begins_79 : decode cX12_begins 79 = .ok (.iastore, 1) := by decide +kernel
theorem dX12_begins_80 : decode cX12_begins 80 = .ok (.iinc 1 1, 3) := by decide +kernel
theorem dX12_begins_83 : decode cX12_begins 83 = .ok (.goto (-25), 3) := by decide +kernel
theorem dX12_begins_86 : decode cX12_begins 86 = .ok (.aload_n 0, 1) := by decide +kernel
theorem dX12_begins_87 : decode cX12_begins 87 = .ok (.iconst 0, 1) := by decide +kernel
theorem dX12_begins_88 : decode cX12_begins 88 = .ok (.putfield 230, 3) := by decide +kernel
theorem dX12_begins_91 : decode cX12_begins 91 = .ok (.aload_n 0, 1) := by decide +kernel
theorem dX12_begins_92 : decode cX12_begins 92 = .ok (.iconst 1, 1) := by decide +kernel
theorem dX12_begins_93 : decode cX12_begins 93 = .ok (.putfield 233, 3) := by decide +kernel
theorem dX12_begins_96 : decode cX12_begins 96 = .ok (.return_, 1) := by decide +kernel
theorem dX12_isCover_0 : decode cX12_isCover 0 = .ok (.iconst 1, 1) := by decide +kernel
theorem dX12_isCover_1 : decode cX12_isCover 1 = .ok (.istore_n 1, 1) := by decide +kernel
theorem dX12_isCover_2 : decode cX12_isCover 2 = .ok (.iconst 0, 1) := by decide +kernel
theorem dX12_isCover_3 : decode cX12_isCover 3 = .ok (.istore_n 2, 1) := by decide +kernel
theorem dX12_isCover_4 : decode cX12_isCover 4 = .ok (.iload_n 2, 1) := by decide +kernel
theorem dX12_isCover_5 : decode cX12_isCover 5 = .ok (.aload_n 0, 1) := by decide +kernel
theorem dX12_isCover_6 : decode cX12_isCover 6 = .ok (.getfield 7, 3) := by decide +kernel
theorem dX12_isCover_9 : decode cX12_isCover 9 = .ok (.iconst 4, 1) := by decide +kernel
theorem dX12_isCover_10 : decode cX12_isCover 10 = .ok (.iaload, 1) := by decide +kernel
theorem dX12_isCover_11 : decode cX12_isCover 11 = .ok (.if_icmp .ge 37, 3) := by decide +kernel
theorem dX12_isCover_14 : decode cX12_isCover 14 = .ok (.iload_n 1, 1) := by decide +kernel
theorem dX12_isCover_15 : decode cX12_isCover 15 = .ok (.ifCond .eq 25, 3) := by decide +kernel
theorem dX12_isCover_18 : decode cX12_isCover 18 = .ok (.aload_n 0, 1) := by decide +kernel
theorem dX12_isCover_19 : decode cX12_isCover 19 = .ok (.getfield 7, 3) := by decide +kernel
theorem dX12_isCover_22 : decode cX12_isCover 22 = .ok (.iconst 2, 1) := by decide +kernel
theorem dX12_isCover_23 : decode cX12_isCover 23 = .ok (.iaload, 1) := by decide +kernel
theorem dX12_isCover_24 : decode cX12_isCover 24 = .ok (.ifCond .eq 12, 3) := by decide +kernel
theorem dX12_isCover_27 : decode cX12_isCover 27 = .ok (.aload_n 0, 1) := by decide +kernel
theorem dX12_isCover_28 : decode cX12_isCover 28 = .ok (.getfield 54, 3) := by decide +kernel
theorem dX12_isCover_31 : decode cX12_isCover 31 = .ok (.iload_n 2, 1) := by decide +kernel
theorem dX12_isCover_32 : decode cX12_isCover 32 = .ok (.iaload, 1) := by decide +kernel
theorem dX12_isCover_33 : decode cX12_isCover 33 = .ok (.ifCond .ne 7, 3) := by decide +kernel
theorem dX12_isCover_36 : decode cX12_isCover 36 = .ok (.iconst 1, 1) := by decide +kernel
theorem dX12_isCover_37 : decode cX12_isCover 37 = .ok (.goto 4, 3) := by decide +kernel
theorem dX12_isCover_40 : decode cX12_isCover 40 = .ok (.iconst 0, 1) := by decide +kernel
theorem dX12_isCover_41 : decode cX12_isCover 41 = .ok (.istore_n 1, 1) := by decide +kernel
theorem dX12_isCover_42 : decode cX12_isCover 42 = .ok (.iinc 2 1, 3) := by decide +kernel
theorem dX12_isCover_45 : decode cX12_isCover 45 = .ok (.goto (-41), 3) := by decide +kernel
theorem dX12_isCover_48 : decode cX12_isCover 48 = .ok (.iload_n 1, 1) := by decide +kernel
theorem dX12_isCover_49 : decode cX12_isCover 49 = .ok (.ireturn, 1) := by decide +kernel
theorem dX12_goesBack_0 : decode cX12_goesBack 0 = .ok (.aload_n 0, 1) := by decide +kernel
theorem dX12_goesBack_1 : decode cX12_goesBack 1 = .ok (.getfield 218, 3) := by decide +kernel
theorem dX12_goesBack_4 : decode cX12_goesBack 4 = .ok (.ifCond .ne 11, 3) := by decide +kernel
theorem dX12_goesBack_7 : decode cX12_goesBack 7 = .ok (.aload_n 0, 1) := by decide +kernel
theorem dX12_goesBack_8 : decode cX12_goesBack 8 = .ok (.iconst 1, 1) := by decide +kernel
theorem dX12_goesBack_9 : decode cX12_goesBack 9 = .ok (.putfield 230, 3) := by decide +kernel
theorem dX12_goesBack_12 : decode cX12_goesBack 12 = .ok (.goto 47, 3) := by decide +kernel
theorem dX12_goesBack_15 : decode cX12_goesBack 15 = .ok (.aload_n 0, 1) := by decide +kernel
theorem dX12_goesBack_16 : decode cX12_goesBack 16 = .ok (.dup, 1) := by decide +kernel
theorem dX12_goesBack_17 : decode cX12_goesBack 17 = .ok (.getfield 218, 3) := by decide +kernel
theorem dX12_goesBack_20 : decode cX12_goesBack 20 = .ok (.iconst 1, 1) := by decide +kernel
theorem dX12_goesBack_21 : decode cX12_goesBack 21 = .ok (.isub, 1) := by decide +kernel
theorem dX12_goesBack_22 : decode cX12_goesBack 22 = .ok (.putfield 218, 3) := by decide +kernel
theorem dX12_goesBack_25 : decode cX12_goesBack 25 = .ok (.aload_n 0, 1) := by decide +kernel
theorem dX12_goesBack_26 : decode cX12_goesBack 26 = .ok (.aload_n 0, 1) := by decide +kernel
theorem dX12_goesBack_27 : decode cX12_goesBack 27 = .ok (.getfield 45, 3) := by decide +kernel
theorem dX12_goesBack_30 : decode cX12_goesBack 30 = .ok (.aload_n 0, 1) := by decide +kernel
theorem dX12_goesBack_31 : decode cX12_goesBack 31 = .ok (.getfield 218, 3) := by decide +kernel
theorem dX12_goesBack_34 : decode cX12_goesBack 34 = .ok (.iaload, 1) := by decide +kernel
theorem dX12_goesBack_35 : decode cX12_goesBack 35 = .ok (.iconst 0, 1) := by decide +kernel
theorem dX12_goesBack_36 : decode cX12_goesBack 36 = .ok (.invokevirtual 236, 3) := by decide +kernel
theorem dX12_goesBack_39 : decode cX12_goesBack 39 = .ok (.aload_n 0, 1) := by decide +kernel
theorem dX12_goesBack_40 : decode cX12_goesBack 40 = .ok (.getfield 48, 3) := by decide +kernel
theorem dX12_goesBack_43 : decode cX12_goesBack 43 = .ok (.aload_n 0, 1) := by decide +kernel
theorem dX12_goesBack_44 : decode cX12_goesBack 44 = .ok (.getfield 218, 3) := by decide +kernel
theorem dX12_goesBack_47 : decode cX12_goesBack 47 = .ok (.aload_n 0, 1) := by decide +kernel
theorem dX12_goesBack_48 : decode cX12_goesBack 48 = .ok (.getfield 45, 3) := by decide +kernel
theorem dX12_goesBack_51 : decode cX12_goesBack 51 = .ok (.aload_n 0, 1) := by decide +kernel
theorem dX12_goesBack_52 : decode cX12_goesBack 52 = .ok (.getfield 218, 3) := by decide +kernel
theorem dX12_goesBack_55 : decode cX12_goesBack 55 = .ok (.iaload, 1) := by decide +kernel
theorem dX12_goesBack_56 : decode cX12_goesBack 56 = .ok (.iconst 1, 1) := by decide +kernel
theorem dX12_goesBack_57 : decode cX12_goesBack 57 = .ok (.iadd, 1) := by decide +kernel
theorem dX12_goesBack_58 : decode cX12_goesBack 58 = .ok (.iastore, 1) := by decide +kernel
theorem dX12_goesBack_59 : decode cX12_goesBack 59 = .ok (.return_, 1) := by decide +kernel
theorem dX12_goesOn_0 : decode cX12_goesOn 0 = .ok (.aload_n 0, 1) := by decide +kernel
theorem dX12_goesOn_1 : decode cX12_goesOn 1 = .ok (.invokevirtual 240, 3) := by decide +kernel
theorem dX12_goesOn_4 : decode cX12_goesOn 4 = .ok (.lstore_n 1, 1) := by decide +kernel
theorem dX12_goesOn_5 : decode cX12_goesOn 5 = .ok (.aload_n 0, 1) := by decide +kernel
theorem dX12_goesOn_6 : decode cX12_goesOn 6 = .ok (.getfield 233, 3) := by decide +kernel
theorem dX12_goesOn_9 : decode cX12_goesOn 9 = .ok (.ifCond .ne 7, 3) := by decide +kernel
theorem dX12_goesOn_12 : decode cX12_goesOn 12 = .ok (.aload_n 0, 1) := by decide +kernel
theorem dX12_goesOn_13 : decode cX12_goesOn 13 = .ok (.invokevirtual 244, 3) := by decide +kernel
theorem dX12_goesOn_16 : decode cX12_goesOn 16 = .ok (.aload_n 0, 1) := by decide +kernel
theorem dX12_goesOn_17 : decode cX12_goesOn 17 = .ok (.iconst 0, 1) := by decide +kernel
theorem dX12_goesOn_18 : decode cX12_goesOn 18 = .ok (.putfield 233, 3) := by decide +kernel
theorem dX12_goesOn_21 : decode cX12_goesOn 21 = .ok (.aload_n 0, 1) := by decide +kernel
theorem dX12_goesOn_22 : decode cX12_goesOn 22 = .ok (.getfield 230, 3) := by decide +kernel
theorem dX12_goesOn_25 : decode cX12_goesOn 25 = .ok (.ifCond .ne 188, 3) := by decide +kernel
theorem dX12_goesOn_28 : decode cX12_goesOn 28 = .ok (.aload_n 0, 1) := by decide +kernel
theorem dX12_goesOn_29 : decode cX12_goesOn 29 = .ok (.getfield 210, 3) := by decide +kernel
theorem dX12_goesOn_32 : decode cX12_goesOn 32 = .ok (.lload_n 1, 1) := by decide +kernel
theorem dX12_goesOn_33 : decode cX12_goesOn 33 = .ok (.lcmp, 1) := by decide +kernel
theorem dX12_goesOn_34 : decode cX12_goesOn 34 = .ok (.ifCond .ne 29, 3) := by decide +kernel
theorem dX12_goesOn_37 : decode cX12_goesOn 37 = .ok (.aload_n 0, 1) := by decide +kernel
theorem dX12_goesOn_38 : decode cX12_goesOn 38 = .ok (.invokevirtual 247, 3) := by decide +kernel
theorem dX12_goesOn_41 : decode cX12_goesOn 41 = .ok (.ifCond .eq 15, 3) := by decide +kernel
theorem dX12_goesOn_44 : decode cX12_goesOn 44 = .ok (.aload_n 0, 1) := by decide +kernel
theorem dX12_goesOn_45 : decode cX12_goesOn 45 = .ok (.dup, 1) := by decide +kernel
theorem dX12_goesOn_46 : decode cX12_goesOn 46 = .ok (.getfield 224, 3) := by decide +kernel
theorem dX12_goesOn_49 : decode cX12_goesOn 49 = .ok (.iconst 1, 1) := by decide +kernel
theorem dX12_goesOn_50 : decode cX12_goesOn 50 = .ok (.iadd, 1) := by decide +kernel
theorem dX12_goesOn_51 : decode cX12_goesOn 51 = .ok (.putfield 224, 3) := by decide +kernel
theorem dX12_goesOn_54 : decode cX12_goesOn 54 = .ok (.iconst 1, 1) := by decide +kernel
theorem dX12_goesOn_55 : decode cX12_goesOn 55 = .ok (.ireturn, 1) := by decide +kernel
theorem dX12_goesOn_56 : decode cX12_goesOn 56 = .ok (.aload_n 0, 1) := by decide +kernel
theorem dX12_goesOn_57 : decode cX12_goesOn 57 = .ok (.invokevirtual 244, 3) := by decide +kernel
theorem dX12_goesOn_60 : decode cX12_goesOn 60 = .ok (.goto (-39), 3) := by decide +kernel
theorem dX12_goesOn_63 : decode cX12_goesOn 63 = .ok (.lload_n 1, 1) := by decide +kernel
theorem dX12_goesOn_64 : decode cX12_goesOn 64 = .ok (.aload_n 0, 1) := by decide +kernel
theorem dX12_goesOn_65 : decode cX12_goesOn 65 = .ok (.getfield 210, 3) := by decide +kernel
theorem dX12_goesOn_68 : decode cX12_goesOn 68 = .ok (.ldc2_w 251, 3) := by decide +kernel
theorem dX12_goesOn_71 : decode cX12_goesOn 71 = .ok (.lxor, 1) := by decide +kernel
theorem dX12_goesOn_72 : decode cX12_goesOn 72 = .ok (.land, 1) := by decide +kernel
theorem dX12_goesOn_73 : decode cX12_goesOn 73 = .ok (.invokestatic 116, 3) := by decide +kernel
theorem dX12_goesOn_76 : decode cX12_goesOn 76 = .ok (.istore_n 3, 1) := by decide +kernel
theorem dX12_goesOn_77 : decode cX12_goesOn 77 = .ok (.aload_n 0, 1) := by decide +kernel
theorem dX12_goesOn_78 : decode cX12_goesOn 78 = .ok (.getfield 48, 3) := by decide +kernel
theorem dX12_goesOn_81 : decode cX12_goesOn 81 = .ok (.aload_n 0, 1) := by decide +kernel
theorem dX12_goesOn_82 : decode cX12_goesOn 82 = .ok (.getfield 218, 3) := by decide +kernel
theorem dX12_goesOn_85 : decode cX12_goesOn 85 = .ok (.iaload, 1) := by decide +kernel
theorem dX12_goesOn_86 : decode cX12_goesOn 86 = .ok (.istore 4, 2) := by decide +kernel
theorem dX12_goesOn_88 : decode cX12_goesOn 88 = .ok (.iload 4, 2) := by decide +kernel
theorem dX12_goesOn_90 : decode cX12_goesOn 90 = .ok (.aload_n 0, 1) := by decide +kernel
theorem dX12_goesOn_91 : decode cX12_goesOn 91 = .ok (.getfield 106, 3) := by decide +kernel
theorem dX12_goesOn_94 : decode cX12_goesOn 94 = .ok (.if_icmp .ge 29, 3) := by decide +kernel
theorem dX12_goesOn_97 : decode cX12_goesOn 97 = .ok (.aload_n 0, 1) := by decide +kernel
theorem dX12_goesOn_98 : decode cX12_goesOn 98 = .ok (.getfield 36, 3) := by decide +kernel
theorem dX12_goesOn_101 : decode cX12_goesOn 101 = .ok (.iload 4, 2) := by decide +kernel
theorem dX12_goesOn_103 : decode cX12_goesOn 103 = .ok (.iaload, 1) := by decide +kernel
theorem dX12_goesOn_104 : decode cX12_goesOn 104 = .ok (.iload_n 3, 1) := by decide +kernel
theorem dX12_goesOn_105 : decode cX12_goesOn 105 = .ok (.if_icmp .ne 12, 3) := by decide +kernel
theorem dX12_goesOn_108 : decode cX12_goesOn 108 = .ok (.aload_n 0, 1) := by decide +kernel
theorem dX12_goesOn_109 : decode cX12_goesOn 109 = .ok (.iload 4, 2) := by decide +kernel
theorem dX12_goesOn_111 : decode cX12_goesOn 111 = .ok (.invokevirtual 253, 3) := by decide +kernel
theorem dX12_goesOn_114 : decode cX12_goesOn 114 = .ok (.ifCond .ne 9, 3) := by decide +kernel
theorem dX12_goesOn_117 : decode cX12_goesOn 117 = .ok (.iinc 4 1, 3) := by decide +kernel
theorem dX12_goesOn_120 : decode cX12_goesOn 120 = .ok (.goto (-32), 3) := by decide +kernel
theorem dX12_goesOn_123 : decode cX12_goesOn 123 = .ok (.iload 4, 2) := by decide +kernel
theorem dX12_goesOn_125 : decode cX12_goesOn 125 = .ok (.aload_n 0, 1) := by decide +kernel
theorem dX12_goesOn_126 : decode cX12_goesOn 126 = .ok (.getfield 106, 3) := by decide +kernel
theorem dX12_goesOn_129 : decode cX12_goesOn 129 = .ok (.if_icmp .ne 10, 3) := by decide +kernel
theorem dX12_goesOn_132 : decode cX12_goesOn 132 = .ok (.aload_n 0, 1) := by decide +kernel
theorem dX12_goesOn_133 : decode cX12_goesOn 133 = .ok (.invokevirtual 244, 3) := by decide +kernel
theorem dX12_goesOn_136 : decode cX12_goesOn 136 = .ok (.goto 74, 3) := by decide +kernel
theorem dX12_goesOn_139 : decode cX12_goesOn 139 = .ok (.aload_n 0, 1) := by decide +kernel
theorem dX12_goesOn_140 : decode cX12_goesOn 140 = .ok (.getfield 221, 3) := by decide +kernel
theorem dX12_goesOn_143 : decode cX12_goesOn 143 = .ok (.sipush 20000, 3) := by decide +kernel
theorem dX12_goesOn_146 : decode cX12_goesOn 146 = .ok (.if_icmp .ne 16, 3) := by decide +kernel
theorem dX12_goesOn_149 : decode cX12_goesOn 149 = .ok (.aload_n 0, 1) := by decide +kernel
theorem dX12_goesOn_150 : decode cX12_goesOn 150 = .ok (.iconst 1, 1) := by decide +kernel
theorem dX12_goesOn_151 : decode cX12_goesOn 151 = .ok (.putfield 227, 3) := by decide +kernel
theorem dX12_goesOn_154 : decode cX12_goesOn 154 = .ok (.aload_n 0, 1) := by decide +kernel
theorem dX12_goesOn_155 : decode cX12_goesOn 155 = .ok (.iconst 1, 1) := by decide +kernel
theorem dX12_goesOn_156 : decode cX12_goesOn 156 = .ok (.putfield 230, 3) := by decide +kernel
theorem dX12_goesOn_159 : decode cX12_goesOn 159 = .ok (.goto 51, 3) := by decide +kernel
theorem dX12_goesOn_162 : decode cX12_goesOn 162 = .ok (.aload_n 0, 1) := by decide +kernel
theorem dX12_goesOn_163 : decode cX12_goesOn 163 = .ok (.dup, 1) := by decide +kernel
theorem dX12_goesOn_164 : decode cX12_goesOn 164 = .ok (.getfield 221, 3) := by decide +kernel
theorem dX12_goesOn_167 : decode cX12_goesOn 167 = .ok (.iconst 1, 1) := by decide +kernel
theorem dX12_goesOn_168 : decode cX12_goesOn 168 = .ok (.iadd, 1) := by decide +kernel
theorem dX12_goesOn_169 : decode cX12_goesOn 169 = .ok (.putfield 221, 3) := by decide +kernel
theorem dX12_goesOn_172 : decode cX12_goesOn 172 = .ok (.aload_n 0, 1) := by decide +kernel
theorem dX12_goesOn_173 : decode cX12_goesOn 173 = .ok (.getfield 45, 3) := by decide +kernel
theorem dX12_goesOn_176 : decode cX12_goesOn 176 = .ok (.aload_n 0, 1) := by decide +kernel
theorem dX12_goesOn_177 : decode cX12_goesOn 177 = .ok (.getfield 218, 3) := by decide +kernel
theorem dX12_goesOn_180 : decode cX12_goesOn 180 = .ok (.iload 4, 2) := by decide +kernel
theorem dX12_goesOn_182 : decode cX12_goesOn 182 = .ok (.iastore, 1) := by decide +kernel
theorem dX12_goesOn_183 : decode cX12_goesOn 183 = .ok (.aload_n 0, 1) := by decide +kernel
theorem dX12_goesOn_184 : decode cX12_goesOn 184 = .ok (.dup, 1) := by decide +kernel
theorem dX12_goesOn_185 : decode cX12_goesOn 185 = .ok (.getfield 218, 3) := by decide +kernel
theorem dX12_goesOn_188 : decode cX12_goesOn 188 = .ok (.iconst 1, 1) := by decide +kernel
theorem dX12_goesOn_189 : decode cX12_goesOn 189 = .ok (.iadd, 1) := by decide +kernel
theorem dX12_goesOn_190 : decode cX12_goesOn 190 = .ok (.putfield 218, 3) := by decide +kernel
theorem dX12_goesOn_193 : decode cX12_goesOn 193 = .ok (.aload_n 0, 1) := by decide +kernel
theorem dX12_goesOn_194 : decode cX12_goesOn 194 = .ok (.getfield 48, 3) := by decide +kernel
theorem dX12_goesOn_197 : decode cX12_goesOn 197 = .ok (.aload_n 0, 1) := by decide +kernel
theorem dX12_goesOn_198 : decode cX12_goesOn 198 = .ok (.getfield 218, 3) := by decide +kernel
theorem dX12_goesOn_201 : decode cX12_goesOn 201 = .ok (.iconst 0, 1) := by decide +kernel
theorem dX12_goesOn_202 : decode cX12_goesOn 202 = .ok (.iastore, 1) := by decide +kernel
theorem dX12_goesOn_203 : decode cX12_goesOn 203 = .ok (.aload_n 0, 1) := by decide +kernel
theorem dX12_goesOn_204 : decode cX12_goesOn 204 = .ok (.iload 4, 2) := by decide +kernel
theorem dX12_goesOn_206 : decode cX12_goesOn 206 = .ok (.iconst 1, 1) := by decide +kernel
theorem dX12_goesOn_207 : decode cX12_goesOn 207 = .ok (.invokevirtual 236, 3) := by decide +kernel
theorem dX12_goesOn_210 : decode cX12_goesOn 210 = .ok (.goto (-189), 3) := by decide +kernel
theorem dX12_goesOn_213 : decode cX12_goesOn 213 = .ok (.iconst 0, 1) := by decide +kernel
theorem dX12_goesOn_214 : decode cX12_goesOn 214 = .ok (.ireturn, 1) := by decide +kernel
theorem dX12_searches_0 : decode cX12_searches 0 = .ok (.aload_n 0, 1) := by decide +kernel
theorem dX12_searches_1 : decode cX12_searches 1 = .ok (.invokevirtual 256, 3) := by decide +kernel
theorem dX12_searches_4 : decode cX12_searches 4 = .ok (.aload_n 0, 1) := by decide +kernel
theorem dX12_searches_5 : decode cX12_searches 5 = .ok (.invokevirtual 259, 3) := by decide +kernel
theorem dX12_searches_8 : decode cX12_searches 8 = .ok (.ifCond .eq 40, 3) := by decide +kernel
theorem dX12_searches_11 : decode cX12_searches 11 = .ok (.aload_n 0, 1) := by decide +kernel
theorem dX12_searches_12 : decode cX12_searches 12 = .ok (.aload_n 0, 1) := by decide +kernel
theorem dX12_searches_13 : decode cX12_searches 13 = .ok (.getfield 224, 3) := by decide +kernel
theorem dX12_searches_16 : decode cX12_searches 16 = .ok (.iconst 1, 1) := by decide +kernel
theorem dX12_searches_17 : decode cX12_searches 17 = .ok (.if_icmp .eq 14, 3) := by decide +kernel
theorem dX12_searches_20 : decode cX12_searches 20 = .ok (.aload_n 0, 1) := by decide +kernel
theorem dX12_searches_21 : decode cX12_searches 21 = .ok (.getfield 218, 3) := by decide +kernel
theorem dX12_searches_24 : decode cX12_searches 24 = .ok (.aload_n 0, 1) := by decide +kernel
theorem dX12_searches_25 : decode cX12_searches 25 = .ok (.getfield 262, 3) := by decide +kernel
theorem dX12_searches_28 : decode cX12_searches 28 = .ok (.if_icmp .ge 10, 3) := by decide +kernel
theorem dX12_searches_31 : decode cX12_searches 31 = .ok (.aload_n 0, 1) := by decide +kernel
theorem dX12_searches_32 : decode cX12_searches 32 = .ok (.getfield 218, 3) := by decide +kernel
theorem dX12_searches_35 : decode cX12_searches 35 = .ok (.goto 7, 3) := by decide +kernel
theorem dX12_searches_38 : decode cX12_searches 38 = .ok (.aload_n 0, 1) := by decide +kernel
theorem dX12_searches_39 : decode cX12_searches 39 = .ok (.getfield 262, 3) := by decide +kernel
theorem dX12_searches_42 : decode cX12_searches 42 = .ok (.putfield 262, 3) := by decide +kernel
theorem dX12_searches_45 : decode cX12_searches 45 = .ok (.goto (-41), 3) := by decide +kernel
theorem dX12_searches_48 : decode cX12_searches 48 = .ok (.return_, 1) := by decide +kernel
theorem dX12_seeks_0 : decode cX12_seeks 0 = .ok (.aload_n 0, 1) := by decide +kernel
theorem dX12_seeks_1 : decode cX12_seeks 1 = .ok (.invokevirtual 256, 3) := by decide +kernel
theorem dX12_seeks_4 : decode cX12_seeks 4 = .ok (.iconst 1, 1) := by decide +kernel
theorem dX12_seeks_5 : decode cX12_seeks 5 = .ok (.istore_n 2, 1) := by decide +kernel
theorem dX12_seeks_6 : decode cX12_seeks 6 = .ok (.iload_n 2, 1) := by decide +kernel
theorem dX12_seeks_7 : decode cX12_seeks 7 = .ok (.ifCond .eq 19, 3) := by decide +kernel
theorem dX12_seeks_10 : decode cX12_seeks 10 = .ok (.aload_n 0, 1) := by decide +kernel
theorem dX12_seeks_11 : decode cX12_seeks 11 = .ok (.getfield 224, 3) := by decide +kernel
theorem dX12_seeks_14 : decode cX12_seeks 14 = .ok (.iload_n 1, 1) := by decide +kernel
theorem dX12_seeks_15 : decode cX12_seeks 15 = .ok (.if_icmp .gt 11, 3) := by decide +kernel
theorem dX12_seeks_18 : decode cX12_seeks 18 = .ok (.aload_n 0, 1) := by decide +kernel
theorem dX12_seeks_19 : decode cX12_seeks 19 = .ok (.invokevirtual 259, 3) := by decide +kernel
theorem dX12_seeks_22 : decode cX12_seeks 22 = .ok (.istore_n 2, 1) := by decide +kernel
theorem dX12_seeks_23 : decode cX12_seeks 23 = .ok (.goto (-17), 3) := by decide +kernel
theorem dX12_seeks_26 : decode cX12_seeks 26 = .ok (.iload_n 2, 1) := by decide +kernel
theorem dX12_seeks_27 : decode cX12_seeks 27 = .ok (.ifCond .eq 7, 3) := by decide +kernel
theorem dX12_seeks_30 : decode cX12_seeks 30 = .ok (.iconst 0, 1) := by decide +kernel
theorem dX12_seeks_31 : decode cX12_seeks 31 = .ok (.goto 17, 3) := by decide +kernel
theorem dX12_seeks_34 : decode cX12_seeks 34 = .ok (.aload_n 0, 1) := by decide +kernel
theorem dX12_seeks_35 : decode cX12_seeks 35 = .ok (.getfield 227, 3) := by decide +kernel
theorem dX12_seeks_38 : decode cX12_seeks 38 = .ok (.ifCond .eq 8, 3) := by decide +kernel
theorem dX12_seeks_41 : decode cX12_seeks 41 = .ok (.bipush (-4), 2) := by decide +kernel
theorem dX12_seeks_43 : decode cX12_seeks 43 = .ok (.goto 5, 3) := by decide +kernel
theorem dX12_seeks_46 : decode cX12_seeks 46 = .ok (.bipush (-9), 2) := by decide +kernel
theorem dX12_seeks_48 : decode cX12_seeks 48 = .ok (.ireturn, 1) := by decide +kernel
theorem dX12_covers_0 : decode cX12_covers 0 = .ok (.aload_n 0, 1) := by decide +kernel
theorem dX12_covers_1 : decode cX12_covers 1 = .ok (.invokevirtual 265, 3) := by decide +kernel
theorem dX12_covers_4 : decode cX12_covers 4 = .ok (.aload_n 0, 1) := by decide +kernel
theorem dX12_covers_5 : decode cX12_covers 5 = .ok (.getfield 227, 3) := by decide +kernel
theorem dX12_covers_8 : decode cX12_covers 8 = .ok (.ifCond .eq 8, 3) := by decide +kernel
theorem dX12_covers_11 : decode cX12_covers 11 = .ok (.bipush (-4), 2) := by decide +kernel
theorem dX12_covers_13 : decode cX12_covers 13 = .ok (.goto 7, 3) := by decide +kernel
theorem dX12_covers_16 : decode cX12_covers 16 = .ok (.aload_n 0, 1) := by decide +kernel
theorem dX12_covers_17 : decode cX12_covers 17 = .ok (.getfield 224, 3) := by decide +kernel
theorem dX12_covers_20 : decode cX12_covers 20 = .ok (.ireturn, 1) := by decide +kernel
theorem dX12_tries_0 : decode cX12_tries 0 = .ok (.aload_n 0, 1) := by decide +kernel
theorem dX12_tries_1 : decode cX12_tries 1 = .ok (.invokevirtual 265, 3) := by decide +kernel
theorem dX12_tries_4 : decode cX12_tries 4 = .ok (.aload_n 0, 1) := by decide +kernel
theorem dX12_tries_5 : decode cX12_tries 5 = .ok (.getfield 227, 3) := by decide +kernel
theorem dX12_tries_8 : decode cX12_tries 8 = .ok (.ifCond .eq 8, 3) := by decide +kernel
theorem dX12_tries_11 : decode cX12_tries 11 = .ok (.bipush (-4), 2) := by decide +kernel
theorem dX12_tries_13 : decode cX12_tries 13 = .ok (.goto 7, 3) := by decide +kernel
theorem dX12_tries_16 : decode cX12_tries 16 = .ok (.aload_n 0, 1) := by decide +kernel
theorem dX12_tries_17 : decode cX12_tries 17 = .ok (.getfield 221, 3) := by decide +kernel
theorem dX12_tries_20 : decode cX12_tries 20 = .ok (.ireturn, 1) := by decide +kernel
theorem dX12_coverAt_0 : decode cX12_coverAt 0 = .ok (.iload_n 1, 1) := by decide +kernel
theorem dX12_coverAt_1 : decode cX12_coverAt 1 = .ok (.ifCond .lt 11, 3) := by decide +kernel
theorem dX12_coverAt_4 : decode cX12_coverAt 4 = .ok (.aload_n 0, 1) := by decide +kernel
theorem dX12_coverAt_5 : decode cX12_coverAt 5 = .ok (.iload_n 2, 1) := by decide +kernel
theorem dX12_coverAt_6 : decode cX12_coverAt 6 = .ok (.invokevirtual 126, 3) := by decide +kernel
theorem dX12_coverAt_9 : decode cX12_coverAt 9 = .ok (.ifCond .ne 5, 3) := by decide +kernel
theorem dX12_coverAt_12 : decode cX12_coverAt 12 = .ok (.iconst (-1), 1) := by decide +kernel
theorem dX12_coverAt_13 : decode cX12_coverAt 13 = .ok (.ireturn, 1) := by decide +kernel
theorem dX12_coverAt_14 : decode cX12_coverAt 14 = .ok (.aload_n 0, 1) := by decide +kernel
theorem dX12_coverAt_15 : decode cX12_coverAt 15 = .ok (.iload_n 1, 1) := by decide +kernel
theorem dX12_coverAt_16 : decode cX12_coverAt 16 = .ok (.invokevirtual 268, 3) := by decide +kernel
theorem dX12_coverAt_19 : decode cX12_coverAt 19 = .ok (.istore_n 3, 1) := by decide +kernel
theorem dX12_coverAt_20 : decode cX12_coverAt 20 = .ok (.iload_n 3, 1) := by decide +kernel
theorem dX12_coverAt_21 : decode cX12_coverAt 21 = .ok (.ifCond .ge 5, 3) := by decide +kernel
theorem dX12_coverAt_24 : decode cX12_coverAt 24 = .ok (.iload_n 3, 1) := by decide +kernel
theorem dX12_coverAt_25 : decode cX12_coverAt 25 = .ok (.ireturn, 1) := by decide +kernel
theorem dX12_coverAt_26 : decode cX12_coverAt 26 = .ok (.iconst 0, 1) := by decide +kernel
theorem dX12_coverAt_27 : decode cX12_coverAt 27 = .ok (.istore 4, 2) := by decide +kernel
theorem dX12_coverAt_29 : decode cX12_coverAt 29 = .ok (.iload 4, 2) := by decide +kernel
theorem dX12_coverAt_31 : decode cX12_coverAt 31 = .ok (.aload_n 0, 1) := by decide +kernel
theorem dX12_coverAt_32 : decode cX12_coverAt 32 = .ok (.getfield 218, 3) := by decide +kernel
theorem dX12_coverAt_35 : decode cX12_coverAt 35 = .ok (.if_icmp .ge 32, 3) := by decide +kernel
theorem dX12_coverAt_38 : decode cX12_coverAt 38 = .ok (.aload_n 0, 1) := by decide +kernel
theorem dX12_coverAt_39 : decode cX12_coverAt 39 = .ok (.aload_n 0, 1) := by decide +kernel
theorem dX12_coverAt_40 : decode cX12_coverAt 40 = .ok (.getfield 45, 3) := by decide +kernel
theorem dX12_coverAt_43 : decode cX12_coverAt 43 = .ok (.iload 4, 2) := by decide +kernel
theorem dX12_coverAt_45 : decode cX12_coverAt 45 = .ok (.iaload, 1) := by decide +kernel
theorem dX12_coverAt_46 : decode cX12_coverAt 46 = .ok (.iload_n 2, 1) := by decide +kernel
theorem dX12_coverAt_47 : decode cX12_coverAt 47 = .ok (.invokevirtual 152, 3) := by decide +kernel
theorem dX12_coverAt_50 : decode cX12_coverAt 50 = .ok (.ifCond .eq 11, 3) := by decide +kernel
theorem dX12_coverAt_53 : decode cX12_coverAt 53 = .ok (.aload_n 0, 1) := by decide +kernel
theorem dX12_coverAt_54 : decode cX12_coverAt 54 = .ok (.getfield 45, 3) := by decide +kernel
theorem dX12_coverAt_57 : decode cX12_coverAt 57 = .ok (.iload 4, 2) := by decide +kernel
theorem dX12_coverAt_59 : decode cX12_coverAt 59 = .ok (.iaload, 1) := by decide +kernel
theorem dX12_coverAt_60 : decode cX12_coverAt 60 = .ok (.ireturn, 1) := by decide +kernel
theorem dX12_coverAt_61 : decode cX12_coverAt 61 = .ok (.iinc 4 1, 3) := by decide +kernel
theorem dX12_coverAt_64 : decode cX12_coverAt 64 = .ok (.goto (-35), 3) := by decide +kernel
theorem dX12_coverAt_67 : decode cX12_coverAt 67 = .ok (.bipush (-9), 2) := by decide +kernel
theorem dX12_coverAt_69 : decode cX12_coverAt 69 = .ok (.ireturn, 1) := by decide +kernel
theorem dX12_used_0 : decode cX12_used 0 = .ok (.iload_n 1, 1) := by decide +kernel
theorem dX12_used_1 : decode cX12_used 1 = .ok (.ifCond .lt 11, 3) := by decide +kernel
theorem dX12_used_4 : decode cX12_used 4 = .ok (.aload_n 0, 1) := by decide +kernel
theorem dX12_used_5 : decode cX12_used 5 = .ok (.iload_n 2, 1) := by decide +kernel
theorem dX12_used_6 : decode cX12_used 6 = .ok (.invokevirtual 139, 3) := by decide +kernel
theorem dX12_used_9 : decode cX12_used 9 = .ok (.ifCond .ne 5, 3) := by decide +kernel
theorem dX12_used_12 : decode cX12_used 12 = .ok (.iconst (-1), 1) := by decide +kernel
theorem dX12_used_13 : decode cX12_used 13 = .ok (.ireturn, 1) := by decide +kernel
theorem dX12_used_14 : decode cX12_used 14 = .ok (.aload_n 0, 1) := by decide +kernel
theorem dX12_used_15 : decode cX12_used 15 = .ok (.iload_n 1, 1) := by decide +kernel
theorem dX12_used_16 : decode cX12_used 16 = .ok (.invokevirtual 268, 3) := by decide +kernel
theorem dX12_used_19 : decode cX12_used 19 = .ok (.istore_n 3, 1) := by decide +kernel
theorem dX12_used_20 : decode cX12_used 20 = .ok (.iload_n 3, 1) := by decide +kernel
theorem dX12_used_21 : decode cX12_used 21 = .ok (.ifCond .ge 7, 3) := by decide +kernel
theorem dX12_used_24 : decode cX12_used 24 = .ok (.iload_n 3, 1) := by decide +kernel
theorem dX12_used_25 : decode cX12_used 25 = .ok (.goto 16, 3) := by decide +kernel
theorem dX12_used_28 : decode cX12_used 28 = .ok (.aload_n 0, 1) := by decide +kernel
theorem dX12_used_29 : decode cX12_used 29 = .ok (.iload_n 2, 1) := by decide +kernel
theorem dX12_used_30 : decode cX12_used 30 = .ok (.iconst 3, 1) := by decide +kernel
theorem dX12_used_31 : decode cX12_used 31 = .ok (.invokevirtual 95, 3) := by decide +kernel
theorem dX12_used_34 : decode cX12_used 34 = .ok (.aload_n 0, 1) := by decide +kernel
theorem dX12_used_35 : decode cX12_used 35 = .ok (.getfield 54, 3) := by decide +kernel
theorem dX12_used_38 : decode cX12_used 38 = .ok (.iload_n 2, 1) := by decide +kernel
theorem dX12_used_39 : decode cX12_used 39 = .ok (.iaload, 1) := by decide +kernel
theorem dX12_used_40 : decode cX12_used 40 = .ok (.isub, 1) := by decide +kernel
theorem dX12_used_41 : decode cX12_used 41 = .ok (.ireturn, 1) := by decide +kernel
theorem dX12_fewest_0 : decode cX12_fewest 0 = .ok (.aload_n 0, 1) := by decide +kernel
theorem dX12_fewest_1 : decode cX12_fewest 1 = .ok (.invokevirtual 265, 3) := by decide +kernel
theorem dX12_fewest_4 : decode cX12_fewest 4 = .ok (.aload_n 0, 1) := by decide +kernel
theorem dX12_fewest_5 : decode cX12_fewest 5 = .ok (.getfield 227, 3) := by decide +kernel
theorem dX12_fewest_8 : decode cX12_fewest 8 = .ok (.ifCond .eq 8, 3) := by decide +kernel
theorem dX12_fewest_11 : decode cX12_fewest 11 = .ok (.bipush (-4), 2) := by decide +kernel
theorem dX12_fewest_13 : decode cX12_fewest 13 = .ok (.goto 19, 3) := by decide +kernel
theorem dX12_fewest_16 : decode cX12_fewest 16 = .ok (.aload_n 0, 1) := by decide +kernel
theorem dX12_fewest_17 : decode cX12_fewest 17 = .ok (.getfield 224, 3) := by decide +kernel
theorem dX12_fewest_20 : decode cX12_fewest 20 = .ok (.ifCond .ne 8, 3) := by decide +kernel
theorem dX12_fewest_23 : decode cX12_fewest 23 = .ok (.bipush (-9), 2) := by decide +kernel
theorem dX12_fewest_25 : decode cX12_fewest 25 = .ok (.goto 7, 3) := by decide +kernel
theorem dX12_fewest_28 : decode cX12_fewest 28 = .ok (.aload_n 0, 1) := by decide +kernel
theorem dX12_fewest_29 : decode cX12_fewest 29 = .ok (.getfield 262, 3) := by decide +kernel
theorem dX12_fewest_32 : decode cX12_fewest 32 = .ok (.ireturn, 1) := by decide +kernel
theorem dX12_image_0 : decode cX12_image 0 = .ok (.iload_n 2, 1) := by decide +kernel
theorem dX12_image_1 : decode cX12_image 1 = .ok (.aload_n 0, 1) := by decide +kernel
theorem dX12_image_2 : decode cX12_image 2 = .ok (.getfield 7, 3) := by decide +kernel
theorem dX12_image_5 : decode cX12_image 5 = .ok (.iconst 0, 1) := by decide +kernel
theorem dX12_image_6 : decode cX12_image 6 = .ok (.iaload, 1) := by decide +kernel
theorem dX12_image_7 : decode cX12_image 7 = .ok (.irem, 1) := by decide +kernel
theorem dX12_image_8 : decode cX12_image 8 = .ok (.istore_n 3, 1) := by decide +kernel
theorem dX12_image_9 : decode cX12_image 9 = .ok (.iload_n 2, 1) := by decide +kernel
theorem dX12_image_10 : decode cX12_image 10 = .ok (.aload_n 0, 1) := by decide +kernel
theorem dX12_image_11 : decode cX12_image 11 = .ok (.getfield 7, 3) := by decide +kernel
theorem dX12_image_14 : decode cX12_image 14 = .ok (.iconst 0, 1) := by decide +kernel
theorem dX12_image_15 : decode cX12_image 15 = .ok (.iaload, 1) := by decide +kernel
theorem dX12_image_16 : decode cX12_image 16 = .ok (.idiv, 1) := by decide +kernel
theorem dX12_image_17 : decode cX12_image 17 = .ok (.istore 4, 2) := by decide +kernel
theorem dX12_image_19 : decode cX12_image 19 = .ok (.iload_n 1, 1) := by decide +kernel
theorem dX12_image_20 : decode cX12_image 20 = .ok (.iconst 1, 1) := by decide +kernel
theorem dX12_image_21 : decode cX12_image 21 = .ok (.iand, 1) := by decide +kernel
theorem dX12_image_22 : decode cX12_image 22 = .ok (.iconst 1, 1) := by decide +kernel
theorem dX12_image_23 : decode cX12_image 23 = .ok (.if_icmp .ne 16, 3) := by decide +kernel
theorem dX12_image_26 : decode cX12_image 26 = .ok (.aload_n 0, 1) := by decide +kernel
theorem dX12_image_27 : decode cX12_image 27 = .ok (.getfield 7, 3) := by decide +kernel
theorem dX12_image_30 : decode cX12_image 30 = .ok (.iconst 0, 1) := by decide +kernel
theorem dX12_image_31 : decode cX12_image 31 = .ok (.iaload, 1) := by decide +kernel
theorem dX12_image_32 : decode cX12_image 32 = .ok (.iconst 1, 1) := by decide +kernel
theorem dX12_image_33 : decode cX12_image 33 = .ok (.isub, 1) := by decide +kernel
theorem dX12_image_34 : decode cX12_image 34 = .ok (.iload_n 3, 1) := by decide +kernel
theorem dX12_image_35 : decode cX12_image 35 = .ok (.isub, 1) := by decide +kernel
theorem dX12_image_36 : decode cX12_image 36 = .ok (.goto 4, 3) := by decide +kernel
theorem dX12_image_39 : decode cX12_image 39 = .ok (.iload_n 3, 1) := by decide +kernel
theorem dX12_image_40 : decode cX12_image 40 = .ok (.istore_n 3, 1) := by decide +kernel
theorem dX12_image_41 : decode cX12_image 41 = .ok (.iload_n 1, 1) := by decide +kernel
theorem dX12_image_42 : decode cX12_image 42 = .ok (.iconst 2, 1) := by decide +kernel
theorem dX12_image_43 : decode cX12_image 43 = .ok (.iand, 1) := by decide +kernel
theorem dX12_image_44 : decode cX12_image 44 = .ok (.iconst 2, 1) := by decide +kernel
theorem dX12_image_45 : decode cX12_image 45 = .ok (.if_icmp .ne 17, 3) := by decide +kernel
theorem dX12_image_48 : decode cX12_image 48 = .ok (.aload_n 0, 1) := by decide +kernel
theorem dX12_image_49 : decode cX12_image 49 = .ok (.getfield 7, 3) := by decide +kernel
theorem dX12_image_52 : decode cX12_image 52 = .ok (.iconst 1, 1) := by decide +kernel
theorem dX12_image_53 : decode cX12_image 53 = .ok (.iaload, 1) := by decide +kernel
theorem dX12_image_54 : decode cX12_image 54 = .ok (.iconst 1, 1) := by decide +kernel
theorem dX12_image_55 : decode cX12_image 55 = .ok (.isub, 1) := by decide +kernel
theorem dX12_image_56 : decode cX12_image 56 = .ok (.iload 4, 2) := by decide +kernel
theorem dX12_image_58 : decode cX12_image 58 = .ok (.isub, 1) := by decide +kernel
theorem dX12_image_59 : decode cX12_image 59 = .ok (.goto 5, 3) := by decide +kernel
theorem dX12_image_62 : decode cX12_image 62 = .ok (.iload 4, 2) := by decide +kernel
theorem dX12_image_64 : decode cX12_image 64 = .ok (.istore 4, 2) := by decide +kernel
theorem dX12_image_66 : decode cX12_image 66 = .ok (.iload_n 1, 1) := by decide +kernel
theorem dX12_image_67 : decode cX12_image 67 = .ok (.iconst 4, 1) := by decide +kernel
theorem dX12_image_68 : decode cX12_image 68 = .ok (.iand, 1) := by decide +kernel
theorem dX12_image_69 : decode cX12_image 69 = .ok (.iconst 4, 1) := by decide +kernel
theorem dX12_image_70 : decode cX12_image 70 = .ok (.if_icmp .ne 17, 3) := by decide +kernel
theorem dX12_image_73 : decode cX12_image 73 = .ok (.iload_n 3, 1) := by decide +kernel
theorem dX12_image_74 : decode cX12_image 74 = .ok (.aload_n 0, 1) := by decide +kernel
theorem dX12_image_75 : decode cX12_image 75 = .ok (.getfield 7, 3) := by decide +kernel
theorem dX12_image_78 : decode cX12_image 78 = .ok (.iconst 0, 1) := by decide +kernel
theorem dX12_image_79 : decode cX12_image 79 = .ok (.iaload, 1) := by decide +kernel
theorem dX12_image_80 : decode cX12_image 80 = .ok (.imul, 1) := by decide +kernel
theorem dX12_image_81 : decode cX12_image 81 = .ok (.iload 4, 2) := by decide +kernel
theorem dX12_image_83 : decode cX12_image 83 = .ok (.iadd, 1) := by decide +kernel
theorem dX12_image_84 : decode cX12_image 84 = .ok (.goto 14, 3) := by decide +kernel
theorem dX12_image_87 : decode cX12_image 87 = .ok (.iload 4, 2) := by decide +kernel
theorem dX12_image_89 : decode cX12_image 89 = .ok (.aload_n 0, 1) := by decide +kernel
theorem dX12_image_90 : decode cX12_image 90 = .ok (.getfield 7, 3) := by decide +kernel
theorem dX12_image_93 : decode cX12_image 93 = .ok (.iconst 0, 1) := by decide +kernel
theorem dX12_image_94 : decode cX12_image 94 = .ok (.iaload, 1) := by decide +kernel
theorem dX12_image_95 : decode cX12_image 95 = .ok (.imul, 1) := by decide +kernel
theorem dX12_image_96 : decode cX12_image 96 = .ok (.iload_n 3, 1) := by decide +kernel
theorem dX12_image_97 : decode cX12_image 97 = .ok (.iadd, 1) := by decide +kernel
theorem dX12_image_98 : decode cX12_image 98 = .ok (.ireturn, 1) := by decide +kernel
theorem dX12_isSymmetry_0 : decode cX12_isSymmetry 0 = .ok (.iload_n 1, 1) := by decide +kernel
theorem dX12_isSymmetry_1 : decode cX12_isSymmetry 1 = .ok (.iconst 4, 1) := by decide +kernel
theorem dX12_isSymmetry_2 : decode cX12_isSymmetry 2 = .ok (.if_icmp .lt 18, 3) := by decide +kernel
theorem dX12_isSymmetry_5 : decode cX12_isSymmetry 5 = .ok (.aload_n 0, 1) := by decide +kernel
theorem dX12_isSymmetry_6 : decode cX12_isSymmetry 6 = .ok (.getfield 7, 3) := by decide +kernel
theorem dX12_isSymmetry_9 : decode cX12_isSymmetry 9 = .ok (.iconst 0, 1) := by decide +kernel
theorem dX12_isSymmetry_10 : decode cX12_isSymmetry 10 = .ok (.iaload, 1) := by decide +kernel
theorem dX12_isSymmetry_11 : decode cX12_isSymmetry 11 = .ok (.aload_n 0, 1) := by decide +kernel
theorem dX12_isSymmetry_12 : decode cX12_isSymmetry 12 = .ok (.getfield 7, 3) := by decide +kernel
theorem dX12_isSymmetry_15 : decode cX12_isSymmetry 15 = .ok (.iconst 1, 1) := by decide +kernel
theorem dX12_isSymmetry_16 : decode cX12_isSymmetry 16 = .ok (.iaload, 1) := by decide +kernel
theorem dX12_isSymmetry_17 : decode cX12_isSymmetry 17 = .ok (.if_icmp .ne 7, 3) := by decide +kernel
theorem dX12_isSymmetry_20 : decode cX12_isSymmetry 20 = .ok (.iconst 1, 1) := by decide +kernel
theorem dX12_isSymmetry_21 : decode cX12_isSymmetry 21 = .ok (.goto 4, 3) := by decide +kernel
theorem dX12_isSymmetry_24 : decode cX12_isSymmetry 24 = .ok (.iconst 0, 1) := by decide +kernel
theorem dX12_isSymmetry_25 : decode cX12_isSymmetry 25 = .ok (.istore_n 2, 1) := by decide +kernel
theorem dX12_isSymmetry_26 : decode cX12_isSymmetry 26 = .ok (.iconst 0, 1) := by decide +kernel
theorem dX12_isSymmetry_27 : decode cX12_isSymmetry 27 = .ok (.istore_n 3, 1) := by decide +kernel
theorem dX12_isSymmetry_28 : decode cX12_isSymmetry 28 = .ok (.iload_n 3, 1) := by decide +kernel
theorem dX12_isSymmetry_29 : decode cX12_isSymmetry 29 = .ok (.aload_n 0, 1) := by decide +kernel
theorem dX12_isSymmetry_30 : decode cX12_isSymmetry 30 = .ok (.invokevirtual 68, 3) := by decide +kernel
theorem dX12_isSymmetry_33 : decode cX12_isSymmetry 33 = .ok (.if_icmp .ge 43, 3) := by decide +kernel
theorem dX12_isSymmetry_36 : decode cX12_isSymmetry 36 = .ok (.iload_n 2, 1) := by decide +kernel
theorem dX12_isSymmetry_37 : decode cX12_isSymmetry 37 = .ok (.ifCond .eq 39, 3) := by decide +kernel
theorem dX12_isSymmetry_40 : decode cX12_isSymmetry 40 = .ok (.aload_n 0, 1) := by decide +kernel
theorem dX12_isSymmetry_41 : decode cX12_isSymmetry 41 = .ok (.getfield 7, 3) := by decide +kernel
theorem dX12_isSymmetry_44 : decode cX12_isSymmetry 44 = .ok (.iconst 5, 1) := by decide +kernel
theorem dX12_isSymmetry_45 : decode cX12_isSymmetry 45 = .ok (.iload_n 3, 1) := by decide +kernel
theorem dX12_isSymmetry_46 : decode cX12_isSymmetry 46 = .ok (.iadd, 1) := by decide +kernel
theorem dX12_isSymmetry_47 : decode cX12_isSymmetry 47 = .ok (.iaload, 1) := by decide +kernel
theorem dX12_isSymmetry_48 : decode cX12_isSymmetry 48 = .ok (.aload_n 0, 1) := by decide +kernel
theorem dX12_isSymmetry_49 : decode cX12_isSymmetry 49 = .ok (.getfield 7, 3) := by decide +kernel
theorem dX12_isSymmetry_52 : decode cX12_isSymmetry 52 = .ok (.iconst 5, 1) := by decide +kernel
theorem dX12_isSymmetry_53 : decode cX12_isSymmetry 53 = .ok (.aload_n 0, 1) := by decide +kernel
theorem dX12_isSymmetry_54 : decode cX12_isSymmetry 54 = .ok (.iload_n 1, 1) := by decide +kernel
theorem dX12_isSymmetry_55 : decode cX12_isSymmetry 55 = .ok (.iload_n 3, 1) := by decide +kernel
theorem dX12_isSymmetry_56 : decode cX12_isSymmetry 56 = .ok (.invokevirtual 271, 3) := by decide +kernel
theorem dX12_isSymmetry_59 : decode cX12_isSymmetry 59 = .ok (.iadd, 1) := by decide +kernel
theorem dX12_isSymmetry_60 : decode cX12_isSymmetry 60 = .ok (.iaload, 1) := by decide +kernel
theorem dX12_isSymmetry_61 : decode cX12_isSymmetry 61 = .ok (.if_icmp .ne 7, 3) := by decide +kernel
theorem dX12_isSymmetry_64 : decode cX12_isSymmetry 64 = .ok (.iconst 1, 1) := by decide +kernel
theorem dX12_isSymmetry_65 : decode cX12_isSymmetry 65 = .ok (.goto 4, 3) := by decide +kernel
theorem dX12_isSymmetry_68 : decode cX12_isSymmetry 68 = .ok (.iconst 0, 1) := by decide +kernel
theorem dX12_isSymmetry_69 : decode cX12_isSymmetry 69 = .ok (.istore_n 2, 1) := by decide +kernel
theorem dX12_isSymmetry_70 : decode cX12_isSymmetry 70 = .ok (.iinc 3 1, 3) := by decide +kernel
theorem dX12_isSymmetry_73 : decode cX12_isSymmetry 73 = .ok (.goto (-45), 3) := by decide +kernel
theorem dX12_isSymmetry_76 : decode cX12_isSymmetry 76 = .ok (.iload_n 2, 1) := by decide +kernel
theorem dX12_isSymmetry_77 : decode cX12_isSymmetry 77 = .ok (.ireturn, 1) := by decide +kernel
theorem dX12_labels_0 : decode cX12_labels 0 = .ok (.sipush 324, 3) := by decide +kernel
theorem dX12_labels_3 : decode cX12_labels 3 = .ok (.iload_n 1, 1) := by decide +kernel
theorem dX12_labels_4 : decode cX12_labels 4 = .ok (.imul, 1) := by decide +kernel
theorem dX12_labels_5 : decode cX12_labels 5 = .ok (.bipush 36, 2) := by decide +kernel
theorem dX12_labels_7 : decode cX12_labels 7 = .ok (.iload_n 2, 1) := by decide +kernel
theorem dX12_labels_8 : decode cX12_labels 8 = .ok (.imul, 1) := by decide +kernel
theorem dX12_labels_9 : decode cX12_labels 9 = .ok (.iadd, 1) := by decide +kernel
theorem dX12_labels_10 : decode cX12_labels 10 = .ok (.istore_n 3, 1) := by decide +kernel
theorem dX12_labels_11 : decode cX12_labels 11 = .ok (.iconst 0, 1) := by decide +kernel
theorem dX12_labels_12 : decode cX12_labels 12 = .ok (.istore 4, 2) := by decide +kernel
theorem dX12_labels_14 : decode cX12_labels 14 = .ok (.iload 4, 2) := by decide +kernel
theorem dX12_labels_16 : decode cX12_labels 16 = .ok (.aload_n 0, 1) := by decide +kernel
theorem dX12_labels_17 : decode cX12_labels 17 = .ok (.getfield 218, 3) := by decide +kernel
theorem dX12_labels_20 : decode cX12_labels 20 = .ok (.if_icmp .ge 160, 3) := by decide +kernel
theorem dX12_labels_23 : decode cX12_labels 23 = .ok (.bipush 36, 2) := by decide +kernel
theorem dX12_labels_25 : decode cX12_labels 25 = .ok (.istore 5, 2) := by decide +kernel
theorem dX12_labels_27 : decode cX12_labels 27 = .ok (.iconst 0, 1) := by decide +kernel
theorem dX12_labels_28 : decode cX12_labels 28 = .ok (.istore 6, 2) := by decide +kernel
theorem dX12_labels_30 : decode cX12_labels 30 = .ok (.iload 6, 2) := by decide +kernel
theorem dX12_labels_32 : decode cX12_labels 32 = .ok (.aload_n 0, 1) := by decide +kernel
theorem dX12_labels_33 : decode cX12_labels 33 = .ok (.invokevirtual 68, 3) := by decide +kernel
theorem dX12_labels_36 : decode cX12_labels 36 = .ok (.if_icmp .ge 61, 3) := by decide +kernel
theorem dX12_labels_39 : decode cX12_labels 39 = .ok (.iload_n 2, 1) := by decide +kernel
theorem dX12_labels_40 : decode cX12_labels 40 = .ok (.bipush 8, 2) := by decide +kernel
theorem dX12_labels_42 : decode cX12_labels 42 = .ok (.if_icmp .ne 8, 3) := by decide +kernel
theorem dX12_labels_45 : decode cX12_labels 45 = .ok (.iload 6, 2) := by decide +kernel
theorem dX12_labels_47 : decode cX12_labels 47 = .ok (.goto 10, 3) := by decide +kernel
theorem dX12_labels_50 : decode cX12_labels 50 = .ok (.aload_n 0, 1) := by decide +kernel
theorem dX12_labels_51 : decode cX12_labels 51 = .ok (.iload_n 2, 1) := by decide +kernel
theorem dX12_labels_52 : decode cX12_labels 52 = .ok (.iload 6, 2) := by decide +kernel
theorem dX12_labels_54 : decode cX12_labels 54 = .ok (.invokevirtual 271, 3) := by decide +kernel
theorem dX12_labels_57 : decode cX12_labels 57 = .ok (.istore 7, 2) := by decide +kernel
theorem dX12_labels_59 : decode cX12_labels 59 = .ok (.aload_n 0, 1) := by decide +kernel
theorem dX12_labels_60 : decode cX12_labels 60 = .ok (.aload_n 0, 1) := by decide +kernel
theorem dX12_labels_61 : decode cX12_labels 61 = .ok (.getfield 45, 3) := by decide +kernel
theorem dX12_labels_64 : decode cX12_labels 64 = .ok (.iload 4, 2) := by decide +kernel
theorem dX12_labels_66 : decode cX12_labels 66 = .ok (.iaload, 1) := by decide +kernel
theorem dX12_labels_67 : decode cX12_labels 67 = .ok (.iload 6, 2) := by decide +kernel
theorem dX12_labels_69 : decode cX12_labels 69 = .ok (.invokevirtual 152, 3) := by decide +kernel
theorem dX12_labels_72 : decode cX12_labels 72 = .ok (.ifCond .eq 15, 3) := by decide +kernel
theorem dX12_labels_75 : decode cX12_labels 75 = .ok (.iload 7, 2) := by decide +kernel
theorem dX12_labels_77 : decode cX12_labels 77 = .ok (.iload 5, 2) := by decide +kernel
theorem dX12_labels_79 : decode cX12_labels 79 = .ok (.if_icmp .ge 8, 3) := by decide +kernel
theorem dX12_labels_82 : decode cX12_labels 82 = .ok (.iload 7, 2) := by decide +kernel
theorem dX12_labels_84 : decode cX12_labels 84 = .ok (.goto 5, 3) := by decide +kernel
theorem dX12_labels_87 : decode cX12_labels 87 = .ok (.iload 5, 2) := by decide +kernel
theorem dX12_labels_89 : decode cX12_labels 89 = .ok (.istore 5, 2) := by decide +kernel
theorem dX12_labels_91 : decode cX12_labels 91 = .ok (.iinc 6 1, 3) := by decide +kernel
theorem dX12_labels_94 : decode cX12_labels 94 = .ok (.goto (-64), 3) := by decide +kernel
theorem dX12_labels_97 : decode cX12_labels 97 = .ok (.iconst 0, 1) := by decide +kernel
theorem dX12_labels_98 : decode cX12_labels 98 = .ok (.istore 6, 2) := by decide +kernel
theorem dX12_labels_100 : decode cX12_labels 100 = .ok (.iload 6, 2) := by decide +kernel
theorem dX12_labels_102 : decode cX12_labels 102 = .ok (.aload_n 0, 1) := by decide +kernel
theorem dX12_labels_103 : decode cX12_labels 103 = .ok (.invokevirtual 68, 3) := by decide +kernel
theorem dX12_labels_106 : decode cX12_labels 106 = .ok (.if_icmp .ge 68, 3) := by decide +kernel
theorem dX12_labels_109 : decode cX12_labels 109 = .ok (.aload_n 0, 1) := by decide +kernel
theorem dX12_labels_110 : decode cX12_labels 110 = .ok (.aload_n 0, 1) := by decide +kernel
theorem dX12_labels_111 : decode cX12_labels 111 = .ok (.getfield 45, 3) := by decide +kernel
theorem dX12_labels_114 : decode cX12_labels 114 = .ok (.iload 4, 2) := by decide +kernel
theorem dX12_labels_116 : decode cX12_labels 116 = .ok (.iaload, 1) := by decide +kernel
theorem dX12_labels_117 : decode cX12_labels 117 = .ok (.iload 6, 2) := by decide +kernel
theorem dX12_labels_119 : decode cX12_labels 119 = .ok (.invokevirtual 152, 3) := by decide +kernel
theorem dX12_labels_122 : decode cX12_labels 122 = .ok (.ifCond .eq 46, 3) := by decide +kernel
theorem dX12_labels_125 : decode cX12_labels 125 = .ok (.aload_n 0, 1) := by decide +kernel
theorem dX12_labels_126 : decode cX12_labels 126 = .ok (.getfield 57, 3) := by decide +kernel
theorem dX12_labels_129 : decode cX12_labels 129 = .ok (.iload_n 3, 1) := by decide +kernel
theorem dX12_labels_130 : decode cX12_labels 130 = .ok (.iload_n 2, 1) := by decide +kernel
theorem dX12_labels_131 : decode cX12_labels 131 = .ok (.bipush 8, 2) := by decide +kernel
theorem dX12_labels_133 : decode cX12_labels 133 = .ok (.if_icmp .ne 8, 3) := by decide +kernel
theorem dX12_labels_136 : decode cX12_labels 136 = .ok (.iload 6, 2) := by decide +kernel
theorem dX12_labels_138 : decode cX12_labels 138 = .ok (.goto 10, 3) := by decide +kernel
theorem dX12_labels_141 : decode cX12_labels 141 = .ok (.aload_n 0, 1) := by decide +kernel
theorem dX12_labels_142 : decode cX12_labels 142 = .ok (.iload_n 2, 1) := by decide +kernel
theorem dX12_labels_143 : decode cX12_labels 143 = .ok (.iload 6, 2) := by decide +kernel
theorem dX12_labels_145 : decode cX12_labels 145 = .ok (.invokevirtual 271, 3) := by decide +kernel
theorem dX12_labels_148 : decode cX12_labels 148 = .ok (.iadd, 1) := by decide +kernel
theorem dX12_labels_149 : decode cX12_labels 149 = .ok (.bipush 64, 2) := by decide +kernel
theorem dX12_labels_151 : decode cX12_labels 151 = .ok (.aload_n 0, 1) := by decide +kernel
theorem dX12_labels_152 : decode cX12_labels 152 = .ok (.getfield 23, 3) := by decide +kernel
theorem dX12_labels_155 : decode cX12_labels 155 = .ok (.aload_n 0, 1) := by decide +kernel
theorem dX12_labels_156 : decode cX12_labels 156 = .ok (.getfield 45, 3) := by decide +kernel
theorem dX12_labels_159 : decode cX12_labels 159 = .ok (.iload 4, 2) := by decide +kernel
theorem dX12_labels_161 : decode cX12_labels 161 = .ok (.iaload, 1) := by decide +kernel
theorem dX12_labels_162 : decode cX12_labels 162 = .ok (.iaload, 1) := by decide +kernel
theorem dX12_labels_163 : decode cX12_labels 163 = .ok (.imul, 1) := by decide +kernel
theorem dX12_labels_164 : decode cX12_labels 164 = .ok (.iload 5, 2) := by decide +kernel
theorem dX12_labels_166 : decode cX12_labels 166 = .ok (.iadd, 1) := by decide +kernel
theorem dX12_labels_167 : decode cX12_labels 167 = .ok (.iastore, 1) := by decide +kernel
theorem dX12_labels_168 : decode cX12_labels 168 = .ok (.iinc 6 1, 3) := by decide +kernel
theorem dX12_labels_171 : decode cX12_labels 171 = .ok (.goto (-71), 3) := by decide +kernel
theorem dX12_labels_174 : decode cX12_labels 174 = .ok (.iinc 4 1, 3) := by decide +kernel
theorem dX12_labels_177 : decode cX12_labels 177 = .ok (.goto (-163), 3) := by decide +kernel
theorem dX12_labels_180 : decode cX12_labels 180 = .ok (.return_, 1) := by decide +kernel
theorem dX12_labelsAll_0 : decode cX12_labelsAll 0 = .ok (.iconst 0, 1) := by decide +kernel
theorem dX12_labelsAll_1 : decode cX12_labelsAll 1 = .ok (.istore_n 2, 1) := by decide +kernel
theorem dX12_labelsAll_2 : decode cX12_labelsAll 2 = .ok (.iload_n 2, 1) := by decide +kernel
theorem dX12_labelsAll_3 : decode cX12_labelsAll 3 = .ok (.bipush 9, 2) := by decide +kernel
theorem dX12_labelsAll_5 : decode cX12_labelsAll 5 = .ok (.if_icmp .ge 29, 3) := by decide +kernel
theorem dX12_labelsAll_8 : decode cX12_labelsAll 8 = .ok (.iload_n 2, 1) := by decide +kernel
theorem dX12_labelsAll_9 : decode cX12_labelsAll 9 = .ok (.bipush 8, 2) := by decide +kernel
theorem dX12_labelsAll_11 : decode cX12_labelsAll 11 = .ok (.if_icmp .eq 11, 3) := by decide +kernel
theorem dX12_labelsAll_14 : decode cX12_labelsAll 14 = .ok (.aload_n 0, 1) := by decide +kernel
theorem dX12_labelsAll_15 : decode cX12_labelsAll 15 = .ok (.iload_n 2, 1) := by decide +kernel
theorem dX12_labelsAll_16 : decode cX12_labelsAll 16 = .ok (.invokevirtual 146, 3) := by decide +kernel
theorem dX12_labelsAll_19 : decode cX12_labelsAll 19 = .ok (.ifCond .eq 9, 3) := by decide +kernel
theorem dX12_labelsAll_22 : decode cX12_labelsAll 22 = .ok (.aload_n 0, 1) := by decide +kernel
theorem dX12_labelsAll_23 : decode cX12_labelsAll 23 = .ok (.iload_n 1, 1) := by decide +kernel
theorem dX12_labelsAll_24 : decode cX12_labelsAll 24 = .ok (.iload_n 2, 1) := by decide +kernel
theorem dX12_labelsAll_25 : decode cX12_labelsAll 25 = .ok (.invokevirtual 274, 3) := by decide +kernel
theorem dX12_labelsAll_28 : decode cX12_labelsAll 28 = .ok (.iinc 2 1, 3) := by decide +kernel
theorem dX12_labelsAll_31 : decode cX12_labelsAll 31 = .ok (.goto (-29), 3) := by decide +kernel
theorem dX12_labelsAll_34 : decode cX12_labelsAll 34 = .ok (.return_, 1) := by decide +kernel
theorem dX12_areAlike_0 : decode cX12_areAlike 0 = .ok (.iconst 0, 1) := by decide +kernel
theorem dX12_areAlike_1 : decode cX12_areAlike 1 = .ok (.istore_n 3, 1) := by decide +kernel
theorem dX12_areAlike_2 : decode cX12_areAlike 2 = .ok (.iconst 0, 1) := by decide +kernel
theorem dX12_areAlike_3 : decode cX12_areAlike 3 = .ok (.istore 4, 2) := by decide +kernel
theorem dX12_areAlike_5 : decode cX12_areAlike 5 = .ok (.iload 4, 2) := by decide +kernel
theorem dX12_areAlike_7 : decode cX12_areAlike 7 = .ok (.bipush 8, 2) := by decide +kernel
theorem dX12_areAlike_9 : decode cX12_areAlike 9 = .ok (.if_icmp .ge 102, 3) := by decide +kernel
theorem dX12_areAlike_12 : decode cX12_areAlike 12 = .ok (.iload_n 3, 1) := by decide +kernel
theorem dX12_areAlike_13 : decode cX12_areAlike 13 = .ok (.ifCond .ne 98, 3) := by decide +kernel
theorem dX12_areAlike_16 : decode cX12_areAlike 16 = .ok (.aload_n 0, 1) := by decide +kernel
theorem dX12_areAlike_17 : decode cX12_areAlike 17 = .ok (.iload 4, 2) := by decide +kernel
theorem dX12_areAlike_19 : decode cX12_areAlike 19 = .ok (.invokevirtual 146, 3) := by decide +kernel
theorem dX12_areAlike_22 : decode cX12_areAlike 22 = .ok (.istore 5, 2) := by decide +kernel
theorem dX12_areAlike_24 : decode cX12_areAlike 24 = .ok (.iconst 0, 1) := by decide +kernel
theorem dX12_areAlike_25 : decode cX12_areAlike 25 = .ok (.istore 6, 2) := by decide +kernel
theorem dX12_areAlike_27 : decode cX12_areAlike 27 = .ok (.iload 6, 2) := by decide +kernel
theorem dX12_areAlike_29 : decode cX12_areAlike 29 = .ok (.aload_n 0, 1) := by decide +kernel
theorem dX12_areAlike_30 : decode cX12_areAlike 30 = .ok (.invokevirtual 68, 3) := by decide +kernel
theorem dX12_areAlike_33 : decode cX12_areAlike 33 = .ok (.if_icmp .ge 69, 3) := by decide +kernel
theorem dX12_areAlike_36 : decode cX12_areAlike 36 = .ok (.iload 5, 2) := by decide +kernel
theorem dX12_areAlike_38 : decode cX12_areAlike 38 = .ok (.ifCond .eq 64, 3) := by decide +kernel
theorem dX12_areAlike_41 : decode cX12_areAlike 41 = .ok (.aload_n 0, 1) := by decide +kernel
theorem dX12_areAlike_42 : decode cX12_areAlike 42 = .ok (.iload 6, 2) := by decide +kernel
theorem dX12_areAlike_44 : decode cX12_areAlike 44 = .ok (.invokevirtual 76, 3) := by decide +kernel
theorem dX12_areAlike_47 : decode cX12_areAlike 47 = .ok (.ifCond .eq 42, 3) := by decide +kernel
theorem dX12_areAlike_50 : decode cX12_areAlike 50 = .ok (.aload_n 0, 1) := by decide +kernel
theorem dX12_areAlike_51 : decode cX12_areAlike 51 = .ok (.getfield 57, 3) := by decide +kernel
theorem dX12_areAlike_54 : decode cX12_areAlike 54 = .ok (.sipush 324, 3) := by decide +kernel
theorem dX12_areAlike_57 : decode cX12_areAlike 57 = .ok (.iload_n 1, 1) := by decide +kernel
theorem dX12_areAlike_58 : decode cX12_areAlike 58 = .ok (.imul, 1) := by decide +kernel
theorem dX12_areAlike_59 : decode cX12_areAlike 59 = .ok (.bipush 36, 2) := by decide +kernel
theorem dX12_areAlike_61 : decode cX12_areAlike 61 = .ok (.iload 4, 2) := by decide +kernel
theorem dX12_areAlike_63 : decode cX12_areAlike 63 = .ok (.imul, 1) := by decide +kernel
theorem dX12_areAlike_64 : decode cX12_areAlike 64 = .ok (.iadd, 1) := by decide +kernel
theorem dX12_areAlike_65 : decode cX12_areAlike 65 = .ok (.iload 6, 2) := by decide +kernel
theorem dX12_areAlike_67 : decode cX12_areAlike 67 = .ok (.iadd, 1) := by decide +kernel
theorem dX12_areAlike_68 : decode cX12_areAlike 68 = .ok (.iaload, 1) := by decide +kernel
theorem dX12_areAlike_69 : decode cX12_areAlike 69 = .ok (.aload_n 0, 1) := by decide +kernel
theorem dX12_areAlike_70 : decode cX12_areAlike 70 = .ok (.getfield 57, 3) := by decide +kernel
theorem dX12_areAlike_73 : decode cX12_areAlike 73 = .ok (.sipush 324, 3) := by decide +kernel
theorem dX12_areAlike_76 : decode cX12_areAlike 76 = .ok (.iload_n 2, 1) := by decide +kernel
theorem dX12_areAlike_77 : decode cX12_areAlike 77 = .ok (.imul, 1) := by decide +kernel
theorem dX12_areAlike_78 : decode cX12_areAlike 78 = .ok (.sipush 288, 3) := by decide +kernel
theorem dX12_areAlike_81 : decode cX12_areAlike 81 = .ok (.iadd, 1) := by decide +kernel
theorem dX12_areAlike_82 : decode cX12_areAlike 82 = .ok (.iload 6, 2) := by decide +kernel
theorem dX12_areAlike_84 : decode cX12_areAlike 84 = .ok (.iadd, 1) := by decide +kernel
theorem dX12_areAlike_85 : decode cX12_areAlike 85 = .ok (.iaload, 1) := by decide +kernel
theorem dX12_areAlike_86 : decode cX12_areAlike 86 = .ok (.if_icmp .ne 7, 3) := by decide +kernel
theorem dX12_areAlike_89 : decode cX12_areAlike 89 = .ok (.iconst 1, 1) := by decide +kernel
theorem dX12_areAlike_90 : decode cX12_areAlike 90 = .ok (.goto 4, 3) := by decide +kernel
theorem dX12_areAlike_93 : decode cX12_areAlike 93 = .ok (.iconst 0, 1) := by decide +kernel
theorem dX12_areAlike_94 : decode cX12_areAlike 94 = .ok (.istore 5, 2) := by decide +kernel
theorem dX12_areAlike_96 : decode cX12_areAlike 96 = .ok (.iinc 6 1, 3) := by decide +kernel
theorem dX12_areAlike_99 : decode cX12_areAlike 99 = .ok (.goto (-72), 3) := by decide +kernel
theorem dX12_areAlike_102 : decode cX12_areAlike 102 = .ok (.iload 5, 2) := by decide +kernel
theorem dX12_areAlike_104 : decode cX12_areAlike 104 = .ok (.istore_n 3, 1) := by decide +kernel
theorem dX12_areAlike_105 : decode cX12_areAlike 105 = .ok (.iinc 4 1, 3) := by decide +kernel
theorem dX12_areAlike_108 : decode cX12_areAlike 108 = .ok (.goto (-103), 3) := by decide +kernel
theorem dX12_areAlike_111 : decode cX12_areAlike 111 = .ok (.iload_n 3, 1) := by decide +kernel
theorem dX12_areAlike_112 : decode cX12_areAlike 112 = .ok (.ireturn, 1) := by decide +kernel
theorem dX12_classes_0 : decode cX12_classes 0 = .ok (.aload_n 0, 1) := by decide +kernel
theorem dX12_classes_1 : decode cX12_classes 1 = .ok (.invokevirtual 265, 3) := by decide +kernel
theorem dX12_classes_4 : decode cX12_classes 4 = .ok (.aload_n 0, 1) := by decide +kernel
theorem dX12_classes_5 : decode cX12_classes 5 = .ok (.getfield 227, 3) := by decide +kernel
theorem dX12_classes_8 : decode cX12_classes 8 = .ok (.ifCond .eq 6, 3) := by decide +kernel
theorem dX12_classes_11 : decode cX12_classes 11 = .ok (.bipush (-4), 2) := by decide +kernel
theorem dX12_classes_13 : decode cX12_classes 13 = .ok (.ireturn, 1) := by decide +kernel
theorem dX12_classes_14 : decode cX12_classes 14 = .ok (.aload_n 0, 1) := by decide +kernel
theorem dX12_classes_15 : decode cX12_classes 15 = .ok (.getfield 224, 3) := by decide +kernel
theorem dX12_classes_18 : decode cX12_classes 18 = .ok (.bipush 100, 2) := by decide +kernel
theorem dX12_classes_20 : decode cX12_classes 20 = .ok (.if_icmp .le 6, 3) := by decide +kernel
theorem dX12_classes_23 : decode cX12_classes 23 = .ok (.bipush (-3), 2) := by decide +kernel
theorem dX12_classes_25 : decode cX12_classes 25 = .ok (.ireturn, 1) := by decide +kernel
theorem dX12_classes_26 : decode cX12_classes 26 = .ok (.aload_n 0, 1) := by decide +kernel
theorem dX12_classes_27 : decode cX12_classes 27 = .ok (.invokevirtual 256, 3) := by decide +kernel
theorem dX12_classes_30 : decode cX12_classes 30 = .ok (.iconst 0, 1) := by decide +kernel
theorem dX12_classes_31 : decode cX12_classes 31 = .ok (.istore_n 1, 1) := by decide +kernel
theorem dX12_classes_32 : decode cX12_classes 32 = .ok (.aload_n 0, 1) := by decide +kernel
theorem dX12_classes_33 : decode cX12_classes 33 = .ok (.invokevirtual 259, 3) := by decide +kernel
theorem dX12_classes_36 : decode cX12_classes 36 = .ok (.ifCond .eq 72, 3) := by decide +kernel
theorem dX12_classes_39 : decode cX12_classes 39 = .ok (.aload_n 0, 1) := by decide +kernel
theorem dX12_classes_40 : decode cX12_classes 40 = .ok (.aload_n 0, 1) := by decide +kernel
theorem dX12_classes_41 : decode cX12_classes 41 = .ok (.getfield 224, 3) := by decide +kernel
theorem dX12_classes_44 : decode cX12_classes 44 = .ok (.iconst 1, 1) := by decide +kernel
theorem dX12_classes_45 : decode cX12_classes 45 = .ok (.isub, 1) := by decide +kernel
theorem dX12_classes_46 : decode cX12_classes 46 = .ok (.invokevirtual 277, 3) := by decide +kernel
theorem dX12_classes_49 : decode cX12_classes 49 = .ok (.iconst 1, 1) := by decide +kernel
theorem dX12_classes_50 : decode cX12_classes 50 = .ok (.istore_n 2, 1) := by decide +kernel
theorem dX12_classes_51 : decode cX12_classes 51 = .ok (.iconst 0, 1) := by decide +kernel
theorem dX12_classes_52 : decode cX12_classes 52 = .ok (.istore_n 3, 1) := by decide +kernel
theorem dX12_classes_53 : decode cX12_classes 53 = .ok (.iload_n 3, 1) := by decide +kernel
theorem dX12_classes_54 : decode cX12_classes 54 = .ok (.iconst 1, 1) := by decide +kernel
theorem dX12_classes_55 : decode cX12_classes 55 = .ok (.iadd, 1) := by decide +kernel
theorem dX12_classes_56 : decode cX12_classes 56 = .ok (.aload_n 0, 1) := by decide +kernel
theorem dX12_classes_57 : decode cX12_classes 57 = .ok (.getfield 224, 3) := by decide +kernel
theorem dX12_classes_60 : decode cX12_classes 60 = .ok (.if_icmp .ge 33, 3) := by decide +kernel
theorem dX12_classes_63 : decode cX12_classes 63 = .ok (.iload_n 2, 1) := by decide +kernel
theorem dX12_classes_64 : decode cX12_classes 64 = .ok (.ifCond .eq 29, 3) := by decide +kernel
theorem dX12_classes_67 : decode cX12_classes 67 = .ok (.aload_n 0, 1) := by decide +kernel
theorem dX12_classes_68 : decode cX12_classes 68 = .ok (.iload_n 3, 1) := by decide +kernel
theorem dX12_classes_69 : decode cX12_classes 69 = .ok (.aload_n 0, 1) := by decide +kernel
theorem dX12_classes_70 : decode cX12_classes 70 = .ok (.getfield 224, 3) := by decide +kernel
theorem dX12_classes_73 : decode cX12_classes 73 = .ok (.iconst 1, 1) := by decide +kernel
theorem dX12_classes_74 : decode cX12_classes 74 = .ok (.isub, 1) := by decide +kernel
theorem dX12_classes_75 : decode cX12_classes 75 = .ok (.invokevirtual 280, 3) := by decide +kernel
theorem dX12_classes_78 : decode cX12_classes 78 = .ok (.ifCond .ne 7, 3) := by decide +kernel
theorem dX12_classes_81 : decode cX12_classes 81 = .ok (.iconst 1, 1) := by decide +kernel
theorem dX12_classes_82 : decode cX12_classes 82 = .ok (.goto 4, 3) := by decide +kernel
theorem dX12_classes_85 : decode cX12_classes 85 = .ok (.iconst 0, 1) := by decide +kernel
theorem dX12_classes_86 : decode cX12_classes 86 = .ok (.istore_n 2, 1) := by decide +kernel
theorem dX12_classes_87 : decode cX12_classes 87 = .ok (.iinc 3 1, 3) := by decide +kernel
theorem dX12_classes_90 : decode cX12_classes 90 = .ok (.goto (-37), 3) := by decide +kernel
theorem dX12_classes_93 : decode cX12_classes 93 = .ok (.iload_n 1, 1) := by decide +kernel
theorem dX12_classes_94 : decode cX12_classes 94 = .ok (.iload_n 2, 1) := by decide +kernel
theorem dX12_classes_95 : decode cX12_classes 95 = .ok (.ifCond .eq 7, 3) := by decide +kernel
theorem dX12_classes_98 : decode cX12_classes 98 = .ok (.iconst 1, 1) := by decide +kernel
theorem dX12_classes_99 : decode cX12_classes 99 = .ok (.goto 4, 3) := by decide +kernel
theorem dX12_classes_102 : decode cX12_classes 102 = .ok (.iconst 0, 1) := by decide +kernel
theorem dX12_classes_103 : decode cX12_classes 103 = .ok (.iadd, 1) := by decide +kernel
theorem dX12_classes_104 : decode cX12_classes 104 = .ok (.istore_n 1, 1) := by decide +kernel
theorem dX12_classes_105 : decode cX12_classes 105 = .ok (.goto (-73), 3) := by decide +kernel
theorem dX12_classes_108 : decode cX12_classes 108 = .ok (.iload_n 1, 1) := by decide +kernel
theorem dX12_classes_109 : decode cX12_classes 109 = .ok (.ireturn, 1) := by decide +kernel
theorem dX12_alike_0 : decode cX12_alike 0 = .ok (.iload_n 1, 1) := by decide +kernel
theorem dX12_alike_1 : decode cX12_alike 1 = .ok (.ifCond .lt 7, 3) := by decide +kernel
theorem dX12_alike_4 : decode cX12_alike 4 = .ok (.iload_n 2, 1) := by decide +kernel
theorem dX12_alike_5 : decode cX12_alike 5 = .ok (.ifCond .ge 5, 3) := by decide +kernel
theorem dX12_alike_8 : decode cX12_alike 8 = .ok (.iconst (-1), 1) := by decide +kernel
theorem dX12_alike_9 : decode cX12_alike 9 = .ok (.ireturn, 1) := by decide +kernel
theorem dX12_alike_10 : decode cX12_alike 10 = .ok (.aload_n 0, 1) := by decide +kernel
theorem dX12_alike_11 : decode cX12_alike 11 = .ok (.iload_n 1, 1) := by decide +kernel
theorem dX12_alike_12 : decode cX12_alike 12 = .ok (.iload_n 2, 1) := by decide +kernel
theorem dX12_alike_13 : decode cX12_alike 13 = .ok (.if_icmp .le 7, 3) := by decide +kernel
theorem dX12_alike_16 : decode cX12_alike 16 = .ok (.iload_n 1, 1) := by decide +kernel
theorem dX12_alike_17 : decode cX12_alike 17 = .ok (.goto 4, 3) := by decide +kernel
theorem dX12_alike_20 : decode cX12_alike 20 = .ok (.iload_n 2, 1) := by decide +kernel
theorem dX12_alike_21 : decode cX12_alike 21 = .ok (.invokevirtual 268, 3) := by decide +kernel
theorem dX12_alike_24 : decode cX12_alike 24 = .ok (.istore_n 3, 1) := by decide +kernel
theorem dX12_alike_25 : decode cX12_alike 25 = .ok (.iload_n 3, 1) := by decide +kernel
theorem dX12_alike_26 : decode cX12_alike 26 = .ok (.ifCond .ge 5, 3) := by decide +kernel
theorem dX12_alike_29 : decode cX12_alike 29 = .ok (.iload_n 3, 1) := by decide +kernel
theorem dX12_alike_30 : decode cX12_alike 30 = .ok (.ireturn, 1) := by decide +kernel
theorem dX12_alike_31 : decode cX12_alike 31 = .ok (.aload_n 0, 1) := by decide +kernel
theorem dX12_alike_32 : decode cX12_alike 32 = .ok (.iconst 1, 1) := by decide +kernel
theorem dX12_alike_33 : decode cX12_alike 33 = .ok (.invokevirtual 277, 3) := by decide +kernel
theorem dX12_alike_36 : decode cX12_alike 36 = .ok (.aload_n 0, 1) := by decide +kernel
theorem dX12_alike_37 : decode cX12_alike 37 = .ok (.iload_n 1, 1) := by decide +kernel
theorem dX12_alike_38 : decode cX12_alike 38 = .ok (.iload_n 2, 1) := by decide +kernel
theorem dX12_alike_39 : decode cX12_alike 39 = .ok (.if_icmp .le 7, 3) := by decide +kernel
theorem dX12_alike_42 : decode cX12_alike 42 = .ok (.iload_n 2, 1) := by decide +kernel
theorem dX12_alike_43 : decode cX12_alike 43 = .ok (.goto 4, 3) := by decide +kernel
theorem dX12_alike_46 : decode cX12_alike 46 = .ok (.iload_n 1, 1) := by decide +kernel
theorem dX12_alike_47 : decode cX12_alike 47 = .ok (.invokevirtual 268, 3) := by decide +kernel
theorem dX12_alike_50 : decode cX12_alike 50 = .ok (.istore_n 3, 1) := by decide +kernel
theorem dX12_alike_51 : decode cX12_alike 51 = .ok (.aload_n 0, 1) := by decide +kernel
theorem dX12_alike_52 : decode cX12_alike 52 = .ok (.iconst 0, 1) := by decide +kernel
theorem dX12_alike_53 : decode cX12_alike 53 = .ok (.invokevirtual 277, 3) := by decide +kernel
theorem dX12_alike_56 : decode cX12_alike 56 = .ok (.iload_n 3, 1) := by decide +kernel
theorem dX12_alike_57 : decode cX12_alike 57 = .ok (.ifCond .ne 16, 3) := by decide +kernel
theorem dX12_alike_60 : decode cX12_alike 60 = .ok (.aload_n 0, 1) := by decide +kernel
theorem dX12_alike_61 : decode cX12_alike 61 = .ok (.iconst 0, 1) := by decide +kernel
theorem dX12_alike_62 : decode cX12_alike 62 = .ok (.iconst 1, 1) := by decide +kernel
theorem dX12_alike_63 : decode cX12_alike 63 = .ok (.invokevirtual 280, 3) := by decide +kernel
theorem dX12_alike_66 : decode cX12_alike 66 = .ok (.ifCond .eq 7, 3) := by decide +kernel
theorem dX12_alike_69 : decode cX12_alike 69 = .ok (.iconst 1, 1) := by decide +kernel
theorem dX12_alike_70 : decode cX12_alike 70 = .ok (.goto 4, 3) := by decide +kernel
theorem dX12_alike_73 : decode cX12_alike 73 = .ok (.iconst 0, 1) := by decide +kernel
theorem dX12_alike_74 : decode cX12_alike 74 = .ok (.ireturn, 1) := by decide +kernel
theorem dX12_isUseless_0 : decode cX12_isUseless 0 = .ok (.iconst 0, 1) := by decide +kernel
theorem dX12_isUseless_1 : decode cX12_isUseless 1 = .ok (.istore_n 2, 1) := by decide +kernel
theorem dX12_isUseless_2 : decode cX12_isUseless 2 = .ok (.iconst 0, 1) := by decide +kernel
theorem dX12_isUseless_3 : decode cX12_isUseless 3 = .ok (.istore_n 3, 1) := by decide +kernel
theorem dX12_isUseless_4 : decode cX12_isUseless 4 = .ok (.iload_n 3, 1) := by decide +kernel
theorem dX12_isUseless_5 : decode cX12_isUseless 5 = .ok (.aload_n 0, 1) := by decide +kernel
theorem dX12_isUseless_6 : decode cX12_isUseless 6 = .ok (.invokevirtual 68, 3) := by decide +kernel
theorem dX12_isUseless_9 : decode cX12_isUseless 9 = .ok (.if_icmp .ge 117, 3) := by decide +kernel
theorem dX12_isUseless_12 : decode cX12_isUseless 12 = .ok (.iload_n 2, 1) := by decide +kernel
theorem dX12_isUseless_13 : decode cX12_isUseless 13 = .ok (.ifCond .ne 113, 3) := by decide +kernel
theorem dX12_isUseless_16 : decode cX12_isUseless 16 = .ok (.aload_n 0, 1) := by decide +kernel
theorem dX12_isUseless_17 : decode cX12_isUseless 17 = .ok (.iload_n 3, 1) := by decide +kernel
theorem dX12_isUseless_18 : decode cX12_isUseless 18 = .ok (.invokevirtual 76, 3) := by decide +kernel
theorem dX12_isUseless_21 : decode cX12_isUseless 21 = .ok (.ifCond .eq 12, 3) := by decide +kernel
theorem dX12_isUseless_24 : decode cX12_isUseless 24 = .ok (.aload_n 0, 1) := by decide +kernel
theorem dX12_isUseless_25 : decode cX12_isUseless 25 = .ok (.iload_n 1, 1) := by decide +kernel
theorem dX12_isUseless_26 : decode cX12_isUseless 26 = .ok (.iload_n 3, 1) := by decide +kernel
theorem dX12_isUseless_27 : decode cX12_isUseless 27 = .ok (.invokevirtual 152, 3) := by decide +kernel
theorem dX12_isUseless_30 : decode cX12_isUseless 30 = .ok (.ifCond .eq 7, 3) := by decide +kernel
theorem dX12_isUseless_33 : decode cX12_isUseless 33 = .ok (.iconst 1, 1) := by decide +kernel
theorem dX12_isUseless_34 : decode cX12_isUseless 34 = .ok (.goto 4, 3) := by decide +kernel
theorem dX12_isUseless_37 : decode cX12_isUseless 37 = .ok (.iconst 0, 1) := by decide +kernel
theorem dX12_isUseless_38 : decode cX12_isUseless 38 = .ok (.istore 4, 2) := by decide +kernel
theorem dX12_isUseless_40 : decode cX12_isUseless 40 = .ok (.iconst 0, 1) := by decide +kernel
theorem dX12_isUseless_41 : decode cX12_isUseless 41 = .ok (.istore 5, 2) := by decide +kernel
theorem dX12_isUseless_43 : decode cX12_isUseless 43 = .ok (.iload 5, 2) := by decide +kernel
theorem dX12_isUseless_45 : decode cX12_isUseless 45 = .ok (.aload_n 0, 1) := by decide +kernel
theorem dX12_isUseless_46 : decode cX12_isUseless 46 = .ok (.getfield 106, 3) := by decide +kernel
theorem dX12_isUseless_49 : decode cX12_isUseless 49 = .ok (.if_icmp .ge 60, 3) := by decide +kernel
theorem dX12_isUseless_52 : decode cX12_isUseless 52 = .ok (.iload 4, 2) := by decide +kernel
theorem dX12_isUseless_54 : decode cX12_isUseless 54 = .ok (.ifCond .ne 55, 3) := by decide +kernel
theorem dX12_isUseless_57 : decode cX12_isUseless 57 = .ok (.aload_n 0, 1) := by decide +kernel
theorem dX12_isUseless_58 : decode cX12_isUseless 58 = .ok (.getfield 60, 3) := by decide +kernel
theorem dX12_isUseless_61 : decode cX12_isUseless 61 = .ok (.iload 5, 2) := by decide +kernel
theorem dX12_isUseless_63 : decode cX12_isUseless 63 = .ok (.baload, 1) := by decide +kernel
theorem dX12_isUseless_64 : decode cX12_isUseless 64 = .ok (.ifCond .ne 36, 3) := by decide +kernel
theorem dX12_isUseless_67 : decode cX12_isUseless 67 = .ok (.aload_n 0, 1) := by decide +kernel
theorem dX12_isUseless_68 : decode cX12_isUseless 68 = .ok (.iload 5, 2) := by decide +kernel
theorem dX12_isUseless_70 : decode cX12_isUseless 70 = .ok (.iload_n 3, 1) := by decide +kernel
theorem dX12_isUseless_71 : decode cX12_isUseless 71 = .ok (.invokevirtual 152, 3) := by decide +kernel
theorem dX12_isUseless_74 : decode cX12_isUseless 74 = .ok (.ifCond .eq 26, 3) := by decide +kernel
theorem dX12_isUseless_77 : decode cX12_isUseless 77 = .ok (.aload_n 0, 1) := by decide +kernel
theorem dX12_isUseless_78 : decode cX12_isUseless 78 = .ok (.getfield 32, 3) := by decide +kernel
theorem dX12_isUseless_81 : decode cX12_isUseless 81 = .ok (.iload 5, 2) := by decide +kernel
theorem dX12_isUseless_83 : decode cX12_isUseless 83 = .ok (.laload, 1) := by decide +kernel
theorem dX12_isUseless_84 : decode cX12_isUseless 84 = .ok (.aload_n 0, 1) := by decide +kernel
theorem dX12_isUseless_85 : decode cX12_isUseless 85 = .ok (.getfield 32, 3) := by decide +kernel
theorem dX12_isUseless_88 : decode cX12_isUseless 88 = .ok (.iload_n 1, 1) := by decide +kernel
theorem dX12_isUseless_89 : decode cX12_isUseless 89 = .ok (.laload, 1) := by decide +kernel
theorem dX12_isUseless_90 : decode cX12_isUseless 90 = .ok (.land, 1) := by decide +kernel
theorem dX12_isUseless_91 : decode cX12_isUseless 91 = .ok (.lconst 0, 1) := by decide +kernel
theorem dX12_isUseless_92 : decode cX12_isUseless 92 = .ok (.lcmp, 1) := by decide +kernel
theorem dX12_isUseless_93 : decode cX12_isUseless 93 = .ok (.ifCond .ne 7, 3) := by decide +kernel
theorem dX12_isUseless_96 : decode cX12_isUseless 96 = .ok (.iconst 1, 1) := by decide +kernel
theorem dX12_isUseless_97 : decode cX12_isUseless 97 = .ok (.goto 4, 3) := by decide +kernel
theorem dX12_isUseless_100 : decode cX12_isUseless 100 = .ok (.iconst 0, 1) := by decide +kernel
theorem dX12_isUseless_101 : decode cX12_isUseless 101 = .ok (.istore 4, 2) := by decide +kernel
theorem dX12_isUseless_103 : decode cX12_isUseless 103 = .ok (.iinc 5 1, 3) := by decide +kernel
theorem dX12_isUseless_106 : decode cX12_isUseless 106 = .ok (.goto (-63), 3) := by decide +kernel
theorem dX12_isUseless_109 : decode cX12_isUseless 109 = .ok (.iload 4, 2) := by decide +kernel
theorem dX12_isUseless_111 : decode cX12_isUseless 111 = .ok (.ifCond .ne 7, 3) := by decide +kernel
theorem dX12_isUseless_114 : decode cX12_isUseless 114 = .ok (.iconst 1, 1) := by decide +kernel
theorem dX12_isUseless_115 : decode cX12_isUseless 115 = .ok (.goto 4, 3) := by decide +kernel
theorem dX12_isUseless_118 : decode cX12_isUseless 118 = .ok (.iconst 0, 1) := by decide +kernel
theorem dX12_isUseless_119 : decode cX12_isUseless 119 = .ok (.istore_n 2, 1) := by decide +kernel
theorem dX12_isUseless_120 : decode cX12_isUseless 120 = .ok (.iinc 3 1, 3) := by decide +kernel
theorem dX12_isUseless_123 : decode cX12_isUseless 123 = .ok (.goto (-119), 3) := by decide +kernel
theorem dX12_isUseless_126 : decode cX12_isUseless 126 = .ok (.iload_n 2, 1) := by decide +kernel
theorem dX12_isUseless_127 : decode cX12_isUseless 127 = .ok (.ireturn, 1) := by decide +kernel
theorem dX12_strikes_0 : decode cX12_strikes 0 = .ok (.aload_n 0, 1) := by decide +kernel
theorem dX12_strikes_1 : decode cX12_strikes 1 = .ok (.invokevirtual 120, 3) := by decide +kernel
theorem dX12_strikes_4 : decode cX12_strikes 4 = .ok (.iconst 0, 1) := by decide +kernel
theorem dX12_strikes_5 : decode cX12_strikes 5 = .ok (.istore_n 1, 1) := by decide +kernel
theorem dX12_strikes_6 : decode cX12_strikes 6 = .ok (.iload_n 1, 1) := by decide +kernel
theorem dX12_strikes_7 : decode cX12_strikes 7 = .ok (.aload_n 0, 1) := by decide +kernel
theorem dX12_strikes_8 : decode cX12_strikes 8 = .ok (.getfield 106, 3) := by decide +kernel
theorem dX12_strikes_11 : decode cX12_strikes 11 = .ok (.if_icmp .ge 16, 3) := by decide +kernel
theorem dX12_strikes_14 : decode cX12_strikes 14 = .ok (.aload_n 0, 1) := by decide +kernel
theorem dX12_strikes_15 : decode cX12_strikes 15 = .ok (.getfield 60, 3) := by decide +kernel
theorem dX12_strikes_18 : decode cX12_strikes 18 = .ok (.iload_n 1, 1) := by decide +kernel
theorem dX12_strikes_19 : decode cX12_strikes 19 = .ok (.iconst 0, 1) := by decide +kernel
theorem dX12_strikes_20 : decode cX12_strikes 20 = .ok (.bastore, 1) := by decide +kernel
theorem dX12_strikes_21 : decode cX12_strikes 21 = .ok (.iinc 1 1, 3) := by decide +kernel
theorem dX12_strikes_24 : decode cX12_strikes 24 = .ok (.goto (-18), 3) := by decide +kernel
theorem dX12_strikes_27 : decode cX12_strikes 27 = .ok (.iconst 1, 1) := by decide +kernel
theorem dX12_strikes_28 : decode cX12_strikes 28 = .ok (.istore_n 1, 1) := by decide +kernel
theorem dX12_strikes_29 : decode cX12_strikes 29 = .ok (.iload_n 1, 1) := by decide +kernel
theorem dX12_strikes_30 : decode cX12_strikes 30 = .ok (.ifCond .eq 50, 3) := by decide +kernel
theorem dX12_strikes_33 : decode cX12_strikes 33 = .ok (.iconst 0, 1) := by decide +kernel
theorem dX12_strikes_34 : decode cX12_strikes 34 = .ok (.istore_n 1, 1) := by decide +kernel
theorem dX12_strikes_35 : decode cX12_strikes 35 = .ok (.iconst 0, 1) := by decide +kernel
theorem dX12_strikes_36 : decode cX12_strikes 36 = .ok (.istore_n 2, 1) := by decide +kernel
theorem dX12_strikes_37 : decode cX12_strikes 37 = .ok (.iload_n 2, 1) := by decide +kernel
theorem dX12_strikes_38 : decode cX12_strikes 38 = .ok (.aload_n 0, 1) := by decide +kernel
theorem dX12_strikes_39 : decode cX12_strikes 39 = .ok (.getfield 106, 3) := by decide +kernel
theorem dX12_strikes_42 : decode cX12_strikes 42 = .ok (.if_icmp .ge 35, 3) := by decide +kernel
theorem dX12_strikes_45 : decode cX12_strikes 45 = .ok (.aload_n 0, 1) := by decide +kernel
theorem dX12_strikes_46 : decode cX12_strikes 46 = .ok (.getfield 60, 3) := by decide +kernel
theorem dX12_strikes_49 : decode cX12_strikes 49 = .ok (.iload_n 2, 1) := by decide +kernel
theorem dX12_strikes_50 : decode cX12_strikes 50 = .ok (.baload, 1) := by decide +kernel
theorem dX12_strikes_51 : decode cX12_strikes 51 = .ok (.ifCond .ne 20, 3) := by decide +kernel
theorem dX12_strikes_54 : decode cX12_strikes 54 = .ok (.aload_n 0, 1) := by decide +kernel
theorem dX12_strikes_55 : decode cX12_strikes 55 = .ok (.iload_n 2, 1) := by decide +kernel
theorem dX12_strikes_56 : decode cX12_strikes 56 = .ok (.invokevirtual 283, 3) := by decide +kernel
theorem dX12_strikes_59 : decode cX12_strikes 59 = .ok (.ifCond .eq 12, 3) := by decide +kernel
theorem dX12_strikes_62 : decode cX12_strikes 62 = .ok (.aload_n 0, 1) := by decide +kernel
theorem dX12_strikes_63 : decode cX12_strikes 63 = .ok (.getfield 60, 3) := by decide +kernel
theorem dX12_strikes_66 : decode cX12_strikes 66 = .ok (.iload_n 2, 1) := by decide +kernel
theorem dX12_strikes_67 : decode cX12_strikes 67 = .ok (.iconst 1, 1) := by decide +kernel
theorem dX12_strikes_68 : decode cX12_strikes 68 = .ok (.bastore, 1) := by decide +kernel
theorem dX12_strikes_69 : decode cX12_strikes 69 = .ok (.iconst 1, 1) := by decide +kernel
theorem dX12_strikes_70 : decode cX12_strikes 70 = .ok (.istore_n 1, 1) := by decide +kernel
theorem dX12_strikes_71 : decode cX12_strikes 71 = .ok (.iinc 2 1, 3) := by decide +kernel
theorem dX12_strikes_74 : decode cX12_strikes 74 = .ok (.goto (-37), 3) := by decide +kernel
theorem dX12_strikes_77 : decode cX12_strikes 77 = .ok (.goto (-48), 3) := by decide +kernel
theorem dX12_strikes_80 : decode cX12_strikes 80 = .ok (.return_, 1) := by decide +kernel
theorem dX12_useful_0 : decode cX12_useful 0 = .ok (.aload_n 0, 1) := by decide +kernel
theorem dX12_useful_1 : decode cX12_useful 1 = .ok (.iload_n 1, 1) := by decide +kernel
theorem dX12_useful_2 : decode cX12_useful 2 = .ok (.invokevirtual 139, 3) := by decide +kernel
theorem dX12_useful_5 : decode cX12_useful 5 = .ok (.ifCond .ne 5, 3) := by decide +kernel
theorem dX12_useful_8 : decode cX12_useful 8 = .ok (.iconst (-1), 1) := by decide +kernel
theorem dX12_useful_9 : decode cX12_useful 9 = .ok (.ireturn, 1) := by decide +kernel
theorem dX12_useful_10 : decode cX12_useful 10 = .ok (.aload_n 0, 1) := by decide +kernel
theorem dX12_useful_11 : decode cX12_useful 11 = .ok (.invokevirtual 286, 3) := by decide +kernel
theorem dX12_useful_14 : decode cX12_useful 14 = .ok (.iconst 0, 1) := by decide +kernel
theorem dX12_useful_15 : decode cX12_useful 15 = .ok (.istore_n 2, 1) := by decide +kernel
theorem dX12_useful_16 : decode cX12_useful 16 = .ok (.iconst 0, 1) := by decide +kernel
theorem dX12_useful_17 : decode cX12_useful 17 = .ok (.istore_n 3, 1) := by decide +kernel
theorem dX12_useful_18 : decode cX12_useful 18 = .ok (.iload_n 3, 1) := by decide +kernel
theorem dX12_useful_19 : decode cX12_useful 19 = .ok (.aload_n 0, 1) := by decide +kernel
theorem dX12_useful_20 : decode cX12_useful 20 = .ok (.getfield 106, 3) := by decide +kernel
theorem dX12_useful_23 : decode cX12_useful 23 = .ok (.if_icmp .ge 36, 3) := by decide +kernel
theorem dX12_useful_26 : decode cX12_useful 26 = .ok (.iload_n 2, 1) := by decide +kernel
theorem dX12_useful_27 : decode cX12_useful 27 = .ok (.aload_n 0, 1) := by decide +kernel
theorem dX12_useful_28 : decode cX12_useful 28 = .ok (.getfield 60, 3) := by decide +kernel
theorem dX12_useful_31 : decode cX12_useful 31 = .ok (.iload_n 3, 1) := by decide +kernel
theorem dX12_useful_32 : decode cX12_useful 32 = .ok (.baload, 1) := by decide +kernel
theorem dX12_useful_33 : decode cX12_useful 33 = .ok (.ifCond .ne 17, 3) := by decide +kernel
theorem dX12_useful_36 : decode cX12_useful 36 = .ok (.aload_n 0, 1) := by decide +kernel
theorem dX12_useful_37 : decode cX12_useful 37 = .ok (.getfield 23, 3) := by decide +kernel
theorem dX12_useful_40 : decode cX12_useful 40 = .ok (.iload_n 3, 1) := by decide +kernel
theorem dX12_useful_41 : decode cX12_useful 41 = .ok (.iaload, 1) := by decide +kernel
theorem dX12_useful_42 : decode cX12_useful 42 = .ok (.iload_n 1, 1) := by decide +kernel
theorem dX12_useful_43 : decode cX12_useful 43 = .ok (.if_icmp .ne 7, 3) := by decide +kernel
theorem dX12_useful_46 : decode cX12_useful 46 = .ok (.iconst 1, 1) := by decide +kernel
theorem dX12_useful_47 : decode cX12_useful 47 = .ok (.goto 4, 3) := by decide +kernel
theorem dX12_useful_50 : decode cX12_useful 50 = .ok (.iconst 0, 1) := by decide +kernel
theorem dX12_useful_51 : decode cX12_useful 51 = .ok (.iadd, 1) := by decide +kernel
theorem dX12_useful_52 : decode cX12_useful 52 = .ok (.istore_n 2, 1) := by decide +kernel
theorem dX12_useful_53 : decode cX12_useful 53 = .ok (.iinc 3 1, 3) := by decide +kernel
theorem dX12_useful_56 : decode cX12_useful 56 = .ok (.goto (-38), 3) := by decide +kernel
theorem dX12_useful_59 : decode cX12_useful 59 = .ok (.iload_n 2, 1) := by decide +kernel
theorem dX12_useful_60 : decode cX12_useful 60 = .ok (.ireturn, 1) := by decide +kernel
theorem dX12_usefulAt_0 : decode cX12_usefulAt 0 = .ok (.aload_n 0, 1) := by decide +kernel
theorem dX12_usefulAt_1 : decode cX12_usefulAt 1 = .ok (.iload_n 1, 1) := by decide +kernel
theorem dX12_usefulAt_2 : decode cX12_usefulAt 2 = .ok (.invokevirtual 126, 3) := by decide +kernel
theorem dX12_usefulAt_5 : decode cX12_usefulAt 5 = .ok (.ifCond .ne 5, 3) := by decide +kernel
theorem dX12_usefulAt_8 : decode cX12_usefulAt 8 = .ok (.iconst (-1), 1) := by decide +kernel
theorem dX12_usefulAt_9 : decode cX12_usefulAt 9 = .ok (.ireturn, 1) := by decide +kernel
theorem dX12_usefulAt_10 : decode cX12_usefulAt 10 = .ok (.aload_n 0, 1) := by decide +kernel
theorem dX12_usefulAt_11 : decode cX12_usefulAt 11 = .ok (.iload_n 1, 1) := by decide +kernel
theorem dX12_usefulAt_12 : decode cX12_usefulAt 12 = .ok (.invokevirtual 76, 3) := by decide +kernel
theorem dX12_usefulAt_15 : decode cX12_usefulAt 15 = .ok (.ifCond .ne 6, 3) := by decide +kernel
theorem dX12_usefulAt_18 : decode cX12_usefulAt 18 = .ok (.bipush (-9), 2) := by decide +kernel
theorem dX12_usefulAt_20 : decode cX12_usefulAt 20 = .ok (.ireturn, 1) := by decide +kernel
theorem dX12_usefulAt_21 : decode cX12_usefulAt 21 = .ok (.aload_n 0, 1) := by decide +kernel
theorem dX12_usefulAt_22 : decode cX12_usefulAt 22 = .ok (.invokevirtual 286, 3) := by decide +kernel
theorem dX12_usefulAt_25 : decode cX12_usefulAt 25 = .ok (.iconst 0, 1) := by decide +kernel
theorem dX12_usefulAt_26 : decode cX12_usefulAt 26 = .ok (.istore_n 2, 1) := by decide +kernel
theorem dX12_usefulAt_27 : decode cX12_usefulAt 27 = .ok (.iconst 0, 1) := by decide +kernel
theorem dX12_usefulAt_28 : decode cX12_usefulAt 28 = .ok (.istore_n 3, 1) := by decide +kernel
theorem dX12_usefulAt_29 : decode cX12_usefulAt 29 = .ok (.iload_n 3, 1) := by decide +kernel
theorem dX12_usefulAt_30 : decode cX12_usefulAt 30 = .ok (.aload_n 0, 1) := by decide +kernel
theorem dX12_usefulAt_31 : decode cX12_usefulAt 31 = .ok (.getfield 106, 3) := by decide +kernel
theorem dX12_usefulAt_34 : decode cX12_usefulAt 34 = .ok (.if_icmp .ge 35, 3) := by decide +kernel
theorem dX12_usefulAt_37 : decode cX12_usefulAt 37 = .ok (.iload_n 2, 1) := by decide +kernel
theorem dX12_usefulAt_38 : decode cX12_usefulAt 38 = .ok (.aload_n 0, 1) := by decide +kernel
theorem dX12_usefulAt_39 : decode cX12_usefulAt 39 = .ok (.getfield 60, 3) := by decide +kernel
theorem dX12_usefulAt_42 : decode cX12_usefulAt 42 = .ok (.iload_n 3, 1) := by decide +kernel
theorem dX12_usefulAt_43 : decode cX12_usefulAt 43 = .ok (.baload, 1) := by decide +kernel
theorem dX12_usefulAt_44 : decode cX12_usefulAt 44 = .ok (.ifCond .ne 16, 3) := by decide +kernel
theorem dX12_usefulAt_47 : decode cX12_usefulAt 47 = .ok (.aload_n 0, 1) := by decide +kernel
theorem dX12_usefulAt_48 : decode cX12_usefulAt 48 = .ok (.iload_n 3, 1) := by decide +kernel
theorem dX12_usefulAt_49 : decode cX12_usefulAt 49 = .ok (.iload_n 1, 1) := by decide +kernel
theorem dX12_usefulAt_50 : decode cX12_usefulAt 50 = .ok (.invokevirtual 152, 3) := by decide +kernel
theorem dX12_usefulAt_53 : decode cX12_usefulAt 53 = .ok (.ifCond .eq 7, 3) := by decide +kernel
theorem dX12_usefulAt_56 : decode cX12_usefulAt 56 = .ok (.iconst 1, 1) := by decide +kernel
theorem dX12_usefulAt_57 : decode cX12_usefulAt 57 = .ok (.goto 4, 3) := by decide +kernel
theorem dX12_usefulAt_60 : decode cX12_usefulAt 60 = .ok (.iconst 0, 1) := by decide +kernel
theorem dX12_usefulAt_61 : decode cX12_usefulAt 61 = .ok (.iadd, 1) := by decide +kernel
theorem dX12_usefulAt_62 : decode cX12_usefulAt 62 = .ok (.istore_n 2, 1) := by decide +kernel
theorem dX12_usefulAt_63 : decode cX12_usefulAt 63 = .ok (.iinc 3 1, 3) := by decide +kernel
theorem dX12_usefulAt_66 : decode cX12_usefulAt 66 = .ok (.goto (-37), 3) := by decide +kernel
theorem dX12_usefulAt_69 : decode cX12_usefulAt 69 = .ok (.iload_n 2, 1) := by decide +kernel
theorem dX12_usefulAt_70 : decode cX12_usefulAt 70 = .ok (.ireturn, 1) := by decide +kernel
theorem dX12_weight_0 : decode cX12_weight 0 = .ok (.iconst 0, 1) := by decide +kernel
theorem dX12_weight_1 : decode cX12_weight 1 = .ok (.istore 6, 2) := by decide +kernel
theorem dX12_weight_3 : decode cX12_weight 3 = .ok (.iconst 0, 1) := by decide +kernel
theorem dX12_weight_4 : decode cX12_weight 4 = .ok (.istore 7, 2) := by decide +kernel
theorem dX12_weight_6 : decode cX12_weight 6 = .ok (.iload 7, 2) := by decide +kernel
theorem dX12_weight_8 : decode cX12_weight 8 = .ok (.aload_n 0, 1) := by decide +kernel
theorem dX12_weight_9 : decode cX12_weight 9 = .ok (.invokevirtual 68, 3) := by decide +kernel
theorem dX12_weight_12 : decode cX12_weight 12 = .ok (.if_icmp .ge 53, 3) := by decide +kernel
theorem dX12_weight_15 : decode cX12_weight 15 = .ok (.iload 6, 2) := by decide +kernel
theorem dX12_weight_17 : decode cX12_weight 17 = .ok (.lload_n 1, 1) := by decide +kernel
theorem dX12_weight_18 : decode cX12_weight 18 = .ok (.iload 7, 2) := by decide +kernel
theorem dX12_weight_20 : decode cX12_weight 20 = .ok (.lshr, 1) := by decide +kernel
theorem dX12_weight_21 : decode cX12_weight 21 = .ok (.lconst 1, 1) := by decide +kernel
theorem dX12_weight_22 : decode cX12_weight 22 = .ok (.land, 1) := by decide +kernel
theorem dX12_weight_23 : decode cX12_weight 23 = .ok (.lconst 1, 1) := by decide +kernel
theorem dX12_weight_24 : decode cX12_weight 24 = .ok (.lcmp, 1) := by decide +kernel
theorem dX12_weight_25 : decode cX12_weight 25 = .ok (.ifCond .ne 30, 3) := by decide +kernel
theorem dX12_weight_28 : decode cX12_weight 28 = .ok (.iload_n 3, 1) := by decide +kernel
theorem dX12_weight_29 : decode cX12_weight 29 = .ok (.iload 7, 2) := by decide +kernel
theorem dX12_weight_31 : decode cX12_weight 31 = .ok (.aload_n 0, 1) := by decide +kernel
theorem dX12_weight_32 : decode cX12_weight 32 = .ok (.getfield 7, 3) := by decide +kernel
theorem dX12_weight_35 : decode cX12_weight 35 = .ok (.iconst 0, 1) := by decide +kernel
theorem dX12_weight_36 : decode cX12_weight 36 = .ok (.iaload, 1) := by decide +kernel
theorem dX12_weight_37 : decode cX12_weight 37 = .ok (.irem, 1) := by decide +kernel
theorem dX12_weight_38 : decode cX12_weight 38 = .ok (.imul, 1) := by decide +kernel
theorem dX12_weight_39 : decode cX12_weight 39 = .ok (.iload 4, 2) := by decide +kernel
theorem dX12_weight_41 : decode cX12_weight 41 = .ok (.iload 7, 2) := by decide +kernel
theorem dX12_weight_43 : decode cX12_weight 43 = .ok (.aload_n 0, 1) := by decide +kernel
theorem dX12_weight_44 : decode cX12_weight 44 = .ok (.getfield 7, 3) := by decide +kernel
theorem dX12_weight_47 : decode cX12_weight 47 = .ok (.iconst 0, 1) := by decide +kernel
theorem dX12_weight_48 : decode cX12_weight 48 = .ok (.iaload, 1) := by decide +kernel
theorem dX12_weight_49 : decode cX12_weight 49 = .ok (.idiv, 1) := by decide +kernel
theorem dX12_weight_50 : decode cX12_weight 50 = .ok (.imul, 1) := by decide +kernel
theorem dX12_weight_51 : decode cX12_weight 51 = .ok (.iadd, 1) := by decide +kernel
theorem dX12_weight_52 : decode cX12_weight 52 = .ok (.goto 4, 3) := by decide +kernel
theorem dX12_weight_55 : decode cX12_weight 55 = .ok (.iconst 0, 1) := by decide +kernel
theorem dX12_weight_56 : decode cX12_weight 56 = .ok (.iadd, 1) := by decide +kernel
theorem dX12_weight_57 : decode cX12_weight 57 = .ok (.istore 6, 2) := by decide +kernel
theorem dX12_weight_59 : decode cX12_weight 59 = .ok (.iinc 7 1, 3) := by decide +kernel
theorem dX12_weight_62 : decode cX12_weight 62 = .ok (.goto (-56), 3) := by decide +kernel
theorem dX12_weight_65 : decode cX12_weight 65 = .ok (.iload 6, 2) := by decide +kernel
theorem dX12_weight_67 : decode cX12_weight 67 = .ok (.iload 5, 2) := by decide +kernel
theorem dX12_weight_69 : decode cX12_weight 69 = .ok (.irem, 1) := by decide +kernel
theorem dX12_weight_70 : decode cX12_weight 70 = .ok (.ireturn, 1) := by decide +kernel
theorem dX12_weights_0 : decode cX12_weights 0 = .ok (.iconst 0, 1) := by decide +kernel
theorem dX12_weights_1 : decode cX12_weights 1 = .ok (.istore 5, 2) := by decide +kernel
theorem dX12_weights_3 : decode cX12_weights 3 = .ok (.iconst 0, 1) := by decide +kernel
theorem dX12_weights_4 : decode cX12_weights 4 = .ok (.istore 6, 2) := by decide +kernel
theorem dX12_weights_6 : decode cX12_weights 6 = .ok (.iload 6, 2) := by decide +kernel
theorem dX12_weights_8 : decode cX12_weights 8 = .ok (.aload_n 0, 1) := by decide +kernel
theorem dX12_weights_9 : decode cX12_weights 9 = .ok (.getfield 106, 3) := by decide +kernel
theorem dX12_weights_12 : decode cX12_weights 12 = .ok (.if_icmp .ge 46, 3) := by decide +kernel
theorem dX12_weights_15 : decode cX12_weights 15 = .ok (.iload 5, 2) := by decide +kernel
theorem dX12_weights_17 : decode cX12_weights 17 = .ok (.aload_n 0, 1) := by decide +kernel
theorem dX12_weights_18 : decode cX12_weights 18 = .ok (.getfield 23, 3) := by decide +kernel
theorem dX12_weights_21 : decode cX12_weights 21 = .ok (.iload 6, 2) := by decide +kernel
theorem dX12_weights_23 : decode cX12_weights 23 = .ok (.iaload, 1) := by decide +kernel
theorem dX12_weights_24 : decode cX12_weights 24 = .ok (.iload_n 1, 1) := by decide +kernel
theorem dX12_weights_25 : decode cX12_weights 25 = .ok (.if_icmp .ne 23, 3) := by decide +kernel
theorem dX12_weights_28 : decode cX12_weights 28 = .ok (.iconst 1, 1) := by decide +kernel
theorem dX12_weights_29 : decode cX12_weights 29 = .ok (.aload_n 0, 1) := by decide +kernel
theorem dX12_weights_30 : decode cX12_weights 30 = .ok (.aload_n 0, 1) := by decide +kernel
theorem dX12_weights_31 : decode cX12_weights 31 = .ok (.getfield 32, 3) := by decide +kernel
theorem dX12_weights_34 : decode cX12_weights 34 = .ok (.iload 6, 2) := by decide +kernel
theorem dX12_weights_36 : decode cX12_weights 36 = .ok (.laload, 1) := by decide +kernel
theorem dX12_weights_37 : decode cX12_weights 37 = .ok (.iload_n 2, 1) := by decide +kernel
theorem dX12_weights_38 : decode cX12_weights 38 = .ok (.iload_n 3, 1) := by decide +kernel
theorem dX12_weights_39 : decode cX12_weights 39 = .ok (.iload 4, 2) := by decide +kernel
theorem dX12_weights_41 : decode cX12_weights 41 = .ok (.invokevirtual 289, 3) := by decide +kernel
theorem dX12_weights_44 : decode cX12_weights 44 = .ok (.ishl, 1) := by decide +kernel
theorem dX12_weights_45 : decode cX12_weights 45 = .ok (.goto 4, 3) := by decide +kernel
theorem dX12_weights_48 : decode cX12_weights 48 = .ok (.iconst 0, 1) := by decide +kernel
theorem dX12_weights_49 : decode cX12_weights 49 = .ok (.ior, 1) := by decide +kernel
theorem dX12_weights_50 : decode cX12_weights 50 = .ok (.istore 5, 2) := by decide +kernel
theorem dX12_weights_52 : decode cX12_weights 52 = .ok (.iinc 6 1, 3) := by decide +kernel
theorem dX12_weights_55 : decode cX12_weights 55 = .ok (.goto (-49), 3) := by decide +kernel
theorem dX12_weights_58 : decode cX12_weights 58 = .ok (.iload 5, 2) := by decide +kernel
theorem dX12_weights_60 : decode cX12_weights 60 = .ok (.ireturn, 1) := by decide +kernel
theorem dX12_isProof_0 : decode cX12_isProof 0 = .ok (.iconst 1, 1) := by decide +kernel
theorem dX12_isProof_1 : decode cX12_isProof 1 = .ok (.istore 4, 2) := by decide +kernel
theorem dX12_isProof_3 : decode cX12_isProof 3 = .ok (.iconst 0, 1) := by decide +kernel
theorem dX12_isProof_4 : decode cX12_isProof 4 = .ok (.istore 5, 2) := by decide +kernel
theorem dX12_isProof_6 : decode cX12_isProof 6 = .ok (.iload 5, 2) := by decide +kernel
theorem dX12_isProof_8 : decode cX12_isProof 8 = .ok (.aload_n 0, 1) := by decide +kernel
theorem dX12_isProof_9 : decode cX12_isProof 9 = .ok (.getfield 7, 3) := by decide +kernel
theorem dX12_isProof_12 : decode cX12_isProof 12 = .ok (.iconst 4, 1) := by decide +kernel
theorem dX12_isProof_13 : decode cX12_isProof 13 = .ok (.iaload, 1) := by decide +kernel
theorem dX12_isProof_14 : decode cX12_isProof 14 = .ok (.if_icmp .ge 139, 3) := by decide +kernel
theorem dX12_isProof_17 : decode cX12_isProof 17 = .ok (.aload_n 0, 1) := by decide +kernel
theorem dX12_isProof_18 : decode cX12_isProof 18 = .ok (.iload 5, 2) := by decide +kernel
theorem dX12_isProof_20 : decode cX12_isProof 20 = .ok (.iload_n 1, 1) := by decide +kernel
theorem dX12_isProof_21 : decode cX12_isProof 21 = .ok (.iload_n 2, 1) := by decide +kernel
theorem dX12_isProof_22 : decode cX12_isProof 22 = .ok (.iload_n 3, 1) := by decide +kernel
theorem dX12_isProof_23 : decode cX12_isProof 23 = .ok (.invokevirtual 293, 3) := by decide +kernel
theorem dX12_isProof_26 : decode cX12_isProof 26 = .ok (.istore 6, 2) := by decide +kernel
theorem dX12_isProof_28 : decode cX12_isProof 28 = .ok (.iconst 0, 1) := by decide +kernel
theorem dX12_isProof_29 : decode cX12_isProof 29 = .ok (.istore 7, 2) := by decide +kernel
theorem dX12_isProof_31 : decode cX12_isProof 31 = .ok (.iload 7, 2) := by decide +kernel
theorem dX12_isProof_33 : decode cX12_isProof 33 = .ok (.aload_n 0, 1) := by decide +kernel
theorem dX12_isProof_34 : decode cX12_isProof 34 = .ok (.iload 5, 2) := by decide +kernel
theorem dX12_isProof_36 : decode cX12_isProof 36 = .ok (.iconst 3, 1) := by decide +kernel
theorem dX12_isProof_37 : decode cX12_isProof 37 = .ok (.invokevirtual 95, 3) := by decide +kernel
theorem dX12_isProof_40 : decode cX12_isProof 40 = .ok (.if_icmp .ge 107, 3) := by decide +kernel
theorem dX12_isProof_43 : decode cX12_isProof 43 = .ok (.aload_n 0, 1) := by decide +kernel
theorem dX12_isProof_44 : decode cX12_isProof 44 = .ok (.getfield 7, 3) := by decide +kernel
theorem dX12_isProof_47 : decode cX12_isProof 47 = .ok (.iconst 2, 1) := by decide +kernel
theorem dX12_isProof_48 : decode cX12_isProof 48 = .ok (.iaload, 1) := by decide +kernel
theorem dX12_isProof_49 : decode cX12_isProof 49 = .ok (.ifCond .ne 8, 3) := by decide +kernel
theorem dX12_isProof_52 : decode cX12_isProof 52 = .ok (.iload 4, 2) := by decide +kernel
theorem dX12_isProof_54 : decode cX12_isProof 54 = .ok (.goto 4, 3) := by decide +kernel
theorem dX12_isProof_57 : decode cX12_isProof 57 = .ok (.iconst 0, 1) := by decide +kernel
theorem dX12_isProof_58 : decode cX12_isProof 58 = .ok (.istore 8, 2) := by decide +kernel
theorem dX12_isProof_60 : decode cX12_isProof 60 = .ok (.iconst 0, 1) := by decide +kernel
theorem dX12_isProof_61 : decode cX12_isProof 61 = .ok (.istore 9, 2) := by decide +kernel
theorem dX12_isProof_63 : decode cX12_isProof 63 = .ok (.iload 9, 2) := by decide +kernel
theorem dX12_isProof_65 : decode cX12_isProof 65 = .ok (.iload_n 3, 1) := by decide +kernel
theorem dX12_isProof_66 : decode cX12_isProof 66 = .ok (.iload_n 3, 1) := by decide +kernel
theorem dX12_isProof_67 : decode cX12_isProof 67 = .ok (.imul, 1) := by decide +kernel
theorem dX12_isProof_68 : decode cX12_isProof 68 = .ok (.if_icmp .ge 69, 3) := by decide +kernel
theorem dX12_isProof_71 : decode cX12_isProof 71 = .ok (.iload 4, 2) := by decide +kernel
theorem dX12_isProof_73 : decode cX12_isProof 73 = .ok (.iload 9, 2) := by decide +kernel
theorem dX12_isProof_75 : decode cX12_isProof 75 = .ok (.iload_n 3, 1) := by decide +kernel
theorem dX12_isProof_76 : decode cX12_isProof 76 = .ok (.idiv, 1) := by decide +kernel
theorem dX12_isProof_77 : decode cX12_isProof 77 = .ok (.ishr, 1) := by decide +kernel
theorem dX12_isProof_78 : decode cX12_isProof 78 = .ok (.iconst 1, 1) := by decide +kernel
theorem dX12_isProof_79 : decode cX12_isProof 79 = .ok (.iand, 1) := by decide +kernel
theorem dX12_isProof_80 : decode cX12_isProof 80 = .ok (.iconst 1, 1) := by decide +kernel
theorem dX12_isProof_81 : decode cX12_isProof 81 = .ok (.if_icmp .ne 20, 3) := by decide +kernel
theorem dX12_isProof_84 : decode cX12_isProof 84 = .ok (.iload 6, 2) := by decide +kernel
theorem dX12_isProof_86 : decode cX12_isProof 86 = .ok (.iload 9, 2) := by decide +kernel
theorem dX12_isProof_88 : decode cX12_isProof 88 = .ok (.iload_n 3, 1) := by decide +kernel
theorem dX12_isProof_89 : decode cX12_isProof 89 = .ok (.irem, 1) := by decide +kernel
theorem dX12_isProof_90 : decode cX12_isProof 90 = .ok (.ishr, 1) := by decide +kernel
theorem dX12_isProof_91 : decode cX12_isProof 91 = .ok (.iconst 1, 1) := by decide +kernel
theorem dX12_isProof_92 : decode cX12_isProof 92 = .ok (.iand, 1) := by decide +kernel
theorem dX12_isProof_93 : decode cX12_isProof 93 = .ok (.iconst 1, 1) := by decide +kernel
theorem dX12_isProof_94 : decode cX12_isProof 94 = .ok (.if_icmp .ne 7, 3) := by decide +kernel
theorem dX12_isProof_97 : decode cX12_isProof 97 = .ok (.iconst 1, 1) := by decide +kernel
theorem dX12_isProof_98 : decode cX12_isProof 98 = .ok (.goto 4, 3) := by decide +kernel
theorem dX12_isProof_101 : decode cX12_isProof 101 = .ok (.iconst 0, 1) := by decide +kernel
theorem dX12_isProof_102 : decode cX12_isProof 102 = .ok (.istore 10, 2) := by decide +kernel
theorem dX12_isProof_104 : decode cX12_isProof 104 = .ok (.iload 8, 2) := by decide +kernel
theorem dX12_isProof_106 : decode cX12_isProof 106 = .ok (.iload 10, 2) := by decide +kernel
theorem dX12_isProof_108 : decode cX12_isProof 108 = .ok (.ifCond .eq 19, 3) := by decide +kernel
theorem dX12_isProof_111 : decode cX12_isProof 111 = .ok (.iconst 1, 1) := by decide +kernel
theorem dX12_isProof_112 : decode cX12_isProof 112 = .ok (.iload 9, 2) := by decide +kernel
theorem dX12_isProof_114 : decode cX12_isProof 114 = .ok (.iload_n 3, 1) := by decide +kernel
theorem dX12_isProof_115 : decode cX12_isProof 115 = .ok (.idiv, 1) := by decide +kernel
theorem dX12_isProof_116 : decode cX12_isProof 116 = .ok (.iload 9, 2) := by decide +kernel
theorem dX12_isProof_118 : decode cX12_isProof 118 = .ok (.iload_n 3, 1) := by decide +kernel
theorem dX12_isProof_119 : decode cX12_isProof 119 = .ok (.irem, 1) := by decide +kernel
theorem dX12_isProof_120 : decode cX12_isProof 120 = .ok (.iadd, 1) := by decide +kernel
theorem dX12_isProof_121 : decode cX12_isProof 121 = .ok (.iload_n 3, 1) := by decide +kernel
theorem dX12_isProof_122 : decode cX12_isProof 122 = .ok (.irem, 1) := by decide +kernel
theorem dX12_isProof_123 : decode cX12_isProof 123 = .ok (.ishl, 1) := by decide +kernel
theorem dX12_isProof_124 : decode cX12_isProof 124 = .ok (.goto 4, 3) := by decide +kernel
theorem dX12_isProof_127 : decode cX12_isProof 127 = .ok (.iconst 0, 1) := by decide +kernel
theorem dX12_isProof_128 : decode cX12_isProof 128 = .ok (.ior, 1) := by decide +kernel
theorem dX12_isProof_129 : decode cX12_isProof 129 = .ok (.istore 8, 2) := by decide +kernel
theorem dX12_isProof_131 : decode cX12_isProof 131 = .ok (.iinc 9 1, 3) := by decide +kernel
theorem dX12_isProof_134 : decode cX12_isProof 134 = .ok (.goto (-71), 3) := by decide +kernel
theorem dX12_isProof_137 : decode cX12_isProof 137 = .ok (.iload 8, 2) := by decide +kernel
theorem dX12_isProof_139 : decode cX12_isProof 139 = .ok (.istore 4, 2) := by decide +kernel
theorem dX12_isProof_141 : decode cX12_isProof 141 = .ok (.iinc 7 1, 3) := by decide +kernel
theorem dX12_isProof_144 : decode cX12_isProof 144 = .ok (.goto (-113), 3) := by decide +kernel
theorem dX12_isProof_147 : decode cX12_isProof 147 = .ok (.iinc 5 1, 3) := by decide +kernel
theorem dX12_isProof_150 : decode cX12_isProof 150 = .ok (.goto (-144), 3) := by decide +kernel
theorem dX12_isProof_153 : decode cX12_isProof 153 = .ok (.iload 4, 2) := by decide +kernel
theorem dX12_isProof_155 : decode cX12_isProof 155 = .ok (.aload_n 0, 1) := by decide +kernel
theorem dX12_isProof_156 : decode cX12_isProof 156 = .ok (.aload_n 0, 1) := by decide +kernel
theorem dX12_isProof_157 : decode cX12_isProof 157 = .ok (.invokevirtual 240, 3) := by decide +kernel
theorem dX12_isProof_160 : decode cX12_isProof 160 = .ok (.iload_n 1, 1) := by decide +kernel
theorem dX12_isProof_161 : decode cX12_isProof 161 = .ok (.iload_n 2, 1) := by decide +kernel
theorem dX12_isProof_162 : decode cX12_isProof 162 = .ok (.iload_n 3, 1) := by decide +kernel
theorem dX12_isProof_163 : decode cX12_isProof 163 = .ok (.invokevirtual 289, 3) := by decide +kernel
theorem dX12_isProof_166 : decode cX12_isProof 166 = .ok (.ishr, 1) := by decide +kernel
theorem dX12_isProof_167 : decode cX12_isProof 167 = .ok (.iconst 1, 1) := by decide +kernel
theorem dX12_isProof_168 : decode cX12_isProof 168 = .ok (.iand, 1) := by decide +kernel
theorem dX12_isProof_169 : decode cX12_isProof 169 = .ok (.ifCond .ne 7, 3) := by decide +kernel
theorem dX12_isProof_172 : decode cX12_isProof 172 = .ok (.iconst 1, 1) := by decide +kernel
theorem dX12_isProof_173 : decode cX12_isProof 173 = .ok (.goto 4, 3) := by decide +kernel
theorem dX12_isProof_176 : decode cX12_isProof 176 = .ok (.iconst 0, 1) := by decide +kernel
theorem dX12_isProof_177 : decode cX12_isProof 177 = .ok (.ireturn, 1) := by decide +kernel
theorem dX12_proves_0 : decode cX12_proves 0 = .ok (.iload_n 3, 1) := by decide +kernel
theorem dX12_proves_1 : decode cX12_proves 1 = .ok (.iconst 2, 1) := by decide +kernel
theorem dX12_proves_2 : decode cX12_proves 2 = .ok (.iconst 5, 1) := by decide +kernel
theorem dX12_proves_3 : decode cX12_proves 3 = .ok (.invokestatic 72, 3) := by decide +kernel
theorem dX12_proves_6 : decode cX12_proves 6 = .ok (.ifCond .eq 25, 3) := by decide +kernel
theorem dX12_proves_9 : decode cX12_proves 9 = .ok (.iload_n 1, 1) := by decide +kernel
theorem dX12_proves_10 : decode cX12_proves 10 = .ok (.iconst 0, 1) := by decide +kernel
theorem dX12_proves_11 : decode cX12_proves 11 = .ok (.iload_n 3, 1) := by decide +kernel
theorem dX12_proves_12 : decode cX12_proves 12 = .ok (.iconst 1, 1) := by decide +kernel
theorem dX12_proves_13 : decode cX12_proves 13 = .ok (.isub, 1) := by decide +kernel
theorem dX12_proves_14 : decode cX12_proves 14 = .ok (.invokestatic 72, 3) := by decide +kernel
theorem dX12_proves_17 : decode cX12_proves 17 = .ok (.ifCond .eq 14, 3) := by decide +kernel
theorem dX12_proves_20 : decode cX12_proves 20 = .ok (.iload_n 2, 1) := by decide +kernel
theorem dX12_proves_21 : decode cX12_proves 21 = .ok (.iconst 0, 1) := by decide +kernel
theorem dX12_proves_22 : decode cX12_proves 22 = .ok (.iload_n 3, 1) := by decide +kernel
theorem dX12_proves_23 : decode cX12_proves 23 = .ok (.iconst 1, 1) := by decide +kernel
theorem dX12_proves_24 : decode cX12_proves 24 = .ok (.isub, 1) := by decide +kernel
theorem dX12_proves_25 : decode cX12_proves 25 = .ok (.invokestatic 72, 3) := by decide +kernel
theorem dX12_proves_28 : decode cX12_proves 28 = .ok (.ifCond .ne 5, 3) := by decide +kernel
theorem dX12_proves_31 : decode cX12_proves 31 = .ok (.iconst (-1), 1) := by decide +kernel
theorem dX12_proves_32 : decode cX12_proves 32 = .ok (.ireturn, 1) := by decide +kernel
theorem dX12_proves_33 : decode cX12_proves 33 = .ok (.aload_n 0, 1) := by decide +kernel
theorem dX12_proves_34 : decode cX12_proves 34 = .ok (.invokevirtual 120, 3) := by decide +kernel
theorem dX12_proves_37 : decode cX12_proves 37 = .ok (.aload_n 0, 1) := by decide +kernel
theorem dX12_proves_38 : decode cX12_proves 38 = .ok (.iload_n 1, 1) := by decide +kernel
theorem dX12_proves_39 : decode cX12_proves 39 = .ok (.iload_n 2, 1) := by decide +kernel
theorem dX12_proves_40 : decode cX12_proves 40 = .ok (.iload_n 3, 1) := by decide +kernel
theorem dX12_proves_41 : decode cX12_proves 41 = .ok (.invokevirtual 297, 3) := by decide +kernel
theorem dX12_proves_44 : decode cX12_proves 44 = .ok (.ifCond .eq 7, 3) := by decide +kernel
theorem dX12_proves_47 : decode cX12_proves 47 = .ok (.iconst 1, 1) := by decide +kernel
theorem dX12_proves_48 : decode cX12_proves 48 = .ok (.goto 4, 3) := by decide +kernel
theorem dX12_proves_51 : decode cX12_proves 51 = .ok (.iconst 0, 1) := by decide +kernel
theorem dX12_proves_52 : decode cX12_proves 52 = .ok (.ireturn, 1) := by decide +kernel
theorem dX12_proof_0 : decode cX12_proof 0 = .ok (.aload_n 0, 1) := by decide +kernel
theorem dX12_proof_1 : decode cX12_proof 1 = .ok (.invokevirtual 120, 3) := by decide +kernel
theorem dX12_proof_4 : decode cX12_proof 4 = .ok (.iconst 2, 1) := by decide +kernel
theorem dX12_proof_5 : decode cX12_proof 5 = .ok (.istore_n 1, 1) := by decide +kernel
theorem dX12_proof_6 : decode cX12_proof 6 = .ok (.iload_n 1, 1) := by decide +kernel
theorem dX12_proof_7 : decode cX12_proof 7 = .ok (.bipush 6, 2) := by decide +kernel
theorem dX12_proof_9 : decode cX12_proof 9 = .ok (.if_icmp .ge 57, 3) := by decide +kernel
theorem dX12_proof_12 : decode cX12_proof 12 = .ok (.iconst 0, 1) := by decide +kernel
theorem dX12_proof_13 : decode cX12_proof 13 = .ok (.istore_n 2, 1) := by decide +kernel
theorem dX12_proof_14 : decode cX12_proof 14 = .ok (.iload_n 2, 1) := by decide +kernel
theorem dX12_proof_15 : decode cX12_proof 15 = .ok (.iload_n 1, 1) := by decide +kernel
theorem dX12_proof_16 : decode cX12_proof 16 = .ok (.if_icmp .ge 44, 3) := by decide +kernel
theorem dX12_proof_19 : decode cX12_proof 19 = .ok (.iconst 0, 1) := by decide +kernel
theorem dX12_proof_20 : decode cX12_proof 20 = .ok (.istore_n 3, 1) := by decide +kernel
theorem dX12_proof_21 : decode cX12_proof 21 = .ok (.iload_n 3, 1) := by decide +kernel
theorem dX12_proof_22 : decode cX12_proof 22 = .ok (.iload_n 1, 1) := by decide +kernel
theorem dX12_proof_23 : decode cX12_proof 23 = .ok (.if_icmp .ge 31, 3) := by decide +kernel
theorem dX12_proof_26 : decode cX12_proof 26 = .ok (.aload_n 0, 1) := by decide +kernel
theorem dX12_proof_27 : decode cX12_proof 27 = .ok (.iload_n 2, 1) := by decide +kernel
theorem dX12_proof_28 : decode cX12_proof 28 = .ok (.iload_n 3, 1) := by decide +kernel
theorem dX12_proof_29 : decode cX12_proof 29 = .ok (.iload_n 1, 1) := by decide +kernel
theorem dX12_proof_30 : decode cX12_proof 30 = .ok (.invokevirtual 297, 3) := by decide +kernel
theorem dX12_proof_33 : decode cX12_proof 33 = .ok (.ifCond .eq 15, 3) := by decide +kernel
theorem dX12_proof_36 : decode cX12_proof 36 = .ok (.bipush 100, 2) := by decide +kernel
theorem dX12_proof_38 : decode cX12_proof 38 = .ok (.iload_n 1, 1) := by decide +kernel
theorem dX12_proof_39 : decode cX12_proof 39 = .ok (.imul, 1) := by decide +kernel
theorem dX12_proof_40 : decode cX12_proof 40 = .ok (.bipush 10, 2) := by decide +kernel
theorem dX12_proof_42 : decode cX12_proof 42 = .ok (.iload_n 2, 1) := by decide +kernel
theorem dX12_proof_43 : decode cX12_proof 43 = .ok (.imul, 1) := by decide +kernel
theorem dX12_proof_44 : decode cX12_proof 44 = .ok (.iadd, 1) := by decide +kernel
theorem dX12_proof_45 : decode cX12_proof 45 = .ok (.iload_n 3, 1) := by decide +kernel
theorem dX12_proof_46 : decode cX12_proof 46 = .ok (.iadd, 1) := by decide +kernel
theorem dX12_proof_47 : decode cX12_proof 47 = .ok (.ireturn, 1) := by decide +kernel
theorem dX12_proof_48 : decode cX12_proof 48 = .ok (.iinc 3 1, 3) := by decide +kernel
theorem dX12_proof_51 : decode cX12_proof 51 = .ok (.goto (-30), 3) := by decide +kernel
theorem dX12_proof_54 : decode cX12_proof 54 = .ok (.iinc 2 1, 3) := by decide +kernel
theorem dX12_proof_57 : decode cX12_proof 57 = .ok (.goto (-43), 3) := by decide +kernel
theorem dX12_proof_60 : decode cX12_proof 60 = .ok (.iinc 1 1, 3) := by decide +kernel
theorem dX12_proof_63 : decode cX12_proof 63 = .ok (.goto (-57), 3) := by decide +kernel
theorem dX12_proof_66 : decode cX12_proof 66 = .ok (.bipush (-9), 2) := by decide +kernel
theorem dX12_proof_68 : decode cX12_proof 68 = .ok (.ireturn, 1) := by decide +kernel
theorem dJ6_bitCount_0f7a4_0 : decode cJ6_bitCount_0f7a4 0 = .ok (.iload_n 0, 1) := by decide +kernel
theorem dJ6_bitCount_0f7a4_1 : decode cJ6_bitCount_0f7a4 1 = .ok (.iload_n 0, 1) := by decide +kernel
theorem dJ6_bitCount_0f7a4_2 : decode cJ6_bitCount_0f7a4 2 = .ok (.iconst 1, 1) := by decide +kernel
theorem dJ6_bitCount_0f7a4_3 : decode cJ6_bitCount_0f7a4 3 = .ok (.iushr, 1) := by decide +kernel
theorem dJ6_bitCount_0f7a4_4 : decode cJ6_bitCount_0f7a4 4 = .ok (.ldc_w 265, 3) := by decide +kernel
theorem dJ6_bitCount_0f7a4_7 : decode cJ6_bitCount_0f7a4 7 = .ok (.iand, 1) := by decide +kernel
theorem dJ6_bitCount_0f7a4_8 : decode cJ6_bitCount_0f7a4 8 = .ok (.isub, 1) := by decide +kernel
theorem dJ6_bitCount_0f7a4_9 : decode cJ6_bitCount_0f7a4 9 = .ok (.istore_n 0, 1) := by decide +kernel
theorem dJ6_bitCount_0f7a4_10 : decode cJ6_bitCount_0f7a4 10 = .ok (.iload_n 0, 1) := by decide +kernel
theorem dJ6_bitCount_0f7a4_11 : decode cJ6_bitCount_0f7a4 11 = .ok (.ldc_w 266, 3) := by decide +kernel
theorem dJ6_bitCount_0f7a4_14 : decode cJ6_bitCount_0f7a4 14 = .ok (.iand, 1) := by decide +kernel
theorem dJ6_bitCount_0f7a4_15 : decode cJ6_bitCount_0f7a4 15 = .ok (.iload_n 0, 1) := by decide +kernel
theorem dJ6_bitCount_0f7a4_16 : decode cJ6_bitCount_0f7a4 16 = .ok (.iconst 2, 1) := by decide +kernel
theorem dJ6_bitCount_0f7a4_17 : decode cJ6_bitCount_0f7a4 17 = .ok (.iushr, 1) := by decide +kernel
theorem dJ6_bitCount_0f7a4_18 : decode cJ6_bitCount_0f7a4 18 = .ok (.ldc_w 266, 3) := by decide +kernel
theorem dJ6_bitCount_0f7a4_21 : decode cJ6_bitCount_0f7a4 21 = .ok (.iand, 1) := by decide +kernel
theorem dJ6_bitCount_0f7a4_22 : decode cJ6_bitCount_0f7a4 22 = .ok (.iadd, 1) := by decide +kernel
theorem dJ6_bitCount_0f7a4_23 : decode cJ6_bitCount_0f7a4 23 = .ok (.istore_n 0, 1) := by decide +kernel
theorem dJ6_bitCount_0f7a4_24 : decode cJ6_bitCount_0f7a4 24 = .ok (.iload_n 0, 1) := by decide +kernel
theorem dJ6_bitCount_0f7a4_25 : decode cJ6_bitCount_0f7a4 25 = .ok (.iload_n 0, 1) := by decide +kernel
theorem dJ6_bitCount_0f7a4_26 : decode cJ6_bitCount_0f7a4 26 = .ok (.iconst 4, 1) := by decide +kernel
theorem dJ6_bitCount_0f7a4_27 : decode cJ6_bitCount_0f7a4 27 = .ok (.iushr, 1) := by decide +kernel
theorem dJ6_bitCount_0f7a4_28 : decode cJ6_bitCount_0f7a4 28 = .ok (.iadd, 1) := by decide +kernel
theorem dJ6_bitCount_0f7a4_29 : decode cJ6_bitCount_0f7a4 29 = .ok (.ldc_w 267, 3) := by decide +kernel
theorem dJ6_bitCount_0f7a4_32 : decode cJ6_bitCount_0f7a4 32 = .ok (.iand, 1) := by decide +kernel
theorem dJ6_bitCount_0f7a4_33 : decode cJ6_bitCount_0f7a4 33 = .ok (.istore_n 0, 1) := by decide +kernel
theorem dJ6_bitCount_0f7a4_34 : decode cJ6_bitCount_0f7a4 34 = .ok (.iload_n 0, 1) := by decide +kernel
theorem dJ6_bitCount_0f7a4_35 : decode cJ6_bitCount_0f7a4 35 = .ok (.iload_n 0, 1) := by decide +kernel
theorem dJ6_bitCount_0f7a4_36 : decode cJ6_bitCount_0f7a4 36 = .ok (.bipush 8, 2) := by decide +kernel
theorem dJ6_bitCount_0f7a4_38 : decode cJ6_bitCount_0f7a4 38 = .ok (.iushr, 1) := by decide +kernel
theorem dJ6_bitCount_0f7a4_39 : decode cJ6_bitCount_0f7a4 39 = .ok (.iadd, 1) := by decide +kernel
theorem dJ6_bitCount_0f7a4_40 : decode cJ6_bitCount_0f7a4 40 = .ok (.istore_n 0, 1) := by decide +kernel
theorem dJ6_bitCount_0f7a4_41 : decode cJ6_bitCount_0f7a4 41 = .ok (.iload_n 0, 1) := by decide +kernel
theorem dJ6_bitCount_0f7a4_42 : decode cJ6_bitCount_0f7a4 42 = .ok (.iload_n 0, 1) := by decide +kernel
theorem dJ6_bitCount_0f7a4_43 : decode cJ6_bitCount_0f7a4 43 = .ok (.bipush 16, 2) := by decide +kernel
theorem dJ6_bitCount_0f7a4_45 : decode cJ6_bitCount_0f7a4 45 = .ok (.iushr, 1) := by decide +kernel
theorem dJ6_bitCount_0f7a4_46 : decode cJ6_bitCount_0f7a4 46 = .ok (.iadd, 1) := by decide +kernel
theorem dJ6_bitCount_0f7a4_47 : decode cJ6_bitCount_0f7a4 47 = .ok (.istore_n 0, 1) := by decide +kernel
theorem dJ6_bitCount_0f7a4_48 : decode cJ6_bitCount_0f7a4 48 = .ok (.iload_n 0, 1) := by decide +kernel
theorem dJ6_bitCount_0f7a4_49 : decode cJ6_bitCount_0f7a4 49 = .ok (.bipush 63, 2) := by decide +kernel
theorem dJ6_bitCount_0f7a4_51 : decode cJ6_bitCount_0f7a4 51 = .ok (.iand, 1) := by decide +kernel
theorem dJ6_bitCount_0f7a4_52 : decode cJ6_bitCount_0f7a4 52 = .ok (.ireturn, 1) := by decide +kernel
theorem dJ13_bitCount_95d88_0 : decode cJ13_bitCount_95d88 0 = .ok (.lload_n 0, 1) := by decide +kernel
theorem dJ13_bitCount_95d88_1 : decode cJ13_bitCount_95d88 1 = .ok (.lload_n 0, 1) := by decide +kernel
theorem dJ13_bitCount_95d88_2 : decode cJ13_bitCount_95d88 2 = .ok (.iconst 1, 1) := by decide +kernel
theorem dJ13_bitCount_95d88_3 : decode cJ13_bitCount_95d88 3 = .ok (.lushr, 1) := by decide +kernel
theorem dJ13_bitCount_95d88_4 : decode cJ13_bitCount_95d88 4 = .ok (.ldc2_w 314, 3) := by decide +kernel
theorem dJ13_bitCount_95d88_7 : decode cJ13_bitCount_95d88 7 = .ok (.land, 1) := by decide +kernel
theorem dJ13_bitCount_95d88_8 : decode cJ13_bitCount_95d88 8 = .ok (.lsub, 1) := by decide +kernel
theorem dJ13_bitCount_95d88_9 : decode cJ13_bitCount_95d88 9 = .ok (.lstore_n 0, 1) := by decide +kernel
theorem dJ13_bitCount_95d88_10 : decode cJ13_bitCount_95d88 10 = .ok (.lload_n 0, 1) := by decide +kernel
theorem dJ13_bitCount_95d88_11 : decode cJ13_bitCount_95d88 11 = .ok (.ldc2_w 316, 3) := by decide +kernel
theorem dJ13_bitCount_95d88_14 : decode cJ13_bitCount_95d88 14 = .ok (.land, 1) := by decide +kernel
theorem dJ13_bitCount_95d88_15 : decode cJ13_bitCount_95d88 15 = .ok (.lload_n 0, 1) := by decide +kernel
theorem dJ13_bitCount_95d88_16 : decode cJ13_bitCount_95d88 16 = .ok (.iconst 2, 1) := by decide +kernel
theorem dJ13_bitCount_95d88_17 : decode cJ13_bitCount_95d88 17 = .ok (.lushr, 1) := by decide +kernel
theorem dJ13_bitCount_95d88_18 : decode cJ13_bitCount_95d88 18 = .ok (.ldc2_w 316, 3) := by decide +kernel
theorem dJ13_bitCount_95d88_21 : decode cJ13_bitCount_95d88 21 = .ok (.land, 1) := by decide +kernel
theorem dJ13_bitCount_95d88_22 : decode cJ13_bitCount_95d88 22 = .ok (.ladd, 1) := by decide +kernel
theorem dJ13_bitCount_95d88_23 : decode cJ13_bitCount_95d88 23 = .ok (.lstore_n 0, 1) := by decide +kernel
theorem dJ13_bitCount_95d88_24 : decode cJ13_bitCount_95d88 24 = .ok (.lload_n 0, 1) := by decide +kernel
theorem dJ13_bitCount_95d88_25 : decode cJ13_bitCount_95d88 25 = .ok (.lload_n 0, 1) := by decide +kernel
theorem dJ13_bitCount_95d88_26 : decode cJ13_bitCount_95d88 26 = .ok (.iconst 4, 1) := by decide +kernel
theorem dJ13_bitCount_95d88_27 : decode cJ13_bitCount_95d88 27 = .ok (.lushr, 1) := by decide +kernel
theorem dJ13_bitCount_95d88_28 : decode cJ13_bitCount_95d88 28 = .ok (.ladd, 1) := by decide +kernel
theorem dJ13_bitCount_95d88_29 : decode cJ13_bitCount_95d88 29 = .ok (.ldc2_w 318, 3) := by decide +kernel
theorem dJ13_bitCount_95d88_32 : decode cJ13_bitCount_95d88 32 = .ok (.land, 1) := by decide +kernel
theorem dJ13_bitCount_95d88_33 : decode cJ13_bitCount_95d88 33 = .ok (.lstore_n 0, 1) := by decide +kernel
theorem dJ13_bitCount_95d88_34 : decode cJ13_bitCount_95d88 34 = .ok (.lload_n 0, 1) := by decide +kernel
theorem dJ13_bitCount_95d88_35 : decode cJ13_bitCount_95d88 35 = .ok (.lload_n 0, 1) := by decide +kernel
theorem dJ13_bitCount_95d88_36 : decode cJ13_bitCount_95d88 36 = .ok (.bipush 8, 2) := by decide +kernel
theorem dJ13_bitCount_95d88_38 : decode cJ13_bitCount_95d88 38 = .ok (.lushr, 1) := by decide +kernel
theorem dJ13_bitCount_95d88_39 : decode cJ13_bitCount_95d88 39 = .ok (.ladd, 1) := by decide +kernel
theorem dJ13_bitCount_95d88_40 : decode cJ13_bitCount_95d88 40 = .ok (.lstore_n 0, 1) := by decide +kernel
theorem dJ13_bitCount_95d88_41 : decode cJ13_bitCount_95d88 41 = .ok (.lload_n 0, 1) := by decide +kernel
theorem dJ13_bitCount_95d88_42 : decode cJ13_bitCount_95d88 42 = .ok (.lload_n 0, 1) := by decide +kernel
theorem dJ13_bitCount_95d88_43 : decode cJ13_bitCount_95d88 43 = .ok (.bipush 16, 2) := by decide +kernel
theorem dJ13_bitCount_95d88_45 : decode cJ13_bitCount_95d88 45 = .ok (.lushr, 1) := by decide +kernel
theorem dJ13_bitCount_95d88_46 : decode cJ13_bitCount_95d88 46 = .ok (.ladd, 1) := by decide +kernel
theorem dJ13_bitCount_95d88_47 : decode cJ13_bitCount_95d88 47 = .ok (.lstore_n 0, 1) := by decide +kernel
theorem dJ13_bitCount_95d88_48 : decode cJ13_bitCount_95d88 48 = .ok (.lload_n 0, 1) := by decide +kernel
theorem dJ13_bitCount_95d88_49 : decode cJ13_bitCount_95d88 49 = .ok (.lload_n 0, 1) := by decide +kernel
theorem dJ13_bitCount_95d88_50 : decode cJ13_bitCount_95d88 50 = .ok (.bipush 32, 2) := by decide +kernel
theorem dJ13_bitCount_95d88_52 : decode cJ13_bitCount_95d88 52 = .ok (.lushr, 1) := by decide +kernel
theorem dJ13_bitCount_95d88_53 : decode cJ13_bitCount_95d88 53 = .ok (.ladd, 1) := by decide +kernel
theorem dJ13_bitCount_95d88_54 : decode cJ13_bitCount_95d88 54 = .ok (.lstore_n 0, 1) := by decide +kernel
theorem dJ13_bitCount_95d88_55 : decode cJ13_bitCount_95d88 55 = .ok (.lload_n 0, 1) := by decide +kernel
theorem dJ13_bitCount_95d88_56 : decode cJ13_bitCount_95d88 56 = .ok (.l2i, 1) := by decide +kernel
theorem dJ13_bitCount_95d88_57 : decode cJ13_bitCount_95d88 57 = .ok (.bipush 127, 2) := by decide +kernel
theorem dJ13_bitCount_95d88_59 : decode cJ13_bitCount_95d88 59 = .ok (.iand, 1) := by decide +kernel
theorem dJ13_bitCount_95d88_60 : decode cJ13_bitCount_95d88 60 = .ok (.ireturn, 1) := by decide +kernel
theorem dJ9_max_7cf53_0 : decode cJ9_max_7cf53 0 = .ok (.iload_n 0, 1) := by decide +kernel
theorem dJ9_max_7cf53_1 : decode cJ9_max_7cf53 1 = .ok (.iload_n 1, 1) := by decide +kernel
theorem dJ9_max_7cf53_2 : decode cJ9_max_7cf53 2 = .ok (.if_icmp .lt 7, 3) := by decide +kernel
theorem dJ9_max_7cf53_5 : decode cJ9_max_7cf53 5 = .ok (.iload_n 0, 1) := by decide +kernel
theorem dJ9_max_7cf53_6 : decode cJ9_max_7cf53 6 = .ok (.goto 4, 3) := by decide +kernel
theorem dJ9_max_7cf53_9 : decode cJ9_max_7cf53 9 = .ok (.iload_n 1, 1) := by decide +kernel
theorem dJ9_max_7cf53_10 : decode cJ9_max_7cf53 10 = .ok (.ireturn, 1) := by decide +kernel
theorem dJ9_min_7cf53_0 : decode cJ9_min_7cf53 0 = .ok (.iload_n 0, 1) := by decide +kernel
theorem dJ9_min_7cf53_1 : decode cJ9_min_7cf53 1 = .ok (.iload_n 1, 1) := by decide +kernel
theorem dJ9_min_7cf53_2 : decode cJ9_min_7cf53 2 = .ok (.if_icmp .gt 7, 3) := by decide +kernel
theorem dJ9_min_7cf53_5 : decode cJ9_min_7cf53 5 = .ok (.iload_n 0, 1) := by decide +kernel
theorem dJ9_min_7cf53_6 : decode cJ9_min_7cf53 6 = .ok (.goto 4, 3) := by decide +kernel
theorem dJ9_min_7cf53_9 : decode cJ9_min_7cf53 9 = .ok (.iload_n 1, 1) := by decide +kernel
theorem dJ9_min_7cf53_10 : decode cJ9_min_7cf53 10 = .ok (.ireturn, 1) := by decide +kernel
theorem dL_law_0 : decode cL_law 0 = .ok (.new 7, 3) := by decide +kernel
theorem dL_law_3 : decode cL_law 3 = .ok (.dup, 1) := by decide +kernel
theorem dL_law_4 : decode cL_law 4 = .ok (.invokespecial 9, 3) := by decide +kernel
theorem dL_law_7 : decode cL_law 7 = .ok (.astore_n 1, 1) := by decide +kernel
theorem dL_law_8 : decode cL_law 8 = .ok (.new 10, 3) := by decide +kernel
theorem dL_law_11 : decode cL_law 11 = .ok (.dup, 1) := by decide +kernel
theorem dL_law_12 : decode cL_law 12 = .ok (.invokespecial 12, 3) := by decide +kernel
theorem dL_law_15 : decode cL_law 15 = .ok (.astore_n 2, 1) := by decide +kernel
theorem dL_law_16 : decode cL_law 16 = .ok (.iconst 0, 1) := by decide +kernel
theorem dL_law_17 : decode cL_law 17 = .ok (.istore_n 3, 1) := by decide +kernel
theorem dL_law_18 : decode cL_law 18 = .ok (.iload_n 3, 1) := by decide +kernel
theorem dL_law_19 : decode cL_law 19 = .ok (.aload_n 0, 1) := by decide +kernel
theorem dL_law_20 : decode cL_law 20 = .ok (.arraylength, 1) := by decide +kernel
theorem dL_law_21 : decode cL_law 21 = .ok (.iconst 4, 1) := by decide +kernel
theorem dL_law_22 : decode cL_law 22 = .ok (.isub, 1) := by decide +kernel
theorem dL_law_23 : decode cL_law 23 = .ok (.if_icmp .gt 847, 3) := by decide +kernel
theorem dL_law_26 : decode cL_law 26 = .ok (.aload_n 0, 1) := by decide +kernel
theorem dL_law_27 : decode cL_law 27 = .ok (.iload_n 3, 1) := by decide +kernel
theorem dL_law_28 : decode cL_law 28 = .ok (.iaload, 1) := by decide +kernel
theorem dL_law_29 : decode cL_law 29 = .ok (.bipush 31, 2) := by decide +kernel
theorem dL_law_31 : decode cL_law 31 = .ok (.iand, 1) := by decide +kernel
theorem dL_law_32 : decode cL_law 32 = .ok (.tableswitch 832 0 27 #[128, 161, 194, 227, 270, 293, 326, 349, 372, 395, 418, 451, 484, 517, 540, 553, 566, 579, 592, 625, 658, 671, 704, 717, 740, 763, 806, 819], 128) := by decide +kernel
theorem dL_law_160 : decode cL_law 160 = .ok (.aload_n 1, 1) := by decide +kernel
theorem dL_law_161 : decode cL_law 161 = .ok (.aload_n 0, 1) := by decide +kernel
theorem dL_law_162 : decode cL_law 162 = .ok (.iload_n 3, 1) := by decide +kernel
theorem dL_law_163 : decode cL_law 163 = .ok (.iconst 1, 1) := by decide +kernel
theorem dL_law_164 : decode cL_law 164 = .ok (.iadd, 1) := by decide +kernel
theorem dL_law_165 : decode cL_law 165 = .ok (.iaload, 1) := by decide +kernel
theorem dL_law_166 : decode cL_law 166 = .ok (.aload_n 0, 1) := by decide +kernel
theorem dL_law_167 : decode cL_law 167 = .ok (.iload_n 3, 1) := by decide +kernel
theorem dL_law_168 : decode cL_law 168 = .ok (.iconst 2, 1) := by decide +kernel
theorem dL_law_169 : decode cL_law 169 = .ok (.iadd, 1) := by decide +kernel
theorem dL_law_170 : decode cL_law 170 = .ok (.iaload, 1) := by decide +kernel
theorem dL_law_171 : decode cL_law 171 = .ok (.invokevirtual 13, 3) := by decide +kernel
theorem dL_law_174 : decode cL_law 174 = .ok (.aload_n 2, 1) := by decide +kernel
theorem dL_law_175 : decode cL_law 175 = .ok (.aload_n 0, 1) := by decide +kernel
theorem dL_law_176 : decode cL_law 176 = .ok (.iload_n 3, 1) := by decide +kernel
theorem dL_law_177 : decode cL_law 177 = .ok (.iconst 1, 1) := by decide +kernel
theorem dL_law_178 : decode cL_law 178 = .ok (.iadd, 1) := by decide +kernel
theorem dL_law_179 : decode cL_law 179 = .ok (.iaload, 1) := by decide +kernel
theorem dL_law_180 : decode cL_law 180 = .ok (.aload_n 0, 1) := by decide +kernel
theorem dL_law_181 : decode cL_law 181 = .ok (.iload_n 3, 1) := by decide +kernel
theorem dL_law_182 : decode cL_law 182 = .ok (.iconst 2, 1) := by decide +kernel
theorem dL_law_183 : decode cL_law 183 = .ok (.iadd, 1) := by decide +kernel
theorem dL_law_184 : decode cL_law 184 = .ok (.iaload, 1) := by decide +kernel
theorem dL_law_185 : decode cL_law 185 = .ok (.invokevirtual 17, 3) := by decide +kernel
theorem dL_law_188 : decode cL_law 188 = .ok (.if_icmp .eq 676, 3) := by decide +kernel
theorem dL_law_191 : decode cL_law 191 = .ok (.iconst 0, 1) := by decide +kernel
theorem dL_law_192 : decode cL_law 192 = .ok (.ireturn, 1) := by decide +kernel
theorem dL_law_193 : decode cL_law 193 = .ok (.aload_n 1, 1) := by decide +kernel
theorem dL_law_194 : decode cL_law 194 = .ok (.aload_n 0, 1) := by decide +kernel
theorem dL_law_195 : decode cL_law 195 = .ok (.iload_n 3, 1) := by decide +kernel
theorem dL_law_196 : decode cL_law 196 = .ok (.iconst 1, 1) := by decide +kernel
theorem dL_law_197 : decode cL_law 197 = .ok (.iadd, 1) := by decide +kernel
theorem dL_law_198 : decode cL_law 198 = .ok (.iaload, 1) := by decide +kernel
theorem dL_law_199 : decode cL_law 199 = .ok (.aload_n 0, 1) := by decide +kernel
theorem dL_law_200 : decode cL_law 200 = .ok (.iload_n 3, 1) := by decide +kernel
theorem dL_law_201 : decode cL_law 201 = .ok (.iconst 2, 1) := by decide +kernel
theorem dL_law_202 : decode cL_law 202 = .ok (.iadd, 1) := by decide +kernel
theorem dL_law_203 : decode cL_law 203 = .ok (.iaload, 1) := by decide +kernel
theorem dL_law_204 : decode cL_law 204 = .ok (.invokevirtual 18, 3) := by decide +kernel
theorem dL_law_207 : decode cL_law 207 = .ok (.aload_n 2, 1) := by decide +kernel
theorem dL_law_208 : decode cL_law 208 = .ok (.aload_n 0, 1) := by decide +kernel
theorem dL_law_209 : decode cL_law 209 = .ok (.iload_n 3, 1) := by decide +kernel
theorem dL_law_210 : decode cL_law 210 = .ok (.iconst 1, 1) := by decide +kernel
theorem dL_law_211 : decode cL_law 211 = .ok (.iadd, 1) := by decide +kernel
theorem dL_law_212 : decode cL_law 212 = .ok (.iaload, 1) := by decide +kernel
theorem dL_law_213 : decode cL_law 213 = .ok (.aload_n 0, 1) := by decide +kernel
theorem dL_law_214 : decode cL_law 214 = .ok (.iload_n 3, 1) := by decide +kernel
theorem dL_law_215 : decode cL_law 215 = .ok (.iconst 2, 1) := by decide +kernel
theorem dL_law_216 : decode cL_law 216 = .ok (.iadd, 1) := by decide +kernel
theorem dL_law_217 : decode cL_law 217 = .ok (.iaload, 1) := by decide +kernel
theorem dL_law_218 : decode cL_law 218 = .ok (.invokevirtual 21, 3) := by decide +kernel
theorem dL_law_221 : decode cL_law 221 = .ok (.if_icmp .eq 643, 3) := by decide +kernel
theorem dL_law_224 : decode cL_law 224 = .ok (.iconst 0, 1) := by decide +kernel
theorem dL_law_225 : decode cL_law 225 = .ok (.ireturn, 1) := by decide +kernel
theorem dL_law_226 : decode cL_law 226 = .ok (.aload_n 1, 1) := by decide +kernel
theorem dL_law_227 : decode cL_law 227 = .ok (.aload_n 0, 1) := by decide +kernel
theorem dL_law_228 : decode cL_law 228 = .ok (.iload_n 3, 1) := by decide +kernel
theorem dL_law_229 : decode cL_law 229 = .ok (.iconst 1, 1) := by decide +kernel
theorem dL_law_230 : decode cL_law 230 = .ok (.iadd, 1) := by decide +kernel
theorem dL_law_231 : decode cL_law 231 = .ok (.iaload, 1) := by decide +kernel
theorem dL_law_232 : decode cL_law 232 = .ok (.aload_n 0, 1) := by decide +kernel
theorem dL_law_233 : decode cL_law 233 = .ok (.iload_n 3, 1) := by decide +kernel
theorem dL_law_234 : decode cL_law 234 = .ok (.iconst 2, 1) := by decide +kernel
theorem dL_law_235 : decode cL_law 235 = .ok (.iadd, 1) := by decide +kernel
theorem dL_law_236 : decode cL_law 236 = .ok (.iaload, 1) := by decide +kernel
theorem dL_law_237 : decode cL_law 237 = .ok (.invokevirtual 22, 3) := by decide +kernel
theorem dL_law_240 : decode cL_law 240 = .ok (.aload_n 2, 1) := by decide +kernel
theorem dL_law_241 : decode cL_law 241 = .ok (.aload_n 0, 1) := by decide +kernel
theorem dL_law_242 : decode cL_law 242 = .ok (.iload_n 3, 1) := by decide +kernel
theorem dL_law_243 : decode cL_law 243 = .ok (.iconst 1, 1) := by decide +kernel
theorem dL_law_244 : decode cL_law 244 = .ok (.iadd, 1) := by decide +kernel
theorem dL_law_245 : decode cL_law 245 = .ok (.iaload, 1) := by decide +kernel
theorem dL_law_246 : decode cL_law 246 = .ok (.aload_n 0, 1) := by decide +kernel
theorem dL_law_247 : decode cL_law 247 = .ok (.iload_n 3, 1) := by decide +kernel
theorem dL_law_248 : decode cL_law 248 = .ok (.iconst 2, 1) := by decide +kernel
theorem dL_law_249 : decode cL_law 249 = .ok (.iadd, 1) := by decide +kernel
theorem dL_law_250 : decode cL_law 250 = .ok (.iaload, 1) := by decide +kernel
theorem dL_law_251 : decode cL_law 251 = .ok (.invokevirtual 25, 3) := by decide +kernel
theorem dL_law_254 : decode cL_law 254 = .ok (.if_icmp .eq 610, 3) := by decide +kernel
theorem dL_law_257 : decode cL_law 257 = .ok (.iconst 0, 1) := by decide +kernel
theorem dL_law_258 : decode cL_law 258 = .ok (.ireturn, 1) := by decide +kernel
theorem dL_law_259 : decode cL_law 259 = .ok (.aload_n 1, 1) := by decide +kernel
theorem dL_law_260 : decode cL_law 260 = .ok (.aload_n 0, 1) := by decide +kernel
theorem dL_law_261 : decode cL_law 261 = .ok (.iload_n 3, 1) := by decide +kernel
theorem dL_law_262 : decode cL_law 262 = .ok (.iconst 1, 1) := by decide +kernel
theorem dL_law_263 : decode cL_law 263 = .ok (.iadd, 1) := by decide +kernel
theorem dL_law_264 : decode cL_law 264 = .ok (.iaload, 1) := by decide +kernel
theorem dL_law_265 : decode cL_law 265 = .ok (.aload_n 0, 1) := by decide +kernel
theorem dL_law_266 : decode cL_law 266 = .ok (.iload_n 3, 1) := by decide +kernel
theorem dL_law_267 : decode cL_law 267 = .ok (.iconst 2, 1) := by decide +kernel
theorem dL_law_268 : decode cL_law 268 = .ok (.iadd, 1) := by decide +kernel
theorem dL_law_269 : decode cL_law 269 = .ok (.iaload, 1) := by decide +kernel
theorem dL_law_270 : decode cL_law 270 = .ok (.aload_n 0, 1) := by decide +kernel
theorem dL_law_271 : decode cL_law 271 = .ok (.iload_n 3, 1) := by decide +kernel
theorem dL_law_272 : decode cL_law 272 = .ok (.iconst 3, 1) := by decide +kernel
theorem dL_law_273 : decode cL_law 273 = .ok (.iadd, 1) := by decide +kernel
theorem dL_law_274 : decode cL_law 274 = .ok (.iaload, 1) := by decide +kernel
theorem dL_law_275 : decode cL_law 275 = .ok (.invokevirtual 26, 3) := by decide +kernel
theorem dL_law_278 : decode cL_law 278 = .ok (.aload_n 2, 1) := by decide +kernel
theorem dL_law_279 : decode cL_law 279 = .ok (.aload_n 0, 1) := by decide +kernel
theorem dL_law_280 : decode cL_law 280 = .ok (.iload_n 3, 1) := by decide +kernel
theorem dL_law_281 : decode cL_law 281 = .ok (.iconst 1, 1) := by decide +kernel
theorem dL_law_282 : decode cL_law 282 = .ok (.iadd, 1) := by decide +kernel
theorem dL_law_283 : decode cL_law 283 = .ok (.iaload, 1) := by decide +kernel
theorem dL_law_284 : decode cL_law 284 = .ok (.aload_n 0, 1) := by decide +kernel
theorem dL_law_285 : decode cL_law 285 = .ok (.iload_n 3, 1) := by decide +kernel
theorem dL_law_286 : decode cL_law 286 = .ok (.iconst 2, 1) := by decide +kernel
theorem dL_law_287 : decode cL_law 287 = .ok (.iadd, 1) := by decide +kernel
theorem dL_law_288 : decode cL_law 288 = .ok (.iaload, 1) := by decide +kernel
theorem dL_law_289 : decode cL_law 289 = .ok (.aload_n 0, 1) := by decide +kernel
theorem dL_law_290 : decode cL_law 290 = .ok (.iload_n 3, 1) := by decide +kernel
theorem dL_law_291 : decode cL_law 291 = .ok (.iconst 3, 1) := by decide +kernel
theorem dL_law_292 : decode cL_law 292 = .ok (.iadd, 1) := by decide +kernel
theorem dL_law_293 : decode cL_law 293 = .ok (.iaload, 1) := by decide +kernel
theorem dL_law_294 : decode cL_law 294 = .ok (.invokevirtual 30, 3) := by decide +kernel
theorem dL_law_297 : decode cL_law 297 = .ok (.if_icmp .eq 567, 3) := by decide +kernel
theorem dL_law_300 : decode cL_law 300 = .ok (.iconst 0, 1) := by decide +kernel
theorem dL_law_301 : decode cL_law 301 = .ok (.ireturn, 1) := by decide +kernel
theorem dL_law_302 : decode cL_law 302 = .ok (.aload_n 1, 1) := by decide +kernel
theorem dL_law_303 : decode cL_law 303 = .ok (.aload_n 0, 1) := by decide +kernel
theorem dL_law_304 : decode cL_law 304 = .ok (.iload_n 3, 1) := by decide +kernel
theorem dL_law_305 : decode cL_law 305 = .ok (.iconst 1, 1) := by decide +kernel
theorem dL_law_306 : decode cL_law 306 = .ok (.iadd, 1) := by decide +kernel
theorem dL_law_307 : decode cL_law 307 = .ok (.iaload, 1) := by decide +kernel
theorem dL_law_308 : decode cL_law 308 = .ok (.invokevirtual 31, 3) := by decide +kernel
theorem dL_law_311 : decode cL_law 311 = .ok (.aload_n 2, 1) := by decide +kernel
theorem dL_law_312 : decode cL_law 312 = .ok (.aload_n 0, 1) := by decide +kernel
theorem dL_law_313 : decode cL_law 313 = .ok (.iload_n 3, 1) := by decide +kernel
theorem dL_law_314 : decode cL_law 314 = .ok (.iconst 1, 1) := by decide +kernel
theorem dL_law_315 : decode cL_law 315 = .ok (.iadd, 1) := by decide +kernel
theorem dL_law_316 : decode cL_law 316 = .ok (.iaload, 1) := by decide +kernel
theorem dL_law_317 : decode cL_law 317 = .ok (.invokevirtual 35, 3) := by decide +kernel
theorem dL_law_320 : decode cL_law 320 = .ok (.if_icmp .eq 544, 3) := by decide +kernel
theorem dL_law_323 : decode cL_law 323 = .ok (.iconst 0, 1) := by decide +kernel
theorem dL_law_324 : decode cL_law 324 = .ok (.ireturn, 1) := by decide +kernel
theorem dL_law_325 : decode cL_law 325 = .ok (.aload_n 1, 1) := by decide +kernel
theorem dL_law_326 : decode cL_law 326 = .ok (.aload_n 0, 1) := by decide +kernel
theorem dL_law_327 : decode cL_law 327 = .ok (.iload_n 3, 1) := by decide +kernel
theorem dL_law_328 : decode cL_law 328 = .ok (.iconst 1, 1) := by decide +kernel
theorem dL_law_329 : decode cL_law 329 = .ok (.iadd, 1) := by decide +kernel
theorem dL_law_330 : decode cL_law 330 = .ok (.iaload, 1) := by decide +kernel
theorem dL_law_331 : decode cL_law 331 = .ok (.aload_n 0, 1) := by decide +kernel
theorem dL_law_332 : decode cL_law 332 = .ok (.iload_n 3, 1) := by decide +kernel
theorem dL_law_333 : decode cL_law 333 = .ok (.iconst 2, 1) := by decide +kernel
theorem dL_law_334 : decode cL_law 334 = .ok (.iadd, 1) := by decide +kernel
theorem dL_law_335 : decode cL_law 335 = .ok (.iaload, 1) := by decide +kernel
theorem dL_law_336 : decode cL_law 336 = .ok (.invokevirtual 36, 3) := by decide +kernel
theorem dL_law_339 : decode cL_law 339 = .ok (.aload_n 2, 1) := by decide +kernel
theorem dL_law_340 : decode cL_law 340 = .ok (.aload_n 0, 1) := by decide +kernel
theorem dL_law_341 : decode cL_law 341 = .ok (.iload_n 3, 1) := by decide +kernel
theorem dL_law_342 : decode cL_law 342 = .ok (.iconst 1, 1) := by decide +kernel
theorem dL_law_343 : decode cL_law 343 = .ok (.iadd, 1) := by decide +kernel
theorem dL_law_344 : decode cL_law 344 = .ok (.iaload, 1) := by decide +kernel
theorem dL_law_345 : decode cL_law 345 = .ok (.aload_n 0, 1) := by decide +kernel
theorem dL_law_346 : decode cL_law 346 = .ok (.iload_n 3, 1) := by decide +kernel
theorem dL_law_347 : decode cL_law 347 = .ok (.iconst 2, 1) := by decide +kernel
theorem dL_law_348 : decode cL_law 348 = .ok (.iadd, 1) := by decide +kernel
theorem dL_law_349 : decode cL_law 349 = .ok (.iaload, 1) := by decide +kernel
theorem dL_law_350 : decode cL_law 350 = .ok (.invokevirtual 39, 3) := by decide +kernel
theorem dL_law_353 : decode cL_law 353 = .ok (.if_icmp .eq 511, 3) := by decide +kernel
theorem dL_law_356 : decode cL_law 356 = .ok (.iconst 0, 1) := by decide +kernel
theorem dL_law_357 : decode cL_law 357 = .ok (.ireturn, 1) := by decide +kernel
theorem dL_law_358 : decode cL_law 358 = .ok (.aload_n 1, 1) := by decide +kernel
theorem dL_law_359 : decode cL_law 359 = .ok (.aload_n 0, 1) := by decide +kernel
theorem dL_law_360 : decode cL_law 360 = .ok (.iload_n 3, 1) := by decide +kernel
theorem dL_law_361 : decode cL_law 361 = .ok (.iconst 1, 1) := by decide +kernel
theorem dL_law_362 : decode cL_law 362 = .ok (.iadd, 1) := by decide +kernel
theorem dL_law_363 : decode cL_law 363 = .ok (.iaload, 1) := by decide +kernel
theorem dL_law_364 : decode cL_law 364 = .ok (.invokevirtual 40, 3) := by decide +kernel
theorem dL_law_367 : decode cL_law 367 = .ok (.aload_n 2, 1) := by decide +kernel
theorem dL_law_368 : decode cL_law 368 = .ok (.aload_n 0, 1) := by decide +kernel
theorem dL_law_369 : decode cL_law 369 = .ok (.iload_n 3, 1) := by decide +kernel
theorem dL_law_370 : decode cL_law 370 = .ok (.iconst 1, 1) := by decide +kernel
theorem dL_law_371 : decode cL_law 371 = .ok (.iadd, 1) := by decide +kernel
theorem dL_law_372 : decode cL_law 372 = .ok (.iaload, 1) := by decide +kernel
theorem dL_law_373 : decode cL_law 373 = .ok (.invokevirtual 43, 3) := by decide +kernel
theorem dL_law_376 : decode cL_law 376 = .ok (.if_icmp .eq 488, 3) := by decide +kernel
theorem dL_law_379 : decode cL_law 379 = .ok (.iconst 0, 1) := by decide +kernel
theorem dL_law_380 : decode cL_law 380 = .ok (.ireturn, 1) := by decide +kernel
theorem dL_law_381 : decode cL_law 381 = .ok (.aload_n 1, 1) := by decide +kernel
theorem dL_law_382 : decode cL_law 382 = .ok (.aload_n 0, 1) := by decide +kernel
theorem dL_law_383 : decode cL_law 383 = .ok (.iload_n 3, 1) := by decide +kernel
theorem dL_law_384 : decode cL_law 384 = .ok (.iconst 1, 1) := by decide +kernel
theorem dL_law_385 : decode cL_law 385 = .ok (.iadd, 1) := by decide +kernel
theorem dL_law_386 : decode cL_law 386 = .ok (.iaload, 1) := by decide +kernel
theorem dL_law_387 : decode cL_law 387 = .ok (.invokevirtual 44, 3) := by decide +kernel
theorem dL_law_390 : decode cL_law 390 = .ok (.aload_n 2, 1) := by decide +kernel
theorem dL_law_391 : decode cL_law 391 = .ok (.aload_n 0, 1) := by decide +kernel
theorem dL_law_392 : decode cL_law 392 = .ok (.iload_n 3, 1) := by decide +kernel
theorem dL_law_393 : decode cL_law 393 = .ok (.iconst 1, 1) := by decide +kernel
theorem dL_law_394 : decode cL_law 394 = .ok (.iadd, 1) := by decide +kernel
theorem dL_law_395 : decode cL_law 395 = .ok (.iaload, 1) := by decide +kernel
theorem dL_law_396 : decode cL_law 396 = .ok (.invokevirtual 47, 3) := by decide +kernel
theorem dL_law_399 : decode cL_law 399 = .ok (.if_icmp .eq 465, 3) := by decide +kernel
theorem dL_law_402 : decode cL_law 402 = .ok (.iconst 0, 1) := by decide +kernel
theorem dL_law_403 : decode cL_law 403 = .ok (.ireturn, 1) := by decide +kernel
theorem dL_law_404 : decode cL_law 404 = .ok (.aload_n 1, 1) := by decide +kernel
theorem dL_law_405 : decode cL_law 405 = .ok (.aload_n 0, 1) := by decide +kernel
theorem dL_law_406 : decode cL_law 406 = .ok (.iload_n 3, 1) := by decide +kernel
theorem dL_law_407 : decode cL_law 407 = .ok (.iconst 1, 1) := by decide +kernel
theorem dL_law_408 : decode cL_law 408 = .ok (.iadd, 1) := by decide +kernel
theorem dL_law_409 : decode cL_law 409 = .ok (.iaload, 1) := by decide +kernel
theorem dL_law_410 : decode cL_law 410 = .ok (.invokevirtual 48, 3) := by decide +kernel
theorem dL_law_413 : decode cL_law 413 = .ok (.aload_n 2, 1) := by decide +kernel
theorem dL_law_414 : decode cL_law 414 = .ok (.aload_n 0, 1) := by decide +kernel
theorem dL_law_415 : decode cL_law 415 = .ok (.iload_n 3, 1) := by decide +kernel
theorem dL_law_416 : decode cL_law 416 = .ok (.iconst 1, 1) := by decide +kernel
theorem dL_law_417 : decode cL_law 417 = .ok (.iadd, 1) := by decide +kernel
theorem dL_law_418 : decode cL_law 418 = .ok (.iaload, 1) := by decide +kernel
theorem dL_law_419 : decode cL_law 419 = .ok (.invokevirtual 51, 3) := by decide +kernel
theorem dL_law_422 : decode cL_law 422 = .ok (.if_icmp .eq 442, 3) := by decide +kernel
theorem dL_law_425 : decode cL_law 425 = .ok (.iconst 0, 1) := by decide +kernel
theorem dL_law_426 : decode cL_law 426 = .ok (.ireturn, 1) := by decide +kernel
theorem dL_law_427 : decode cL_law 427 = .ok (.aload_n 1, 1) := by decide +kernel
theorem dL_law_428 : decode cL_law 428 = .ok (.aload_n 0, 1) := by decide +kernel
theorem dL_law_429 : decode cL_law 429 = .ok (.iload_n 3, 1) := by decide +kernel
theorem dL_law_430 : decode cL_law 430 = .ok (.iconst 1, 1) := by decide +kernel
theorem dL_law_431 : decode cL_law 431 = .ok (.iadd, 1) := by decide +kernel
theorem dL_law_432 : decode cL_law 432 = .ok (.iaload, 1) := by decide +kernel
theorem dL_law_433 : decode cL_law 433 = .ok (.invokevirtual 52, 3) := by decide +kernel
theorem dL_law_436 : decode cL_law 436 = .ok (.aload_n 2, 1) := by decide +kernel
theorem dL_law_437 : decode cL_law 437 = .ok (.aload_n 0, 1) := by decide +kernel
theorem dL_law_438 : decode cL_law 438 = .ok (.iload_n 3, 1) := by decide +kernel
theorem dL_law_439 : decode cL_law 439 = .ok (.iconst 1, 1) := by decide +kernel
theorem dL_law_440 : decode cL_law 440 = .ok (.iadd, 1) := by decide +kernel
theorem dL_law_441 : decode cL_law 441 = .ok (.iaload, 1) := by decide +kernel
theorem dL_law_442 : decode cL_law 442 = .ok (.invokevirtual 55, 3) := by decide +kernel
theorem dL_law_445 : decode cL_law 445 = .ok (.if_icmp .eq 419, 3) := by decide +kernel
theorem dL_law_448 : decode cL_law 448 = .ok (.iconst 0, 1) := by decide +kernel
theorem dL_law_449 : decode cL_law 449 = .ok (.ireturn, 1) := by decide +kernel
theorem dL_law_450 : decode cL_law 450 = .ok (.aload_n 1, 1) := by decide +kernel
theorem dL_law_451 : decode cL_law 451 = .ok (.aload_n 0, 1) := by decide +kernel
theorem dL_law_452 : decode cL_law 452 = .ok (.iload_n 3, 1) := by decide +kernel
theorem dL_law_453 : decode cL_law 453 = .ok (.iconst 1, 1) := by decide +kernel
theorem dL_law_454 : decode cL_law 454 = .ok (.iadd, 1) := by decide +kernel
theorem dL_law_455 : decode cL_law 455 = .ok (.iaload, 1) := by decide +kernel
theorem dL_law_456 : decode cL_law 456 = .ok (.aload_n 0, 1) := by decide +kernel
theorem dL_law_457 : decode cL_law 457 = .ok (.iload_n 3, 1) := by decide +kernel
theorem dL_law_458 : decode cL_law 458 = .ok (.iconst 2, 1) := by decide +kernel
theorem dL_law_459 : decode cL_law 459 = .ok (.iadd, 1) := by decide +kernel
theorem dL_law_460 : decode cL_law 460 = .ok (.iaload, 1) := by decide +kernel
theorem dL_law_461 : decode cL_law 461 = .ok (.invokevirtual 56, 3) := by decide +kernel
theorem dL_law_464 : decode cL_law 464 = .ok (.aload_n 2, 1) := by decide +kernel
theorem dL_law_465 : decode cL_law 465 = .ok (.aload_n 0, 1) := by decide +kernel
theorem dL_law_466 : decode cL_law 466 = .ok (.iload_n 3, 1) := by decide +kernel
theorem dL_law_467 : decode cL_law 467 = .ok (.iconst 1, 1) := by decide +kernel
theorem dL_law_468 : decode cL_law 468 = .ok (.iadd, 1) := by decide +kernel
theorem dL_law_469 : decode cL_law 469 = .ok (.iaload, 1) := by decide +kernel
theorem dL_law_470 : decode cL_law 470 = .ok (.aload_n 0, 1) := by decide +kernel
theorem dL_law_471 : decode cL_law 471 = .ok (.iload_n 3, 1) := by decide +kernel
theorem dL_law_472 : decode cL_law 472 = .ok (.iconst 2, 1) := by decide +kernel
theorem dL_law_473 : decode cL_law 473 = .ok (.iadd, 1) := by decide +kernel
theorem dL_law_474 : decode cL_law 474 = .ok (.iaload, 1) := by decide +kernel
theorem dL_law_475 : decode cL_law 475 = .ok (.invokevirtual 59, 3) := by decide +kernel
theorem dL_law_478 : decode cL_law 478 = .ok (.if_icmp .eq 386, 3) := by decide +kernel
theorem dL_law_481 : decode cL_law 481 = .ok (.iconst 0, 1) := by decide +kernel
theorem dL_law_482 : decode cL_law 482 = .ok (.ireturn, 1) := by decide +kernel
theorem dL_law_483 : decode cL_law 483 = .ok (.aload_n 1, 1) := by decide +kernel
theorem dL_law_484 : decode cL_law 484 = .ok (.aload_n 0, 1) := by decide +kernel
theorem dL_law_485 : decode cL_law 485 = .ok (.iload_n 3, 1) := by decide +kernel
theorem dL_law_486 : decode cL_law 486 = .ok (.iconst 1, 1) := by decide +kernel
theorem dL_law_487 : decode cL_law 487 = .ok (.iadd, 1) := by decide +kernel
theorem dL_law_488 : decode cL_law 488 = .ok (.iaload, 1) := by decide +kernel
theorem dL_law_489 : decode cL_law 489 = .ok (.aload_n 0, 1) := by decide +kernel
theorem dL_law_490 : decode cL_law 490 = .ok (.iload_n 3, 1) := by decide +kernel
theorem dL_law_491 : decode cL_law 491 = .ok (.iconst 2, 1) := by decide +kernel
theorem dL_law_492 : decode cL_law 492 = .ok (.iadd, 1) := by decide +kernel
theorem dL_law_493 : decode cL_law 493 = .ok (.iaload, 1) := by decide +kernel
theorem dL_law_494 : decode cL_law 494 = .ok (.invokevirtual 60, 3) := by decide +kernel
theorem dL_law_497 : decode cL_law 497 = .ok (.aload_n 2, 1) := by decide +kernel
theorem dL_law_498 : decode cL_law 498 = .ok (.aload_n 0, 1) := by decide +kernel
theorem dL_law_499 : decode cL_law 499 = .ok (.iload_n 3, 1) := by decide +kernel
theorem dL_law_500 : decode cL_law 500 = .ok (.iconst 1, 1) := by decide +kernel
theorem dL_law_501 : decode cL_law 501 = .ok (.iadd, 1) := by decide +kernel
theorem dL_law_502 : decode cL_law 502 = .ok (.iaload, 1) := by decide +kernel
theorem dL_law_503 : decode cL_law 503 = .ok (.aload_n 0, 1) := by decide +kernel
theorem dL_law_504 : decode cL_law 504 = .ok (.iload_n 3, 1) := by decide +kernel
theorem dL_law_505 : decode cL_law 505 = .ok (.iconst 2, 1) := by decide +kernel
theorem dL_law_506 : decode cL_law 506 = .ok (.iadd, 1) := by decide +kernel
theorem dL_law_507 : decode cL_law 507 = .ok (.iaload, 1) := by decide +kernel
theorem dL_law_508 : decode cL_law 508 = .ok (.invokevirtual 63, 3) := by decide +kernel
theorem dL_law_511 : decode cL_law 511 = .ok (.if_icmp .eq 353, 3) := by decide +kernel
theorem dL_law_514 : decode cL_law 514 = .ok (.iconst 0, 1) := by decide +kernel
theorem dL_law_515 : decode cL_law 515 = .ok (.ireturn, 1) := by decide +kernel
theorem dL_law_516 : decode cL_law 516 = .ok (.aload_n 1, 1) := by decide +kernel
theorem dL_law_517 : decode cL_law 517 = .ok (.aload_n 0, 1) := by decide +kernel
theorem dL_law_518 : decode cL_law 518 = .ok (.iload_n 3, 1) := by decide +kernel
theorem dL_law_519 : decode cL_law 519 = .ok (.iconst 1, 1) := by decide +kernel
theorem dL_law_520 : decode cL_law 520 = .ok (.iadd, 1) := by decide +kernel
theorem dL_law_521 : decode cL_law 521 = .ok (.iaload, 1) := by decide +kernel
theorem dL_law_522 : decode cL_law 522 = .ok (.aload_n 0, 1) := by decide +kernel
theorem dL_law_523 : decode cL_law 523 = .ok (.iload_n 3, 1) := by decide +kernel
theorem dL_law_524 : decode cL_law 524 = .ok (.iconst 2, 1) := by decide +kernel
theorem dL_law_525 : decode cL_law 525 = .ok (.iadd, 1) := by decide +kernel
theorem dL_law_526 : decode cL_law 526 = .ok (.iaload, 1) := by decide +kernel
theorem dL_law_527 : decode cL_law 527 = .ok (.invokevirtual 64, 3) := by decide +kernel
theorem dL_law_530 : decode cL_law 530 = .ok (.aload_n 2, 1) := by decide +kernel
theorem dL_law_531 : decode cL_law 531 = .ok (.aload_n 0, 1) := by decide +kernel
theorem dL_law_532 : decode cL_law 532 = .ok (.iload_n 3, 1) := by decide +kernel
theorem dL_law_533 : decode cL_law 533 = .ok (.iconst 1, 1) := by decide +kernel
theorem dL_law_534 : decode cL_law 534 = .ok (.iadd, 1) := by decide +kernel
theorem dL_law_535 : decode cL_law 535 = .ok (.iaload, 1) := by decide +kernel
theorem dL_law_536 : decode cL_law 536 = .ok (.aload_n 0, 1) := by decide +kernel
theorem dL_law_537 : decode cL_law 537 = .ok (.iload_n 3, 1) := by decide +kernel
theorem dL_law_538 : decode cL_law 538 = .ok (.iconst 2, 1) := by decide +kernel
theorem dL_law_539 : decode cL_law 539 = .ok (.iadd, 1) := by decide +kernel
theorem dL_law_540 : decode cL_law 540 = .ok (.iaload, 1) := by decide +kernel
theorem dL_law_541 : decode cL_law 541 = .ok (.invokevirtual 67, 3) := by decide +kernel
theorem dL_law_544 : decode cL_law 544 = .ok (.if_icmp .eq 320, 3) := by decide +kernel
theorem dL_law_547 : decode cL_law 547 = .ok (.iconst 0, 1) := by decide +kernel
theorem dL_law_548 : decode cL_law 548 = .ok (.ireturn, 1) := by decide +kernel
theorem dL_law_549 : decode cL_law 549 = .ok (.aload_n 1, 1) := by decide +kernel
theorem dL_law_550 : decode cL_law 550 = .ok (.aload_n 0, 1) := by decide +kernel
theorem dL_law_551 : decode cL_law 551 = .ok (.iload_n 3, 1) := by decide +kernel
theorem dL_law_552 : decode cL_law 552 = .ok (.iconst 1, 1) := by decide +kernel
theorem dL_law_553 : decode cL_law 553 = .ok (.iadd, 1) := by decide +kernel
theorem dL_law_554 : decode cL_law 554 = .ok (.iaload, 1) := by decide +kernel
theorem dL_law_555 : decode cL_law 555 = .ok (.invokevirtual 68, 3) := by decide +kernel
theorem dL_law_558 : decode cL_law 558 = .ok (.aload_n 2, 1) := by decide +kernel
theorem dL_law_559 : decode cL_law 559 = .ok (.aload_n 0, 1) := by decide +kernel
theorem dL_law_560 : decode cL_law 560 = .ok (.iload_n 3, 1) := by decide +kernel
theorem dL_law_561 : decode cL_law 561 = .ok (.iconst 1, 1) := by decide +kernel
theorem dL_law_562 : decode cL_law 562 = .ok (.iadd, 1) := by decide +kernel
theorem dL_law_563 : decode cL_law 563 = .ok (.iaload, 1) := by decide +kernel
theorem dL_law_564 : decode cL_law 564 = .ok (.invokevirtual 71, 3) := by decide +kernel
theorem dL_law_567 : decode cL_law 567 = .ok (.if_icmp .eq 297, 3) := by decide +kernel
theorem dL_law_570 : decode cL_law 570 = .ok (.iconst 0, 1) := by decide +kernel
theorem dL_law_571 : decode cL_law 571 = .ok (.ireturn, 1) := by decide +kernel
theorem dL_law_572 : decode cL_law 572 = .ok (.aload_n 1, 1) := by decide +kernel
theorem dL_law_573 : decode cL_law 573 = .ok (.invokevirtual 72, 3) := by decide +kernel
theorem dL_law_576 : decode cL_law 576 = .ok (.aload_n 2, 1) := by decide +kernel
theorem dL_law_577 : decode cL_law 577 = .ok (.invokevirtual 76, 3) := by decide +kernel
theorem dL_law_580 : decode cL_law 580 = .ok (.if_icmp .eq 284, 3) := by decide +kernel
theorem dL_law_583 : decode cL_law 583 = .ok (.iconst 0, 1) := by decide +kernel
theorem dL_law_584 : decode cL_law 584 = .ok (.ireturn, 1) := by decide +kernel
theorem dL_law_585 : decode cL_law 585 = .ok (.aload_n 1, 1) := by decide +kernel
theorem dL_law_586 : decode cL_law 586 = .ok (.invokevirtual 77, 3) := by decide +kernel
theorem dL_law_589 : decode cL_law 589 = .ok (.aload_n 2, 1) := by decide +kernel
theorem dL_law_590 : decode cL_law 590 = .ok (.invokevirtual 80, 3) := by decide +kernel
theorem dL_law_593 : decode cL_law 593 = .ok (.if_icmp .eq 271, 3) := by decide +kernel
theorem dL_law_596 : decode cL_law 596 = .ok (.iconst 0, 1) := by decide +kernel
theorem dL_law_597 : decode cL_law 597 = .ok (.ireturn, 1) := by decide +kernel
theorem dL_law_598 : decode cL_law 598 = .ok (.aload_n 1, 1) := by decide +kernel
theorem dL_law_599 : decode cL_law 599 = .ok (.invokevirtual 81, 3) := by decide +kernel
theorem dL_law_602 : decode cL_law 602 = .ok (.aload_n 2, 1) := by decide +kernel
theorem dL_law_603 : decode cL_law 603 = .ok (.invokevirtual 84, 3) := by decide +kernel
theorem dL_law_606 : decode cL_law 606 = .ok (.if_icmp .eq 258, 3) := by decide +kernel
theorem dL_law_609 : decode cL_law 609 = .ok (.iconst 0, 1) := by decide +kernel
theorem dL_law_610 : decode cL_law 610 = .ok (.ireturn, 1) := by decide +kernel
theorem dL_law_611 : decode cL_law 611 = .ok (.aload_n 1, 1) := by decide +kernel
theorem dL_law_612 : decode cL_law 612 = .ok (.invokevirtual 85, 3) := by decide +kernel
theorem dL_law_615 : decode cL_law 615 = .ok (.aload_n 2, 1) := by decide +kernel
theorem dL_law_616 : decode cL_law 616 = .ok (.invokevirtual 88, 3) := by decide +kernel
theorem dL_law_619 : decode cL_law 619 = .ok (.if_icmp .eq 245, 3) := by decide +kernel
theorem dL_law_622 : decode cL_law 622 = .ok (.iconst 0, 1) := by decide +kernel
theorem dL_law_623 : decode cL_law 623 = .ok (.ireturn, 1) := by decide +kernel
theorem dL_law_624 : decode cL_law 624 = .ok (.aload_n 1, 1) := by decide +kernel
theorem dL_law_625 : decode cL_law 625 = .ok (.aload_n 0, 1) := by decide +kernel
theorem dL_law_626 : decode cL_law 626 = .ok (.iload_n 3, 1) := by decide +kernel
theorem dL_law_627 : decode cL_law 627 = .ok (.iconst 1, 1) := by decide +kernel
theorem dL_law_628 : decode cL_law 628 = .ok (.iadd, 1) := by decide +kernel
theorem dL_law_629 : decode cL_law 629 = .ok (.iaload, 1) := by decide +kernel
theorem dL_law_630 : decode cL_law 630 = .ok (.aload_n 0, 1) := by decide +kernel
theorem dL_law_631 : decode cL_law 631 = .ok (.iload_n 3, 1) := by decide +kernel
theorem dL_law_632 : decode cL_law 632 = .ok (.iconst 2, 1) := by decide +kernel
theorem dL_law_633 : decode cL_law 633 = .ok (.iadd, 1) := by decide +kernel
theorem dL_law_634 : decode cL_law 634 = .ok (.iaload, 1) := by decide +kernel
theorem dL_law_635 : decode cL_law 635 = .ok (.invokevirtual 89, 3) := by decide +kernel
theorem dL_law_638 : decode cL_law 638 = .ok (.aload_n 2, 1) := by decide +kernel
theorem dL_law_639 : decode cL_law 639 = .ok (.aload_n 0, 1) := by decide +kernel
theorem dL_law_640 : decode cL_law 640 = .ok (.iload_n 3, 1) := by decide +kernel
theorem dL_law_641 : decode cL_law 641 = .ok (.iconst 1, 1) := by decide +kernel
theorem dL_law_642 : decode cL_law 642 = .ok (.iadd, 1) := by decide +kernel
theorem dL_law_643 : decode cL_law 643 = .ok (.iaload, 1) := by decide +kernel
theorem dL_law_644 : decode cL_law 644 = .ok (.aload_n 0, 1) := by decide +kernel
theorem dL_law_645 : decode cL_law 645 = .ok (.iload_n 3, 1) := by decide +kernel
theorem dL_law_646 : decode cL_law 646 = .ok (.iconst 2, 1) := by decide +kernel
theorem dL_law_647 : decode cL_law 647 = .ok (.iadd, 1) := by decide +kernel
theorem dL_law_648 : decode cL_law 648 = .ok (.iaload, 1) := by decide +kernel
theorem dL_law_649 : decode cL_law 649 = .ok (.invokevirtual 92, 3) := by decide +kernel
theorem dL_law_652 : decode cL_law 652 = .ok (.if_icmp .eq 212, 3) := by decide +kernel
theorem dL_law_655 : decode cL_law 655 = .ok (.iconst 0, 1) := by decide +kernel
theorem dL_law_656 : decode cL_law 656 = .ok (.ireturn, 1) := by decide +kernel
theorem dL_law_657 : decode cL_law 657 = .ok (.aload_n 1, 1) := by decide +kernel
theorem dL_law_658 : decode cL_law 658 = .ok (.aload_n 0, 1) := by decide +kernel
theorem dL_law_659 : decode cL_law 659 = .ok (.iload_n 3, 1) := by decide +kernel
theorem dL_law_660 : decode cL_law 660 = .ok (.iconst 1, 1) := by decide +kernel
theorem dL_law_661 : decode cL_law 661 = .ok (.iadd, 1) := by decide +kernel
theorem dL_law_662 : decode cL_law 662 = .ok (.iaload, 1) := by decide +kernel
theorem dL_law_663 : decode cL_law 663 = .ok (.aload_n 0, 1) := by decide +kernel
theorem dL_law_664 : decode cL_law 664 = .ok (.iload_n 3, 1) := by decide +kernel
theorem dL_law_665 : decode cL_law 665 = .ok (.iconst 2, 1) := by decide +kernel
theorem dL_law_666 : decode cL_law 666 = .ok (.iadd, 1) := by decide +kernel
theorem dL_law_667 : decode cL_law 667 = .ok (.iaload, 1) := by decide +kernel
theorem dL_law_668 : decode cL_law 668 = .ok (.invokevirtual 93, 3) := by decide +kernel
theorem dL_law_671 : decode cL_law 671 = .ok (.aload_n 2, 1) := by decide +kernel
theorem dL_law_672 : decode cL_law 672 = .ok (.aload_n 0, 1) := by decide +kernel
theorem dL_law_673 : decode cL_law 673 = .ok (.iload_n 3, 1) := by decide +kernel
theorem dL_law_674 : decode cL_law 674 = .ok (.iconst 1, 1) := by decide +kernel
theorem dL_law_675 : decode cL_law 675 = .ok (.iadd, 1) := by decide +kernel
theorem dL_law_676 : decode cL_law 676 = .ok (.iaload, 1) := by decide +kernel
theorem dL_law_677 : decode cL_law 677 = .ok (.aload_n 0, 1) := by decide +kernel
theorem dL_law_678 : decode cL_law 678 = .ok (.iload_n 3, 1) := by decide +kernel
theorem dL_law_679 : decode cL_law 679 = .ok (.iconst 2, 1) := by decide +kernel
theorem dL_law_680 : decode cL_law 680 = .ok (.iadd, 1) := by decide +kernel
theorem dL_law_681 : decode cL_law 681 = .ok (.iaload, 1) := by decide +kernel
theorem dL_law_682 : decode cL_law 682 = .ok (.invokevirtual 96, 3) := by decide +kernel
theorem dL_law_685 : decode cL_law 685 = .ok (.if_icmp .eq 179, 3) := by decide +kernel
theorem dL_law_688 : decode cL_law 688 = .ok (.iconst 0, 1) := by decide +kernel
theorem dL_law_689 : decode cL_law 689 = .ok (.ireturn, 1) := by decide +kernel
theorem dL_law_690 : decode cL_law 690 = .ok (.aload_n 1, 1) := by decide +kernel
theorem dL_law_691 : decode cL_law 691 = .ok (.invokevirtual 97, 3) := by decide +kernel
theorem dL_law_694 : decode cL_law 694 = .ok (.aload_n 2, 1) := by decide +kernel
theorem dL_law_695 : decode cL_law 695 = .ok (.invokevirtual 100, 3) := by decide +kernel
theorem dL_law_698 : decode cL_law 698 = .ok (.if_icmp .eq 166, 3) := by decide +kernel
theorem dL_law_701 : decode cL_law 701 = .ok (.iconst 0, 1) := by decide +kernel
theorem dL_law_702 : decode cL_law 702 = .ok (.ireturn, 1) := by decide +kernel
theorem dL_law_703 : decode cL_law 703 = .ok (.aload_n 1, 1) := by decide +kernel
theorem dL_law_704 : decode cL_law 704 = .ok (.aload_n 0, 1) := by decide +kernel
theorem dL_law_705 : decode cL_law 705 = .ok (.iload_n 3, 1) := by decide +kernel
theorem dL_law_706 : decode cL_law 706 = .ok (.iconst 1, 1) := by decide +kernel
theorem dL_law_707 : decode cL_law 707 = .ok (.iadd, 1) := by decide +kernel
theorem dL_law_708 : decode cL_law 708 = .ok (.iaload, 1) := by decide +kernel
theorem dL_law_709 : decode cL_law 709 = .ok (.aload_n 0, 1) := by decide +kernel
theorem dL_law_710 : decode cL_law 710 = .ok (.iload_n 3, 1) := by decide +kernel
theorem dL_law_711 : decode cL_law 711 = .ok (.iconst 2, 1) := by decide +kernel
theorem dL_law_712 : decode cL_law 712 = .ok (.iadd, 1) := by decide +kernel
theorem dL_law_713 : decode cL_law 713 = .ok (.iaload, 1) := by decide +kernel
theorem dL_law_714 : decode cL_law 714 = .ok (.invokevirtual 101, 3) := by decide +kernel
theorem dL_law_717 : decode cL_law 717 = .ok (.aload_n 2, 1) := by decide +kernel
theorem dL_law_718 : decode cL_law 718 = .ok (.aload_n 0, 1) := by decide +kernel
theorem dL_law_719 : decode cL_law 719 = .ok (.iload_n 3, 1) := by decide +kernel
theorem dL_law_720 : decode cL_law 720 = .ok (.iconst 1, 1) := by decide +kernel
theorem dL_law_721 : decode cL_law 721 = .ok (.iadd, 1) := by decide +kernel
theorem dL_law_722 : decode cL_law 722 = .ok (.iaload, 1) := by decide +kernel
theorem dL_law_723 : decode cL_law 723 = .ok (.aload_n 0, 1) := by decide +kernel
theorem dL_law_724 : decode cL_law 724 = .ok (.iload_n 3, 1) := by decide +kernel
theorem dL_law_725 : decode cL_law 725 = .ok (.iconst 2, 1) := by decide +kernel
theorem dL_law_726 : decode cL_law 726 = .ok (.iadd, 1) := by decide +kernel
theorem dL_law_727 : decode cL_law 727 = .ok (.iaload, 1) := by decide +kernel
theorem dL_law_728 : decode cL_law 728 = .ok (.invokevirtual 104, 3) := by decide +kernel
theorem dL_law_731 : decode cL_law 731 = .ok (.if_icmp .eq 133, 3) := by decide +kernel
theorem dL_law_734 : decode cL_law 734 = .ok (.iconst 0, 1) := by decide +kernel
theorem dL_law_735 : decode cL_law 735 = .ok (.ireturn, 1) := by decide +kernel
theorem dL_law_736 : decode cL_law 736 = .ok (.aload_n 1, 1) := by decide +kernel
theorem dL_law_737 : decode cL_law 737 = .ok (.invokevirtual 105, 3) := by decide +kernel
theorem dL_law_740 : decode cL_law 740 = .ok (.aload_n 2, 1) := by decide +kernel
theorem dL_law_741 : decode cL_law 741 = .ok (.invokevirtual 108, 3) := by decide +kernel
theorem dL_law_744 : decode cL_law 744 = .ok (.if_icmp .eq 120, 3) := by decide +kernel
theorem dL_law_747 : decode cL_law 747 = .ok (.iconst 0, 1) := by decide +kernel
theorem dL_law_748 : decode cL_law 748 = .ok (.ireturn, 1) := by decide +kernel
theorem dL_law_749 : decode cL_law 749 = .ok (.aload_n 1, 1) := by decide +kernel
theorem dL_law_750 : decode cL_law 750 = .ok (.aload_n 0, 1) := by decide +kernel
theorem dL_law_751 : decode cL_law 751 = .ok (.iload_n 3, 1) := by decide +kernel
theorem dL_law_752 : decode cL_law 752 = .ok (.iconst 1, 1) := by decide +kernel
theorem dL_law_753 : decode cL_law 753 = .ok (.iadd, 1) := by decide +kernel
theorem dL_law_754 : decode cL_law 754 = .ok (.iaload, 1) := by decide +kernel
theorem dL_law_755 : decode cL_law 755 = .ok (.invokevirtual 109, 3) := by decide +kernel
theorem dL_law_758 : decode cL_law 758 = .ok (.aload_n 2, 1) := by decide +kernel
theorem dL_law_759 : decode cL_law 759 = .ok (.aload_n 0, 1) := by decide +kernel
theorem dL_law_760 : decode cL_law 760 = .ok (.iload_n 3, 1) := by decide +kernel
theorem dL_law_761 : decode cL_law 761 = .ok (.iconst 1, 1) := by decide +kernel
theorem dL_law_762 : decode cL_law 762 = .ok (.iadd, 1) := by decide +kernel
theorem dL_law_763 : decode cL_law 763 = .ok (.iaload, 1) := by decide +kernel
theorem dL_law_764 : decode cL_law 764 = .ok (.invokevirtual 112, 3) := by decide +kernel
theorem dL_law_767 : decode cL_law 767 = .ok (.if_icmp .eq 97, 3) := by decide +kernel
theorem dL_law_770 : decode cL_law 770 = .ok (.iconst 0, 1) := by decide +kernel
theorem dL_law_771 : decode cL_law 771 = .ok (.ireturn, 1) := by decide +kernel
theorem dL_law_772 : decode cL_law 772 = .ok (.aload_n 1, 1) := by decide +kernel
theorem dL_law_773 : decode cL_law 773 = .ok (.aload_n 0, 1) := by decide +kernel
theorem dL_law_774 : decode cL_law 774 = .ok (.iload_n 3, 1) := by decide +kernel
theorem dL_law_775 : decode cL_law 775 = .ok (.iconst 1, 1) := by decide +kernel
theorem dL_law_776 : decode cL_law 776 = .ok (.iadd, 1) := by decide +kernel
theorem dL_law_777 : decode cL_law 777 = .ok (.iaload, 1) := by decide +kernel
theorem dL_law_778 : decode cL_law 778 = .ok (.invokevirtual 113, 3) := by decide +kernel
theorem dL_law_781 : decode cL_law 781 = .ok (.aload_n 2, 1) := by decide +kernel
theorem dL_law_782 : decode cL_law 782 = .ok (.aload_n 0, 1) := by decide +kernel
theorem dL_law_783 : decode cL_law 783 = .ok (.iload_n 3, 1) := by decide +kernel
theorem dL_law_784 : decode cL_law 784 = .ok (.iconst 1, 1) := by decide +kernel
theorem dL_law_785 : decode cL_law 785 = .ok (.iadd, 1) := by decide +kernel
theorem dL_law_786 : decode cL_law 786 = .ok (.iaload, 1) := by decide +kernel
theorem dL_law_787 : decode cL_law 787 = .ok (.invokevirtual 116, 3) := by decide +kernel
theorem dL_law_790 : decode cL_law 790 = .ok (.if_icmp .eq 74, 3) := by decide +kernel
theorem dL_law_793 : decode cL_law 793 = .ok (.iconst 0, 1) := by decide +kernel
theorem dL_law_794 : decode cL_law 794 = .ok (.ireturn, 1) := by decide +kernel
theorem dL_law_795 : decode cL_law 795 = .ok (.aload_n 1, 1) := by decide +kernel
theorem dL_law_796 : decode cL_law 796 = .ok (.aload_n 0, 1) := by decide +kernel
theorem dL_law_797 : decode cL_law 797 = .ok (.iload_n 3, 1) := by decide +kernel
theorem dL_law_798 : decode cL_law 798 = .ok (.iconst 1, 1) := by decide +kernel
theorem dL_law_799 : decode cL_law 799 = .ok (.iadd, 1) := by decide +kernel
theorem dL_law_800 : decode cL_law 800 = .ok (.iaload, 1) := by decide +kernel
theorem dL_law_801 : decode cL_law 801 = .ok (.aload_n 0, 1) := by decide +kernel
theorem dL_law_802 : decode cL_law 802 = .ok (.iload_n 3, 1) := by decide +kernel
theorem dL_law_803 : decode cL_law 803 = .ok (.iconst 2, 1) := by decide +kernel
theorem dL_law_804 : decode cL_law 804 = .ok (.iadd, 1) := by decide +kernel
theorem dL_law_805 : decode cL_law 805 = .ok (.iaload, 1) := by decide +kernel
theorem dL_law_806 : decode cL_law 806 = .ok (.aload_n 0, 1) := by decide +kernel
theorem dL_law_807 : decode cL_law 807 = .ok (.iload_n 3, 1) := by decide +kernel
theorem dL_law_808 : decode cL_law 808 = .ok (.iconst 3, 1) := by decide +kernel
theorem dL_law_809 : decode cL_law 809 = .ok (.iadd, 1) := by decide +kernel
theorem dL_law_810 : decode cL_law 810 = .ok (.iaload, 1) := by decide +kernel
theorem dL_law_811 : decode cL_law 811 = .ok (.invokevirtual 117, 3) := by decide +kernel
theorem dL_law_814 : decode cL_law 814 = .ok (.aload_n 2, 1) := by decide +kernel
theorem dL_law_815 : decode cL_law 815 = .ok (.aload_n 0, 1) := by decide +kernel
theorem dL_law_816 : decode cL_law 816 = .ok (.iload_n 3, 1) := by decide +kernel
theorem dL_law_817 : decode cL_law 817 = .ok (.iconst 1, 1) := by decide +kernel
theorem dL_law_818 : decode cL_law 818 = .ok (.iadd, 1) := by decide +kernel
theorem dL_law_819 : decode cL_law 819 = .ok (.iaload, 1) := by decide +kernel
theorem dL_law_820 : decode cL_law 820 = .ok (.aload_n 0, 1) := by decide +kernel
theorem dL_law_821 : decode cL_law 821 = .ok (.iload_n 3, 1) := by decide +kernel
theorem dL_law_822 : decode cL_law 822 = .ok (.iconst 2, 1) := by decide +kernel
theorem dL_law_823 : decode cL_law 823 = .ok (.iadd, 1) := by decide +kernel
theorem dL_law_824 : decode cL_law 824 = .ok (.iaload, 1) := by decide +kernel
theorem dL_law_825 : decode cL_law 825 = .ok (.aload_n 0, 1) := by decide +kernel
theorem dL_law_826 : decode cL_law 826 = .ok (.iload_n 3, 1) := by decide +kernel
theorem dL_law_827 : decode cL_law 827 = .ok (.iconst 3, 1) := by decide +kernel
theorem dL_law_828 : decode cL_law 828 = .ok (.iadd, 1) := by decide +kernel
theorem dL_law_829 : decode cL_law 829 = .ok (.iaload, 1) := by decide +kernel
theorem dL_law_830 : decode cL_law 830 = .ok (.invokevirtual 120, 3) := by decide +kernel
theorem dL_law_833 : decode cL_law 833 = .ok (.if_icmp .eq 31, 3) := by decide +kernel
theorem dL_law_836 : decode cL_law 836 = .ok (.iconst 0, 1) := by decide +kernel
theorem dL_law_837 : decode cL_law 837 = .ok (.ireturn, 1) := by decide +kernel
theorem dL_law_838 : decode cL_law 838 = .ok (.aload_n 1, 1) := by decide +kernel
theorem dL_law_839 : decode cL_law 839 = .ok (.invokevirtual 121, 3) := by decide +kernel
theorem dL_law_842 : decode cL_law 842 = .ok (.aload_n 2, 1) := by decide +kernel
theorem dL_law_843 : decode cL_law 843 = .ok (.invokevirtual 124, 3) := by decide +kernel
theorem dL_law_846 : decode cL_law 846 = .ok (.if_icmp .eq 18, 3) := by decide +kernel
theorem dL_law_849 : decode cL_law 849 = .ok (.iconst 0, 1) := by decide +kernel
theorem dL_law_850 : decode cL_law 850 = .ok (.ireturn, 1) := by decide +kernel
theorem dL_law_851 : decode cL_law 851 = .ok (.aload_n 1, 1) := by decide +kernel
theorem dL_law_852 : decode cL_law 852 = .ok (.invokevirtual 125, 3) := by decide +kernel
theorem dL_law_855 : decode cL_law 855 = .ok (.aload_n 2, 1) := by decide +kernel
theorem dL_law_856 : decode cL_law 856 = .ok (.invokevirtual 128, 3) := by decide +kernel
theorem dL_law_859 : decode cL_law 859 = .ok (.if_icmp .eq 5, 3) := by decide +kernel
theorem dL_law_862 : decode cL_law 862 = .ok (.iconst 0, 1) := by decide +kernel
theorem dL_law_863 : decode cL_law 863 = .ok (.ireturn, 1) := by decide +kernel
theorem dL_law_864 : decode cL_law 864 = .ok (.iinc 3 4, 3) := by decide +kernel
theorem dL_law_867 : decode cL_law 867 = .ok (.goto (-849), 3) := by decide +kernel
theorem dL_law_870 : decode cL_law 870 = .ok (.iconst 1, 1) := by decide +kernel
theorem dL_law_871 : decode cL_law 871 = .ok (.ireturn, 1) := by decide +kernel
end
