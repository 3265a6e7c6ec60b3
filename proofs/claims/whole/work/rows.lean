section
-- ===== PART A: goes FIRST, ahead of the names: the tables' words, and 'selects' of the private methods out of them =====
/-- a private method of a class that the tables say can be made, by its rows of tables_1 -/
def lw_okq (q : MethodName × Nat) : Prop := (q.1.cls ≠ "java/lang/invoke/MethodHandle" ∧ q.1.cls ≠ "java/lang/invoke/VarHandle") ∧ Cond.instantiable q.1.cls q.2 ∈ tables_1 ∧ Cond.privateMethod q.1 ∈ tables_1 ∧ Cond.instanceMethod q.1 ∈ tables_1
theorem lw_p0 : lw_okq (⟨"java/lang/Throwable", "fillInStackTrace", "(I)Ljava/lang/Throwable;"⟩, 6) := ⟨⟨by decide +kernel, by decide +kernel⟩, List.mem_of_getElem? (i := 131) (by decide +kernel), List.mem_of_getElem? (i := 129) (by decide +kernel), List.mem_of_getElem? (i := 130) (by decide +kernel)⟩
theorem lw_p1 : lw_okq (⟨"java/util/ArrayList", "add", "(Ljava/lang/Object;[Ljava/lang/Object;I)V"⟩, 3) := ⟨⟨by decide +kernel, by decide +kernel⟩, List.mem_of_getElem? (i := 31) (by decide +kernel), List.mem_of_getElem? (i := 273) (by decide +kernel), List.mem_of_getElem? (i := 274) (by decide +kernel)⟩
theorem lw_p2 : lw_okq (⟨"java/util/ArrayList", "grow", "()[Ljava/lang/Object;"⟩, 3) := ⟨⟨by decide +kernel, by decide +kernel⟩, List.mem_of_getElem? (i := 31) (by decide +kernel), List.mem_of_getElem? (i := 277) (by decide +kernel), List.mem_of_getElem? (i := 278) (by decide +kernel)⟩
theorem lw_p3 : lw_okq (⟨"java/util/ArrayList", "grow", "(I)[Ljava/lang/Object;"⟩, 3) := ⟨⟨by decide +kernel, by decide +kernel⟩, List.mem_of_getElem? (i := 31) (by decide +kernel), List.mem_of_getElem? (i := 281) (by decide +kernel), List.mem_of_getElem? (i := 282) (by decide +kernel)⟩
theorem lw_p4 : lw_okq (⟨"BlockFleet", "nodeNumbered", "(I)LBlockFleet$Node;"⟩, 6) := ⟨⟨by decide +kernel, by decide +kernel⟩, List.mem_of_getElem? (i := 23) (by decide +kernel), List.mem_of_getElem? (i := 331) (by decide +kernel), List.mem_of_getElem? (i := 332) (by decide +kernel)⟩
theorem lw_p5 : lw_okq (⟨"BlockFleet", "pieceNumbered", "(I)LBlockFleet$Piece;"⟩, 6) := ⟨⟨by decide +kernel, by decide +kernel⟩, List.mem_of_getElem? (i := 23) (by decide +kernel), List.mem_of_getElem? (i := 357) (by decide +kernel), List.mem_of_getElem? (i := 358) (by decide +kernel)⟩
theorem lw_p6 : lw_okq (⟨"BlockFleet", "passOneSecond", "()V"⟩, 6) := ⟨⟨by decide +kernel, by decide +kernel⟩, List.mem_of_getElem? (i := 23) (by decide +kernel), List.mem_of_getElem? (i := 402) (by decide +kernel), List.mem_of_getElem? (i := 403) (by decide +kernel)⟩
theorem lw_p7 : lw_okq (⟨"BlockFleet", "stopCountingIfLongDown", "(LBlockFleet$Node;)V"⟩, 6) := ⟨⟨by decide +kernel, by decide +kernel⟩, List.mem_of_getElem? (i := 23) (by decide +kernel), List.mem_of_getElem? (i := 406) (by decide +kernel), List.mem_of_getElem? (i := 407) (by decide +kernel)⟩
theorem lw_p8 : lw_okq (⟨"java/util/ArrayList", "fastRemove", "([Ljava/lang/Object;I)V"⟩, 3) := ⟨⟨by decide +kernel, by decide +kernel⟩, List.mem_of_getElem? (i := 31) (by decide +kernel), List.mem_of_getElem? (i := 428) (by decide +kernel), List.mem_of_getElem? (i := 429) (by decide +kernel)⟩
theorem lw_p9 : lw_okq (⟨"BlockFleet", "endFiles", "()V"⟩, 6) := ⟨⟨by decide +kernel, by decide +kernel⟩, List.mem_of_getElem? (i := 23) (by decide +kernel), List.mem_of_getElem? (i := 452) (by decide +kernel), List.mem_of_getElem? (i := 453) (by decide +kernel)⟩
theorem lw_p10 : lw_okq (⟨"BlockFleet", "mendNeediestPiece", "()V"⟩, 6) := ⟨⟨by decide +kernel, by decide +kernel⟩, List.mem_of_getElem? (i := 23) (by decide +kernel), List.mem_of_getElem? (i := 475) (by decide +kernel), List.mem_of_getElem? (i := 476) (by decide +kernel)⟩
theorem lw_p11 : lw_okq (⟨"BlockFleet", "canBeMended", "(LBlockFleet$Piece;)Z"⟩, 6) := ⟨⟨by decide +kernel, by decide +kernel⟩, List.mem_of_getElem? (i := 23) (by decide +kernel), List.mem_of_getElem? (i := 479) (by decide +kernel), List.mem_of_getElem? (i := 480) (by decide +kernel)⟩
theorem lw_p12 : lw_okq (⟨"BlockFleet", "bestPlace", "(LBlockFleet$Piece;)LBlockFleet$Node;"⟩, 6) := ⟨⟨by decide +kernel, by decide +kernel⟩, List.mem_of_getElem? (i := 23) (by decide +kernel), List.mem_of_getElem? (i := 489) (by decide +kernel), List.mem_of_getElem? (i := 490) (by decide +kernel)⟩
theorem lw_p13 : lw_okq (⟨"BlockFleet", "moveOneCopy", "()V"⟩, 6) := ⟨⟨by decide +kernel, by decide +kernel⟩, List.mem_of_getElem? (i := 23) (by decide +kernel), List.mem_of_getElem? (i := 531) (by decide +kernel), List.mem_of_getElem? (i := 532) (by decide +kernel)⟩
theorem lw_p14 : lw_okq (⟨"BlockFleet", "addFile", "()LBlockFleet$File;"⟩, 6) := ⟨⟨by decide +kernel, by decide +kernel⟩, List.mem_of_getElem? (i := 23) (by decide +kernel), List.mem_of_getElem? (i := 556) (by decide +kernel), List.mem_of_getElem? (i := 557) (by decide +kernel)⟩
theorem lw_p15 : lw_okq (⟨"BlockFleet", "fileNumbered", "(I)LBlockFleet$File;"⟩, 6) := ⟨⟨by decide +kernel, by decide +kernel⟩, List.mem_of_getElem? (i := 23) (by decide +kernel), List.mem_of_getElem? (i := 592) (by decide +kernel), List.mem_of_getElem? (i := 593) (by decide +kernel)⟩
def lw_privs_1 : List (MethodName × Nat) := [(⟨"java/lang/Throwable", "fillInStackTrace", "(I)Ljava/lang/Throwable;"⟩, 6), (⟨"java/util/ArrayList", "add", "(Ljava/lang/Object;[Ljava/lang/Object;I)V"⟩, 3), (⟨"java/util/ArrayList", "grow", "()[Ljava/lang/Object;"⟩, 3), (⟨"java/util/ArrayList", "grow", "(I)[Ljava/lang/Object;"⟩, 3), (⟨"BlockFleet", "nodeNumbered", "(I)LBlockFleet$Node;"⟩, 6), (⟨"BlockFleet", "pieceNumbered", "(I)LBlockFleet$Piece;"⟩, 6), (⟨"BlockFleet", "passOneSecond", "()V"⟩, 6), (⟨"BlockFleet", "stopCountingIfLongDown", "(LBlockFleet$Node;)V"⟩, 6), (⟨"java/util/ArrayList", "fastRemove", "([Ljava/lang/Object;I)V"⟩, 3), (⟨"BlockFleet", "endFiles", "()V"⟩, 6), (⟨"BlockFleet", "mendNeediestPiece", "()V"⟩, 6), (⟨"BlockFleet", "canBeMended", "(LBlockFleet$Piece;)Z"⟩, 6), (⟨"BlockFleet", "bestPlace", "(LBlockFleet$Piece;)LBlockFleet$Node;"⟩, 6), (⟨"BlockFleet", "moveOneCopy", "()V"⟩, 6), (⟨"BlockFleet", "addFile", "()LBlockFleet$File;"⟩, 6), (⟨"BlockFleet", "fileNumbered", "(I)LBlockFleet$File;"⟩, 6)]
theorem lw_r1 : ∀ q ∈ lw_privs_1, lw_okq q := List.forall_mem_cons.mpr ⟨lw_p0, List.forall_mem_cons.mpr ⟨lw_p1, List.forall_mem_cons.mpr ⟨lw_p2, List.forall_mem_cons.mpr ⟨lw_p3, List.forall_mem_cons.mpr ⟨lw_p4, List.forall_mem_cons.mpr ⟨lw_p5, List.forall_mem_cons.mpr ⟨lw_p6, List.forall_mem_cons.mpr ⟨lw_p7, List.forall_mem_cons.mpr ⟨lw_p8, List.forall_mem_cons.mpr ⟨lw_p9, List.forall_mem_cons.mpr ⟨lw_p10, List.forall_mem_cons.mpr ⟨lw_p11, List.forall_mem_cons.mpr ⟨lw_p12, List.forall_mem_cons.mpr ⟨lw_p13, List.forall_mem_cons.mpr ⟨lw_p14, List.forall_mem_cons.mpr ⟨lw_p15, fun _ h => absurd h List.not_mem_nil⟩⟩⟩⟩⟩⟩⟩⟩⟩⟩⟩⟩⟩⟩⟩⟩
theorem lw_p16 : lw_okq (⟨"BlockFleet", "endOfLastPiece", "(LBlockFleet$File;)I"⟩, 6) := ⟨⟨by decide +kernel, by decide +kernel⟩, List.mem_of_getElem? (i := 23) (by decide +kernel), List.mem_of_getElem? (i := 627) (by decide +kernel), List.mem_of_getElem? (i := 628) (by decide +kernel)⟩
theorem lw_p17 : lw_okq (⟨"BlockFleet", "primaryLength", "(LBlockFleet$Piece;)I"⟩, 6) := ⟨⟨by decide +kernel, by decide +kernel⟩, List.mem_of_getElem? (i := 23) (by decide +kernel), List.mem_of_getElem? (i := 631) (by decide +kernel), List.mem_of_getElem? (i := 632) (by decide +kernel)⟩
theorem lw_p18 : lw_okq (⟨"BlockFleet", "isPrimaryUp", "(LBlockFleet$Piece;)Z"⟩, 6) := ⟨⟨by decide +kernel, by decide +kernel⟩, List.mem_of_getElem? (i := 23) (by decide +kernel), List.mem_of_getElem? (i := 635) (by decide +kernel), List.mem_of_getElem? (i := 636) (by decide +kernel)⟩
theorem lw_p19 : lw_okq (⟨"BlockFleet", "isLeased", "(LBlockFleet$Piece;)Z"⟩, 6) := ⟨⟨by decide +kernel, by decide +kernel⟩, List.mem_of_getElem? (i := 23) (by decide +kernel), List.mem_of_getElem? (i := 639) (by decide +kernel), List.mem_of_getElem? (i := 640) (by decide +kernel)⟩
theorem lw_p20 : lw_okq (⟨"BlockFleet", "startPiece", "(LBlockFleet$File;)V"⟩, 6) := ⟨⟨by decide +kernel, by decide +kernel⟩, List.mem_of_getElem? (i := 23) (by decide +kernel), List.mem_of_getElem? (i := 647) (by decide +kernel), List.mem_of_getElem? (i := 648) (by decide +kernel)⟩
theorem lw_p21 : lw_okq (⟨"BlockFleet", "requireRoomForPiece", "()V"⟩, 6) := ⟨⟨by decide +kernel, by decide +kernel⟩, List.mem_of_getElem? (i := 23) (by decide +kernel), List.mem_of_getElem? (i := 652) (by decide +kernel), List.mem_of_getElem? (i := 653) (by decide +kernel)⟩
theorem lw_p22 : lw_okq (⟨"BlockFleet", "writeEverywhere", "(LBlockFleet$File;III)Z"⟩, 6) := ⟨⟨by decide +kernel, by decide +kernel⟩, List.mem_of_getElem? (i := 23) (by decide +kernel), List.mem_of_getElem? (i := 697) (by decide +kernel), List.mem_of_getElem? (i := 698) (by decide +kernel)⟩
theorem lw_p23 : lw_okq (⟨"BlockFleet", "partPiece", "(LBlockFleet$File;ILBlockFleet$Piece;)LBlockFleet$Piece;"⟩, 6) := ⟨⟨by decide +kernel, by decide +kernel⟩, List.mem_of_getElem? (i := 23) (by decide +kernel), List.mem_of_getElem? (i := 705) (by decide +kernel), List.mem_of_getElem? (i := 706) (by decide +kernel)⟩
theorem lw_p24 : lw_okq (⟨"BlockFleet", "grantLease", "(LBlockFleet$Piece;)V"⟩, 6) := ⟨⟨by decide +kernel, by decide +kernel⟩, List.mem_of_getElem? (i := 23) (by decide +kernel), List.mem_of_getElem? (i := 716) (by decide +kernel), List.mem_of_getElem? (i := 717) (by decide +kernel)⟩
theorem lw_p25 : lw_okq (⟨"BlockFleetModel", "holds", "(I)Z"⟩, 27) := ⟨⟨by decide +kernel, by decide +kernel⟩, List.mem_of_getElem? (i := 825) (by decide +kernel), List.mem_of_getElem? (i := 925) (by decide +kernel), List.mem_of_getElem? (i := 926) (by decide +kernel)⟩
theorem lw_p26 : lw_okq (⟨"BlockFleetModel", "isNode", "(I)Z"⟩, 27) := ⟨⟨by decide +kernel, by decide +kernel⟩, List.mem_of_getElem? (i := 825) (by decide +kernel), List.mem_of_getElem? (i := 933) (by decide +kernel), List.mem_of_getElem? (i := 934) (by decide +kernel)⟩
theorem lw_p27 : lw_okq (⟨"BlockFleetModel", "isPiece", "(I)Z"⟩, 27) := ⟨⟨by decide +kernel, by decide +kernel⟩, List.mem_of_getElem? (i := 825) (by decide +kernel), List.mem_of_getElem? (i := 941) (by decide +kernel), List.mem_of_getElem? (i := 942) (by decide +kernel)⟩
theorem lw_p28 : lw_okq (⟨"BlockFleetModel", "isFile", "(I)Z"⟩, 27) := ⟨⟨by decide +kernel, by decide +kernel⟩, List.mem_of_getElem? (i := 825) (by decide +kernel), List.mem_of_getElem? (i := 964) (by decide +kernel), List.mem_of_getElem? (i := 965) (by decide +kernel)⟩
theorem lw_p29 : lw_okq (⟨"BlockFleetModel", "canAppend", "(I)Z"⟩, 27) := ⟨⟨by decide +kernel, by decide +kernel⟩, List.mem_of_getElem? (i := 825) (by decide +kernel), List.mem_of_getElem? (i := 980) (by decide +kernel), List.mem_of_getElem? (i := 981) (by decide +kernel)⟩
theorem lw_p30 : lw_okq (⟨"BlockFleetModel", "isFull", "(I)Z"⟩, 27) := ⟨⟨by decide +kernel, by decide +kernel⟩, List.mem_of_getElem? (i := 825) (by decide +kernel), List.mem_of_getElem? (i := 984) (by decide +kernel), List.mem_of_getElem? (i := 985) (by decide +kernel)⟩
theorem lw_p31 : lw_okq (⟨"BlockFleetModel", "foundFor", "(II)I"⟩, 27) := ⟨⟨by decide +kernel, by decide +kernel⟩, List.mem_of_getElem? (i := 825) (by decide +kernel), List.mem_of_getElem? (i := 988) (by decide +kernel), List.mem_of_getElem? (i := 989) (by decide +kernel)⟩
def lw_privs_2 : List (MethodName × Nat) := [(⟨"BlockFleet", "endOfLastPiece", "(LBlockFleet$File;)I"⟩, 6), (⟨"BlockFleet", "primaryLength", "(LBlockFleet$Piece;)I"⟩, 6), (⟨"BlockFleet", "isPrimaryUp", "(LBlockFleet$Piece;)Z"⟩, 6), (⟨"BlockFleet", "isLeased", "(LBlockFleet$Piece;)Z"⟩, 6), (⟨"BlockFleet", "startPiece", "(LBlockFleet$File;)V"⟩, 6), (⟨"BlockFleet", "requireRoomForPiece", "()V"⟩, 6), (⟨"BlockFleet", "writeEverywhere", "(LBlockFleet$File;III)Z"⟩, 6), (⟨"BlockFleet", "partPiece", "(LBlockFleet$File;ILBlockFleet$Piece;)LBlockFleet$Piece;"⟩, 6), (⟨"BlockFleet", "grantLease", "(LBlockFleet$Piece;)V"⟩, 6), (⟨"BlockFleetModel", "holds", "(I)Z"⟩, 27), (⟨"BlockFleetModel", "isNode", "(I)Z"⟩, 27), (⟨"BlockFleetModel", "isPiece", "(I)Z"⟩, 27), (⟨"BlockFleetModel", "isFile", "(I)Z"⟩, 27), (⟨"BlockFleetModel", "canAppend", "(I)Z"⟩, 27), (⟨"BlockFleetModel", "isFull", "(I)Z"⟩, 27), (⟨"BlockFleetModel", "foundFor", "(II)I"⟩, 27)]
theorem lw_r2 : ∀ q ∈ lw_privs_2, lw_okq q := List.forall_mem_cons.mpr ⟨lw_p16, List.forall_mem_cons.mpr ⟨lw_p17, List.forall_mem_cons.mpr ⟨lw_p18, List.forall_mem_cons.mpr ⟨lw_p19, List.forall_mem_cons.mpr ⟨lw_p20, List.forall_mem_cons.mpr ⟨lw_p21, List.forall_mem_cons.mpr ⟨lw_p22, List.forall_mem_cons.mpr ⟨lw_p23, List.forall_mem_cons.mpr ⟨lw_p24, List.forall_mem_cons.mpr ⟨lw_p25, List.forall_mem_cons.mpr ⟨lw_p26, List.forall_mem_cons.mpr ⟨lw_p27, List.forall_mem_cons.mpr ⟨lw_p28, List.forall_mem_cons.mpr ⟨lw_p29, List.forall_mem_cons.mpr ⟨lw_p30, List.forall_mem_cons.mpr ⟨lw_p31, fun _ h => absurd h List.not_mem_nil⟩⟩⟩⟩⟩⟩⟩⟩⟩⟩⟩⟩⟩⟩⟩⟩
theorem lw_p32 : lw_okq (⟨"BlockFleetModel", "isShared", "(II)Z"⟩, 27) := ⟨⟨by decide +kernel, by decide +kernel⟩, List.mem_of_getElem? (i := 825) (by decide +kernel), List.mem_of_getElem? (i := 992) (by decide +kernel), List.mem_of_getElem? (i := 993) (by decide +kernel)⟩
theorem lw_p33 : lw_okq (⟨"BlockFleetModel", "filesWith", "(II)I"⟩, 27) := ⟨⟨by decide +kernel, by decide +kernel⟩, List.mem_of_getElem? (i := 825) (by decide +kernel), List.mem_of_getElem? (i := 996) (by decide +kernel), List.mem_of_getElem? (i := 997) (by decide +kernel)⟩
theorem lw_p34 : lw_okq (⟨"BlockFleetModel", "firstGood", "(IZ)I"⟩, 27) := ⟨⟨by decide +kernel, by decide +kernel⟩, List.mem_of_getElem? (i := 825) (by decide +kernel), List.mem_of_getElem? (i := 1000) (by decide +kernel), List.mem_of_getElem? (i := 1001) (by decide +kernel)⟩
theorem lw_p35 : lw_okq (⟨"BlockFleetModel", "isGood", "(II)Z"⟩, 27) := ⟨⟨by decide +kernel, by decide +kernel⟩, List.mem_of_getElem? (i := 825) (by decide +kernel), List.mem_of_getElem? (i := 1004) (by decide +kernel), List.mem_of_getElem? (i := 1005) (by decide +kernel)⟩
theorem lw_p36 : lw_okq (⟨"BlockFleetModel", "hasLease", "(I)Z"⟩, 27) := ⟨⟨by decide +kernel, by decide +kernel⟩, List.mem_of_getElem? (i := 825) (by decide +kernel), List.mem_of_getElem? (i := 1008) (by decide +kernel), List.mem_of_getElem? (i := 1009) (by decide +kernel)⟩
theorem lw_p37 : lw_okq (⟨"BlockFleetModel", "firstUp", "(I)I"⟩, 27) := ⟨⟨by decide +kernel, by decide +kernel⟩, List.mem_of_getElem? (i := 825) (by decide +kernel), List.mem_of_getElem? (i := 1012) (by decide +kernel), List.mem_of_getElem? (i := 1013) (by decide +kernel)⟩
theorem lw_p38 : lw_okq (⟨"BlockFleetModel", "hasPlace", "()Z"⟩, 27) := ⟨⟨by decide +kernel, by decide +kernel⟩, List.mem_of_getElem? (i := 825) (by decide +kernel), List.mem_of_getElem? (i := 1016) (by decide +kernel), List.mem_of_getElem? (i := 1017) (by decide +kernel)⟩
theorem lw_p39 : lw_okq (⟨"BlockFleetModel", "isOpen", "(I)Z"⟩, 27) := ⟨⟨by decide +kernel, by decide +kernel⟩, List.mem_of_getElem? (i := 825) (by decide +kernel), List.mem_of_getElem? (i := 1020) (by decide +kernel), List.mem_of_getElem? (i := 1021) (by decide +kernel)⟩
theorem lw_p40 : lw_okq (⟨"BlockFleetModel", "loadOf", "(I)I"⟩, 27) := ⟨⟨by decide +kernel, by decide +kernel⟩, List.mem_of_getElem? (i := 825) (by decide +kernel), List.mem_of_getElem? (i := 1024) (by decide +kernel), List.mem_of_getElem? (i := 1025) (by decide +kernel)⟩
theorem lw_p41 : lw_okq (⟨"BlockFleetModel", "canWrite", "(II)Z"⟩, 27) := ⟨⟨by decide +kernel, by decide +kernel⟩, List.mem_of_getElem? (i := 825) (by decide +kernel), List.mem_of_getElem? (i := 1028) (by decide +kernel), List.mem_of_getElem? (i := 1029) (by decide +kernel)⟩
theorem lw_p42 : lw_okq (⟨"BlockFleetModel", "canPart", "(I)Z"⟩, 27) := ⟨⟨by decide +kernel, by decide +kernel⟩, List.mem_of_getElem? (i := 825) (by decide +kernel), List.mem_of_getElem? (i := 1032) (by decide +kernel), List.mem_of_getElem? (i := 1033) (by decide +kernel)⟩
theorem lw_p43 : lw_okq (⟨"BlockFleetModel", "adds", "(I)V"⟩, 27) := ⟨⟨by decide +kernel, by decide +kernel⟩, List.mem_of_getElem? (i := 825) (by decide +kernel), List.mem_of_getElem? (i := 1036) (by decide +kernel), List.mem_of_getElem? (i := 1037) (by decide +kernel)⟩
theorem lw_p44 : lw_okq (⟨"BlockFleetModel", "newPiece", "()I"⟩, 27) := ⟨⟨by decide +kernel, by decide +kernel⟩, List.mem_of_getElem? (i := 825) (by decide +kernel), List.mem_of_getElem? (i := 1040) (by decide +kernel), List.mem_of_getElem? (i := 1041) (by decide +kernel)⟩
theorem lw_p45 : lw_okq (⟨"BlockFleetModel", "endsLease", "(I)V"⟩, 27) := ⟨⟨by decide +kernel, by decide +kernel⟩, List.mem_of_getElem? (i := 825) (by decide +kernel), List.mem_of_getElem? (i := 1044) (by decide +kernel), List.mem_of_getElem? (i := 1045) (by decide +kernel)⟩
theorem lw_p46 : lw_okq (⟨"BlockFleetModel", "best", "(I)I"⟩, 27) := ⟨⟨by decide +kernel, by decide +kernel⟩, List.mem_of_getElem? (i := 825) (by decide +kernel), List.mem_of_getElem? (i := 1048) (by decide +kernel), List.mem_of_getElem? (i := 1049) (by decide +kernel)⟩
theorem lw_p47 : lw_okq (⟨"BlockFleetModel", "inRack", "(II)I"⟩, 27) := ⟨⟨by decide +kernel, by decide +kernel⟩, List.mem_of_getElem? (i := 825) (by decide +kernel), List.mem_of_getElem? (i := 1052) (by decide +kernel), List.mem_of_getElem? (i := 1053) (by decide +kernel)⟩
def lw_privs_3 : List (MethodName × Nat) := [(⟨"BlockFleetModel", "isShared", "(II)Z"⟩, 27), (⟨"BlockFleetModel", "filesWith", "(II)I"⟩, 27), (⟨"BlockFleetModel", "firstGood", "(IZ)I"⟩, 27), (⟨"BlockFleetModel", "isGood", "(II)Z"⟩, 27), (⟨"BlockFleetModel", "hasLease", "(I)Z"⟩, 27), (⟨"BlockFleetModel", "firstUp", "(I)I"⟩, 27), (⟨"BlockFleetModel", "hasPlace", "()Z"⟩, 27), (⟨"BlockFleetModel", "isOpen", "(I)Z"⟩, 27), (⟨"BlockFleetModel", "loadOf", "(I)I"⟩, 27), (⟨"BlockFleetModel", "canWrite", "(II)Z"⟩, 27), (⟨"BlockFleetModel", "canPart", "(I)Z"⟩, 27), (⟨"BlockFleetModel", "adds", "(I)V"⟩, 27), (⟨"BlockFleetModel", "newPiece", "()I"⟩, 27), (⟨"BlockFleetModel", "endsLease", "(I)V"⟩, 27), (⟨"BlockFleetModel", "best", "(I)I"⟩, 27), (⟨"BlockFleetModel", "inRack", "(II)I"⟩, 27)]
theorem lw_r3 : ∀ q ∈ lw_privs_3, lw_okq q := List.forall_mem_cons.mpr ⟨lw_p32, List.forall_mem_cons.mpr ⟨lw_p33, List.forall_mem_cons.mpr ⟨lw_p34, List.forall_mem_cons.mpr ⟨lw_p35, List.forall_mem_cons.mpr ⟨lw_p36, List.forall_mem_cons.mpr ⟨lw_p37, List.forall_mem_cons.mpr ⟨lw_p38, List.forall_mem_cons.mpr ⟨lw_p39, List.forall_mem_cons.mpr ⟨lw_p40, List.forall_mem_cons.mpr ⟨lw_p41, List.forall_mem_cons.mpr ⟨lw_p42, List.forall_mem_cons.mpr ⟨lw_p43, List.forall_mem_cons.mpr ⟨lw_p44, List.forall_mem_cons.mpr ⟨lw_p45, List.forall_mem_cons.mpr ⟨lw_p46, List.forall_mem_cons.mpr ⟨lw_p47, fun _ h => absurd h List.not_mem_nil⟩⟩⟩⟩⟩⟩⟩⟩⟩⟩⟩⟩⟩⟩⟩⟩
theorem lw_p48 : lw_okq (⟨"BlockFleetModel", "knows", "(II)V"⟩, 27) := ⟨⟨by decide +kernel, by decide +kernel⟩, List.mem_of_getElem? (i := 825) (by decide +kernel), List.mem_of_getElem? (i := 1056) (by decide +kernel), List.mem_of_getElem? (i := 1057) (by decide +kernel)⟩
theorem lw_p49 : lw_okq (⟨"BlockFleetModel", "readies", "(II)I"⟩, 27) := ⟨⟨by decide +kernel, by decide +kernel⟩, List.mem_of_getElem? (i := 825) (by decide +kernel), List.mem_of_getElem? (i := 1060) (by decide +kernel), List.mem_of_getElem? (i := 1061) (by decide +kernel)⟩
theorem lw_p50 : lw_okq (⟨"BlockFleetModel", "parts", "(II)I"⟩, 27) := ⟨⟨by decide +kernel, by decide +kernel⟩, List.mem_of_getElem? (i := 825) (by decide +kernel), List.mem_of_getElem? (i := 1064) (by decide +kernel), List.mem_of_getElem? (i := 1065) (by decide +kernel)⟩
theorem lw_p51 : lw_okq (⟨"BlockFleetModel", "gets", "(IIII)V"⟩, 27) := ⟨⟨by decide +kernel, by decide +kernel⟩, List.mem_of_getElem? (i := 825) (by decide +kernel), List.mem_of_getElem? (i := 1068) (by decide +kernel), List.mem_of_getElem? (i := 1069) (by decide +kernel)⟩
theorem lw_p52 : lw_okq (⟨"BlockFleetModel", "leases", "(I)V"⟩, 27) := ⟨⟨by decide +kernel, by decide +kernel⟩, List.mem_of_getElem? (i := 825) (by decide +kernel), List.mem_of_getElem? (i := 1072) (by decide +kernel), List.mem_of_getElem? (i := 1073) (by decide +kernel)⟩
theorem lw_p53 : lw_okq (⟨"BlockFleetModel", "forgets", "(II)V"⟩, 27) := ⟨⟨by decide +kernel, by decide +kernel⟩, List.mem_of_getElem? (i := 825) (by decide +kernel), List.mem_of_getElem? (i := 1076) (by decide +kernel), List.mem_of_getElem? (i := 1077) (by decide +kernel)⟩
theorem lw_p54 : lw_okq (⟨"BlockFleetModel", "placeOf", "(II)I"⟩, 27) := ⟨⟨by decide +kernel, by decide +kernel⟩, List.mem_of_getElem? (i := 825) (by decide +kernel), List.mem_of_getElem? (i := 1080) (by decide +kernel), List.mem_of_getElem? (i := 1081) (by decide +kernel)⟩
theorem lw_p55 : lw_okq (⟨"BlockFleetModel", "writesAll", "(III)Z"⟩, 27) := ⟨⟨by decide +kernel, by decide +kernel⟩, List.mem_of_getElem? (i := 825) (by decide +kernel), List.mem_of_getElem? (i := 1084) (by decide +kernel), List.mem_of_getElem? (i := 1085) (by decide +kernel)⟩
theorem lw_p56 : lw_okq (⟨"BlockFleetModel", "writes", "(IIII)V"⟩, 27) := ⟨⟨by decide +kernel, by decide +kernel⟩, List.mem_of_getElem? (i := 825) (by decide +kernel), List.mem_of_getElem? (i := 1088) (by decide +kernel), List.mem_of_getElem? (i := 1089) (by decide +kernel)⟩
theorem lw_p57 : lw_okq (⟨"BlockFleetModel", "rowsOf", "(I)I"⟩, 27) := ⟨⟨by decide +kernel, by decide +kernel⟩, List.mem_of_getElem? (i := 825) (by decide +kernel), List.mem_of_getElem? (i := 1096) (by decide +kernel), List.mem_of_getElem? (i := 1097) (by decide +kernel)⟩
theorem lw_p58 : lw_okq (⟨"BlockFleetModel", "nearest", "(II)I"⟩, 27) := ⟨⟨by decide +kernel, by decide +kernel⟩, List.mem_of_getElem? (i := 825) (by decide +kernel), List.mem_of_getElem? (i := 1104) (by decide +kernel), List.mem_of_getElem? (i := 1105) (by decide +kernel)⟩
theorem lw_p59 : lw_okq (⟨"BlockFleetModel", "drops", "(II)V"⟩, 27) := ⟨⟨by decide +kernel, by decide +kernel⟩, List.mem_of_getElem? (i := 825) (by decide +kernel), List.mem_of_getElem? (i := 1108) (by decide +kernel), List.mem_of_getElem? (i := 1109) (by decide +kernel)⟩
theorem lw_p60 : lw_okq (⟨"BlockFleetModel", "counts", "()V"⟩, 27) := ⟨⟨by decide +kernel, by decide +kernel⟩, List.mem_of_getElem? (i := 825) (by decide +kernel), List.mem_of_getElem? (i := 1116) (by decide +kernel), List.mem_of_getElem? (i := 1117) (by decide +kernel)⟩
theorem lw_p61 : lw_okq (⟨"BlockFleetModel", "sorts", "(I)V"⟩, 27) := ⟨⟨by decide +kernel, by decide +kernel⟩, List.mem_of_getElem? (i := 825) (by decide +kernel), List.mem_of_getElem? (i := 1120) (by decide +kernel), List.mem_of_getElem? (i := 1121) (by decide +kernel)⟩
theorem lw_p62 : lw_okq (⟨"BlockFleetModel", "isGone", "(I)Z"⟩, 27) := ⟨⟨by decide +kernel, by decide +kernel⟩, List.mem_of_getElem? (i := 825) (by decide +kernel), List.mem_of_getElem? (i := 1124) (by decide +kernel), List.mem_of_getElem? (i := 1125) (by decide +kernel)⟩
theorem lw_p63 : lw_okq (⟨"BlockFleetModel", "scrubs", "(I)V"⟩, 27) := ⟨⟨by decide +kernel, by decide +kernel⟩, List.mem_of_getElem? (i := 825) (by decide +kernel), List.mem_of_getElem? (i := 1128) (by decide +kernel), List.mem_of_getElem? (i := 1129) (by decide +kernel)⟩
def lw_privs_4 : List (MethodName × Nat) := [(⟨"BlockFleetModel", "knows", "(II)V"⟩, 27), (⟨"BlockFleetModel", "readies", "(II)I"⟩, 27), (⟨"BlockFleetModel", "parts", "(II)I"⟩, 27), (⟨"BlockFleetModel", "gets", "(IIII)V"⟩, 27), (⟨"BlockFleetModel", "leases", "(I)V"⟩, 27), (⟨"BlockFleetModel", "forgets", "(II)V"⟩, 27), (⟨"BlockFleetModel", "placeOf", "(II)I"⟩, 27), (⟨"BlockFleetModel", "writesAll", "(III)Z"⟩, 27), (⟨"BlockFleetModel", "writes", "(IIII)V"⟩, 27), (⟨"BlockFleetModel", "rowsOf", "(I)I"⟩, 27), (⟨"BlockFleetModel", "nearest", "(II)I"⟩, 27), (⟨"BlockFleetModel", "drops", "(II)V"⟩, 27), (⟨"BlockFleetModel", "counts", "()V"⟩, 27), (⟨"BlockFleetModel", "sorts", "(I)V"⟩, 27), (⟨"BlockFleetModel", "isGone", "(I)Z"⟩, 27), (⟨"BlockFleetModel", "scrubs", "(I)V"⟩, 27)]
theorem lw_r4 : ∀ q ∈ lw_privs_4, lw_okq q := List.forall_mem_cons.mpr ⟨lw_p48, List.forall_mem_cons.mpr ⟨lw_p49, List.forall_mem_cons.mpr ⟨lw_p50, List.forall_mem_cons.mpr ⟨lw_p51, List.forall_mem_cons.mpr ⟨lw_p52, List.forall_mem_cons.mpr ⟨lw_p53, List.forall_mem_cons.mpr ⟨lw_p54, List.forall_mem_cons.mpr ⟨lw_p55, List.forall_mem_cons.mpr ⟨lw_p56, List.forall_mem_cons.mpr ⟨lw_p57, List.forall_mem_cons.mpr ⟨lw_p58, List.forall_mem_cons.mpr ⟨lw_p59, List.forall_mem_cons.mpr ⟨lw_p60, List.forall_mem_cons.mpr ⟨lw_p61, List.forall_mem_cons.mpr ⟨lw_p62, List.forall_mem_cons.mpr ⟨lw_p63, fun _ h => absurd h List.not_mem_nil⟩⟩⟩⟩⟩⟩⟩⟩⟩⟩⟩⟩⟩⟩⟩⟩
theorem lw_p64 : lw_okq (⟨"BlockFleetModel", "mends", "()V"⟩, 27) := ⟨⟨by decide +kernel, by decide +kernel⟩, List.mem_of_getElem? (i := 825) (by decide +kernel), List.mem_of_getElem? (i := 1132) (by decide +kernel), List.mem_of_getElem? (i := 1133) (by decide +kernel)⟩
theorem lw_p65 : lw_okq (⟨"BlockFleetModel", "trims", "(I)V"⟩, 27) := ⟨⟨by decide +kernel, by decide +kernel⟩, List.mem_of_getElem? (i := 825) (by decide +kernel), List.mem_of_getElem? (i := 1136) (by decide +kernel), List.mem_of_getElem? (i := 1137) (by decide +kernel)⟩
theorem lw_p66 : lw_okq (⟨"BlockFleetModel", "balances", "()V"⟩, 27) := ⟨⟨by decide +kernel, by decide +kernel⟩, List.mem_of_getElem? (i := 825) (by decide +kernel), List.mem_of_getElem? (i := 1140) (by decide +kernel), List.mem_of_getElem? (i := 1141) (by decide +kernel)⟩
theorem lw_p67 : lw_okq (⟨"BlockFleetModel", "goodMany", "(I)I"⟩, 27) := ⟨⟨by decide +kernel, by decide +kernel⟩, List.mem_of_getElem? (i := 825) (by decide +kernel), List.mem_of_getElem? (i := 1160) (by decide +kernel), List.mem_of_getElem? (i := 1161) (by decide +kernel)⟩
theorem lw_p68 : lw_okq (⟨"BlockFleetModel", "isMisplaced", "(I)Z"⟩, 27) := ⟨⟨by decide +kernel, by decide +kernel⟩, List.mem_of_getElem? (i := 825) (by decide +kernel), List.mem_of_getElem? (i := 1188) (by decide +kernel), List.mem_of_getElem? (i := 1189) (by decide +kernel)⟩
def lw_privs_5 : List (MethodName × Nat) := [(⟨"BlockFleetModel", "mends", "()V"⟩, 27), (⟨"BlockFleetModel", "trims", "(I)V"⟩, 27), (⟨"BlockFleetModel", "balances", "()V"⟩, 27), (⟨"BlockFleetModel", "goodMany", "(I)I"⟩, 27), (⟨"BlockFleetModel", "isMisplaced", "(I)Z"⟩, 27)]
theorem lw_r5 : ∀ q ∈ lw_privs_5, lw_okq q := List.forall_mem_cons.mpr ⟨lw_p64, List.forall_mem_cons.mpr ⟨lw_p65, List.forall_mem_cons.mpr ⟨lw_p66, List.forall_mem_cons.mpr ⟨lw_p67, List.forall_mem_cons.mpr ⟨lw_p68, fun _ h => absurd h List.not_mem_nil⟩⟩⟩⟩⟩
def lw_privs : List (MethodName × Nat) := lw_privs_1 ++ (lw_privs_2 ++ (lw_privs_3 ++ (lw_privs_4 ++ (lw_privs_5))))
def lw_tbl : List Cond := k2_sels lw_privs ++ tables_1
theorem lw_privs_ok : ∀ q ∈ lw_privs, lw_okq q := by
  show ∀ q ∈ lw_privs_1 ++ (lw_privs_2 ++ (lw_privs_3 ++ (lw_privs_4 ++ (lw_privs_5)))), lw_okq q
  exact List.forall_mem_append.mpr ⟨lw_r1, List.forall_mem_append.mpr ⟨lw_r2, List.forall_mem_append.mpr ⟨lw_r3, List.forall_mem_append.mpr ⟨lw_r4, lw_r5⟩⟩⟩⟩
end
section
/-! ===== BEGIN words of one list among another's, by their places ===== -/
theorem goodIn_r {big : List Cond} (ws : List Cond) (ps : List Nat) (hp : ws = ps.filterMap (fun i => big[i]?)) (h : ws.all goodWord = true) : GoodIn big ws := by
  intro w hw
  have h1 := List.all_eq_true.mp h w hw
  rw [hp] at hw
  obtain ⟨i, -, hi⟩ := List.mem_filterMap.mp hw
  have hm : w ∈ big := by first | exact List.mem_of_getElem? hi | exact List.getElem?_mem hi
  exact ⟨hm, good_of_word h1⟩
theorem goodIn_app {big a b : List Cond} (ha : GoodIn big a) (hb : GoodIn big b) : GoodIn big (a ++ b) := fun w h => (List.mem_append.mp h).elim (ha w) (hb w)
theorem goodIn_ca {big a b : List Cond} {c : Cond} (ha : GoodIn big (c :: a)) (hb : GoodIn big b) : GoodIn big (c :: (a ++ b)) := fun w h => (List.mem_cons.mp h).elim (fun e => ha w (List.mem_cons.mpr (Or.inl e))) (fun h => (List.mem_append.mp h).elim (fun h => ha w (List.mem_cons.mpr (Or.inr h))) (hb w))
theorem goodIn_sub {big ws : List Cond} (hm : ∀ w ∈ ws, w ∈ big) (h : ws.all goodWord = true) : GoodIn big ws := fun w hw => ⟨hm w hw, good_of_word (List.all_eq_true.mp h w hw)⟩
/-! ===== END ===== -/

/-! ===== BEGIN exceptions that leave a method, and their catching by the caller (launches without stack traces) ===== -/
section VXA
/-! The laws vx_back, vx_callV, vx_callS, vx_callSW, vx_throw0, vx_throwS follow proofs of the library, with one case more: JvmDerived/Free/Laws.lean (Back.of_free), Shelf42/LK1.lean (callV, callS), Shelf/KitTraced.lean (throwNew0V, throwNewS). -/
/-- where a method has thrown q: the class by its name, the cell, what was written, the world -/
def vx_T (XC : String → State → State → Prop) (st : State) (q : Addr) (t : State) (mc ms : Nat) (free : Addr → Prop) : Prop :=
  ∃ (E : String) (ce : Cell) (L : List Loc), XC E st t ∧ t.heap[q]? = some ce ∧ ce.vm = .none ∧ st.vm.findClass E = some ce.cls ∧ st.WarmedH t.vm ∧ st.sameButNew ({ t with vm := st.vm } : State) L mc ms ∧ ∀ z ∈ L, free z.base
def vx_Q (Qc : Array Value → State → Outcome → State → Prop) (XC : String → State → State → Prop) (mc ms : Nat) (free : Addr → Prop) : Array Value → State → Outcome → State → Prop := fun a st o t =>
  (Qc a st o t ∧ ∃ L, FrameEnd st o t L mc ms ∧ ∀ q ∈ L, free q.base) ∨ ∃ q, o = .threw q ∧ vx_T XC st q t mc ms free
/-- a callee that returns or throws -/
def vx_Met (l : Launch) (y : MethodName) (ws : List Cond) (rm : Room) (Pc : Array Value → State → Prop) (Qc : Array Value → State → Outcome → State → Prop) (XC : String → State → State → Prop) (mc ms : Nat) (free : Addr → Prop) : Prop :=
  MetFree l y (headSpec ws rm) Pc (fun _ _ _ _ _ => True) (vx_Q Qc XC mc ms free)
def vx_Post (XC : String → State → State → Prop) (mc ms : Nat) (free : Addr → Prop) : Pt → Array Value → Addr → Pt → Prop := fun A a q B =>
  ∃ (g : JFrame) (mk : MethodId) (t : State) (L : List Loc) (E : String) (ce : Cell), B.U.heap = t.heap ∧ B.U.vm = t.vm ∧ XC E (A.U.calling g mk a) t ∧ t.heap[q]? = some ce ∧ ce.vm = .none ∧ A.U.vm.findClass E = some ce.cls ∧ B.locs = A.locs ++ L ∧ (∀ z ∈ L, free z.base) ∧ B.cells = A.cells + mc ∧ B.slots = A.slots + ms
def vx_Back (l : Launch) (R : Room) (p : Program) (e : Env) (below : List Frame) (s : State) (sargs : Array Value) (y : MethodName) (len W9 : Nat)
    (Pre : Pt → Array Value → Prop) (Post : Pt → Array Value → Option Value → Pt → Prop) (PostX : Pt → Array Value → Addr → Pt → Prop) : Prop :=
  ∀ (m : MethodId) (meth : Method) (c : Code) (A : Pt) (g : JFrame) (ig : Instr) (mk : MethodId) (a : Array Value),
    Stand p l e R s m sargs below meth c A.U A.locs A.cells A.slots → g.method = m → g.locals.size = c.maxLocals → decode c.code g.pc = .ok (ig, len) →
    2 * g.monitorRoom + (g.stack.map fun v => v.category).sum ≤ W9 → A.U.methodNamed? y = some mk → Pre A a →
    (∃ (v : Option Value) (B : Pt), Stand p l e R s m sargs below meth c B.U B.locs B.cells B.slots ∧ Post A a v B ∧
      Steps p.tables e below (doInvoke e (A.U.setTop g) [] mk a).1 (B.U.setTop { g with pc := g.pc + len, stack := v.toList ++ g.stack })) ∨
    (∃ (q : Addr) (B : Pt), Stand p l e R s m sargs below meth c B.U B.locs B.cells B.slots ∧ PostX A a q B ∧
      Steps p.tables e below (doInvoke e (A.U.setTop g) [] mk a).1 ((B.U.setTop g).pushFrame (.throwing q)))
section Payer
variable {l : Launch} {R : Room} {p : Program} {e : Env} {below : List Frame} {s : State} {sargs : Array Value} {y : MethodName} {len W9 : Nat}
theorem vx_back {ws : List Cond} {rm : Room} {Pc : Array Value → State → Prop} {Qc : Array Value → State → Outcome → State → Prop} {XC : String → State → State → Prop} {mc ms : Nat} {free : Addr → Prop} {bytes : ByteArray} {maxL : Nat} {ret : Option FieldType}
    (hM : vx_Met l y ws rm Pc Qc XC mc ms free) (hblind : FrameBlind Pc) (hrc : rm.cells = mc) (hrs : rm.slots = ms)
    (hframes : rm.frames + 1 ≤ R.frames) (hlocals : W9 + (maxL + 11) + rm.locals ≤ R.locals)
    (hws : ∀ w ∈ ws, ∀ a' U, s.WarmedH U.vm → w.before a' U = true) (hcode : Cond.code y bytes maxL ret ∈ ws) (hinit : ∀ a' U, s.WarmedH U.vm → (Cond.initialized y.cls).before a' U = true) :
    vx_Back l R p e below s sargs y len W9 (PreOf R mc ms Pc) (PostOf Qc mc ms free) (vx_Post XC mc ms free) := by
  intro m meth c A g ig mk a X hg hsize hdg hW hn hp
  have h1 : (headSpec ws rm).pre.before a A.U = true := atoms_intro fun w hw => hws w hw _ _ X.warmed
  have h2 : (Cond.code y bytes maxL ret).before a A.U = true := hws _ hcode _ _ X.warmed
  have h3 : (Cond.initialized y.cls).before a A.U = true := hinit _ _ X.warmed
  have h4 : A.cells + (headSpec ws rm).room.cells ≤ R.cells := by rw [show (headSpec ws rm).room.cells = mc from hrc]; exact hp.1
  have h5 : A.slots + (headSpec ws rm).room.slots ≤ R.slots := by rw [show (headSpec ws rm).room.slots = ms from hrs]; exact hp.2.1
  have hPc : Pc a (A.U.calling g mk a) := hblind _ _ _ _ hp.2.2
  obtain ⟨U, Ls, c0, s0⟩ := A
  dsimp only [Pt.U, Pt.locs, Pt.cells, Pt.slots] at h1 h2 h3 h4 h5 X hn hPc ⊢
  obtain ⟨methY, cY, hmY, hcY, -, hlY, -, -, -, -⟩ := Cond.code_spec hn h2
  obtain ⟨kY, hkY, -⟩ := className_of_methodNamed hn
  have hinitY : kY.init = .initialized := Cond.initialized_spec (findClass_of_methodNamed hn) hkY h3
  have h : At U g.method c below := by rw [hg]; exact X.here
  have hlocals9 : W9 + (maxL + 11) + (headSpec ws rm).room.locals ≤ R.locals := hlocals
  have happ : (headSpec ws rm).appliesLoose y e.platform (U.calling g mk a) = true :=
    Spec.appliesLoose_calling (g := g) h hdg hn hkY hinitY
      (X.room_calling (g := g) (R' := (headSpec ws rm).room) hsize hmY hcY hframes (by rw [hlY]; omega) h4 h5) h1
  obtain ⟨mid, hmid⟩ := h.above
  have hfr : (U.setTop g).frames = (.java g :: mid) ++ below := by rw [State.frames_setTop' g h.top, hmid]; rfl
  obtain ⟨o, s₂, hsteps, -, hend, hq⟩ := Steps.callFree hM p X.admits X.cas X.clock (acts := []) hfr happ hPc trivial
  have hq' : vx_Q Qc XC mc ms free a (U.calling g mk a) o s₂ := hq
  rw [State.frames_setTop' g h.top] at hend
  obtain ⟨g₀, hg0⟩ := Option.isSome_iff_exists.mp h.top
  obtain ⟨r, hr⟩ := State.topJava?_eq_some.mp hg0
  have hr' : (({ U with heap := s₂.heap, slotsUsed := s₂.slotsUsed } : State).setVm s₂.vm).frames = .java g₀ :: r := hr
  rcases hq' with ⟨hqc, L, hfe, hL⟩ | ⟨q, rfl, E, ce, L, hx, hce, hcv, hcl, hW₂, hsm, hL⟩
  · obtain ⟨⟨v, rfl⟩, hW₂, e2, q2, q3, q4, q5, q6⟩ := id hfe
    have e3 : s₂ = ({ (U.calling g mk a).setFrames s₂.frames with heap := s₂.heap, slotsUsed := s₂.slotsUsed } : State).setVm s₂.vm := by
      have : s₂ = ({ s₂ with vm := (U.calling g mk a).vm } : State).setVm s₂.vm := rfl
      rw [e2] at this
      exact this
    obtain ⟨c₂, i₂, len₂, hc₂, hd₂, hf₂⟩ := hend
    have hW' : U.WarmedH s₂.vm := hW₂
    have hcc : c₂ = c := by
      have h1 : s₂.code? g.method = U.code? g.method := by
        rw [State.code?_eq, State.code?_eq, hW'.alike.method?]
      exact Option.some.inj (hc₂.symm.trans (h1.trans h.code))
    subst hcc
    have hlen : len₂ = len := by rw [hdg] at hd₂; cases hd₂; rfl
    subst hlen
    have hs₂ : s₂ = (({ U with heap := s₂.heap, slotsUsed := s₂.slotsUsed } : State).setVm s₂.vm).setTop { g with pc := g.pc + len₂, stack := v.toList ++ g.stack } := by
      refine e3.trans ?_
      rw [hf₂, State.calling_eq h.top, State.setFrames_setFrames, State.setTop_of_frames _ hr', hr]
      rfl
    have hsame : U.sameButNew ({ U with heap := s₂.heap, slotsUsed := s₂.slotsUsed } : State) L mc ms := by
      refine ⟨?_, q2, q3, q4, q5, q6⟩
      obtain ⟨t, ht, -⟩ := State.frames_cons hr
      show ({ U with heap := s₂.heap, slotsUsed := s₂.slotsUsed } : State) = { U.setFrames U.frames with heap := s₂.heap, slotsUsed := s₂.slotsUsed }
      rw [State.setFrames_self ht]
    subst hg
    refine Or.inl ⟨v, ⟨(({ U with heap := s₂.heap, slotsUsed := s₂.slotsUsed } : State).setVm s₂.vm), Ls ++ L, c0 + mc, s0 + ms⟩,
      ⟨X.admits, X.cas, X.clock, X.frames, X.room, X.hears, X.method, X.code, (X.here.setHeapUsed s₂.heap s₂.slotsUsed).setVm hW'.alike, X.tail, State.WarmedH.trans X.warmed hW', X.limits, X.bytes, X.same.trans (hsame.setVm s.vm)⟩,
      ⟨g, mk, s₂, L, rfl, rfl, hqc, rfl, hL, rfl, rfl⟩, ?_⟩
    show Steps p.tables e below _ ((({ U with heap := s₂.heap, slotsUsed := s₂.slotsUsed } : State).setVm s₂.vm).setTop { g with pc := g.pc + len₂, stack := v.toList ++ g.stack })
    rw [← hs₂]
    exact hsteps
  · obtain ⟨e2, q2, q3, q4, q5, q6⟩ := id hsm
    have e3 : s₂ = ({ (U.calling g mk a).setFrames s₂.frames with heap := s₂.heap, slotsUsed := s₂.slotsUsed } : State).setVm s₂.vm := by
      have : s₂ = ({ s₂ with vm := (U.calling g mk a).vm } : State).setVm s₂.vm := rfl
      rw [e2] at this
      exact this
    have hf₂ : s₂.frames = .throwing q :: .java g :: U.frames.tail := hend
    have hW' : U.WarmedH s₂.vm := hW₂
    have hs₂ : s₂ = ((({ U with heap := s₂.heap, slotsUsed := s₂.slotsUsed } : State).setVm s₂.vm).setTop g).pushFrame (.throwing q) := by
      refine e3.trans ?_
      rw [hf₂, State.calling_eq h.top, State.setFrames_setFrames, State.pushFrame, State.frames_setTop _ hr', State.setTop_of_frames _ hr', State.setFrames_setFrames, hr]
      rfl
    have hsame : U.sameButNew ({ U with heap := s₂.heap, slotsUsed := s₂.slotsUsed } : State) L mc ms := by
      refine ⟨?_, q2, q3, q4, q5, q6⟩
      obtain ⟨t, ht, -⟩ := State.frames_cons hr
      show ({ U with heap := s₂.heap, slotsUsed := s₂.slotsUsed } : State) = { U.setFrames U.frames with heap := s₂.heap, slotsUsed := s₂.slotsUsed }
      rw [State.setFrames_self ht]
    subst hg
    refine Or.inr ⟨q, ⟨(({ U with heap := s₂.heap, slotsUsed := s₂.slotsUsed } : State).setVm s₂.vm), Ls ++ L, c0 + mc, s0 + ms⟩,
      ⟨X.admits, X.cas, X.clock, X.frames, X.room, X.hears, X.method, X.code, (X.here.setHeapUsed s₂.heap s₂.slotsUsed).setVm hW'.alike, X.tail, State.WarmedH.trans X.warmed hW', X.limits, X.bytes, X.same.trans (hsame.setVm s.vm)⟩,
      ⟨g, mk, s₂, L, E, ce, rfl, rfl, hx, hce, hcv, hcl, rfl, hL, rfl, rfl⟩, ?_⟩
    show Steps p.tables e below _ (((({ U with heap := s₂.heap, slotsUsed := s₂.slotsUsed } : State).setVm s₂.vm).setTop g).pushFrame (.throwing q))
    rw [← hs₂]
    exact hsteps
end Payer
section Calls
variable {p : Program} {l : Launch} {e : Env} {R : Room} {s : State} {m : MethodId} {args : Array Value} {below : List Frame} {meth : Method} {c : Code} {T : State} {locs : List Loc} {cells slots : Nat}
theorem vx_callV (X : Stand p l e R s m args below meth c T locs cells slots) (hexec : p.tables.exec = Jvm.exec) {own C : String} {index : Nat} {y : MethodName} {bytes : ByteArray} {maxL : Nat} {ret : Option FieldType}
    (hown : s.vm.findClass own = some m.cls) (hlink : (Cond.methodLink own index y).before args s = true) (hinst : (Cond.instanceMethod y).before args s = true) (hsel : (Cond.selects C y y).before args s = true)
    (hcode : (Cond.code y bytes maxL ret).before args s = true) (hy : y.cls ≠ "java/lang/invoke/MethodHandle" ∧ y.cls ≠ "java/lang/invoke/VarHandle")
    {W9 : Nat} {Pre : Pt → Array Value → Prop} {Post : Pt → Array Value → Option Value → Pt → Prop} {PostX : Pt → Array Value → Addr → Pt → Prop} (hK : vx_Back l R p e below s args y 3 W9 Pre Post PostX)
    {b : Addr} {cellB : Cell} (hcell : T.heap[b]? = some cellB) (hobj : cellB.vm.isStatics = false) (hcls : s.vm.findClass C = some cellB.cls)
    {g : JFrame} (hg : g.method = m) (hsize : g.locals.size = c.maxLocals) {argsL rest : List Value} (hlen : ∀ sig, parseMethodDescriptor y.desc = some sig → argsL.length = sig.parameters.length)
    (hstack : g.stack = argsL.reverse ++ .ref b :: rest) (hW : 2 * g.monitorRoom + (rest.map fun v => v.category).sum ≤ W9) (hdg : decode c.code g.pc = .ok (.invokevirtual index, 3))
    (hpre : ∀ vm₁, s.WarmedH vm₁ → Pre ⟨T.setVm vm₁, locs, cells, slots⟩ (Value.ref b :: argsL).toArray) :
    (∃ (v : Option Value) (vm₁ : Vm) (B : Pt), s.WarmedH vm₁ ∧ Stand p l e R s m args below meth c B.U B.locs B.cells B.slots ∧ Post ⟨T.setVm vm₁, locs, cells, slots⟩ (Value.ref b :: argsL).toArray v B ∧
      ∀ target, Steps p.tables e below (B.U.setTop { g with pc := g.pc + 3, stack := v.toList ++ rest }) target → Steps p.tables e below (T.setTop g) target) ∨
    (∃ (q : Addr) (vm₁ : Vm) (B : Pt), s.WarmedH vm₁ ∧ Stand p l e R s m args below meth c B.U B.locs B.cells B.slots ∧ PostX ⟨T.setVm vm₁, locs, cells, slots⟩ (Value.ref b :: argsL).toArray q B ∧
      Steps p.tables e below (T.setTop g) ((B.U.setTop { g with stack := rest }).pushFrame (.throwing q))) := by
  obtain ⟨mk, methM, hnamed, hmethM, hstM, habM⟩ := Cond.instanceMethod_spec hinst
  obtain ⟨methM', cM, hmethM', -, -, -, -, -, -, hsigM⟩ := Cond.code_spec hnamed hcode
  cases hmethM.symm.trans hmethM'
  obtain ⟨c2, r2, m2, q1, q2, q3, q4, kP, hkP, hkPi⟩ := Cond.selects_spec hsel
  cases hcls.symm.trans q1
  cases (State.methodFound?_of_named hnamed hy).symm.trans q2
  cases hnamed.symm.trans q3
  have hselP : selectMethod e.platform s.vm cellB.cls mk = .method mk := by rw [Launch.admits_selectMethod X.admits]; exact q4
  obtain ⟨vm₁, X₁, hstep₁⟩ := X.invokevirtual hexec hown hlink hnamed hmethM hstM hkP hkPi hy (a := b) (cell := cellB) hcell
    (fun z h => by rw [h] at hobj; cases hobj) hselP hmethM habM hkP hkPi (g := g) hg (argsL := argsL) (rest := rest) (hlen _ hsigM) hstack hdg
  rcases hK m meth c ⟨T.setVm vm₁, locs, cells, slots⟩ { g with stack := rest } (.invokevirtual index) mk (Value.ref b :: argsL).toArray X₁ hg hsize hdg hW (X₁.named hnamed) (hpre vm₁ X₁.warmed) with ⟨v, B, X', hpost, hsteps⟩ | ⟨q, B, X', hpost, hsteps⟩
  · exact Or.inl ⟨v, vm₁, B, X₁.warmed, X', hpost, fun target h => hstep₁ _ fun acts => by rw [doInvoke_state]; exact hsteps.trans h⟩
  · exact Or.inr ⟨q, vm₁, B, X₁.warmed, X', hpost, hstep₁ _ fun acts => by rw [doInvoke_state]; exact hsteps⟩
theorem vx_callS (X : Stand p l e R s m args below meth c T locs cells slots) (hexec : p.tables.exec = Jvm.exec) {own : String} {index : Nat} {y : MethodName} {bytes : ByteArray} {maxL : Nat} {ret : Option FieldType}
    (hown : s.vm.findClass own = some m.cls) (hlink : (Cond.methodLink own index y).before args s = true) (hstat : (Cond.static y).before args s = true) (hinit : (Cond.initialized y.cls).before args s = true)
    (hcode : (Cond.code y bytes maxL ret).before args s = true) (hy : y.cls ≠ "java/lang/invoke/MethodHandle" ∧ y.cls ≠ "java/lang/invoke/VarHandle")
    {W9 : Nat} {Pre : Pt → Array Value → Prop} {Post : Pt → Array Value → Option Value → Pt → Prop} {PostX : Pt → Array Value → Addr → Pt → Prop} (hK : vx_Back l R p e below s args y 3 W9 Pre Post PostX)
    {g : JFrame} (hg : g.method = m) (hsize : g.locals.size = c.maxLocals) {argsL rest : List Value} (hlen : ∀ sig, parseMethodDescriptor y.desc = some sig → argsL.length = sig.parameters.length)
    (hstack : g.stack = argsL.reverse ++ rest) (hW : 2 * g.monitorRoom + (rest.map fun v => v.category).sum ≤ W9) (hdg : decode c.code g.pc = .ok (.invokestatic index, 3))
    (hpre : ∀ vm₁, s.WarmedH vm₁ → Pre ⟨T.setVm vm₁, locs, cells, slots⟩ argsL.toArray) :
    (∃ (v : Option Value) (vm₁ : Vm) (B : Pt), s.WarmedH vm₁ ∧ Stand p l e R s m args below meth c B.U B.locs B.cells B.slots ∧ Post ⟨T.setVm vm₁, locs, cells, slots⟩ argsL.toArray v B ∧
      ∀ target, Steps p.tables e below (B.U.setTop { g with pc := g.pc + 3, stack := v.toList ++ rest }) target → Steps p.tables e below (T.setTop g) target) ∨
    (∃ (q : Addr) (vm₁ : Vm) (B : Pt), s.WarmedH vm₁ ∧ Stand p l e R s m args below meth c B.U B.locs B.cells B.slots ∧ PostX ⟨T.setVm vm₁, locs, cells, slots⟩ argsL.toArray q B ∧
      Steps p.tables e below (T.setTop g) ((B.U.setTop { g with stack := rest }).pushFrame (.throwing q))) := by
  obtain ⟨mk, hnamed⟩ := Cond.code_named hcode
  obtain ⟨methM, cM, hmethM, -, -, -, -, -, -, hsigM⟩ := Cond.code_spec hnamed hcode
  have hstatic : methM.isStatic = true := Cond.static_spec hnamed hmethM hstat
  obtain ⟨kP, hkP, -⟩ := className_of_methodNamed hnamed
  have hinitP : kP.init = .initialized := Cond.initialized_spec (findClass_of_methodNamed hnamed) hkP hinit
  obtain ⟨vm₁, X₁, hstep₁⟩ := X.invokestatic hexec hown hlink hnamed hmethM hstatic hkP hinitP hy (g := g) hg (argsL := argsL) (rest := rest) (hlen _ hsigM) hstack hdg
  rcases hK m meth c ⟨T.setVm vm₁, locs, cells, slots⟩ { g with stack := rest } (.invokestatic index) mk argsL.toArray X₁ hg hsize hdg hW (X₁.named hnamed) (hpre vm₁ X₁.warmed) with ⟨v, B, X', hpost, hsteps⟩ | ⟨q, B, X', hpost, hsteps⟩
  · exact Or.inl ⟨v, vm₁, B, X₁.warmed, X', hpost, fun target h => hstep₁ _ fun acts => by rw [doInvoke_state]; exact hsteps.trans h⟩
  · exact Or.inr ⟨q, vm₁, B, X₁.warmed, X', hpost, hstep₁ _ fun acts => by rw [doInvoke_state]; exact hsteps⟩
end Calls
theorem vx_cls {s : State} {T : State} {vm₁ : Vm} {E : String} {k : ClassId} (hW : s.WarmedH vm₁) (h : (T.setVm vm₁).vm.findClass E = some k) : s.vm.findClass E = some k := by
  have h1 : vm₁.findClass E = some k := h
  rw [hW.alike.findClass] at h1
  exact h1
/-- the method's frame g, with q thrown over it -/
def vx_W (p : Program) (l : Launch) (e : Env) (R : Room) (s : State) (m : MethodId) (args : Array Value) (below : List Frame) (meth : Method) (c : Code) (H : Heap) (locs : List Loc) (cells slots : Nat) (Q : State → Prop) (g : JFrame) (q : Addr) : Prop :=
  ∀ T : State, T.heap = H → Stand p l e R s m args below meth c T locs cells slots → ∃ t, Steps p.tables e below ((T.setTop g).pushFrame (.throwing q)) t ∧ Q t
def vx_Run (p : Program) (l : Launch) (e : Env) (R : Room) (s : State) (m : MethodId) (args : Array Value) (below : List Frame) (meth : Method) (c : Code) (H : Heap) (locs : List Loc) (cells slots mc ms : Nat) (g : JFrame) (rest : List Value) (Qa : State → Outcome → State → Prop) (XC : String → State → State → Prop) (free : Addr → Prop) : Prop :=
  ∀ T : State, T.heap = H → Stand p l e R s m args below meth c T locs cells slots →
    (∃ (v : Option Value) (st₀ t T' : State) (L : List Loc), st₀.heap = H ∧ Stand p l e R s m args below meth c T' (locs ++ L) (cells + mc) (slots + ms) ∧ (∀ q ∈ L, free q.base) ∧ T'.heap = t.heap ∧ T'.vm = t.vm ∧ Qa st₀ (.returned v) t ∧
      Goes p e below T g T' { g with pc := g.pc + 3, stack := v.toList ++ rest }) ∨
    (∃ (q : Addr) (st₀ t T' : State) (L : List Loc) (E : String) (ce : Cell), st₀.heap = H ∧ Stand p l e R s m args below meth c T' (locs ++ L) (cells + mc) (slots + ms) ∧ (∀ z ∈ L, free z.base) ∧ T'.heap = t.heap ∧ T'.vm = t.vm ∧ XC E st₀ t ∧ t.heap[q]? = some ce ∧ ce.vm = .none ∧ s.vm.findClass E = some ce.cls ∧
      Steps p.tables e below (T.setTop g) ((T'.setTop { g with stack := rest }).pushFrame (.throwing q)))
def vx_X {S : Type} (px : S → Prop) (B : String → S → State → Prop) (A : Nat → Prop) : String → State → State → Prop := fun E st t => ∃ u : S, px u ∧ B E u t ∧ va_F A st t
section Runs
variable {p : Program} {l : Launch} {e : Env} {R : Room} {s : State} {m : MethodId} {args : Array Value} {below : List Frame} {meth : Method} {c : Code} {H : Heap} {locs : List Loc} {cells slots : Nat}
variable {y : MethodName} {bytes cc : ByteArray} {maxL nL mc ms n index : Nat} {ret : Option FieldType} {ws : List Cond} {rm : Room} {Pc : Array Value → State → Prop} {Qc : Array Value → State → Outcome → State → Prop} {XC : String → State → State → Prop} {free : Addr → Prop} {Ts : List Cond} {own C : String} {b : Addr} {As rest : List Value} {g : JFrame}
theorem vx_callBack (cb : CallB R s args own index y bytes maxL ret ws rm mc ms n) (hM : vx_Met l y ws rm Pc Qc XC mc ms free) (hbl : FrameBlind Pc) : vx_Back l R p e below s args y 3 8 (PreOf R mc ms Pc) (PostOf Qc mc ms free) (vx_Post XC mc ms free) := by
  obtain ⟨hrc, hrs, hfr, hlo, hws, hcw, -, hini, -⟩ := cb
  exact vx_back (bytes := bytes) (maxL := maxL) (ret := ret) hM hbl hrc hrs hfr hlo hws hcw (fun a' U hW => word_at hW (Or.inl (by first | rfl | simp [Cond.onTables, Cond.keeps, Cond.steady])) hini)
theorem vx_runV (S : CallFix p m c cc nL s args Ts own) (hM : vx_Met l y ws rm Pc Qc XC mc ms free) (cw : CallW R s args own C index y bytes maxL ret ws rm mc ms n) (hp : PreV s H C b Pc As)
    (hg : g.method = m) (hn : As.length = n) (hsize : g.locals.size = nL) (hstack : g.stack = As.reverse ++ .ref b :: rest) (hW : 2 * g.monitorRoom + (rest.map fun v => v.category).sum ≤ 8) (hdg : decode cc g.pc = .ok (.invokevirtual index, 3)) (hf : cells + mc ≤ R.cells ∧ slots + ms ≤ R.slots) :
    vx_Run p l e R s m args below meth c H locs cells slots mc ms g rest (Qc (Value.ref b :: As).toArray) XC free := by
  have hK : vx_Back l R p e below s args y 3 8 (PreOf R mc ms Pc) (PostOf Qc mc ms free) (vx_Post XC mc ms free) := vx_callBack cw.1 hM hp.1
  obtain ⟨⟨-, -, -, -, -, -, hcode, -, hy, hlen, hl⟩, hin, hse⟩ := cw
  obtain ⟨hx, hb, hml, ho, -⟩ := S
  obtain ⟨-, ⟨cellB, hcB, hoB, hclB⟩, hPc⟩ := hp
  intro T hT X
  rcases vx_callV X hx (C := C) (bytes := bytes) (maxL := maxL) (ret := ret) ho hl hin hse hcode hy hK (by rw [hT]; exact hcB) hoB hclB hg (hsize.trans hml.symm) (argsL := As) (rest := rest) (fun sig h => hn.trans (hlen sig h)) hstack hW (by rw [hb]; exact hdg)
    (fun vm₁ hW₁ => ⟨hf.1, hf.2, hPc (T.setVm vm₁) hT hW₁⟩) with ⟨v, vm₁, ⟨U', l2, c2, s2⟩, hW₁, X', ⟨g', mk, t, L, e1, e2, hq, h1, hL, h2, h3⟩, st⟩ | ⟨q, vm₁, ⟨U', l2, c2, s2⟩, hW₁, X', ⟨g', mk, t, L, E, ce, e1, e2, hq, hce, hcv, hcl, h1, hL, h2, h3⟩, st⟩
  · dsimp only [Pt.U, Pt.locs, Pt.cells, Pt.slots] at X' e1 e2 h1 h2 h3 st
    subst h1; subst h2; subst h3
    exact Or.inl ⟨v, (T.setVm vm₁).calling g' mk (Value.ref b :: As).toArray, t, U', L, hT, X', hL, e1, e2, hq, st⟩
  · dsimp only [Pt.U, Pt.locs, Pt.cells, Pt.slots] at X' e1 e2 h1 h2 h3 st hcl
    subst h1; subst h2; subst h3
    exact Or.inr ⟨q, (T.setVm vm₁).calling g' mk (Value.ref b :: As).toArray, t, U', L, E, ce, hT, X', hL, e1, e2, hq, hce, hcv, vx_cls hW₁ hcl, st⟩
theorem vx_runS (S : CallFix p m c cc nL s args Ts own) (hM : vx_Met l y ws rm Pc Qc XC mc ms free) (cw : CallB R s args own index y bytes maxL ret ws rm mc ms n ∧ (Cond.static y).before args s = true) (hp : PreS s H Pc As)
    (hg : g.method = m) (hn : As.length = n) (hsize : g.locals.size = nL) (hstack : g.stack = As.reverse ++ rest) (hW : 2 * g.monitorRoom + (rest.map fun v => v.category).sum ≤ 8) (hdg : decode cc g.pc = .ok (.invokestatic index, 3)) (hf : cells + mc ≤ R.cells ∧ slots + ms ≤ R.slots) :
    vx_Run p l e R s m args below meth c H locs cells slots mc ms g rest (Qc As.toArray) XC free := by
  have hK : vx_Back l R p e below s args y 3 8 (PreOf R mc ms Pc) (PostOf Qc mc ms free) (vx_Post XC mc ms free) := vx_callBack cw.1 hM hp.1
  obtain ⟨⟨-, -, -, -, -, -, hcode, hini, hy, hlen, hl⟩, hstt⟩ := cw
  obtain ⟨hx, hb, hml, ho, -⟩ := S
  intro T hT X
  rcases vx_callS X hx (bytes := bytes) (maxL := maxL) (ret := ret) ho hl hstt hini hcode hy hK hg (hsize.trans hml.symm) (argsL := As) (rest := rest) (fun sig h => hn.trans (hlen sig h)) hstack hW (by rw [hb]; exact hdg)
    (fun vm₁ hW₁ => ⟨hf.1, hf.2, hp.2 (T.setVm vm₁) hT hW₁⟩) with ⟨v, vm₁, ⟨U', l2, c2, s2⟩, hW₁, X', ⟨g', mk, t, L, e1, e2, hq, h1, hL, h2, h3⟩, st⟩ | ⟨q, vm₁, ⟨U', l2, c2, s2⟩, hW₁, X', ⟨g', mk, t, L, E, ce, e1, e2, hq, hce, hcv, hcl, h1, hL, h2, h3⟩, st⟩
  · dsimp only [Pt.U, Pt.locs, Pt.cells, Pt.slots] at X' e1 e2 h1 h2 h3 st
    subst h1; subst h2; subst h3
    exact Or.inl ⟨v, (T.setVm vm₁).calling g' mk As.toArray, t, U', L, hT, X', hL, e1, e2, hq, st⟩
  · dsimp only [Pt.U, Pt.locs, Pt.cells, Pt.slots] at X' e1 e2 h1 h2 h3 st hcl
    subst h1; subst h2; subst h3
    exact Or.inr ⟨q, (T.setVm vm₁).calling g' mk As.toArray, t, U', L, E, ce, hT, X', hL, e1, e2, hq, hce, hcv, vx_cls hW₁ hcl, st⟩
end Runs
section Rows
variable {p : Program} {l : Launch} {e : Env} {R : Room} {s : State} {m : MethodId} {args : Array Value} {below : List Frame} {meth : Method} {c : Code} {H : Heap} {locs : List Loc} {cells slots : Nat} {Q : State → Prop}
variable {mc ms : Nat} {free : Addr → Prop} {A0 A1 : Nat → Prop} {H0 : Heap} {a : Array Value} {pc : Nat} {ls : Array Slot} {st0 rest : List Value}
theorem vx_keep {st₀ t T' : State} {L : List Loc} (h0 : st₀.heap = H) (e1 : T'.heap = t.heap) (hS : va_S A0 H0 H locs) (hA : ∀ q, q < H.size → A1 q → A0 q) (hf : ∀ q, free q → A0 q) (hL : ∀ q ∈ L, free q.base) (hF : va_F A1 st₀ t) :
    H.size ≤ T'.heap.size ∧ (∀ q : Nat, q < H.size → ¬ A1 q → T'.heap[q]? = H[q]?) ∧ va_S A0 H0 T'.heap (locs ++ L) := by
  obtain ⟨hz, hk⟩ := hF
  rw [h0] at hz hk
  exact ⟨by rw [e1]; exact hz, fun q h1 h2 => by rw [e1]; exact hk q h1 h2,
    ⟨Nat.le_trans hS.1 (by rw [e1]; exact hz), fun q h1 h2 => by rw [e1, hk q (Nat.lt_of_lt_of_le h1 hS.1) (fun z => h2 (hA q (Nat.lt_of_lt_of_le h1 hS.1) z))]; exact hS.2.1 q h1 h2, fun q hq => by
      rcases List.mem_append.mp hq with h | h
      · exact hS.2.2 q h
      · exact hf _ (hL q h)⟩⟩
theorem vx_calli {S SX : Type} {post : Int32 → S → Prop} {px : SX → Prop} {B : S → State → Prop} {BX : String → SX → State → Prop} {AX : Nat → Prop} (hr : vx_Run p l e R s m args below meth c H locs cells slots mc ms (F0 m pc ls st0) rest (va_Qi post B A1 a) (vx_X px BX AX) free) (hS : va_S A0 H0 H locs) (hA : ∀ q, q < H.size → A1 q → A0 q) (hf : ∀ q, free q → A0 q) (hAX : ∀ q, q < H.size → AX q → A0 q)
    (kx : ∀ (E : String) (ce : Cell) (q9 : Addr) (u : SX) (t : State) (H1 : Heap) (locs1 : List Loc), t.heap = H1 → s.vm.Alike t.vm → px u → BX E u t → H.size ≤ H1.size → (∀ q : Nat, q < H.size → ¬ AX q → H1[q]? = H[q]?) → va_S A0 H0 H1 locs1 → H1[q9]? = some ce → ce.vm = .none → s.vm.findClass E = some ce.cls → vx_W p l e R s m args below meth c H1 locs1 (cells + mc) (slots + ms) Q (F0 m pc ls rest) q9)
    (kk : ∀ (r : Int32) (u : S) (t : State) (H1 : Heap) (locs1 : List Loc), t.heap = H1 → s.vm.Alike t.vm → post r u → B u t → H.size ≤ H1.size → (∀ q : Nat, q < H.size → ¬ A1 q → H1[q]? = H[q]?) → va_S A0 H0 H1 locs1 → W p l e R s m args below meth c H1 locs1 (cells + mc) (slots + ms) Q (F0 m (pc + 3) ls (.int r :: rest))) : W p l e R s m args below meth c H locs cells slots Q (F0 m pc ls st0) := by
  intro T hT X
  rcases hr T hT X with ⟨v, st₀, t, T', L, h0, X', hL, e1, e2, ⟨⟨r, u, hv, hp, hb⟩, hF⟩, st⟩ | ⟨q, st₀, t, T', L, E, ce, h0, X', hL, e1, e2, ⟨u, hp, hb, hF⟩, hce, hcv, hcl, st⟩
  · cases hv
    obtain ⟨k1, k2, k3⟩ := vx_keep h0 e1 hS hA hf hL hF
    obtain ⟨t2, a1, b1⟩ := kk r u t T'.heap (locs ++ L) e1.symm (by rw [← e2]; exact X'.warmed.alike) hp hb k1 k2 k3 T' rfl X'
    exact ⟨t2, st t2 a1, b1⟩
  · obtain ⟨k1, k2, k3⟩ := vx_keep h0 e1 hS hAX hf hL hF
    obtain ⟨t2, a1, b1⟩ := kx E ce q u t T'.heap (locs ++ L) e1.symm (by rw [← e2]; exact X'.warmed.alike) hp hb k1 k2 k3 (by rw [e1]; exact hce) hcv hcl T' rfl X'
    exact ⟨t2, st.trans a1, b1⟩
theorem vx_calll {S SX : Type} {post : Int64 → S → Prop} {px : SX → Prop} {B : S → State → Prop} {BX : String → SX → State → Prop} {AX : Nat → Prop} (hr : vx_Run p l e R s m args below meth c H locs cells slots mc ms (F0 m pc ls st0) rest (va_Ql post B A1 a) (vx_X px BX AX) free) (hS : va_S A0 H0 H locs) (hA : ∀ q, q < H.size → A1 q → A0 q) (hf : ∀ q, free q → A0 q) (hAX : ∀ q, q < H.size → AX q → A0 q)
    (kx : ∀ (E : String) (ce : Cell) (q9 : Addr) (u : SX) (t : State) (H1 : Heap) (locs1 : List Loc), t.heap = H1 → s.vm.Alike t.vm → px u → BX E u t → H.size ≤ H1.size → (∀ q : Nat, q < H.size → ¬ AX q → H1[q]? = H[q]?) → va_S A0 H0 H1 locs1 → H1[q9]? = some ce → ce.vm = .none → s.vm.findClass E = some ce.cls → vx_W p l e R s m args below meth c H1 locs1 (cells + mc) (slots + ms) Q (F0 m pc ls rest) q9)
    (kk : ∀ (r : Int64) (u : S) (t : State) (H1 : Heap) (locs1 : List Loc), t.heap = H1 → s.vm.Alike t.vm → post r u → B u t → H.size ≤ H1.size → (∀ q : Nat, q < H.size → ¬ A1 q → H1[q]? = H[q]?) → va_S A0 H0 H1 locs1 → W p l e R s m args below meth c H1 locs1 (cells + mc) (slots + ms) Q (F0 m (pc + 3) ls (.long r :: rest))) : W p l e R s m args below meth c H locs cells slots Q (F0 m pc ls st0) := by
  intro T hT X
  rcases hr T hT X with ⟨v, st₀, t, T', L, h0, X', hL, e1, e2, ⟨⟨r, u, hv, hp, hb⟩, hF⟩, st⟩ | ⟨q, st₀, t, T', L, E, ce, h0, X', hL, e1, e2, ⟨u, hp, hb, hF⟩, hce, hcv, hcl, st⟩
  · cases hv
    obtain ⟨k1, k2, k3⟩ := vx_keep h0 e1 hS hA hf hL hF
    obtain ⟨t2, a1, b1⟩ := kk r u t T'.heap (locs ++ L) e1.symm (by rw [← e2]; exact X'.warmed.alike) hp hb k1 k2 k3 T' rfl X'
    exact ⟨t2, st t2 a1, b1⟩
  · obtain ⟨k1, k2, k3⟩ := vx_keep h0 e1 hS hAX hf hL hF
    obtain ⟨t2, a1, b1⟩ := kx E ce q u t T'.heap (locs ++ L) e1.symm (by rw [← e2]; exact X'.warmed.alike) hp hb k1 k2 k3 (by rw [e1]; exact hce) hcv hcl T' rfl X'
    exact ⟨t2, st.trans a1, b1⟩
theorem vx_callf {S SX : Type} {post : UInt32 → S → Prop} {px : SX → Prop} {B : S → State → Prop} {BX : String → SX → State → Prop} {AX : Nat → Prop} (hr : vx_Run p l e R s m args below meth c H locs cells slots mc ms (F0 m pc ls st0) rest (va_Qf post B A1 a) (vx_X px BX AX) free) (hS : va_S A0 H0 H locs) (hA : ∀ q, q < H.size → A1 q → A0 q) (hf : ∀ q, free q → A0 q) (hAX : ∀ q, q < H.size → AX q → A0 q)
    (kx : ∀ (E : String) (ce : Cell) (q9 : Addr) (u : SX) (t : State) (H1 : Heap) (locs1 : List Loc), t.heap = H1 → s.vm.Alike t.vm → px u → BX E u t → H.size ≤ H1.size → (∀ q : Nat, q < H.size → ¬ AX q → H1[q]? = H[q]?) → va_S A0 H0 H1 locs1 → H1[q9]? = some ce → ce.vm = .none → s.vm.findClass E = some ce.cls → vx_W p l e R s m args below meth c H1 locs1 (cells + mc) (slots + ms) Q (F0 m pc ls rest) q9)
    (kk : ∀ (r : UInt32) (u : S) (t : State) (H1 : Heap) (locs1 : List Loc), t.heap = H1 → s.vm.Alike t.vm → post r u → B u t → H.size ≤ H1.size → (∀ q : Nat, q < H.size → ¬ A1 q → H1[q]? = H[q]?) → va_S A0 H0 H1 locs1 → W p l e R s m args below meth c H1 locs1 (cells + mc) (slots + ms) Q (F0 m (pc + 3) ls (.float r :: rest))) : W p l e R s m args below meth c H locs cells slots Q (F0 m pc ls st0) := by
  intro T hT X
  rcases hr T hT X with ⟨v, st₀, t, T', L, h0, X', hL, e1, e2, ⟨⟨r, u, hv, hp, hb⟩, hF⟩, st⟩ | ⟨q, st₀, t, T', L, E, ce, h0, X', hL, e1, e2, ⟨u, hp, hb, hF⟩, hce, hcv, hcl, st⟩
  · cases hv
    obtain ⟨k1, k2, k3⟩ := vx_keep h0 e1 hS hA hf hL hF
    obtain ⟨t2, a1, b1⟩ := kk r u t T'.heap (locs ++ L) e1.symm (by rw [← e2]; exact X'.warmed.alike) hp hb k1 k2 k3 T' rfl X'
    exact ⟨t2, st t2 a1, b1⟩
  · obtain ⟨k1, k2, k3⟩ := vx_keep h0 e1 hS hAX hf hL hF
    obtain ⟨t2, a1, b1⟩ := kx E ce q u t T'.heap (locs ++ L) e1.symm (by rw [← e2]; exact X'.warmed.alike) hp hb k1 k2 k3 (by rw [e1]; exact hce) hcv hcl T' rfl X'
    exact ⟨t2, st.trans a1, b1⟩
theorem vx_calld {S SX : Type} {post : UInt64 → S → Prop} {px : SX → Prop} {B : S → State → Prop} {BX : String → SX → State → Prop} {AX : Nat → Prop} (hr : vx_Run p l e R s m args below meth c H locs cells slots mc ms (F0 m pc ls st0) rest (va_Qd post B A1 a) (vx_X px BX AX) free) (hS : va_S A0 H0 H locs) (hA : ∀ q, q < H.size → A1 q → A0 q) (hf : ∀ q, free q → A0 q) (hAX : ∀ q, q < H.size → AX q → A0 q)
    (kx : ∀ (E : String) (ce : Cell) (q9 : Addr) (u : SX) (t : State) (H1 : Heap) (locs1 : List Loc), t.heap = H1 → s.vm.Alike t.vm → px u → BX E u t → H.size ≤ H1.size → (∀ q : Nat, q < H.size → ¬ AX q → H1[q]? = H[q]?) → va_S A0 H0 H1 locs1 → H1[q9]? = some ce → ce.vm = .none → s.vm.findClass E = some ce.cls → vx_W p l e R s m args below meth c H1 locs1 (cells + mc) (slots + ms) Q (F0 m pc ls rest) q9)
    (kk : ∀ (r : UInt64) (u : S) (t : State) (H1 : Heap) (locs1 : List Loc), t.heap = H1 → s.vm.Alike t.vm → post r u → B u t → H.size ≤ H1.size → (∀ q : Nat, q < H.size → ¬ A1 q → H1[q]? = H[q]?) → va_S A0 H0 H1 locs1 → W p l e R s m args below meth c H1 locs1 (cells + mc) (slots + ms) Q (F0 m (pc + 3) ls (.double r :: rest))) : W p l e R s m args below meth c H locs cells slots Q (F0 m pc ls st0) := by
  intro T hT X
  rcases hr T hT X with ⟨v, st₀, t, T', L, h0, X', hL, e1, e2, ⟨⟨r, u, hv, hp, hb⟩, hF⟩, st⟩ | ⟨q, st₀, t, T', L, E, ce, h0, X', hL, e1, e2, ⟨u, hp, hb, hF⟩, hce, hcv, hcl, st⟩
  · cases hv
    obtain ⟨k1, k2, k3⟩ := vx_keep h0 e1 hS hA hf hL hF
    obtain ⟨t2, a1, b1⟩ := kk r u t T'.heap (locs ++ L) e1.symm (by rw [← e2]; exact X'.warmed.alike) hp hb k1 k2 k3 T' rfl X'
    exact ⟨t2, st t2 a1, b1⟩
  · obtain ⟨k1, k2, k3⟩ := vx_keep h0 e1 hS hAX hf hL hF
    obtain ⟨t2, a1, b1⟩ := kx E ce q u t T'.heap (locs ++ L) e1.symm (by rw [← e2]; exact X'.warmed.alike) hp hb k1 k2 k3 (by rw [e1]; exact hce) hcv hcl T' rfl X'
    exact ⟨t2, st.trans a1, b1⟩
theorem vx_callv {S SX : Type} {post : S → Prop} {px : SX → Prop} {B : S → State → Prop} {BX : String → SX → State → Prop} {AX : Nat → Prop} (hr : vx_Run p l e R s m args below meth c H locs cells slots mc ms (F0 m pc ls st0) rest (va_Qv post B A1 a) (vx_X px BX AX) free) (hS : va_S A0 H0 H locs) (hA : ∀ q, q < H.size → A1 q → A0 q) (hf : ∀ q, free q → A0 q) (hAX : ∀ q, q < H.size → AX q → A0 q)
    (kx : ∀ (E : String) (ce : Cell) (q9 : Addr) (u : SX) (t : State) (H1 : Heap) (locs1 : List Loc), t.heap = H1 → s.vm.Alike t.vm → px u → BX E u t → H.size ≤ H1.size → (∀ q : Nat, q < H.size → ¬ AX q → H1[q]? = H[q]?) → va_S A0 H0 H1 locs1 → H1[q9]? = some ce → ce.vm = .none → s.vm.findClass E = some ce.cls → vx_W p l e R s m args below meth c H1 locs1 (cells + mc) (slots + ms) Q (F0 m pc ls rest) q9)
    (kk : ∀ (u : S) (t : State) (H1 : Heap) (locs1 : List Loc), t.heap = H1 → s.vm.Alike t.vm → post u → B u t → H.size ≤ H1.size → (∀ q : Nat, q < H.size → ¬ A1 q → H1[q]? = H[q]?) → va_S A0 H0 H1 locs1 → W p l e R s m args below meth c H1 locs1 (cells + mc) (slots + ms) Q (F0 m (pc + 3) ls (rest))) : W p l e R s m args below meth c H locs cells slots Q (F0 m pc ls st0) := by
  intro T hT X
  rcases hr T hT X with ⟨v, st₀, t, T', L, h0, X', hL, e1, e2, ⟨⟨u, hv, hp, hb⟩, hF⟩, st⟩ | ⟨q, st₀, t, T', L, E, ce, h0, X', hL, e1, e2, ⟨u, hp, hb, hF⟩, hce, hcv, hcl, st⟩
  · cases hv
    obtain ⟨k1, k2, k3⟩ := vx_keep h0 e1 hS hA hf hL hF
    obtain ⟨t2, a1, b1⟩ := kk u t T'.heap (locs ++ L) e1.symm (by rw [← e2]; exact X'.warmed.alike) hp hb k1 k2 k3 T' rfl X'
    exact ⟨t2, st t2 a1, b1⟩
  · obtain ⟨k1, k2, k3⟩ := vx_keep h0 e1 hS hAX hf hL hF
    obtain ⟨t2, a1, b1⟩ := kx E ce q u t T'.heap (locs ++ L) e1.symm (by rw [← e2]; exact X'.warmed.alike) hp hb k1 k2 k3 (by rw [e1]; exact hce) hcv hcl T' rfl X'
    exact ⟨t2, st.trans a1, b1⟩
/-- caught by the row x of this method's table; the rows ahead don't take it -/
theorem vx_catch {own name : String} {E : String} {ce : Cell} {q : Addr} (hown : s.vm.findClass own = some m.cls) (pre : List ExceptionTableEntry) (x : ExceptionTableEntry) (suf : List ExceptionTableEntry) (hsplit : c.exceptionTable.toList = pre ++ x :: suf)
    (hpass : ∀ z ∈ pre, covers z pc = false ∨ (z.catchType ≠ 0 ∧ ∃ nm : String, (Cond.classLink own z.catchType nm).before args s = true ∧ va_Nc E nm s)) (hx : covers x pc = true) (h0 : x.catchType ≠ 0)
    (hlink : (Cond.classLink own x.catchType name).before args s = true) (hcast : (Cond.castable E name).before args s = true) (hcell : H[q]? = some ce) (hv : ce.vm = .none) (hcl : s.vm.findClass E = some ce.cls)
    (kk : W p l e R s m args below meth c H locs cells slots Q (F0 m x.handlerPc ls [.ref q])) : vx_W p l e R s m args below meth c H locs cells slots Q (F0 m pc ls rest) q := by
  intro T hT X
  have hpl : e.platform.magicAccessors = ({} : Platform).magicAccessors := by rw [X.admits.platform]
  obtain ⟨c3, c4, hc3, hc4, hasg⟩ := Cond.castable_spec hcast
  cases Option.some.inj (hc3.symm.trans hcl)
  obtain ⟨c5, hc5, hcl5⟩ := Cond.classLink_spec hown hlink e.platform hpl
  cases Option.some.inj (hc4.symm.trans hc5)
  obtain ⟨vm', X', st⟩ := X.thenCaughtThrough q (g := F0 m pc ls rest) rfl (Steps.refl _) (by rw [hT]; exact hcell) (by rw [hv]; rfl) (by obtain ⟨k9, h9, -⟩ := Vm.findClass_spec hcl; exact ⟨k9, h9⟩) pre x suf hsplit
    (fun z hz => by
      rcases hpass z hz with h | ⟨hz0, nm, hl1, hn1⟩
      · exact Or.inl h
      · obtain ⟨c6, hc6, hcl6⟩ := Cond.classLink_spec hown hl1 e.platform hpl
        obtain ⟨a8, b8, h1, h2, h3⟩ := hn1
        cases Option.some.inj (h1.symm.trans hcl)
        cases Option.some.inj (h2.symm.trans hc6)
        exact Or.inr ⟨hz0, _, hcl6, h3⟩) hx (Or.inr ⟨h0, c4, hcl5, hasg⟩)
  obtain ⟨t, a1, b1⟩ := kk (T.setVm vm') hT X'
  exact ⟨t, st.trans a1, b1⟩
end Rows
section Ends
variable {p : Program} {l : Launch} {e : Env} {R : Room} {s : State} {m : MethodId} {args : Array Value} {below : List Frame} {meth : Method} {c : Code} {H : Heap} {locs : List Loc} {cells slots : Nat} {Q : State → Prop}
variable {mc ms : Nat} {free : Addr → Prop} {A0 A1 : Nat → Prop} {H0 : Heap} {a : Array Value} {ls : Array Slot} {st0 rest : List Value}
variable {Qc : Array Value → State → Outcome → State → Prop} {XC : String → State → State → Prop}
/-- what a body that may throw owes at its end -/
def vx_MQ (below : List Frame) (Qc : Array Value → State → Outcome → State → Prop) (XC : String → State → State → Prop) (a : Array Value) (s : State) (mc ms : Nat) (free : Addr → Prop) : State → Prop := fun t =>
  ∃ o, t.status = .running ∧ Ended t below o ∧ vx_Q Qc XC mc ms free a s o t
theorem vx_ret {g : JFrame} {mc ms : Nat} (k : W p l e R s m args below meth c H locs cells slots (MQ below Qc args s mc ms free) g) : W p l e R s m args below meth c H locs cells slots (vx_MQ below Qc XC args s mc ms free) g := by
  intro T hT X
  obtain ⟨t, a1, o, b1, b2, b3, b4⟩ := k T hT X
  exact ⟨t, a1, o, b1, b2, Or.inl ⟨b3, b4⟩⟩
/-- not caught here: it goes on to the caller -/
theorem vx_widen {g : JFrame} {q : Addr} {k n : Nat} (h1 : cells ≤ k) (h2 : slots ≤ n) (kk : vx_W p l e R s m args below meth c H locs k n Q g q) : vx_W p l e R s m args below meth c H locs cells slots Q g q := fun T hT X => kk T hT (stand_widen X h1 h2)
theorem vx_out {pc : Nat} {E : String} {ce : Cell} {q : Addr} {mc ms : Nat} (hout : ∀ x ∈ c.exceptionTable.toList, covers x pc = false) (hlocks : meth.locks = false) (hcell : H[q]? = some ce) (hv : ce.vm = .none) (hcl : s.vm.findClass E = some ce.cls)
    (hx : ∀ t : State, t.heap = H → s.vm.Alike t.vm → XC E s t) (hf : ∀ z ∈ locs, free z.base) (hc : cells ≤ mc) (hs : slots ≤ ms) :
    vx_W p l e R s m args below meth c H locs cells slots (vx_MQ below Qc XC args s mc ms free) (F0 m pc ls rest) q := by
  intro T hT X
  obtain ⟨st1, hrun, hend, hW, hsm⟩ := X.leaveThrown q (g := F0 m pc ls rest) rfl rfl rfl hout hlocks
  have hcell9 : (T.setFrames (.throwing q :: below)).heap[q]? = some ce := by
    show T.heap[q]? = some ce
    rw [hT]; exact hcell
  exact ⟨_, st1, .threw q, hrun, hend, Or.inr ⟨q, rfl, E, ce, locs, hx _ hT hW.alike, hcell9, hv, hcl, hW, hsm.mono hc hs, hf⟩⟩
theorem vx_frame {U : State} {k n : Nat} (h : s.sameButNew ({ U with vm := s.vm } : State) locs k n) : s.heap.size ≤ U.heap.size ∧ ∀ q : Nat, q < s.heap.size → (∀ z ∈ locs, z.base ≠ q) → U.heap[q]? = s.heap[q]? := by
  obtain ⟨-, h2, -, -, -, h6⟩ := h
  refine ⟨h2, fun q hq hz => ?_⟩
  obtain ⟨c9, e1, e2, e3, e4⟩ := h6 q _ (Array.getElem?_eq_getElem hq)
  have hs : c9.slots = (s.heap[q]).slots := Array.ext_getElem? fun i => e4 i fun hm => hz _ hm rfl
  have h9 : c9 = s.heap[q] := by
    rw [hs] at e2
    exact e2
  have e5 : U.heap[q]? = some c9 := e1
  rw [e5, h9, Array.getElem?_eq_getElem hq]
/-- the words of a throw but the four that speak of the heap -/
def vx_no (w : Cond) : Bool := decide (w ≠ .isRef (.static Bundle.tN "UNASSIGNED_STACK" Bundle.steD)) && decide (w ≠ .isRef (.static Bundle.tN "SUPPRESSED_SENTINEL" Bundle.listD)) && decide (w ≠ .laysStatic Bundle.tN "UNASSIGNED_STACK" Bundle.steD) && decide (w ≠ .laysStatic Bundle.tN "SUPPRESSED_SENTINEL" Bundle.listD)
def vx_at0 (own : String) (ic : Nat) (X : String) (names : List String) : List Cond := (Bundle.ownAtoms0 own ic X names).filter vx_no
def vx_atS (own : String) (ic : Nat) (X : String) (names : List String) : List Cond := (Bundle.ownAtoms own ic X names).filter vx_no
/-- a word that the tables alone decide, or a good one -/
def vx_ot (w : Cond) : Bool := w.onTables || goodWord w
theorem vx_ot_at {args a' : Array Value} {s U : State} {w : Cond} (hW : s.WarmedH U.vm) (hvm : s.vm = U.vm) (hg : vx_ot w = true) (h : w.before args s = true) : w.before a' U = true := by
  simp only [vx_ot, Bool.or_eq_true] at hg
  rcases hg with hg | hg
  · exact va_tabs hg hvm h
  · exact word_at hW (good_of_word hg) h
/-- a list's words: the good ones out of the method's own list, the others by premises of their own -/
theorem vx_hat {args : Array Value} {s : State} {L B : List Cond} (h1 : ∀ w ∈ L.filter goodWord, w.before args s = true) (h2 : ∀ w ∈ L.filter (fun w => !goodWord w), w ∈ B) (h3 : ∀ w ∈ B, w.before args s = true) : ∀ w ∈ L, w.before args s = true := by
  intro w hw
  by_cases g : goodWord w = true
  · exact h1 w (List.mem_filter.mpr ⟨hw, g⟩)
  · refine h3 w (h2 w (List.mem_filter.mpr ⟨hw, ?_⟩))
    show (!goodWord w) = true
    cases hgw : goodWord w
    · rfl
    · exact absurd hgw g
theorem vx_c {args : Array Value} {s : State} {w : Cond} {B : List Cond} (h : w.before args s = true) (t : ∀ w ∈ B, w.before args s = true) : ∀ w' ∈ w :: B, w'.before args s = true := fun w' h' => (List.mem_cons.mp h').elim (fun e => by rw [e]; exact h) (t w')
theorem vx_n {args : Array Value} {s : State} : ∀ w ∈ ([] : List Cond), w.before args s = true := fun _ h => nomatch h
theorem vx_own {args : Array Value} {s : State} {L : List Cond} (h1 : ∀ w ∈ L.filter vx_no, w.before args s = true)
    (hU : (Cond.isRef (.static Bundle.tN "UNASSIGNED_STACK" Bundle.steD)).before args s = true) (hN : (Cond.isRef (.static Bundle.tN "SUPPRESSED_SENTINEL" Bundle.listD)).before args s = true)
    (lU : (Cond.laysStatic Bundle.tN "UNASSIGNED_STACK" Bundle.steD).before args s = true) (lN : (Cond.laysStatic Bundle.tN "SUPPRESSED_SENTINEL" Bundle.listD).before args s = true) : ∀ w ∈ L, w.before args s = true := by
  intro w hw
  by_cases e1 : w = .isRef (.static Bundle.tN "UNASSIGNED_STACK" Bundle.steD)
  · rw [e1]; exact hU
  · by_cases e2 : w = .isRef (.static Bundle.tN "SUPPRESSED_SENTINEL" Bundle.listD)
    · rw [e2]; exact hN
    · by_cases e3 : w = .laysStatic Bundle.tN "UNASSIGNED_STACK" Bundle.steD
      · rw [e3]; exact lU
      · by_cases e4 : w = .laysStatic Bundle.tN "SUPPRESSED_SENTINEL" Bundle.listD
        · rw [e4]; exact lN
        · exact h1 w (List.mem_filter.mpr ⟨hw, by unfold vx_no; rw [decide_eq_true e1, decide_eq_true e2, decide_eq_true e3, decide_eq_true e4]; rfl⟩)
/-- where a static field lies, its class's statics cell in H -/
def vx_L (C n d : String) (A : Nat → Prop) (U : State) (H : Heap) : Prop := ∃ (c : ClassId) (k : Class) (i : Nat) (f : Field) (a : Nat) (cell : Cell), U.vm.findClass C = some c ∧ U.fieldFound? C n d = some (c, k, i, f) ∧ f.isStatic = true ∧ k.statics = some a ∧ H[a]? = some cell ∧ cell.vm.isStatics = true ∧ cell.cls = c ∧ f.slot < cell.slots.size ∧ k.staticTypes[f.slot]? = some f.type ∧ ¬ A a
theorem vx_L.moved {C n d : String} {A : Nat → Prop} {u U : State} {H : Heap} (hvm : u.vm.Alike U.vm) (h : vx_L C n d A u H) : vx_L C n d A U H := by
  obtain ⟨c, k, i, f, a, cell, h1, h2, h3, h4, h5, h6, h7, h8, h9, h10⟩ := h
  obtain ⟨k', hi', he⟩ := State.fieldFound?_setVm hvm h2
  exact ⟨c, k', i, f, a, cell, by rw [hvm.findClass]; exact h1, hi', h3, by rw [he]; exact h4, h5, h6, h7, h8, by rw [he]; exact h9, h10⟩
theorem vx_L.kept {C n d : String} {A : Nat → Prop} {U : State} {H H1 : Heap} (h : vx_L C n d A U H) (hq : ∀ a : Nat, a < H.size → ¬ A a → H1[a]? = H[a]?) : vx_L C n d A U H1 := by
  obtain ⟨c, k, i, f, a, cell, h1, h2, h3, h4, h5, h6, h7, h8, h9, h10⟩ := h
  exact ⟨c, k, i, f, a, cell, h1, h2, h3, h4, by rw [hq a (Array.getElem?_eq_some_iff.mp h5).1 h10]; exact h5, h6, h7, h8, h9, h10⟩
theorem vx_L.narrow {C n d : String} {A B : Nat → Prop} {U : State} {H : Heap} (h : vx_L C n d A U H) (hAB : ∀ q, B q → A q) : vx_L C n d B U H := by
  obtain ⟨c, k, i, f, a, cell, h1, h2, h3, h4, h5, h6, h7, h8, h9, h10⟩ := h
  exact ⟨c, k, i, f, a, cell, h1, h2, h3, h4, h5, h6, h7, h8, h9, fun z => h10 (hAB _ z)⟩
theorem vx_L.word {C n d : String} {A : Nat → Prop} {s : State} {args : Array Value} (h : vx_L C n d A s s.heap) : (Cond.laysStatic C n d).before args s = true := by
  obtain ⟨c, k, i, f, a, cell, h1, h2, h3, h4, h5, h6, h7, h8, h9, -⟩ := h
  show (Cond.laysStatic C n d).holds args s none s [] = true
  exact Cond.laysStatic_of h1 h2 h3 h4 h5 h6 h7 h8 h9
/-- .. and what it holds: null or some reference -/
def vx_Zq (C n d : String) (A : Nat → Prop) (U : State) (H : Heap) : Prop := va_Zq C n d A U H ∧ vx_L C n d A U H
theorem vx_Zq.moved {C n d : String} {A : Nat → Prop} {u U : State} {H : Heap} (hvm : u.vm.Alike U.vm) (h : vx_Zq C n d A u H) : vx_Zq C n d A U H := ⟨va_Zq.moved hvm h.1, vx_L.moved hvm h.2⟩
theorem vx_Zq.kept {C n d : String} {A : Nat → Prop} {U : State} {H H1 : Heap} (h : vx_Zq C n d A U H) (hq : ∀ a : Nat, a < H.size → ¬ A a → H1[a]? = H[a]?) : vx_Zq C n d A U H1 := ⟨va_Zq.kept h.1 hq, vx_L.kept h.2 hq⟩
theorem vx_Zq.narrow {C n d : String} {A B : Nat → Prop} {U : State} {H : Heap} (h : vx_Zq C n d A U H) (hAB : ∀ q, B q → A q) : vx_Zq C n d B U H := ⟨va_Zq.narrow h.1 hAB, vx_L.narrow h.2 hAB⟩
theorem vx_Zqof {args : Array Value} {s : State} {C n d : String} {A : Nat → Prop} (hl : (Cond.laysStatic C n d).before args s = true) (hini : (Cond.initialized C).before args s = true) (h : (Cond.isRef (.static C n d)).before args s = true) (hA : ∀ a : Nat, a < s.heap.size → ¬ A a) : vx_Zq C n d A s s.heap := by
  refine ⟨va_Zqof hl hini h hA, ?_⟩
  obtain ⟨c, k, i, f, a, cell, h1, h2, h3, h4, h5, h6, h7, h8, h9⟩ := Cond.laysStatic_spec hl
  exact ⟨c, k, i, f, a, cell, h1, h2, h3, h4, h5, h6, h7, h8, h9, hA a (Array.getElem?_eq_some_iff.mp h5).1⟩
theorem vx_isRef {C n d : String} {v : Value} {A : Nat → Prop} {s : State} {args : Array Value} (h : va_Z C n d v A s s.heap) (hv : v.isRef = true) : (Cond.isRef (.static C n d)).before args s = true := by
  obtain ⟨cf, kf, fi, f, a, cell, h1, h2, h3, h4, h5, h6, h7, -⟩ := h
  have he : (Term.static C n d).eval args s none [] s = some v := by
    simp [Term.eval, State.fieldNamed?, h1, h2, h4, h5, h6, h7]
  simp only [Cond.before, Cond.holds, Cond.value, he]
  cases v <;> simp_all [Value.isRef]
theorem vx_isRefq {C n d : String} {A : Nat → Prop} {s : State} {args : Array Value} (h : va_Zq C n d A s s.heap) : (Cond.isRef (.static C n d)).before args s = true := by
  rcases h with h | ⟨t, h⟩
  · exact vx_isRef h rfl
  · exact vx_isRef h rfl
/-- the same frame, seen from here: as if the method were called anew in this heap -/
theorem vx_rebase {T : State} (X : Stand p l e R s m args below meth c T locs cells slots) {R' : Room} (hf : R'.frames ≤ R.frames) (hl : R'.locals ≤ R.locals) (hc : cells + R'.cells ≤ R.cells) (hs : slots + R'.slots ≤ R.slots) :
    Stand p l e R' ((T.setVm s.vm).setFrames (.invoking m args :: below)) m args below meth c T [] 0 0 := by
  have htop : (T.setVm s.vm).topJava?.isSome := X.here.top
  have hF : ((T.setVm s.vm).setFrames (.invoking m args :: below)).frames = .invoking m args :: below := State.frames_setFrames _ (State.cur_lt_of_top htop)
  obtain ⟨g₀, hg0⟩ := Option.isSome_iff_exists.mp htop
  obtain ⟨r, hr⟩ := State.topJava?_eq_some.mp hg0
  have hl9 : e.platform.stackLimits (T.setVm s.vm).me = e.platform.stackLimits s.me := X.limits
  have hb9 : (T.setVm s.vm).me.stackBytes = s.me.stackBytes := X.bytes
  refine ⟨X.admits, X.cas, X.clock, hF, ?_, X.hears, X.method, X.code, X.here, X.tail, X.warmed, ?_, ?_, ?_⟩
  · have h := X.room
    have hU : ((T.setVm s.vm).setFrames (.invoking m args :: below)).localsInUse = s.localsInUse := by
      rw [State.localsInUse_invoking hF (meth := meth) (c := c) X.method X.code, State.localsInUse_invoking X.frames X.method X.code]
    simp only [State.hasRoom, Bool.and_eq_true, decide_eq_true_eq] at h ⊢
    obtain ⟨⟨⟨⟨h1, h2, h3, h4, h5, h6⟩, h7⟩, h8⟩, h9⟩ := h
    rw [X.frames, List.length_cons] at h2 h3
    have q1 := X.heapSize
    have q2 := X.used
    simp only [hF, hU, List.length_cons, State.stackLimits_setFrames, State.stackBytes_setFrames, hl9, hb9]
    refine ⟨⟨⟨⟨by omega, by omega, by omega, by omega, by omega, h6⟩, ?_⟩, ?_⟩, X.book⟩
    · show T.heap.size + R'.cells ≤ e.platform.maxCells
      omega
    · show T.slotsUsed + R'.slots ≤ e.platform.maxSlots
      omega
  · rw [State.stackLimits_setFrames]; rfl
  · rw [State.stackBytes_setFrames]; rfl
  · refine ⟨?_, Nat.le_refl _, Nat.le_refl _, ?_, ?_, fun a c9 h9 => ⟨c9, h9, rfl, rfl, fun _ _ => rfl⟩⟩
    · obtain ⟨t, ht, -⟩ := State.frames_cons hr
      show T.setVm s.vm = { ((T.setVm s.vm).setFrames (.invoking m args :: below)).setFrames (T.setVm s.vm).frames with heap := T.heap, slotsUsed := T.slotsUsed }
      rw [State.setFrames_setFrames, State.setFrames_self ht]
      rfl
    · show T.slotsUsed = T.slotsUsed + ((T.heap.toList.drop T.heap.size).map (·.slots.size)).sum
      rw [List.drop_eq_nil_of_le (Nat.le_of_eq Array.length_toList)]
      rfl
    · show ((T.heap.toList.drop T.heap.size).map (·.slots.size)).sum ≤ 0
      rw [List.drop_eq_nil_of_le (Nat.le_of_eq Array.length_toList)]
      exact Nat.le_refl _
/-- 'throw new E()': new; dup; invokespecial; athrow -/
theorem vx_throw0 {cc : ByteArray} {pc : Nat} (hexec : p.tables.exec = Jvm.exec) (hb : c.code = cc) (hl : l.stackTraces = false) {own cls : String} {names : List String} {ik ic mc ms : Nat} {A : Nat → Prop}
    (hown : s.vm.findClass own = some m.cls) (hcls : Bundle.fit cls = true) (hnames : ∀ n ∈ names, Bundle.fit n = true)
    (hk : (Cond.classLink own ik cls).before args s = true) (hini : (Cond.initialized cls).before args s = true) (hat : ∀ w ∈ vx_at0 own ic cls names, w.before args s = true)
    (hgood : ∀ w ∈ Cond.classLink own ik cls :: Cond.initialized cls :: vx_at0 own ic cls names, vx_ot w = true)
    (hU : vx_Zq Bundle.tN "UNASSIGNED_STACK" Bundle.steD A s s.heap) (hN : vx_Zq Bundle.tN "SUPPRESSED_SENTINEL" Bundle.listD A s s.heap) (hS : va_S A s.heap H locs) (hsize : ls.size = c.maxLocals)
    (d0 : decode cc pc = .ok (.new ik, 3)) (d3 : decode cc (pc + 3) = .ok (.dup, 1)) (d4 : decode cc (pc + 4) = .ok (.invokespecial ic, 3)) (d7 : decode cc (pc + 7) = .ok (.athrow, 1))
    (hout : ∀ x ∈ c.exceptionTable.toList, covers x (pc + 7) = false)
    (hRframes : names.length + 3 < R.frames) (hRlocals : (rest.map fun v => v.category).sum + (13 * (names.length + 1) + 42) ≤ R.locals) (hRcells : cells + 1 ≤ R.cells) (hRslots : slots + 6 ≤ R.slots) (hlocks : meth.locks = false)
    (hx : ∀ t : State, s.vm.Alike t.vm → H.size ≤ t.heap.size → (∀ q : Nat, q < H.size → t.heap[q]? = H[q]?) → XC cls s t)
    (hf : ∀ z ∈ locs, free z.base) (hc : cells + 1 ≤ mc) (hs : slots + 6 ≤ ms) :
    W p l e R s m args below meth c H locs cells slots (vx_MQ below Qc XC args s mc ms free) (F0 m pc ls rest) := by
  intro T hT X
  have htr : e.platform.stackTraces = false := (show e.platform.stackTraces = l.stackTraces by rw [X.admits.platform]).trans hl
  have Y := vx_rebase X (R' := { frames := R.frames, locals := R.locals, cells := 1, slots := 6 }) (Nat.le_refl _) (Nat.le_refl _) hRcells hRslots
  obtain ⟨s', hA⟩ : ∃ z, z = (T.setVm s.vm).setFrames (.invoking m args :: below) := ⟨_, rfl⟩
  rw [← hA] at Y
  have hvm : s'.vm = s.vm := by rw [hA]; rfl
  have hhp : s'.heap = H := by rw [hA]; exact hT
  have hW0 : s.WarmedH s'.vm := by rw [hvm]; exact State.WarmedH.refl s
  have hat' : ∀ w ∈ vx_at0 own ic cls names, w.before args s' = true := fun w hw => vx_ot_at hW0 hvm.symm (hgood w (List.mem_cons_of_mem _ (List.mem_cons_of_mem _ hw))) (hat w hw)
  have hk' : (Cond.classLink own ik cls).before args s' = true := vx_ot_at hW0 hvm.symm (hgood _ List.mem_cons_self) hk
  have hini' : (Cond.initialized cls).before args s' = true := vx_ot_at hW0 hvm.symm (hgood _ (List.mem_cons_of_mem _ List.mem_cons_self)) hini
  have hU' : vx_Zq Bundle.tN "UNASSIGNED_STACK" Bundle.steD A s' s'.heap := by rw [hhp]; exact vx_Zq.moved hW0.alike (hU.kept hS.2.1)
  have hN' : vx_Zq Bundle.tN "SUPPRESSED_SENTINEL" Bundle.listD A s' s'.heap := by rw [hhp]; exact vx_Zq.moved hW0.alike (hN.kept hS.2.1)
  have h : ∀ w ∈ Bundle.ownAtoms0 own ic cls names, w.before args s' = true := vx_own hat' (vx_isRefq hU'.1) (vx_isRefq hN'.1) hU'.2.word hN'.2.word
  have hown' : s'.vm.findClass own = some m.cls := by rw [hvm]; exact hown
  have hins : (Cond.instantiable cls 6).before args s' = true := h _ (by simp [Bundle.ownAtoms0])
  obtain ⟨vm₁, cX, kX, hfX, hkX, -, -, X₁, st1⟩ := Y.newCold hexec (own := own) (C := cls) (index := ik) (n := 6) hown' hk' hins hini'
    (g := F0 m pc ls rest) rfl (by rw [hb]; exact d0) (Nat.le_refl _) (Nat.le_refl _)
  generalize hT1 : (T.setVm vm₁).pushCell { cls := cX, slots := kX.instanceTypes.map defaultValue, vm := .none } = T1 at X₁ st1
  have hcat : (Value.ref T.heap.size).category = 1 := rfl
  have hcellA : T1.heap[T.heap.size]? = some (freshCell cX kX) := by rw [← hT1]; exact State.heap_pushCell_size _ _
  have d3' : decode c.code (pc + 3) = .ok (.dup, 1) := by rw [hb]; exact d3
  obtain ⟨U, hsteps, hrun, hend, hW, hsame, ce, hce, hO⟩ := X₁.ctorThrow0 hexec htr (own := own) (cls := cls) (names := names) (ic := ic) hown' hcls hnames h (fun x hx => nomatch hx) hfX hkX hcellA (by rw [hhp, hT]; exact Nat.le_refl _)
    (g := { method := m, pc := pc + 4, locals := ls, stack := .ref T.heap.size :: .ref T.heap.size :: rest, locked := none }) rfl hsize rfl rfl (rest := rest) rfl
    (by rw [hb]; exact d4) (by rw [hb]; exact d7) hout hRframes (by simp only [List.map_cons, List.sum_cons, hcat]; omega) hlocks
  obtain ⟨f1, f2⟩ := vx_frame hsame
  rw [hhp] at f1 f2
  have hWs : s.WarmedH U.vm := State.WarmedH.trans hW0 hW
  have hcl : s.vm.findClass cls = some ce.cls := by
    have h9 := hO.cls
    rw [hvm] at h9
    exact h9
  have hall : s.sameButNew ({ U with vm := s.vm } : State) locs mc ms := by
    subst hA
    obtain ⟨e1, e2⟩ := hsame
    rw [State.setFrames_setFrames] at e1
    have h2 : (T.setVm s.vm).sameButNew ({ U with vm := s.vm } : State) [] (0 + 1) (0 + 6) := ⟨e1, e2⟩
    have h3 := X.same.trans h2
    rw [List.append_nil] at h3
    exact h3.mono hc hs
  refine ⟨U, ?_, .threw T.heap.size, hrun, hend, Or.inr ⟨T.heap.size, rfl, cls, ce, locs, hx U hWs.alike f1 (fun q hq => f2 q hq (fun z hz => nomatch hz)), hce, hO.vm, hcl, hWs, hall, hf⟩⟩
  refine st1 _ ?_
  show Steps p.tables e below (T1.setTop { method := m, pc := pc + 3, locals := ls, stack := .ref T.heap.size :: rest, locked := none }) _
  jvm_step X₁.here [X₁.here.top, hexec, d3', Value.category]
  exact hsteps
/-- 'throw new E("text")': new; dup; ldc; invokespecial; athrow -/
theorem vx_throwS {cc : ByteArray} {pc : Nat} (hexec : p.tables.exec = Jvm.exec) (hb : c.code = cc) (hl : l.stackTraces = false) {own cls text : String} {names : List String} {ik is ic mc ms sa : Nat} {A : Nat → Prop}
    (hown : s.vm.findClass own = some m.cls) (hcls : Bundle.fit cls = true) (hnames : ∀ n ∈ names, Bundle.fit n = true)
    (hk : (Cond.classLink own ik cls).before args s = true) (hini : (Cond.initialized cls).before args s = true) (hstr : vk_R own is text sa s) (hat : ∀ w ∈ vx_atS own ic cls names, w.before args s = true)
    (hgood : ∀ w ∈ Cond.classLink own ik cls :: Cond.initialized cls :: vx_atS own ic cls names, vx_ot w = true)
    (hU : vx_Zq Bundle.tN "UNASSIGNED_STACK" Bundle.steD A s s.heap) (hN : vx_Zq Bundle.tN "SUPPRESSED_SENTINEL" Bundle.listD A s s.heap) (hS : va_S A s.heap H locs) (hsize : ls.size = c.maxLocals)
    (d0 : decode cc pc = .ok (.new ik, 3)) (d3 : decode cc (pc + 3) = .ok (.dup, 1)) (d4 : decode cc (pc + 4) = .ok (.ldc is, 2)) (d6 : decode cc (pc + 6) = .ok (.invokespecial ic, 3)) (d9 : decode cc (pc + 9) = .ok (.athrow, 1))
    (hout : ∀ x ∈ c.exceptionTable.toList, covers x (pc + 9) = false)
    (hRframes : names.length + 3 < R.frames) (hRlocals : (rest.map fun v => v.category).sum + (13 * (names.length + 1) + 43) ≤ R.locals) (hRcells : cells + 1 ≤ R.cells) (hRslots : slots + 6 ≤ R.slots) (hlocks : meth.locks = false)
    (hx : ∀ t : State, s.vm.Alike t.vm → H.size ≤ t.heap.size → (∀ q : Nat, q < H.size → t.heap[q]? = H[q]?) → XC cls s t)
    (hf : ∀ z ∈ locs, free z.base) (hc : cells + 1 ≤ mc) (hs : slots + 6 ≤ ms) :
    W p l e R s m args below meth c H locs cells slots (vx_MQ below Qc XC args s mc ms free) (F0 m pc ls rest) := by
  intro T hT X
  have htr : e.platform.stackTraces = false := (show e.platform.stackTraces = l.stackTraces by rw [X.admits.platform]).trans hl
  have Y := vx_rebase X (R' := { frames := R.frames, locals := R.locals, cells := 1, slots := 6 }) (Nat.le_refl _) (Nat.le_refl _) hRcells hRslots
  obtain ⟨s', hA⟩ : ∃ z, z = (T.setVm s.vm).setFrames (.invoking m args :: below) := ⟨_, rfl⟩
  rw [← hA] at Y
  have hvm : s'.vm = s.vm := by rw [hA]; rfl
  have hhp : s'.heap = H := by rw [hA]; exact hT
  have hW0 : s.WarmedH s'.vm := by rw [hvm]; exact State.WarmedH.refl s
  have hat' : ∀ w ∈ vx_atS own ic cls names, w.before args s' = true := fun w hw => vx_ot_at hW0 hvm.symm (hgood w (List.mem_cons_of_mem _ (List.mem_cons_of_mem _ hw))) (hat w hw)
  have hk' : (Cond.classLink own ik cls).before args s' = true := vx_ot_at hW0 hvm.symm (hgood _ List.mem_cons_self) hk
  have hini' : (Cond.initialized cls).before args s' = true := vx_ot_at hW0 hvm.symm (hgood _ (List.mem_cons_of_mem _ List.mem_cons_self)) hini
  have hU' : vx_Zq Bundle.tN "UNASSIGNED_STACK" Bundle.steD A s' s'.heap := by rw [hhp]; exact vx_Zq.moved hW0.alike (hU.kept hS.2.1)
  have hN' : vx_Zq Bundle.tN "SUPPRESSED_SENTINEL" Bundle.listD A s' s'.heap := by rw [hhp]; exact vx_Zq.moved hW0.alike (hN.kept hS.2.1)
  have h : ∀ w ∈ Bundle.ownAtoms own ic cls names, w.before args s' = true := vx_own hat' (vx_isRefq hU'.1) (vx_isRefq hN'.1) hU'.2.word hN'.2.word
  have hown' : s'.vm.findClass own = some m.cls := by rw [hvm]; exact hown
  have hins : (Cond.instantiable cls 6).before args s' = true := h _ (by simp [Bundle.ownAtoms])
  obtain ⟨vm₁, cX, kX, hfX, hkX, -, -, X₁, st1⟩ := Y.newCold hexec (own := own) (C := cls) (index := ik) (n := 6) hown' hk' hins hini'
    (g := F0 m pc ls rest) rfl (by rw [hb]; exact d0) (Nat.le_refl _) (Nat.le_refl _)
  generalize hT1 : (T.setVm vm₁).pushCell { cls := cX, slots := kX.instanceTypes.map defaultValue, vm := .none } = T1 at X₁ st1
  have hcat : (Value.ref T.heap.size).category = 1 := rfl
  have hcellA : T1.heap[T.heap.size]? = some (freshCell cX kX) := by rw [← hT1]; exact State.heap_pushCell_size _ _
  have d3' : decode c.code (pc + 3) = .ok (.dup, 1) := by rw [hb]; exact d3
  have d4' : decode c.code (pc + 4) = .ok (.ldc is, 2) := by rw [hb]; exact d4
  have hstr' : vk_R own is text sa s' := vk_R.warm hW0 hstr
  obtain ⟨U, hsteps, hrun, hend, hW, hsame, ce, hce, hO⟩ := X₁.ctorThrowS hexec htr (own := own) (cls := cls) (names := names) (ic := ic) hown' hcls hnames h (fun x hx => nomatch hx) hfX hkX hcellA (by rw [hhp, hT]; exact Nat.le_refl _) (msg := .ref sa) rfl
    (g := { method := m, pc := pc + 6, locals := ls, stack := .ref sa :: .ref T.heap.size :: .ref T.heap.size :: rest, locked := none }) rfl hsize rfl rfl (rest := rest) rfl
    (by rw [hb]; exact d6) (by rw [hb]; exact d9) hout hRframes (by simp only [List.map_cons, List.sum_cons, hcat]; omega) hlocks
  obtain ⟨f1, f2⟩ := vx_frame hsame
  rw [hhp] at f1 f2
  have hWs : s.WarmedH U.vm := State.WarmedH.trans hW0 hW
  have hcl : s.vm.findClass cls = some ce.cls := by
    have h9 := hO.cls
    rw [hvm] at h9
    exact h9
  have hall : s.sameButNew ({ U with vm := s.vm } : State) locs mc ms := by
    subst hA
    obtain ⟨e1, e2⟩ := hsame
    rw [State.setFrames_setFrames] at e1
    have h2 : (T.setVm s.vm).sameButNew ({ U with vm := s.vm } : State) [] (0 + 1) (0 + 6) := ⟨e1, e2⟩
    have h3 := X.same.trans h2
    rw [List.append_nil] at h3
    exact h3.mono hc hs
  refine ⟨U, ?_, .threw T.heap.size, hrun, hend, Or.inr ⟨T.heap.size, rfl, cls, ce, locs, hx U hWs.alike f1 (fun q hq => f2 q hq (fun z hz => nomatch hz)), hce, hO.vm, hcl, hWs, hall, hf⟩⟩
  refine st1 _ ?_
  show Steps p.tables e below (T1.setTop { method := m, pc := pc + 3, locals := ls, stack := .ref T.heap.size :: rest, locked := none }) _
  jvm_step X₁.here [X₁.here.top, hexec, d3', Value.category]
  exact X₁.ldcString hexec (own := own) (text := text) (index := is) (a := sa) hown' hstr'.1 hstr'.2
    (g := { method := m, pc := pc + 4, locals := ls, stack := .ref T.heap.size :: .ref T.heap.size :: rest, locked := none }) rfl d4' _ hsteps
/-- 'throw new E("text")', the text by a wide index -/
theorem vx_throwSW {cc : ByteArray} {pc : Nat} (hexec : p.tables.exec = Jvm.exec) (hb : c.code = cc) (hl : l.stackTraces = false) {own cls text : String} {names : List String} {ik is ic mc ms sa : Nat} {A : Nat → Prop}
    (hown : s.vm.findClass own = some m.cls) (hcls : Bundle.fit cls = true) (hnames : ∀ n ∈ names, Bundle.fit n = true)
    (hk : (Cond.classLink own ik cls).before args s = true) (hini : (Cond.initialized cls).before args s = true) (hstr : vk_R own is text sa s) (hat : ∀ w ∈ vx_atS own ic cls names, w.before args s = true)
    (hgood : ∀ w ∈ Cond.classLink own ik cls :: Cond.initialized cls :: vx_atS own ic cls names, vx_ot w = true)
    (hU : vx_Zq Bundle.tN "UNASSIGNED_STACK" Bundle.steD A s s.heap) (hN : vx_Zq Bundle.tN "SUPPRESSED_SENTINEL" Bundle.listD A s s.heap) (hS : va_S A s.heap H locs) (hsize : ls.size = c.maxLocals)
    (d0 : decode cc pc = .ok (.new ik, 3)) (d3 : decode cc (pc + 3) = .ok (.dup, 1)) (d4 : decode cc (pc + 4) = .ok (.ldc_w is, 3)) (d7 : decode cc (pc + 7) = .ok (.invokespecial ic, 3)) (d10 : decode cc (pc + 10) = .ok (.athrow, 1))
    (hout : ∀ x ∈ c.exceptionTable.toList, covers x (pc + 10) = false)
    (hRframes : names.length + 3 < R.frames) (hRlocals : (rest.map fun v => v.category).sum + (13 * (names.length + 1) + 43) ≤ R.locals) (hRcells : cells + 1 ≤ R.cells) (hRslots : slots + 6 ≤ R.slots) (hlocks : meth.locks = false)
    (hx : ∀ t : State, s.vm.Alike t.vm → H.size ≤ t.heap.size → (∀ q : Nat, q < H.size → t.heap[q]? = H[q]?) → XC cls s t)
    (hf : ∀ z ∈ locs, free z.base) (hc : cells + 1 ≤ mc) (hs : slots + 6 ≤ ms) :
    W p l e R s m args below meth c H locs cells slots (vx_MQ below Qc XC args s mc ms free) (F0 m pc ls rest) := by
  intro T hT X
  have htr : e.platform.stackTraces = false := (show e.platform.stackTraces = l.stackTraces by rw [X.admits.platform]).trans hl
  have Y := vx_rebase X (R' := { frames := R.frames, locals := R.locals, cells := 1, slots := 6 }) (Nat.le_refl _) (Nat.le_refl _) hRcells hRslots
  obtain ⟨s', hA⟩ : ∃ z, z = (T.setVm s.vm).setFrames (.invoking m args :: below) := ⟨_, rfl⟩
  rw [← hA] at Y
  have hvm : s'.vm = s.vm := by rw [hA]; rfl
  have hhp : s'.heap = H := by rw [hA]; exact hT
  have hW0 : s.WarmedH s'.vm := by rw [hvm]; exact State.WarmedH.refl s
  have hat' : ∀ w ∈ vx_atS own ic cls names, w.before args s' = true := fun w hw => vx_ot_at hW0 hvm.symm (hgood w (List.mem_cons_of_mem _ (List.mem_cons_of_mem _ hw))) (hat w hw)
  have hk' : (Cond.classLink own ik cls).before args s' = true := vx_ot_at hW0 hvm.symm (hgood _ List.mem_cons_self) hk
  have hini' : (Cond.initialized cls).before args s' = true := vx_ot_at hW0 hvm.symm (hgood _ (List.mem_cons_of_mem _ List.mem_cons_self)) hini
  have hU' : vx_Zq Bundle.tN "UNASSIGNED_STACK" Bundle.steD A s' s'.heap := by rw [hhp]; exact vx_Zq.moved hW0.alike (hU.kept hS.2.1)
  have hN' : vx_Zq Bundle.tN "SUPPRESSED_SENTINEL" Bundle.listD A s' s'.heap := by rw [hhp]; exact vx_Zq.moved hW0.alike (hN.kept hS.2.1)
  have h : ∀ w ∈ Bundle.ownAtoms own ic cls names, w.before args s' = true := vx_own hat' (vx_isRefq hU'.1) (vx_isRefq hN'.1) hU'.2.word hN'.2.word
  have hown' : s'.vm.findClass own = some m.cls := by rw [hvm]; exact hown
  have hins : (Cond.instantiable cls 6).before args s' = true := h _ (by simp [Bundle.ownAtoms])
  obtain ⟨vm₁, cX, kX, hfX, hkX, -, -, X₁, st1⟩ := Y.newCold hexec (own := own) (C := cls) (index := ik) (n := 6) hown' hk' hins hini'
    (g := F0 m pc ls rest) rfl (by rw [hb]; exact d0) (Nat.le_refl _) (Nat.le_refl _)
  generalize hT1 : (T.setVm vm₁).pushCell { cls := cX, slots := kX.instanceTypes.map defaultValue, vm := .none } = T1 at X₁ st1
  have hcat : (Value.ref T.heap.size).category = 1 := rfl
  have hcellA : T1.heap[T.heap.size]? = some (freshCell cX kX) := by rw [← hT1]; exact State.heap_pushCell_size _ _
  have d3' : decode c.code (pc + 3) = .ok (.dup, 1) := by rw [hb]; exact d3
  have d4' : decode c.code (pc + 4) = .ok (.ldc_w is, 3) := by rw [hb]; exact d4
  have hstr' : vk_R own is text sa s' := vk_R.warm hW0 hstr
  obtain ⟨U, hsteps, hrun, hend, hW, hsame, ce, hce, hO⟩ := X₁.ctorThrowS hexec htr (own := own) (cls := cls) (names := names) (ic := ic) hown' hcls hnames h (fun x hx => nomatch hx) hfX hkX hcellA (by rw [hhp, hT]; exact Nat.le_refl _) (msg := .ref sa) rfl
    (g := { method := m, pc := pc + 7, locals := ls, stack := .ref sa :: .ref T.heap.size :: .ref T.heap.size :: rest, locked := none }) rfl hsize rfl rfl (rest := rest) rfl
    (by rw [hb]; exact d7) (by rw [hb]; exact d10) hout hRframes (by simp only [List.map_cons, List.sum_cons, hcat]; omega) hlocks
  obtain ⟨f1, f2⟩ := vx_frame hsame
  rw [hhp] at f1 f2
  have hWs : s.WarmedH U.vm := State.WarmedH.trans hW0 hW
  have hcl : s.vm.findClass cls = some ce.cls := by
    have h9 := hO.cls
    rw [hvm] at h9
    exact h9
  have hall : s.sameButNew ({ U with vm := s.vm } : State) locs mc ms := by
    subst hA
    obtain ⟨e1, e2⟩ := hsame
    rw [State.setFrames_setFrames] at e1
    have h2 : (T.setVm s.vm).sameButNew ({ U with vm := s.vm } : State) [] (0 + 1) (0 + 6) := ⟨e1, e2⟩
    have h3 := X.same.trans h2
    rw [List.append_nil] at h3
    exact h3.mono hc hs
  refine ⟨U, ?_, .threw T.heap.size, hrun, hend, Or.inr ⟨T.heap.size, rfl, cls, ce, locs, hx U hWs.alike f1 (fun q hq => f2 q hq (fun z hz => nomatch hz)), hce, hO.vm, hcl, hWs, hall, hf⟩⟩
  refine st1 _ ?_
  show Steps p.tables e below (T1.setTop { method := m, pc := pc + 3, locals := ls, stack := .ref T.heap.size :: rest, locked := none }) _
  jvm_step X₁.here [X₁.here.top, hexec, d3', Value.category]
  exact X₁.ldcStringW hexec (own := own) (text := text) (index := is) (a := sa) hown' hstr'.1 hstr'.2
    (g := { method := m, pc := pc + 4, locals := ls, stack := .ref T.heap.size :: .ref T.heap.size :: rest, locked := none }) rfl d4' _ hsteps
end Ends
section Bodies
variable {l : Launch}
theorem vx_ofW {y : MethodName} {ws ws' : List Cond} {rm : Room} {Pc : Array Value → State → Prop} {Qc : Array Value → State → Outcome → State → Prop} {XC : String → State → State → Prop} {mc ms : Nat} {free : Addr → Prop} {cc : ByteArray} {maxL : Nat} {ret : Option FieldType}
    (hy : plainName y.cls = true) (hw : ws = Cond.code y cc maxL ret :: ws')
    (body : ∀ p e s m args below meth c s₁, BodyLoose p l y (headSpec ws rm) cc maxL ret e s m args below meth c s₁ → c.maxLocals = maxL → (∀ x ∈ c.exceptionTable.toList, False) → Pc args s →
      W p l e (headSpec ws rm).room s m args below meth c s.heap [] 0 0 (vx_MQ below Qc XC args s mc ms free) (entryFrame m args maxL)) : vx_Met l y ws rm Pc Qc XC mc ms free := by
  refine MetFree.of_bodyS (code := cc) (maxLocals := maxL) (ret := ret) hy ?_ ?_
  · intro args s m h hn
    obtain ⟨meth, c, h1, h2, h3, h4, h5, h6, -, -⟩ := Cond.code_spec hn (atoms_spec (ws := ws) h _ (by rw [hw]; exact List.mem_cons_self))
    exact ⟨meth, c, h1, h2, h3, h4, h5, h6⟩
  · intro p e s m args below meth c s₁ B hml hP _
    have hh0 : s₁.heap = s.heap := by rw [B.state]; rfl
    have ht : ∀ x ∈ c.exceptionTable.toList, False := by
      obtain ⟨meth9, c9, h1, h2, -, -, -, -, h7, -⟩ := Cond.code_spec B.named (atoms_spec (ws := ws) B.pre _ (by rw [hw]; exact List.mem_cons_self))
      cases Option.some.inj (h1.symm.trans B.method)
      cases Option.some.inj (h2.symm.trans (Stand.of_body B).code)
      intro x hx
      rw [Array.isEmpty_iff.mp h7] at hx
      cases hx
    obtain ⟨t, a1, o, b1, b2, b3⟩ := body p e s m args below meth c s₁ B hml ht hP s₁ hh0 (Stand.of_body B)
    exact ⟨t, o, a1, b1, b2, b3⟩
/-- the table of a body with handlers -/
theorem vx_table {p : Program} {x y : MethodName} {S : Spec} {cc bytes : ByteArray} {maxL maxL' : Nat} {ret ret' : Option FieldType} {e : Env} {s s₁ : State} {m : MethodId} {args : Array Value} {below : List Frame} {meth : Method} {c : Code} {hh : List (Nat × Nat × Nat × Nat)}
    (B : BodyLoose p l y S cc maxL ret e s m args below meth c s₁) (h : (Cond.codeWith y bytes maxL' ret' hh).before args s = true) : c.exceptionTable.toList = tableOf hh := by
  obtain ⟨m9, meth9, c9, hn9, h1, h2, -, -, h6, -⟩ := Cond.codeWith_spec h
  cases Option.some.inj (hn9.symm.trans B.named)
  cases Option.some.inj (h1.symm.trans B.method)
  cases Option.some.inj (h2.symm.trans (Stand.of_body B).code)
  rw [← h6, table_eq]
end Bodies
end VXA
/-! ===== END ===== -/
/-! ===== BEGIN a static call of a method with an exception table ===== -/
section VXS
variable {p : Program} {l : Launch} {e : Env} {R : Room} {s : State} {m : MethodId} {args : Array Value} {below : List Frame} {meth : Method} {c : Code} {T : State} {H : Heap} {locs : List Loc} {cells slots : Nat}
abbrev vx_CSW (R : Room) (s : State) (args : Array Value) (own : String) (index : Nat) (y : MethodName) (bytes : ByteArray) (maxL : Nat) (ret : Option FieldType) (hh : List (Nat × Nat × Nat × Nat)) (ws : List Cond) (rm : Room) (mc ms n : Nat) : Prop :=
  (rm.cells = mc ∧ rm.slots = ms ∧ rm.frames + 1 ≤ R.frames ∧ 8 + (maxL + 11) + rm.locals ≤ R.locals ∧ (∀ w ∈ ws, ∀ (a' : Array Value) (U : State), s.WarmedH U.vm → w.before a' U = true) ∧ Cond.codeWith y bytes maxL ret hh ∈ ws) ∧
  (Cond.codeWith y bytes maxL ret hh).before args s = true ∧ (Cond.initialized y.cls).before args s = true ∧ (y.cls ≠ "java/lang/invoke/MethodHandle" ∧ y.cls ≠ "java/lang/invoke/VarHandle") ∧
  (∀ sig, parseMethodDescriptor y.desc = some sig → n = sig.parameters.length) ∧ (Cond.methodLink own index y).before args s = true ∧ (Cond.static y).before args s = true
theorem vx_cwSW {own : String} {index maxL mc ms : Nat} {y : MethodName} {bytes : ByteArray} {ret : Option FieldType} {hh : List (Nat × Nat × Nat × Nat)} {Ts ws ws' : List Cond} {rm : Room} (n : Nat) (ht : ∀ w ∈ Ts, w.before args s = true) (hT : GoodIn Ts (va_wsS own index y ws)) (hw : ws = Cond.codeWith y bytes maxL ret hh :: ws') (hrc : rm.cells = mc) (hrs : rm.slots = ms)
    (hd : y.cls ≠ "java/lang/invoke/MethodHandle" ∧ y.cls ≠ "java/lang/invoke/VarHandle" ∧ (parseMethodDescriptor y.desc).map (fun d => d.parameters.length) = some n) (hR : rm.frames + 1 ≤ R.frames ∧ 8 + (maxL + 11) + rm.locals ≤ R.locals) :
    vx_CSW R s args own index y bytes maxL ret hh ws rm mc ms n := by
  have ok : ∀ w ∈ va_wsS own index y ws, w.before args s = true := fun w h => ht w (hT w h).1
  have hG : GoodIn Ts ws := fun w h => hT w (by unfold va_wsS; exact List.mem_append_right _ h)
  have hc : Cond.codeWith y bytes maxL ret hh ∈ ws := by rw [hw]; exact List.mem_cons_self
  refine ⟨⟨hrc, hrs, hR.1, hR.2, pay_in ht hG, hc⟩, ht _ (hG _ hc).1, ok _ (by simp [va_wsS]), ⟨hd.1, hd.2.1⟩, fun sig h => ?_, ok _ (by simp [va_wsS]), ok _ (by simp [va_wsS])⟩
  have h2 := hd.2.2
  rw [h] at h2
  exact (Option.some.inj h2).symm
theorem vx_callSW (X : Stand p l e R s m args below meth c T locs cells slots) (hexec : p.tables.exec = Jvm.exec) {own : String} {index : Nat} {y : MethodName} {bytes : ByteArray} {maxL : Nat} {ret : Option FieldType} {hh : List (Nat × Nat × Nat × Nat)}
    (hown : s.vm.findClass own = some m.cls) (hlink : (Cond.methodLink own index y).before args s = true) (hstat : (Cond.static y).before args s = true) (hinit : (Cond.initialized y.cls).before args s = true)
    (hcode : (Cond.codeWith y bytes maxL ret hh).before args s = true) (hy : y.cls ≠ "java/lang/invoke/MethodHandle" ∧ y.cls ≠ "java/lang/invoke/VarHandle")
    {W9 : Nat} {Pre : Pt → Array Value → Prop} {Post : Pt → Array Value → Option Value → Pt → Prop} (hK : Back l R p e below s args y 3 W9 Pre Post)
    {g : JFrame} (hg : g.method = m) (hsize : g.locals.size = c.maxLocals) {argsL rest : List Value} (hlen : ∀ sig, parseMethodDescriptor y.desc = some sig → argsL.length = sig.parameters.length)
    (hstack : g.stack = argsL.reverse ++ rest) (hW : 2 * g.monitorRoom + (rest.map fun v => v.category).sum ≤ W9) (hdg : decode c.code g.pc = .ok (.invokestatic index, 3))
    (hpre : ∀ vm₁, s.WarmedH vm₁ → Pre ⟨T.setVm vm₁, locs, cells, slots⟩ argsL.toArray) :
    ∃ (v : Option Value) (vm₁ : Vm) (B : Pt), s.WarmedH vm₁ ∧ Stand p l e R s m args below meth c B.U B.locs B.cells B.slots ∧ Post ⟨T.setVm vm₁, locs, cells, slots⟩ argsL.toArray v B ∧
      ∀ target, Steps p.tables e below (B.U.setTop { g with pc := g.pc + 3, stack := v.toList ++ rest }) target → Steps p.tables e below (T.setTop g) target := by
  obtain ⟨mk, methM, cM, hnamed, hmethM, -, -, -, -, -, -, hsigM⟩ := Cond.codeWith_spec hcode
  have hstatic : methM.isStatic = true := Cond.static_spec hnamed hmethM hstat
  obtain ⟨kP, hkP, -⟩ := className_of_methodNamed hnamed
  have hinitP : kP.init = .initialized := Cond.initialized_spec (findClass_of_methodNamed hnamed) hkP hinit
  obtain ⟨vm₁, X₁, hstep₁⟩ := X.invokestatic hexec hown hlink hnamed hmethM hstatic hkP hinitP hy (g := g) hg (argsL := argsL) (rest := rest) (hlen _ hsigM) hstack hdg
  obtain ⟨v, B, X', hpost, hsteps⟩ := hK m meth c ⟨T.setVm vm₁, locs, cells, slots⟩ { g with stack := rest } (.invokestatic index) mk argsL.toArray X₁ hg hsize hdg hW (X₁.named hnamed) (hpre vm₁ X₁.warmed)
  exact ⟨v, vm₁, B, X₁.warmed, X', hpost, fun target h => hstep₁ _ fun acts => by rw [doInvoke_state]; exact hsteps.trans h⟩
theorem vx_runSW {y : MethodName} {bytes cc : ByteArray} {maxL nL mc ms n index : Nat} {ret : Option FieldType} {hh : List (Nat × Nat × Nat × Nat)} {ws : List Cond} {rm : Room} {Pc : Array Value → State → Prop} {Qc : Array Value → State → Outcome → State → Prop} {free : Addr → Prop} {Ts : List Cond} {own : String} {As rest : List Value} {g : JFrame}
    (S : CallFix p m c cc nL s args Ts own) (hM : Met l y ws rm Pc Qc mc ms free) (cw : vx_CSW R s args own index y bytes maxL ret hh ws rm mc ms n) (hp : PreS s H Pc As)
    (hg : g.method = m) (hn : As.length = n) (hsize : g.locals.size = nL) (hstack : g.stack = As.reverse ++ rest) (hW : 2 * g.monitorRoom + (rest.map fun v => v.category).sum ≤ 8) (hdg : decode cc g.pc = .ok (.invokestatic index, 3)) (hf : cells + mc ≤ R.cells ∧ slots + ms ≤ R.slots) :
    va_Run p l e R s m args below meth c H locs cells slots mc ms g rest (Qc As.toArray) (free) := by
  obtain ⟨⟨hrc, hrs, hfr, hlo, hws, hcw⟩, hcode, hini, hy, hlen, hl, hstt⟩ := cw
  have hK : Back l R p e below s args y 3 8 (PreOf R mc ms Pc) (PostOf Qc mc ms free) := va_backW (hh := hh) (bytes := bytes) (maxL := maxL) (ret := ret) hM hp.1 hrc hrs hfr hlo hws hcw (fun a' U hW => word_at hW (Or.inl (by first | rfl | simp [Cond.onTables, Cond.keeps, Cond.steady])) hini)
  obtain ⟨hx, hb, hml, ho, -⟩ := S
  intro T hT X
  obtain ⟨v, vm₁, ⟨U', l2, c2, s2⟩, hW₁, X', ⟨g', mk, t, L, e1, e2, hq, h1, hL, h2, h3⟩, st⟩ := vx_callSW X hx (hh := hh) (bytes := bytes) (maxL := maxL) (ret := ret) ho hl hstt hini hcode hy hK hg (hsize.trans hml.symm) (argsL := As) (rest := rest) (fun sig h => hn.trans (hlen sig h)) hstack hW (by rw [hb]; exact hdg)
    (fun vm₁ hW₁ => ⟨hf.1, hf.2, hp.2 (T.setVm vm₁) hT hW₁⟩)
  dsimp only [Pt.U, Pt.locs, Pt.cells, Pt.slots] at X' e1 e2 h1 h2 h3 st
  subst h1; subst h2; subst h3
  exact ⟨v, (T.setVm vm₁).calling g' mk As.toArray, t, U', L, hT, X', hL, e1, e2, hq, st⟩
/-- not caught here, past rows that name other classes: it goes on to the caller -/
theorem vx_outP {p : Program} {l : Launch} {e : Env} {R : Room} {s : State} {m : MethodId} {args : Array Value} {below : List Frame} {meth : Method} {c : Code} {H : Heap} {locs : List Loc} {cells slots : Nat} {free : Addr → Prop} {ls : Array Slot} {rest : List Value} {Qc : Array Value → State → Outcome → State → Prop} {XC : String → State → State → Prop}
    {pc : Nat} {own E : String} {ce : Cell} {q : Addr} {mc ms : Nat} (hown : s.vm.findClass own = some m.cls) (hlocks : meth.locks = false)
    (hpass : ∀ z ∈ c.exceptionTable.toList, covers z pc = false ∨ (z.catchType ≠ 0 ∧ ∃ nm : String, (Cond.classLink own z.catchType nm).before args s = true ∧ va_Nc E nm s)) (hcell : H[q]? = some ce) (hv : ce.vm = .none) (hcl : s.vm.findClass E = some ce.cls)
    (hx : ∀ t : State, t.heap = H → s.vm.Alike t.vm → XC E s t) (hf : ∀ z ∈ locs, free z.base) (hc : cells ≤ mc) (hs : slots ≤ ms) :
    vx_W p l e R s m args below meth c H locs cells slots (vx_MQ below Qc XC args s mc ms free) (F0 m pc ls rest) q := by
  intro T hT X
  have hpl : e.platform.magicAccessors = ({} : Platform).magicAccessors := by rw [X.admits.platform]
  obtain ⟨vm', hW', X', st⟩ := X.outThrough hlocks q (g := F0 m pc ls rest) rfl rfl rfl (cell := ce) (by rw [hT]; exact hcell) (by rw [hv]; rfl)
    (by obtain ⟨k9, h9, -⟩ := Vm.findClass_spec hcl; exact ⟨k9, h9⟩) (fun z hz => by
      rcases hpass z hz with h | ⟨hz0, nm, hl1, hn1⟩
      · exact Or.inl h
      · obtain ⟨c6, hc6, hcl6⟩ := Cond.classLink_spec hown hl1 e.platform hpl
        obtain ⟨a8, b8, h1, h2, h3⟩ := hn1
        cases Option.some.inj (h1.symm.trans hcl)
        cases Option.some.inj (h2.symm.trans hc6)
        exact Or.inr ⟨hz0, _, hcl6, h3⟩)
  obtain ⟨g₀, hfr⟩ := X'.frames_eq
  have hcell9 : ((T.setVm vm').setFrames (.throwing q :: below)).heap[q]? = some ce := by
    show T.heap[q]? = some ce
    rw [hT]; exact hcell
  have hend : Ended ((T.setVm vm').setFrames (.throwing q :: below)) below (.threw q) := State.frames_setFrames _ (State.cur_lt_of_frames hfr)
  refine ⟨(T.setVm vm').setFrames (.throwing q :: below), ?_, .threw q, X'.here.running, hend, Or.inr ⟨q, rfl, E, ce, locs, hx _ hT (X'.ends _).1.alike, hcell9, hv, hcl, (X'.ends _).1, (X'.ends _).2.mono hc hs, hf⟩⟩
  rw [X.pushThrowing_eq]
  exact st
/-- a thing of a world lies in the heap -/
theorem vx_lt {D : va_G} {cl : List vw_C} {ws : va_W} {H1 : Heap} (h : va_P D cl ws H1) {k : Nat} {q : Nat × va_E} (hk : ws[k]? = some q) : q.1 < H1.size := (h k q hk).lt
end VXS
/-! ===== END ===== -/
/-! ===== BEGIN methods with a table of their own: called by a name, returning or throwing ===== -/
section VXH
/-! vx_backW, vx_callVX, vx_callSX, vx_callVW, vx_runVW, vx_runVX, vx_runSX, vx_ofWH follow the same proofs as their sisters above (Free/Laws.lean, Shelf42/LK1.lean); vx_outP calls Shelf42/NT130.lean (outThrough). -/
section
variable {l : Launch} {R : Room} {p : Program} {e : Env} {below : List Frame} {s : State} {sargs : Array Value} {y : MethodName} {len W9 : Nat}
theorem vx_backW {ws : List Cond} {rm : Room} {Pc : Array Value → State → Prop} {Qc : Array Value → State → Outcome → State → Prop} {XC : String → State → State → Prop} {mc ms : Nat} {free : Addr → Prop} {bytes : ByteArray} {maxL : Nat} {ret : Option FieldType} {hh : List (Nat × Nat × Nat × Nat)}
    (hM : vx_Met l y ws rm Pc Qc XC mc ms free) (hblind : FrameBlind Pc) (hrc : rm.cells = mc) (hrs : rm.slots = ms)
    (hframes : rm.frames + 1 ≤ R.frames) (hlocals : W9 + (maxL + 11) + rm.locals ≤ R.locals)
    (hws : ∀ w ∈ ws, ∀ a' U, s.WarmedH U.vm → w.before a' U = true) (hcode : Cond.codeWith y bytes maxL ret hh ∈ ws) (hinit : ∀ a' U, s.WarmedH U.vm → (Cond.initialized y.cls).before a' U = true) :
    vx_Back l R p e below s sargs y len W9 (PreOf R mc ms Pc) (PostOf Qc mc ms free) (vx_Post XC mc ms free) := by
  intro m meth c A g ig mk a X hg hsize hdg hW hn hp
  have h1 : (headSpec ws rm).pre.before a A.U = true := atoms_intro fun w hw => hws w hw _ _ X.warmed
  have h2 : (Cond.codeWith y bytes maxL ret hh).before a A.U = true := hws _ hcode _ _ X.warmed
  have h3 : (Cond.initialized y.cls).before a A.U = true := hinit _ _ X.warmed
  have h4 : A.cells + (headSpec ws rm).room.cells ≤ R.cells := by rw [show (headSpec ws rm).room.cells = mc from hrc]; exact hp.1
  have h5 : A.slots + (headSpec ws rm).room.slots ≤ R.slots := by rw [show (headSpec ws rm).room.slots = ms from hrs]; exact hp.2.1
  have hPc : Pc a (A.U.calling g mk a) := hblind _ _ _ _ hp.2.2
  obtain ⟨U, Ls, c0, s0⟩ := A
  dsimp only [Pt.U, Pt.locs, Pt.cells, Pt.slots] at h1 h2 h3 h4 h5 X hn hPc ⊢
  obtain ⟨m9, methY, cY, hn9, hmY, hcY, -, hlY, -⟩ := Cond.codeWith_spec h2
  cases Option.some.inj (hn9.symm.trans hn)
  obtain ⟨kY, hkY, -⟩ := className_of_methodNamed hn
  have hinitY : kY.init = .initialized := Cond.initialized_spec (findClass_of_methodNamed hn) hkY h3
  have h : At U g.method c below := by rw [hg]; exact X.here
  have hlocals9 : W9 + (maxL + 11) + (headSpec ws rm).room.locals ≤ R.locals := hlocals
  have happ : (headSpec ws rm).appliesLoose y e.platform (U.calling g mk a) = true :=
    Spec.appliesLoose_calling (g := g) h hdg hn hkY hinitY
      (X.room_calling (g := g) (R' := (headSpec ws rm).room) hsize hmY hcY hframes (by rw [hlY]; omega) h4 h5) h1
  obtain ⟨mid, hmid⟩ := h.above
  have hfr : (U.setTop g).frames = (.java g :: mid) ++ below := by rw [State.frames_setTop' g h.top, hmid]; rfl
  obtain ⟨o, s₂, hsteps, -, hend, hq⟩ := Steps.callFree hM p X.admits X.cas X.clock (acts := []) hfr happ hPc trivial
  have hq' : vx_Q Qc XC mc ms free a (U.calling g mk a) o s₂ := hq
  rw [State.frames_setTop' g h.top] at hend
  obtain ⟨g₀, hg0⟩ := Option.isSome_iff_exists.mp h.top
  obtain ⟨r, hr⟩ := State.topJava?_eq_some.mp hg0
  have hr' : (({ U with heap := s₂.heap, slotsUsed := s₂.slotsUsed } : State).setVm s₂.vm).frames = .java g₀ :: r := hr
  rcases hq' with ⟨hqc, L, hfe, hL⟩ | ⟨q, rfl, E, ce, L, hx, hce, hcv, hcl, hW₂, hsm, hL⟩
  · obtain ⟨⟨v, rfl⟩, hW₂, e2, q2, q3, q4, q5, q6⟩ := id hfe
    have e3 : s₂ = ({ (U.calling g mk a).setFrames s₂.frames with heap := s₂.heap, slotsUsed := s₂.slotsUsed } : State).setVm s₂.vm := by
      have : s₂ = ({ s₂ with vm := (U.calling g mk a).vm } : State).setVm s₂.vm := rfl
      rw [e2] at this
      exact this
    obtain ⟨c₂, i₂, len₂, hc₂, hd₂, hf₂⟩ := hend
    have hW' : U.WarmedH s₂.vm := hW₂
    have hcc : c₂ = c := by
      have h1 : s₂.code? g.method = U.code? g.method := by
        rw [State.code?_eq, State.code?_eq, hW'.alike.method?]
      exact Option.some.inj (hc₂.symm.trans (h1.trans h.code))
    subst hcc
    have hlen : len₂ = len := by rw [hdg] at hd₂; cases hd₂; rfl
    subst hlen
    have hs₂ : s₂ = (({ U with heap := s₂.heap, slotsUsed := s₂.slotsUsed } : State).setVm s₂.vm).setTop { g with pc := g.pc + len₂, stack := v.toList ++ g.stack } := by
      refine e3.trans ?_
      rw [hf₂, State.calling_eq h.top, State.setFrames_setFrames, State.setTop_of_frames _ hr', hr]
      rfl
    have hsame : U.sameButNew ({ U with heap := s₂.heap, slotsUsed := s₂.slotsUsed } : State) L mc ms := by
      refine ⟨?_, q2, q3, q4, q5, q6⟩
      obtain ⟨t, ht, -⟩ := State.frames_cons hr
      show ({ U with heap := s₂.heap, slotsUsed := s₂.slotsUsed } : State) = { U.setFrames U.frames with heap := s₂.heap, slotsUsed := s₂.slotsUsed }
      rw [State.setFrames_self ht]
    subst hg
    refine Or.inl ⟨v, ⟨(({ U with heap := s₂.heap, slotsUsed := s₂.slotsUsed } : State).setVm s₂.vm), Ls ++ L, c0 + mc, s0 + ms⟩,
      ⟨X.admits, X.cas, X.clock, X.frames, X.room, X.hears, X.method, X.code, (X.here.setHeapUsed s₂.heap s₂.slotsUsed).setVm hW'.alike, X.tail, State.WarmedH.trans X.warmed hW', X.limits, X.bytes, X.same.trans (hsame.setVm s.vm)⟩,
      ⟨g, mk, s₂, L, rfl, rfl, hqc, rfl, hL, rfl, rfl⟩, ?_⟩
    show Steps p.tables e below _ ((({ U with heap := s₂.heap, slotsUsed := s₂.slotsUsed } : State).setVm s₂.vm).setTop { g with pc := g.pc + len₂, stack := v.toList ++ g.stack })
    rw [← hs₂]
    exact hsteps
  · obtain ⟨e2, q2, q3, q4, q5, q6⟩ := id hsm
    have e3 : s₂ = ({ (U.calling g mk a).setFrames s₂.frames with heap := s₂.heap, slotsUsed := s₂.slotsUsed } : State).setVm s₂.vm := by
      have : s₂ = ({ s₂ with vm := (U.calling g mk a).vm } : State).setVm s₂.vm := rfl
      rw [e2] at this
      exact this
    have hf₂ : s₂.frames = .throwing q :: .java g :: U.frames.tail := hend
    have hW' : U.WarmedH s₂.vm := hW₂
    have hs₂ : s₂ = ((({ U with heap := s₂.heap, slotsUsed := s₂.slotsUsed } : State).setVm s₂.vm).setTop g).pushFrame (.throwing q) := by
      refine e3.trans ?_
      rw [hf₂, State.calling_eq h.top, State.setFrames_setFrames, State.pushFrame, State.frames_setTop _ hr', State.setTop_of_frames _ hr', State.setFrames_setFrames, hr]
      rfl
    have hsame : U.sameButNew ({ U with heap := s₂.heap, slotsUsed := s₂.slotsUsed } : State) L mc ms := by
      refine ⟨?_, q2, q3, q4, q5, q6⟩
      obtain ⟨t, ht, -⟩ := State.frames_cons hr
      show ({ U with heap := s₂.heap, slotsUsed := s₂.slotsUsed } : State) = { U.setFrames U.frames with heap := s₂.heap, slotsUsed := s₂.slotsUsed }
      rw [State.setFrames_self ht]
    subst hg
    refine Or.inr ⟨q, ⟨(({ U with heap := s₂.heap, slotsUsed := s₂.slotsUsed } : State).setVm s₂.vm), Ls ++ L, c0 + mc, s0 + ms⟩,
      ⟨X.admits, X.cas, X.clock, X.frames, X.room, X.hears, X.method, X.code, (X.here.setHeapUsed s₂.heap s₂.slotsUsed).setVm hW'.alike, X.tail, State.WarmedH.trans X.warmed hW', X.limits, X.bytes, X.same.trans (hsame.setVm s.vm)⟩,
      ⟨g, mk, s₂, L, E, ce, rfl, rfl, hx, hce, hcv, hcl, rfl, hL, rfl, rfl⟩, ?_⟩
    show Steps p.tables e below _ (((({ U with heap := s₂.heap, slotsUsed := s₂.slotsUsed } : State).setVm s₂.vm).setTop g).pushFrame (.throwing q))
    rw [← hs₂]
    exact hsteps
end
variable {p : Program} {l : Launch} {e : Env} {R : Room} {s : State} {m : MethodId} {args : Array Value} {below : List Frame} {meth : Method} {c : Code} {T : State} {H : Heap} {locs : List Loc} {cells slots : Nat}
theorem vx_callVX (X : Stand p l e R s m args below meth c T locs cells slots) (hexec : p.tables.exec = Jvm.exec) {own C : String} {index : Nat} {y : MethodName} {bytes : ByteArray} {maxL : Nat} {ret : Option FieldType} {hh : List (Nat × Nat × Nat × Nat)}
    (hown : s.vm.findClass own = some m.cls) (hlink : (Cond.methodLink own index y).before args s = true) (hinst : (Cond.instanceMethod y).before args s = true) (hsel : (Cond.selects C y y).before args s = true)
    (hcode : (Cond.codeWith y bytes maxL ret hh).before args s = true) (hy : y.cls ≠ "java/lang/invoke/MethodHandle" ∧ y.cls ≠ "java/lang/invoke/VarHandle")
    {W9 : Nat} {Pre : Pt → Array Value → Prop} {Post : Pt → Array Value → Option Value → Pt → Prop} {PostX : Pt → Array Value → Addr → Pt → Prop} (hK : vx_Back l R p e below s args y 3 W9 Pre Post PostX)
    {b : Addr} {cellB : Cell} (hcell : T.heap[b]? = some cellB) (hobj : cellB.vm.isStatics = false) (hcls : s.vm.findClass C = some cellB.cls)
    {g : JFrame} (hg : g.method = m) (hsize : g.locals.size = c.maxLocals) {argsL rest : List Value} (hlen : ∀ sig, parseMethodDescriptor y.desc = some sig → argsL.length = sig.parameters.length)
    (hstack : g.stack = argsL.reverse ++ .ref b :: rest) (hW : 2 * g.monitorRoom + (rest.map fun v => v.category).sum ≤ W9) (hdg : decode c.code g.pc = .ok (.invokevirtual index, 3))
    (hpre : ∀ vm₁, s.WarmedH vm₁ → Pre ⟨T.setVm vm₁, locs, cells, slots⟩ (Value.ref b :: argsL).toArray) :
    (∃ (v : Option Value) (vm₁ : Vm) (B : Pt), s.WarmedH vm₁ ∧ Stand p l e R s m args below meth c B.U B.locs B.cells B.slots ∧ Post ⟨T.setVm vm₁, locs, cells, slots⟩ (Value.ref b :: argsL).toArray v B ∧
      ∀ target, Steps p.tables e below (B.U.setTop { g with pc := g.pc + 3, stack := v.toList ++ rest }) target → Steps p.tables e below (T.setTop g) target) ∨
    (∃ (q : Addr) (vm₁ : Vm) (B : Pt), s.WarmedH vm₁ ∧ Stand p l e R s m args below meth c B.U B.locs B.cells B.slots ∧ PostX ⟨T.setVm vm₁, locs, cells, slots⟩ (Value.ref b :: argsL).toArray q B ∧
      Steps p.tables e below (T.setTop g) ((B.U.setTop { g with stack := rest }).pushFrame (.throwing q))) := by
  obtain ⟨mk, methM, hnamed, hmethM, hstM, habM⟩ := Cond.instanceMethod_spec hinst
  obtain ⟨m8, methM', cM, hn8, hmethM', -, -, -, -, -, -, hsigM⟩ := Cond.codeWith_spec hcode
  cases Option.some.inj (hn8.symm.trans hnamed)
  cases hmethM.symm.trans hmethM'
  obtain ⟨c2, r2, m2, q1, q2, q3, q4, kP, hkP, hkPi⟩ := Cond.selects_spec hsel
  cases hcls.symm.trans q1
  cases (State.methodFound?_of_named hnamed hy).symm.trans q2
  cases hnamed.symm.trans q3
  have hselP : selectMethod e.platform s.vm cellB.cls mk = .method mk := by rw [Launch.admits_selectMethod X.admits]; exact q4
  obtain ⟨vm₁, X₁, hstep₁⟩ := X.invokevirtual hexec hown hlink hnamed hmethM hstM hkP hkPi hy (a := b) (cell := cellB) hcell
    (fun z h => by rw [h] at hobj; cases hobj) hselP hmethM habM hkP hkPi (g := g) hg (argsL := argsL) (rest := rest) (hlen _ hsigM) hstack hdg
  rcases hK m meth c ⟨T.setVm vm₁, locs, cells, slots⟩ { g with stack := rest } (.invokevirtual index) mk (Value.ref b :: argsL).toArray X₁ hg hsize hdg hW (X₁.named hnamed) (hpre vm₁ X₁.warmed) with ⟨v, B, X', hpost, hsteps⟩ | ⟨q, B, X', hpost, hsteps⟩
  · exact Or.inl ⟨v, vm₁, B, X₁.warmed, X', hpost, fun target h => hstep₁ _ fun acts => by rw [doInvoke_state]; exact hsteps.trans h⟩
  · exact Or.inr ⟨q, vm₁, B, X₁.warmed, X', hpost, hstep₁ _ fun acts => by rw [doInvoke_state]; exact hsteps⟩
theorem vx_callSX (X : Stand p l e R s m args below meth c T locs cells slots) (hexec : p.tables.exec = Jvm.exec) {own : String} {index : Nat} {y : MethodName} {bytes : ByteArray} {maxL : Nat} {ret : Option FieldType} {hh : List (Nat × Nat × Nat × Nat)}
    (hown : s.vm.findClass own = some m.cls) (hlink : (Cond.methodLink own index y).before args s = true) (hstat : (Cond.static y).before args s = true) (hinit : (Cond.initialized y.cls).before args s = true)
    (hcode : (Cond.codeWith y bytes maxL ret hh).before args s = true) (hy : y.cls ≠ "java/lang/invoke/MethodHandle" ∧ y.cls ≠ "java/lang/invoke/VarHandle")
    {W9 : Nat} {Pre : Pt → Array Value → Prop} {Post : Pt → Array Value → Option Value → Pt → Prop} {PostX : Pt → Array Value → Addr → Pt → Prop} (hK : vx_Back l R p e below s args y 3 W9 Pre Post PostX)
    {g : JFrame} (hg : g.method = m) (hsize : g.locals.size = c.maxLocals) {argsL rest : List Value} (hlen : ∀ sig, parseMethodDescriptor y.desc = some sig → argsL.length = sig.parameters.length)
    (hstack : g.stack = argsL.reverse ++ rest) (hW : 2 * g.monitorRoom + (rest.map fun v => v.category).sum ≤ W9) (hdg : decode c.code g.pc = .ok (.invokestatic index, 3))
    (hpre : ∀ vm₁, s.WarmedH vm₁ → Pre ⟨T.setVm vm₁, locs, cells, slots⟩ argsL.toArray) :
    (∃ (v : Option Value) (vm₁ : Vm) (B : Pt), s.WarmedH vm₁ ∧ Stand p l e R s m args below meth c B.U B.locs B.cells B.slots ∧ Post ⟨T.setVm vm₁, locs, cells, slots⟩ argsL.toArray v B ∧
      ∀ target, Steps p.tables e below (B.U.setTop { g with pc := g.pc + 3, stack := v.toList ++ rest }) target → Steps p.tables e below (T.setTop g) target) ∨
    (∃ (q : Addr) (vm₁ : Vm) (B : Pt), s.WarmedH vm₁ ∧ Stand p l e R s m args below meth c B.U B.locs B.cells B.slots ∧ PostX ⟨T.setVm vm₁, locs, cells, slots⟩ argsL.toArray q B ∧
      Steps p.tables e below (T.setTop g) ((B.U.setTop { g with stack := rest }).pushFrame (.throwing q))) := by
  obtain ⟨mk, methM, cM, hnamed, hmethM, -, -, -, -, -, -, hsigM⟩ := Cond.codeWith_spec hcode
  have hstatic : methM.isStatic = true := Cond.static_spec hnamed hmethM hstat
  obtain ⟨kP, hkP, -⟩ := className_of_methodNamed hnamed
  have hinitP : kP.init = .initialized := Cond.initialized_spec (findClass_of_methodNamed hnamed) hkP hinit
  obtain ⟨vm₁, X₁, hstep₁⟩ := X.invokestatic hexec hown hlink hnamed hmethM hstatic hkP hinitP hy (g := g) hg (argsL := argsL) (rest := rest) (hlen _ hsigM) hstack hdg
  rcases hK m meth c ⟨T.setVm vm₁, locs, cells, slots⟩ { g with stack := rest } (.invokestatic index) mk argsL.toArray X₁ hg hsize hdg hW (X₁.named hnamed) (hpre vm₁ X₁.warmed) with ⟨v, B, X', hpost, hsteps⟩ | ⟨q, B, X', hpost, hsteps⟩
  · exact Or.inl ⟨v, vm₁, B, X₁.warmed, X', hpost, fun target h => hstep₁ _ fun acts => by rw [doInvoke_state]; exact hsteps.trans h⟩
  · exact Or.inr ⟨q, vm₁, B, X₁.warmed, X', hpost, hstep₁ _ fun acts => by rw [doInvoke_state]; exact hsteps⟩
theorem vx_callVW (X : Stand p l e R s m args below meth c T locs cells slots) (hexec : p.tables.exec = Jvm.exec) {own C : String} {index : Nat} {y : MethodName} {bytes : ByteArray} {maxL : Nat} {ret : Option FieldType} {hh : List (Nat × Nat × Nat × Nat)}
    (hown : s.vm.findClass own = some m.cls) (hlink : (Cond.methodLink own index y).before args s = true) (hinst : (Cond.instanceMethod y).before args s = true) (hsel : (Cond.selects C y y).before args s = true)
    (hcode : (Cond.codeWith y bytes maxL ret hh).before args s = true) (hy : y.cls ≠ "java/lang/invoke/MethodHandle" ∧ y.cls ≠ "java/lang/invoke/VarHandle")
    {W9 : Nat} {Pre : Pt → Array Value → Prop} {Post : Pt → Array Value → Option Value → Pt → Prop} (hK : Back l R p e below s args y 3 W9 Pre Post)
    {b : Addr} {cellB : Cell} (hcell : T.heap[b]? = some cellB) (hobj : cellB.vm.isStatics = false) (hcls : s.vm.findClass C = some cellB.cls)
    {g : JFrame} (hg : g.method = m) (hsize : g.locals.size = c.maxLocals) {argsL rest : List Value} (hlen : ∀ sig, parseMethodDescriptor y.desc = some sig → argsL.length = sig.parameters.length)
    (hstack : g.stack = argsL.reverse ++ .ref b :: rest) (hW : 2 * g.monitorRoom + (rest.map fun v => v.category).sum ≤ W9) (hdg : decode c.code g.pc = .ok (.invokevirtual index, 3))
    (hpre : ∀ vm₁, s.WarmedH vm₁ → Pre ⟨T.setVm vm₁, locs, cells, slots⟩ (Value.ref b :: argsL).toArray) :
    ∃ (v : Option Value) (vm₁ : Vm) (B : Pt), s.WarmedH vm₁ ∧ Stand p l e R s m args below meth c B.U B.locs B.cells B.slots ∧ Post ⟨T.setVm vm₁, locs, cells, slots⟩ (Value.ref b :: argsL).toArray v B ∧
      ∀ target, Steps p.tables e below (B.U.setTop { g with pc := g.pc + 3, stack := v.toList ++ rest }) target → Steps p.tables e below (T.setTop g) target := by
  obtain ⟨mk, methM, hnamed, hmethM, hstM, habM⟩ := Cond.instanceMethod_spec hinst
  obtain ⟨m8, methM', cM, hn8, hmethM', -, -, -, -, -, -, hsigM⟩ := Cond.codeWith_spec hcode
  cases Option.some.inj (hn8.symm.trans hnamed)
  cases hmethM.symm.trans hmethM'
  obtain ⟨c2, r2, m2, q1, q2, q3, q4, kP, hkP, hkPi⟩ := Cond.selects_spec hsel
  cases hcls.symm.trans q1
  cases (State.methodFound?_of_named hnamed hy).symm.trans q2
  cases hnamed.symm.trans q3
  have hselP : selectMethod e.platform s.vm cellB.cls mk = .method mk := by rw [Launch.admits_selectMethod X.admits]; exact q4
  obtain ⟨vm₁, X₁, hstep₁⟩ := X.invokevirtual hexec hown hlink hnamed hmethM hstM hkP hkPi hy (a := b) (cell := cellB) hcell
    (fun z h => by rw [h] at hobj; cases hobj) hselP hmethM habM hkP hkPi (g := g) hg (argsL := argsL) (rest := rest) (hlen _ hsigM) hstack hdg
  obtain ⟨v, B, X', hpost, hsteps⟩ := hK m meth c ⟨T.setVm vm₁, locs, cells, slots⟩ { g with stack := rest } (.invokevirtual index) mk (Value.ref b :: argsL).toArray X₁ hg hsize hdg hW (X₁.named hnamed) (hpre vm₁ X₁.warmed)
  exact ⟨v, vm₁, B, X₁.warmed, X', hpost, fun target h => hstep₁ _ fun acts => by rw [doInvoke_state]; exact hsteps.trans h⟩
abbrev vx_CVW (R : Room) (s : State) (args : Array Value) (own C : String) (index : Nat) (y : MethodName) (bytes : ByteArray) (maxL : Nat) (ret : Option FieldType) (hh : List (Nat × Nat × Nat × Nat)) (ws : List Cond) (rm : Room) (mc ms n : Nat) : Prop :=
  (rm.cells = mc ∧ rm.slots = ms ∧ rm.frames + 1 ≤ R.frames ∧ 8 + (maxL + 11) + rm.locals ≤ R.locals ∧ (∀ w ∈ ws, ∀ (a' : Array Value) (U : State), s.WarmedH U.vm → w.before a' U = true) ∧ Cond.codeWith y bytes maxL ret hh ∈ ws) ∧
  (Cond.codeWith y bytes maxL ret hh).before args s = true ∧ (Cond.initialized y.cls).before args s = true ∧ (y.cls ≠ "java/lang/invoke/MethodHandle" ∧ y.cls ≠ "java/lang/invoke/VarHandle") ∧
  (∀ sig, parseMethodDescriptor y.desc = some sig → n = sig.parameters.length) ∧ (Cond.methodLink own index y).before args s = true ∧ (Cond.instanceMethod y).before args s = true ∧ (Cond.selects C y y).before args s = true
theorem vx_cwVW {own C : String} {index maxL mc ms : Nat} {y : MethodName} {bytes : ByteArray} {ret : Option FieldType} {hh : List (Nat × Nat × Nat × Nat)} {Ts ws ws' : List Cond} {rm : Room} (n : Nat) (ht : ∀ w ∈ Ts, w.before args s = true) (hT : GoodIn Ts (wsV own index C y ws)) (hw : ws = Cond.codeWith y bytes maxL ret hh :: ws') (hrc : rm.cells = mc) (hrs : rm.slots = ms)
    (hd : y.cls = C ∧ y.cls ≠ "java/lang/invoke/MethodHandle" ∧ y.cls ≠ "java/lang/invoke/VarHandle" ∧ (parseMethodDescriptor y.desc).map (fun d => d.parameters.length) = some n) (hR : rm.frames + 1 ≤ R.frames ∧ 8 + (maxL + 11) + rm.locals ≤ R.locals) :
    vx_CVW R s args own C index y bytes maxL ret hh ws rm mc ms n := by
  obtain ⟨hC, hd⟩ := hd
  subst hC
  have ok : ∀ w ∈ wsV own index y.cls y ws, w.before args s = true := fun w h => ht w (hT w h).1
  have hG : GoodIn Ts ws := fun w h => hT w (by unfold wsV; exact List.mem_append_right _ h)
  have hc : Cond.codeWith y bytes maxL ret hh ∈ ws := by rw [hw]; exact List.mem_cons_self
  refine ⟨⟨hrc, hrs, hR.1, hR.2, pay_in ht hG, hc⟩, ht _ (hG _ hc).1, ok _ (by simp [wsV]), ⟨hd.1, hd.2.1⟩, fun sig h => ?_, ok _ (by simp [wsV]), ok _ (by simp [wsV]), ok _ (by simp [wsV])⟩
  have h2 := hd.2.2
  rw [h] at h2
  exact (Option.some.inj h2).symm
theorem vx_runVW {y : MethodName} {bytes cc : ByteArray} {maxL nL mc ms n index : Nat} {ret : Option FieldType} {hh : List (Nat × Nat × Nat × Nat)} {ws : List Cond} {rm : Room} {Pc : Array Value → State → Prop} {Qc : Array Value → State → Outcome → State → Prop} {free : Addr → Prop} {Ts : List Cond} {own C : String} {b : Addr} {As rest : List Value} {g : JFrame}
    (S : CallFix p m c cc nL s args Ts own) (hM : Met l y ws rm Pc Qc mc ms free) (cw : vx_CVW R s args own C index y bytes maxL ret hh ws rm mc ms n) (hp : PreV s H C b Pc As)
    (hg : g.method = m) (hn : As.length = n) (hsize : g.locals.size = nL) (hstack : g.stack = As.reverse ++ .ref b :: rest) (hW : 2 * g.monitorRoom + (rest.map fun v => v.category).sum ≤ 8) (hdg : decode cc g.pc = .ok (.invokevirtual index, 3)) (hf : cells + mc ≤ R.cells ∧ slots + ms ≤ R.slots) :
    va_Run p l e R s m args below meth c H locs cells slots mc ms g rest (Qc (Value.ref b :: As).toArray) free := by
  obtain ⟨⟨hrc, hrs, hfr, hlo, hws, hcw⟩, hcode, hini, hy, hlen, hl, hin, hse⟩ := cw
  have hK : Back l R p e below s args y 3 8 (PreOf R mc ms Pc) (PostOf Qc mc ms free) := va_backW (hh := hh) (bytes := bytes) (maxL := maxL) (ret := ret) hM hp.1 hrc hrs hfr hlo hws hcw (fun a' U hW => word_at hW (Or.inl (by first | rfl | simp [Cond.onTables, Cond.keeps, Cond.steady])) hini)
  obtain ⟨hx, hb, hml, ho, -⟩ := S
  obtain ⟨-, ⟨cellB, hcB, hoB, hclB⟩, hPc⟩ := hp
  intro T hT X
  obtain ⟨v, vm₁, ⟨U', l2, c2, s2⟩, hW₁, X', ⟨g', mk, t, L, e1, e2, hq, h1, hL, h2, h3⟩, st⟩ := vx_callVW X hx (C := C) (hh := hh) (bytes := bytes) (maxL := maxL) (ret := ret) ho hl hin hse hcode hy hK (by rw [hT]; exact hcB) hoB hclB hg (hsize.trans hml.symm) (argsL := As) (rest := rest) (fun sig h => hn.trans (hlen sig h)) hstack hW (by rw [hb]; exact hdg)
    (fun vm₁ hW₁ => ⟨hf.1, hf.2, hPc (T.setVm vm₁) hT hW₁⟩)
  dsimp only [Pt.U, Pt.locs, Pt.cells, Pt.slots] at X' e1 e2 h1 h2 h3 st
  subst h1; subst h2; subst h3
  exact ⟨v, (T.setVm vm₁).calling g' mk (Value.ref b :: As).toArray, t, U', L, hT, X', hL, e1, e2, hq, st⟩
section
variable {y : MethodName} {bytes cc : ByteArray} {maxL nL mc ms n index : Nat} {ret : Option FieldType} {ws : List Cond} {rm : Room} {Pc : Array Value → State → Prop} {Qc : Array Value → State → Outcome → State → Prop} {XC : String → State → State → Prop} {free : Addr → Prop} {Ts : List Cond} {own C : String} {b : Addr} {As rest : List Value} {g : JFrame}
theorem vx_runVX {hh : List (Nat × Nat × Nat × Nat)} (S : CallFix p m c cc nL s args Ts own) (hM : vx_Met l y ws rm Pc Qc XC mc ms free) (cw : vx_CVW R s args own C index y bytes maxL ret hh ws rm mc ms n) (hp : PreV s H C b Pc As)
    (hg : g.method = m) (hn : As.length = n) (hsize : g.locals.size = nL) (hstack : g.stack = As.reverse ++ .ref b :: rest) (hW : 2 * g.monitorRoom + (rest.map fun v => v.category).sum ≤ 8) (hdg : decode cc g.pc = .ok (.invokevirtual index, 3)) (hf : cells + mc ≤ R.cells ∧ slots + ms ≤ R.slots) :
    vx_Run p l e R s m args below meth c H locs cells slots mc ms g rest (Qc (Value.ref b :: As).toArray) XC free := by
  obtain ⟨⟨hrc, hrs, hfr, hlo, hws, hcw⟩, hcode, hini, hy, hlen, hl, hin, hse⟩ := cw
  have hK : vx_Back l R p e below s args y 3 8 (PreOf R mc ms Pc) (PostOf Qc mc ms free) (vx_Post XC mc ms free) := vx_backW (hh := hh) (bytes := bytes) (maxL := maxL) (ret := ret) hM hp.1 hrc hrs hfr hlo hws hcw (fun a' U hW => word_at hW (Or.inl (by first | rfl | simp [Cond.onTables, Cond.keeps, Cond.steady])) hini)
  obtain ⟨hx, hb, hml, ho, -⟩ := S
  obtain ⟨-, ⟨cellB, hcB, hoB, hclB⟩, hPc⟩ := hp
  intro T hT X
  rcases vx_callVX X hx (C := C) (hh := hh) (bytes := bytes) (maxL := maxL) (ret := ret) ho hl hin hse hcode hy hK (by rw [hT]; exact hcB) hoB hclB hg (hsize.trans hml.symm) (argsL := As) (rest := rest) (fun sig h => hn.trans (hlen sig h)) hstack hW (by rw [hb]; exact hdg)
    (fun vm₁ hW₁ => ⟨hf.1, hf.2, hPc (T.setVm vm₁) hT hW₁⟩) with ⟨v, vm₁, ⟨U', l2, c2, s2⟩, hW₁, X', ⟨g', mk, t, L, e1, e2, hq, h1, hL, h2, h3⟩, st⟩ | ⟨q, vm₁, ⟨U', l2, c2, s2⟩, hW₁, X', ⟨g', mk, t, L, E, ce, e1, e2, hq, hce, hcv, hcl, h1, hL, h2, h3⟩, st⟩
  · dsimp only [Pt.U, Pt.locs, Pt.cells, Pt.slots] at X' e1 e2 h1 h2 h3 st
    subst h1; subst h2; subst h3
    exact Or.inl ⟨v, (T.setVm vm₁).calling g' mk (Value.ref b :: As).toArray, t, U', L, hT, X', hL, e1, e2, hq, st⟩
  · dsimp only [Pt.U, Pt.locs, Pt.cells, Pt.slots] at X' e1 e2 h1 h2 h3 st hcl
    subst h1; subst h2; subst h3
    exact Or.inr ⟨q, (T.setVm vm₁).calling g' mk (Value.ref b :: As).toArray, t, U', L, E, ce, hT, X', hL, e1, e2, hq, hce, hcv, vx_cls hW₁ hcl, st⟩
theorem vx_runSX {hh : List (Nat × Nat × Nat × Nat)} (S : CallFix p m c cc nL s args Ts own) (hM : vx_Met l y ws rm Pc Qc XC mc ms free) (cw : vx_CSW R s args own index y bytes maxL ret hh ws rm mc ms n) (hp : PreS s H Pc As)
    (hg : g.method = m) (hn : As.length = n) (hsize : g.locals.size = nL) (hstack : g.stack = As.reverse ++ rest) (hW : 2 * g.monitorRoom + (rest.map fun v => v.category).sum ≤ 8) (hdg : decode cc g.pc = .ok (.invokestatic index, 3)) (hf : cells + mc ≤ R.cells ∧ slots + ms ≤ R.slots) :
    vx_Run p l e R s m args below meth c H locs cells slots mc ms g rest (Qc As.toArray) XC free := by
  obtain ⟨⟨hrc, hrs, hfr, hlo, hws, hcw⟩, hcode, hini, hy, hlen, hl, hstt⟩ := cw
  have hK : vx_Back l R p e below s args y 3 8 (PreOf R mc ms Pc) (PostOf Qc mc ms free) (vx_Post XC mc ms free) := vx_backW (hh := hh) (bytes := bytes) (maxL := maxL) (ret := ret) hM hp.1 hrc hrs hfr hlo hws hcw (fun a' U hW => word_at hW (Or.inl (by first | rfl | simp [Cond.onTables, Cond.keeps, Cond.steady])) hini)
  obtain ⟨hx, hb, hml, ho, -⟩ := S
  intro T hT X
  rcases vx_callSX X hx (hh := hh) (bytes := bytes) (maxL := maxL) (ret := ret) ho hl hstt hini hcode hy hK hg (hsize.trans hml.symm) (argsL := As) (rest := rest) (fun sig h => hn.trans (hlen sig h)) hstack hW (by rw [hb]; exact hdg)
    (fun vm₁ hW₁ => ⟨hf.1, hf.2, hp.2 (T.setVm vm₁) hT hW₁⟩) with ⟨v, vm₁, ⟨U', l2, c2, s2⟩, hW₁, X', ⟨g', mk, t, L, e1, e2, hq, h1, hL, h2, h3⟩, st⟩ | ⟨q, vm₁, ⟨U', l2, c2, s2⟩, hW₁, X', ⟨g', mk, t, L, E, ce, e1, e2, hq, hce, hcv, hcl, h1, hL, h2, h3⟩, st⟩
  · dsimp only [Pt.U, Pt.locs, Pt.cells, Pt.slots] at X' e1 e2 h1 h2 h3 st
    subst h1; subst h2; subst h3
    exact Or.inl ⟨v, (T.setVm vm₁).calling g' mk As.toArray, t, U', L, hT, X', hL, e1, e2, hq, st⟩
  · dsimp only [Pt.U, Pt.locs, Pt.cells, Pt.slots] at X' e1 e2 h1 h2 h3 st hcl
    subst h1; subst h2; subst h3
    exact Or.inr ⟨q, (T.setVm vm₁).calling g' mk As.toArray, t, U', L, E, ce, hT, X', hL, e1, e2, hq, hce, hcv, vx_cls hW₁ hcl, st⟩
end
end VXH
theorem vx_ofWH {l : Launch} {y : MethodName} {ws ws' : List Cond} {rm : Room} {Pc : Array Value → State → Prop} {Qc : Array Value → State → Outcome → State → Prop} {XC : String → State → State → Prop} {mc ms : Nat} {free : Addr → Prop} {cc : ByteArray} {maxL : Nat} {ret : Option FieldType} {hh : List (Nat × Nat × Nat × Nat)}
    (hy : plainName y.cls = true) (hw : ws = Cond.codeWith y cc maxL ret hh :: ws')
    (body : ∀ p e s m args below meth c s₁, BodyLoose p l y (headSpec ws rm) cc maxL ret e s m args below meth c s₁ → c.maxLocals = maxL → Pc args s →
      W p l e (headSpec ws rm).room s m args below meth c s.heap [] 0 0 (vx_MQ below Qc XC args s mc ms free) (entryFrame m args maxL)) : vx_Met l y ws rm Pc Qc XC mc ms free := by
  refine MetFree.of_bodyS (code := cc) (maxLocals := maxL) (ret := ret) hy ?_ ?_
  · intro args s m h hn
    obtain ⟨m9, meth, c, hn9, h1, h2, h3, h4, -, h5, h6, -⟩ := Cond.codeWith_spec (atoms_spec (ws := ws) h _ (by rw [hw]; exact List.mem_cons_self))
    cases hn.symm.trans hn9
    exact ⟨meth, c, h1, h2, h3, h4, h5, h6⟩
  · intro p e s m args below meth c s₁ B hml hP _
    have hh0 : s₁.heap = s.heap := by rw [B.state]; rfl
    obtain ⟨t, a1, o, b1, b2, b3⟩ := body p e s m args below meth c s₁ B hml hP s₁ hh0 (Stand.of_body B)
    exact ⟨t, o, a1, b1, b2, b3⟩
/-! ===== END ===== -/

/-! ===== END ===== -/
/-! ===== BEGIN a constructor that throws (launches without stack traces) ===== -/
section VXIA
variable {p : Program} {l : Launch} {e : Env} {R : Room} {s : State} {m : MethodId} {args : Array Value} {below : List Frame} {meth : Method} {c : Code} {T : State} {locs : List Loc} {cells slots : Nat}
theorem vx_callI (X : Stand p l e R s m args below meth c T locs cells slots) (hexec : p.tables.exec = Jvm.exec) {own : String} {index : Nat} {y : MethodName} {bytes : ByteArray} {maxL : Nat}
    (hown : s.vm.findClass own = some m.cls) (hy1 : y.name = "<init>") (hlink : (Cond.methodLink own index y).before args s = true) (hinst : (Cond.instanceMethod y).before args s = true)
    (hcode : (Cond.code y bytes maxL none).before args s = true) (hy : y.cls ≠ "java/lang/invoke/MethodHandle" ∧ y.cls ≠ "java/lang/invoke/VarHandle")
    {W9 : Nat} {Pre : Pt → Array Value → Prop} {Post : Pt → Array Value → Option Value → Pt → Prop} {PostX : Pt → Array Value → Addr → Pt → Prop} (hK : vx_Back l R p e below s args y 3 W9 Pre Post PostX)
    {g : JFrame} (hg : g.method = m) (hsize : g.locals.size = c.maxLocals) {a : Addr} {argsL rest : List Value} (hlen : ∀ sig, parseMethodDescriptor y.desc = some sig → argsL.length = sig.parameters.length)
    (hstack : g.stack = argsL.reverse ++ .ref a :: rest) (hW : 2 * g.monitorRoom + (rest.map fun v => v.category).sum ≤ W9) (hdg : decode c.code g.pc = .ok (.invokespecial index, 3))
    (hpre : ∀ vm₁, s.WarmedH vm₁ → Pre ⟨T.setVm vm₁, locs, cells, slots⟩ (Value.ref a :: argsL).toArray) :
    (∃ (v : Option Value) (vm₁ : Vm) (B : Pt), s.WarmedH vm₁ ∧ Stand p l e R s m args below meth c B.U B.locs B.cells B.slots ∧ Post ⟨T.setVm vm₁, locs, cells, slots⟩ (Value.ref a :: argsL).toArray v B ∧
      ∀ target, Steps p.tables e below (B.U.setTop { g with pc := g.pc + 3, stack := v.toList ++ rest }) target → Steps p.tables e below (T.setTop g) target) ∨
    (∃ (q : Addr) (vm₁ : Vm) (B : Pt), s.WarmedH vm₁ ∧ Stand p l e R s m args below meth c B.U B.locs B.cells B.slots ∧ PostX ⟨T.setVm vm₁, locs, cells, slots⟩ (Value.ref a :: argsL).toArray q B ∧
      Steps p.tables e below (T.setTop g) ((B.U.setTop { g with stack := rest }).pushFrame (.throwing q))) := by
  subst hg
  have hpl : e.platform.magicAccessors = ({} : Platform).magicAccessors := by rw [X.admits.platform]
  obtain ⟨mk, methM, cM, kP, vm₁, hnamed, hmethM, hcodeM, -, hlocalsM, -, hkP, -, hW₁, hstep₁⟩ := Steps.initColdArgs (e := e) X.here hexec X.warmed hpl hown hy1 hy hlink hinst hcode (f := g) rfl hlen hstack hdg
  have X₁ := X.noted hW₁
  rcases hK g.method meth c ⟨T.setVm vm₁, locs, cells, slots⟩ { g with stack := rest } (.invokespecial index) mk (Value.ref a :: argsL).toArray X₁ rfl hsize hdg hW (X₁.named hnamed) (hpre vm₁ X₁.warmed) with ⟨v, B, X', hpost, hsteps⟩ | ⟨q, B, X', hpost, hsteps⟩
  · exact Or.inl ⟨v, vm₁, B, X₁.warmed, X', hpost, fun target h => hstep₁ _ fun acts => by rw [doInvoke_state]; exact hsteps.trans h⟩
  · exact Or.inr ⟨q, vm₁, B, X₁.warmed, X', hpost, hstep₁ _ fun acts => by rw [doInvoke_state]; exact hsteps⟩
end VXIA
section VXIB
variable {p : Program} {l : Launch} {e : Env} {R : Room} {s : State} {m : MethodId} {args : Array Value} {below : List Frame} {meth : Method} {c : Code} {H : Heap} {locs : List Loc} {cells slots : Nat}
variable {y : MethodName} {bytes cc : ByteArray} {maxL nL mc ms n index : Nat} {ret : Option FieldType} {ws : List Cond} {rm : Room} {Pc : Array Value → State → Prop} {Qc : Array Value → State → Outcome → State → Prop} {XC : String → State → State → Prop} {free : Addr → Prop} {Ts : List Cond} {own C : String} {b : Addr} {As rest : List Value} {g : JFrame}
theorem vx_runI (S : CallFix p m c cc nL s args Ts own) (hM : vx_Met l y ws rm Pc Qc XC mc ms free) (cw : CallB R s args own index y bytes maxL none ws rm mc ms n ∧ y.name = "<init>" ∧ (Cond.instanceMethod y).before args s = true) (hp : PreS s H Pc (.ref b :: As))
    (hg : g.method = m) (hn : As.length = n) (hsize : g.locals.size = nL) (hstack : g.stack = As.reverse ++ .ref b :: rest) (hW : 2 * g.monitorRoom + (rest.map fun v => v.category).sum ≤ 8) (hdg : decode cc g.pc = .ok (.invokespecial index, 3)) (hf : cells + mc ≤ R.cells ∧ slots + ms ≤ R.slots) :
    vx_Run p l e R s m args below meth c H locs cells slots mc ms g rest (Qc (Value.ref b :: As).toArray) XC free := by
  have hK : vx_Back l R p e below s args y 3 8 (PreOf R mc ms Pc) (PostOf Qc mc ms free) (vx_Post XC mc ms free) := vx_callBack cw.1 hM hp.1
  obtain ⟨⟨-, -, -, -, -, -, hcode, -, hy, hlen, hl⟩, hy1, hin⟩ := cw
  obtain ⟨hx, hb, hml, ho, -⟩ := S
  have hPc := hp.2
  intro T hT X
  rcases vx_callI X hx (bytes := bytes) (maxL := maxL) ho hy1 hl hin hcode hy hK hg (hsize.trans hml.symm) (a := b) (argsL := As) (rest := rest) (fun sig h => hn.trans (hlen sig h)) hstack hW (by rw [hb]; exact hdg)
    (fun vm₁ hW₁ => ⟨hf.1, hf.2, hPc (T.setVm vm₁) hT hW₁⟩) with ⟨v, vm₁, ⟨U', l2, c2, s2⟩, hW₁, X', ⟨g', mk, t, L, e1, e2, hq, h1, hL, h2, h3⟩, st⟩ | ⟨q, vm₁, ⟨U', l2, c2, s2⟩, hW₁, X', ⟨g', mk, t, L, E, ce, e1, e2, hq, hce, hcv, hcl, h1, hL, h2, h3⟩, st⟩
  · dsimp only [Pt.U, Pt.locs, Pt.cells, Pt.slots] at X' e1 e2 h1 h2 h3 st
    subst h1; subst h2; subst h3
    exact Or.inl ⟨v, (T.setVm vm₁).calling g' mk (Value.ref b :: As).toArray, t, U', L, hT, X', hL, e1, e2, hq, st⟩
  · dsimp only [Pt.U, Pt.locs, Pt.cells, Pt.slots] at X' e1 e2 h1 h2 h3 st hcl
    subst h1; subst h2; subst h3
    exact Or.inr ⟨q, (T.setVm vm₁).calling g' mk (Value.ref b :: As).toArray, t, U', L, E, ce, hT, X', hL, e1, e2, hq, hce, hcv, vx_cls hW₁ hcl, st⟩
end VXIB
/-! ===== END ===== -/
/-! ===== BEGIN a private constructor of a nest mate that throws ===== -/
section VXIC
variable {p : Program} {l : Launch} {e : Env} {R : Room} {s : State} {m : MethodId} {args : Array Value} {below : List Frame} {meth : Method} {c : Code} {T : State} {locs : List Loc} {cells slots : Nat}
theorem vx_callIN (X : Stand p l e R s m args below meth c T locs cells slots) (hexec : p.tables.exec = Jvm.exec) {own : String} {index : Nat} {host : String} {y : MethodName} {bytes : ByteArray} {maxL : Nat}
    (hown : s.vm.findClass own = some m.cls) (hy1 : y.name = "<init>") (hlink : (Cond.methodLinkNest own index y host).before args s = true) (hinst : (Cond.instanceMethod y).before args s = true)
    (hcode : (Cond.code y bytes maxL none).before args s = true) (hy : y.cls ≠ "java/lang/invoke/MethodHandle" ∧ y.cls ≠ "java/lang/invoke/VarHandle")
    {W9 : Nat} {Pre : Pt → Array Value → Prop} {Post : Pt → Array Value → Option Value → Pt → Prop} {PostX : Pt → Array Value → Addr → Pt → Prop} (hK : vx_Back l R p e below s args y 3 W9 Pre Post PostX)
    {g : JFrame} (hg : g.method = m) (hsize : g.locals.size = c.maxLocals) {a : Addr} {argsL rest : List Value} (hlen : ∀ sig, parseMethodDescriptor y.desc = some sig → argsL.length = sig.parameters.length)
    (hstack : g.stack = argsL.reverse ++ .ref a :: rest) (hW : 2 * g.monitorRoom + (rest.map fun v => v.category).sum ≤ W9) (hdg : decode c.code g.pc = .ok (.invokespecial index, 3))
    (hpre : ∀ vm₁, s.WarmedH vm₁ → Pre ⟨T.setVm vm₁, locs, cells, slots⟩ (Value.ref a :: argsL).toArray) :
    (∃ (v : Option Value) (vm₁ : Vm) (B : Pt), s.WarmedH vm₁ ∧ Stand p l e R s m args below meth c B.U B.locs B.cells B.slots ∧ Post ⟨T.setVm vm₁, locs, cells, slots⟩ (Value.ref a :: argsL).toArray v B ∧
      ∀ target, Steps p.tables e below (B.U.setTop { g with pc := g.pc + 3, stack := v.toList ++ rest }) target → Steps p.tables e below (T.setTop g) target) ∨
    (∃ (q : Addr) (vm₁ : Vm) (B : Pt), s.WarmedH vm₁ ∧ Stand p l e R s m args below meth c B.U B.locs B.cells B.slots ∧ PostX ⟨T.setVm vm₁, locs, cells, slots⟩ (Value.ref a :: argsL).toArray q B ∧
      Steps p.tables e below (T.setTop g) ((B.U.setTop { g with stack := rest }).pushFrame (.throwing q))) := by
  subst hg
  have hpl : e.platform.magicAccessors = ({} : Platform).magicAccessors := by rw [X.admits.platform]
  obtain ⟨mk, methM, cM, kP, vm₁, hnamed, hmethM, hcodeM, -, hlocalsM, -, hkP, -, hW₁, hstep₁⟩ := Steps.initColdArgsNest (e := e) X.here hexec X.warmed hpl hown hy1 hy hlink hinst hcode (f := g) rfl hlen hstack hdg
  have X₁ := X.noted hW₁
  rcases hK g.method meth c ⟨T.setVm vm₁, locs, cells, slots⟩ { g with stack := rest } (.invokespecial index) mk (Value.ref a :: argsL).toArray X₁ rfl hsize hdg hW (X₁.named hnamed) (hpre vm₁ X₁.warmed) with ⟨v, B, X', hpost, hsteps⟩ | ⟨q, B, X', hpost, hsteps⟩
  · exact Or.inl ⟨v, vm₁, B, X₁.warmed, X', hpost, fun target h => hstep₁ _ fun acts => by rw [doInvoke_state]; exact hsteps.trans h⟩
  · exact Or.inr ⟨q, vm₁, B, X₁.warmed, X', hpost, hstep₁ _ fun acts => by rw [doInvoke_state]; exact hsteps⟩
end VXIC
section VXID
variable {p : Program} {l : Launch} {e : Env} {R : Room} {s : State} {m : MethodId} {args : Array Value} {below : List Frame} {meth : Method} {c : Code} {H : Heap} {locs : List Loc} {cells slots : Nat}
theorem vx_runIN {y : MethodName} {bytes cc : ByteArray} {maxL nL mc ms n index : Nat} {ws : List Cond} {rm : Room} {Pc : Array Value → State → Prop} {Qc : Array Value → State → Outcome → State → Prop} {XC : String → State → State → Prop} {free : Addr → Prop} {Ts : List Cond} {own host : String} {b : Addr} {As rest : List Value} {g : JFrame}
    (S : CallFix p m c cc nL s args Ts own) (hM : vx_Met l y ws rm Pc Qc XC mc ms free) (cw : va_CN R s args own index y host bytes maxL none ws rm mc ms n ∧ y.name = "<init>" ∧ (Cond.instanceMethod y).before args s = true) (hp : PreS s H Pc (.ref b :: As))
    (hg : g.method = m) (hn : As.length = n) (hsize : g.locals.size = nL) (hstack : g.stack = As.reverse ++ .ref b :: rest) (hW : 2 * g.monitorRoom + (rest.map fun v => v.category).sum ≤ 8) (hdg : decode cc g.pc = .ok (.invokespecial index, 3)) (hf : cells + mc ≤ R.cells ∧ slots + ms ≤ R.slots) :
    vx_Run p l e R s m args below meth c H locs cells slots mc ms g rest (Qc (Value.ref b :: As).toArray) XC free := by
  obtain ⟨⟨⟨hrc, hrs, hfr, hlo, hws, hcw⟩, hcode, hini, hy, hlen, hl⟩, hx1, hx2⟩ := cw
  have hK : vx_Back l R p e below s args y 3 8 (PreOf R mc ms Pc) (PostOf Qc mc ms free) (vx_Post XC mc ms free) := vx_back (bytes := bytes) (maxL := maxL) (ret := none) hM hp.1 hrc hrs hfr hlo hws hcw (fun a' U hW => word_at hW (Or.inl (by first | rfl | simp [Cond.onTables, Cond.keeps, Cond.steady])) hini)
  obtain ⟨hx, hb, hml, ho, -⟩ := S
  have hPc := hp.2
  intro T hT X
  rcases vx_callIN X hx (bytes := bytes) (maxL := maxL) ho hx1 hl hx2 hcode hy hK hg (hsize.trans hml.symm) (a := b) (argsL := As) (rest := rest) (fun sig h => hn.trans (hlen sig h)) hstack hW (by rw [hb]; exact hdg)
    (fun vm₁ hW₁ => ⟨hf.1, hf.2, hPc (T.setVm vm₁) hT hW₁⟩) with ⟨v, vm₁, ⟨U', l2, c2, s2⟩, hW₁, X', ⟨g', mk, t, L, e1, e2, hq, h1, hL, h2, h3⟩, st⟩ | ⟨q, vm₁, ⟨U', l2, c2, s2⟩, hW₁, X', ⟨g', mk, t, L, E, ce, e1, e2, hq, hce, hcv, hcl, h1, hL, h2, h3⟩, st⟩
  · dsimp only [Pt.U, Pt.locs, Pt.cells, Pt.slots] at X' e1 e2 h1 h2 h3 st
    subst h1; subst h2; subst h3
    exact Or.inl ⟨v, (T.setVm vm₁).calling g' mk (Value.ref b :: As).toArray, t, U', L, hT, X', hL, e1, e2, hq, st⟩
  · dsimp only [Pt.U, Pt.locs, Pt.cells, Pt.slots] at X' e1 e2 h1 h2 h3 st hcl
    subst h1; subst h2; subst h3
    exact Or.inr ⟨q, (T.setVm vm₁).calling g' mk (Value.ref b :: As).toArray, t, U', L, E, ce, hT, X', hL, e1, e2, hq, hce, hcv, vx_cls hW₁ hcl, st⟩
end VXID
/-! ===== END ===== -/
end
section
/-! classes: names and fields (out of the printed names) -/
def RX0 : String := "BlockFleet$Copy"
def TX0 : u_T := fun k => match k with
  | 0 => ("BlockFleet$Copy", "piece", "LBlockFleet$Piece;", false)
  | 1 => ("BlockFleet$Copy", "version", "I", false)
  | 2 => ("BlockFleet$Copy", "length", "I", false)
  | 3 => ("BlockFleet$Copy", "wrong", "I", false)
  | _ => ("BlockFleet$Copy", "numbers", "[I", true)
def tyX0 : Nat → FieldType := fun k => match k with
  | 0 => .object "BlockFleet$Piece"
  | 1 => .int
  | 2 => .int
  | 3 => .int
  | _ => .array .int
theorem nmX0 : ∀ a, a < 5 → ∀ b, b < 5 → a ≠ b → (TX0 a).2.1 ≠ (TX0 b).2.1 := by decide +kernel
theorem tyX0_ok : ∀ k, k < 5 → parseFieldDescriptor (TX0 k).2.2.1 = some (tyX0 k) := by decide +kernel
def RX1 : String := "BlockFleet$File"
def TX1 : u_T := fun k => match k with
  | 0 => ("BlockFleet$File", "number", "I", true)
  | 1 => ("BlockFleet$File", "standing", "I", false)
  | 2 => ("BlockFleet$File", "deletedAt", "I", false)
  | _ => ("BlockFleet$File", "row", "Ljava/util/ArrayList;", true)
def tyX1 : Nat → FieldType := fun k => match k with
  | 0 => .int
  | 1 => .int
  | 2 => .int
  | _ => .object "java/util/ArrayList"
theorem nmX1 : ∀ a, a < 4 → ∀ b, b < 4 → a ≠ b → (TX1 a).2.1 ≠ (TX1 b).2.1 := by decide +kernel
theorem tyX1_ok : ∀ k, k < 4 → parseFieldDescriptor (TX1 k).2.2.1 = some (tyX1 k) := by decide +kernel
def RX2 : String := "BlockFleet$Node"
def TX2 : u_T := fun k => match k with
  | 0 => ("BlockFleet$Node", "number", "I", true)
  | 1 => ("BlockFleet$Node", "rack", "I", true)
  | 2 => ("BlockFleet$Node", "places", "[LBlockFleet$Copy;", true)
  | 3 => ("BlockFleet$Node", "taken", "I", false)
  | 4 => ("BlockFleet$Node", "isUp", "Z", false)
  | 5 => ("BlockFleet$Node", "isCountedOn", "Z", false)
  | 6 => ("BlockFleet$Node", "downSince", "I", false)
  | _ => ("BlockFleet$Node", "lookedAt", "I", false)
def tyX2 : Nat → FieldType := fun k => match k with
  | 0 => .int
  | 1 => .int
  | 2 => .array (.object "BlockFleet$Copy")
  | 3 => .int
  | 4 => .boolean
  | 5 => .boolean
  | 6 => .int
  | _ => .int
theorem nmX2 : ∀ a, a < 8 → ∀ b, b < 8 → a ≠ b → (TX2 a).2.1 ≠ (TX2 b).2.1 := by decide +kernel
theorem tyX2_ok : ∀ k, k < 8 → parseFieldDescriptor (TX2 k).2.2.1 = some (tyX2 k) := by decide +kernel
def RX3 : String := "BlockFleet$Piece"
def TX3 : u_T := fun k => match k with
  | 0 => ("BlockFleet$Piece", "number", "I", true)
  | 1 => ("BlockFleet$Piece", "version", "I", false)
  | 2 => ("BlockFleet$Piece", "inFiles", "I", false)
  | 3 => ("BlockFleet$Piece", "primary", "LBlockFleet$Node;", false)
  | 4 => ("BlockFleet$Piece", "leaseEnd", "I", false)
  | 5 => ("BlockFleet$Piece", "mendedAt", "I", false)
  | _ => ("BlockFleet$Piece", "holders", "Ljava/util/ArrayList;", true)
def tyX3 : Nat → FieldType := fun k => match k with
  | 0 => .int
  | 1 => .int
  | 2 => .int
  | 3 => .object "BlockFleet$Node"
  | 4 => .int
  | 5 => .int
  | _ => .object "java/util/ArrayList"
theorem nmX3 : ∀ a, a < 7 → ∀ b, b < 7 → a ≠ b → (TX3 a).2.1 ≠ (TX3 b).2.1 := by decide +kernel
theorem tyX3_ok : ∀ k, k < 7 → parseFieldDescriptor (TX3 k).2.2.1 = some (tyX3 k) := by decide +kernel
def RX4 : String := "BlockFleet"
def TX4 : u_T := fun k => match k with
  | 0 => ("BlockFleet", "nodes", "Ljava/util/ArrayList;", true)
  | 1 => ("BlockFleet", "allPieces", "Ljava/util/ArrayList;", true)
  | 2 => ("BlockFleet", "files", "Ljava/util/ArrayList;", true)
  | 3 => ("BlockFleet", "second", "I", false)
  | 4 => ("BlockFleet", "mendLimit", "I", false)
  | _ => ("BlockFleet", "isBalancing", "Z", false)
def tyX4 : Nat → FieldType := fun k => match k with
  | 0 => .object "java/util/ArrayList"
  | 1 => .object "java/util/ArrayList"
  | 2 => .object "java/util/ArrayList"
  | 3 => .int
  | 4 => .int
  | _ => .boolean
theorem nmX4 : ∀ a, a < 6 → ∀ b, b < 6 → a ≠ b → (TX4 a).2.1 ≠ (TX4 b).2.1 := by decide +kernel
theorem tyX4_ok : ∀ k, k < 6 → parseFieldDescriptor (TX4 k).2.2.1 = some (tyX4 k) := by decide +kernel
def RX5 : String := "BlockFleetModel"
def TX5 : u_T := fun k => match k with
  | 0 => ("BlockFleetModel", "thrown", "I", false)
  | 1 => ("BlockFleetModel", "second", "I", false)
  | 2 => ("BlockFleetModel", "limit", "I", false)
  | 3 => ("BlockFleetModel", "isBalanced", "Z", false)
  | 4 => ("BlockFleetModel", "nodes", "I", false)
  | 5 => ("BlockFleetModel", "rack", "[I", true)
  | 6 => ("BlockFleetModel", "room", "[I", true)
  | 7 => ("BlockFleetModel", "isUp", "[Z", true)
  | 8 => ("BlockFleetModel", "since", "[I", true)
  | 9 => ("BlockFleetModel", "isCounted", "[Z", true)
  | 10 => ("BlockFleetModel", "looked", "[I", true)
  | 11 => ("BlockFleetModel", "pieces", "I", false)
  | 12 => ("BlockFleetModel", "version", "[I", true)
  | 13 => ("BlockFleetModel", "primary", "[I", true)
  | 14 => ("BlockFleetModel", "leaseEnd", "[I", true)
  | 15 => ("BlockFleetModel", "isMended", "[Z", true)
  | 16 => ("BlockFleetModel", "copies", "[I", true)
  | 17 => ("BlockFleetModel", "copy", "[I", true)
  | 18 => ("BlockFleetModel", "has", "[I", true)
  | 19 => ("BlockFleetModel", "cells", "[I", true)
  | 20 => ("BlockFleetModel", "number", "[I", true)
  | 21 => ("BlockFleetModel", "wrong", "[I", true)
  | 22 => ("BlockFleetModel", "files", "I", false)
  | 23 => ("BlockFleetModel", "state", "[I", true)
  | 24 => ("BlockFleetModel", "deleted", "[I", true)
  | 25 => ("BlockFleetModel", "rows", "[I", true)
  | _ => ("BlockFleetModel", "row", "[I", true)
def tyX5 : Nat → FieldType := fun k => match k with
  | 0 => .int
  | 1 => .int
  | 2 => .int
  | 3 => .boolean
  | 4 => .int
  | 5 => .array .int
  | 6 => .array .int
  | 7 => .array .boolean
  | 8 => .array .int
  | 9 => .array .boolean
  | 10 => .array .int
  | 11 => .int
  | 12 => .array .int
  | 13 => .array .int
  | 14 => .array .int
  | 15 => .array .boolean
  | 16 => .array .int
  | 17 => .array .int
  | 18 => .array .int
  | 19 => .array .int
  | 20 => .array .int
  | 21 => .array .int
  | 22 => .int
  | 23 => .array .int
  | 24 => .array .int
  | 25 => .array .int
  | _ => .array .int
theorem nmX5 : ∀ a, a < 27 → ∀ b, b < 27 → a ≠ b → (TX5 a).2.1 ≠ (TX5 b).2.1 := by decide +kernel
theorem tyX5_ok : ∀ k, k < 27 → parseFieldDescriptor (TX5 k).2.2.1 = some (tyX5 k) := by decide +kernel
def RJx4a65c : String := "java/util/ArrayList"
def TJx4a65c : u_T := fun k => match k with
  | 0 => ("java/util/AbstractList", "modCount", "I", false)
  | 1 => ("java/util/ArrayList", "elementData", "[Ljava/lang/Object;", false)
  | _ => ("java/util/ArrayList", "size", "I", false)
def tyJx4a65c : Nat → FieldType := fun k => match k with
  | 0 => .int
  | 1 => .array (.object "java/lang/Object")
  | _ => .int
theorem nmJx4a65c : ∀ a, a < 3 → ∀ b, b < 3 → a ≠ b → (TJx4a65c a).2.1 ≠ (TJx4a65c b).2.1 := by decide +kernel
theorem tyJx4a65c_ok : ∀ k, k < 3 → parseFieldDescriptor (TJx4a65c k).2.2.1 = some (tyJx4a65c k) := by decide +kernel
def RJ0 : String := "java/lang/String"
def RJ10 : String := "java/lang/System"
def RJ15 : String := "java/util/Objects"
def RJ3 : String := "jdk/internal/util/Preconditions"
def RJ7 : String := "java/util/Arrays"
def RJ8 : String := "jdk/internal/util/ArraysSupport"
def RJ9 : String := "java/lang/Math"
def RJx145de : String := "java/io/Serializable"
def RJx5ef63 : String := "java/util/Collection"
def RJx8e188 : String := "java/lang/Cloneable"
def RJxa1e45 : String := "java/util/AbstractCollection"
def RJxa66e6 : String := "java/util/SequencedCollection"
def RJxab1ab : String := "java/lang/Iterable"
def RJxbd725 : String := "java/util/List"
def RJxc12de : String := "java/util/AbstractList"
def RJxf0a74 : String := "java/util/RandomAccess"
def RL : String := "BlockFleetLaw"
/-- a word that stays true while the tables are warmed -/
def okW (w : Cond) : Bool := goodWord w || (w.onTables && w.keepsFace)
def tb : List Cond := lw_tbl.filter okW
theorem tb_of {w : Cond} (h : w ∈ lw_tbl) (hk : okW w = true) : w ∈ tb := List.mem_filter.mpr ⟨h, hk⟩
theorem tbm0 (j : Nat) {w : Cond} (h : (k2_sels lw_privs)[j]? = some w) (hk : okW w = true) : w ∈ tb := tb_of (List.mem_append_left _ (List.mem_of_getElem? h)) hk
theorem tbl1 (j : Nat) {w : Cond} (h : tables_1_1[j]? = some w) : w ∈ lw_tbl := List.mem_append_right _ (List.mem_append_left _ (List.mem_of_getElem? h))
theorem tbm1 (j : Nat) {w : Cond} (h : tables_1_1[j]? = some w) (hk : okW w = true) : w ∈ tb := tb_of (tbl1 j h) hk
theorem tbl2 (j : Nat) {w : Cond} (h : tables_1_2[j]? = some w) : w ∈ lw_tbl := List.mem_append_right _ (List.mem_append_right _ (List.mem_append_left _ (List.mem_of_getElem? h)))
theorem tbm2 (j : Nat) {w : Cond} (h : tables_1_2[j]? = some w) (hk : okW w = true) : w ∈ tb := tb_of (tbl2 j h) hk
theorem tbl3 (j : Nat) {w : Cond} (h : tables_1_3[j]? = some w) : w ∈ lw_tbl := List.mem_append_right _ (List.mem_append_right _ (List.mem_append_right _ (List.mem_append_left _ (List.mem_of_getElem? h))))
theorem tbm3 (j : Nat) {w : Cond} (h : tables_1_3[j]? = some w) (hk : okW w = true) : w ∈ tb := tb_of (tbl3 j h) hk
theorem tbl4 (j : Nat) {w : Cond} (h : tables_1_4[j]? = some w) : w ∈ lw_tbl := List.mem_append_right _ (List.mem_append_right _ (List.mem_append_right _ (List.mem_append_right _ (List.mem_append_left _ (List.mem_of_getElem? h)))))
theorem tbm4 (j : Nat) {w : Cond} (h : tables_1_4[j]? = some w) (hk : okW w = true) : w ∈ tb := tb_of (tbl4 j h) hk
theorem tbl5 (j : Nat) {w : Cond} (h : tables_1_5[j]? = some w) : w ∈ lw_tbl := List.mem_append_right _ (List.mem_append_right _ (List.mem_append_right _ (List.mem_append_right _ (List.mem_append_right _ (List.mem_append_left _ (List.mem_of_getElem? h))))))
theorem tbm5 (j : Nat) {w : Cond} (h : tables_1_5[j]? = some w) (hk : okW w = true) : w ∈ tb := tb_of (tbl5 j h) hk
theorem tbl6 (j : Nat) {w : Cond} (h : tables_1_6[j]? = some w) : w ∈ lw_tbl := List.mem_append_right _ (List.mem_append_right _ (List.mem_append_right _ (List.mem_append_right _ (List.mem_append_right _ (List.mem_append_right _ (List.mem_of_getElem? h))))))
theorem tbm6 (j : Nat) {w : Cond} (h : tables_1_6[j]? = some w) (hk : okW w = true) : w ∈ tb := tb_of (tbl6 j h) hk
theorem tb_l {ws : List Cond} (ps : List Nat) (hp : ws = ps.filterMap (fun i => lw_tbl[i]?)) (h : ws.all okW = true) : ∀ w ∈ ws, w ∈ tb := fun w hw => tb_of (by rw [hp] at hw; obtain ⟨i, -, hi⟩ := List.mem_filterMap.mp hw; exact List.mem_of_getElem? hi) (List.all_eq_true.mp h w hw)
theorem inJx4a65c : ∀ w ∈ u_ws RJx4a65c TJx4a65c 3, w ∈ tb := tb_l [122, 118, 120] (by decide +kernel) (by decide +kernel)
theorem inX0 : ∀ w ∈ u_ws RX0 TX0 5, w ∈ tb := tb_l [291, 293, 295, 297, 299] (by decide +kernel) (by decide +kernel)
theorem inX1 : ∀ w ∈ u_ws RX1 TX1 4, w ∈ tb := tb_l [644, 646, 648, 650] (by decide +kernel) (by decide +kernel)
theorem inX2 : ∀ w ∈ u_ws RX2 TX2 8, w ∈ tb := tb_l [320, 322, 324, 326, 328, 330, 332, 334] (by decide +kernel) (by decide +kernel)
theorem inX3 : ∀ w ∈ u_ws RX3 TX3 7, w ∈ tb := tb_l [749, 751, 753, 755, 757, 759, 761] (by decide +kernel) (by decide +kernel)
theorem inX4 : ∀ w ∈ u_ws RX4 TX4 6, w ∈ tb := tb_l [131, 133, 135, 137, 139, 141] (by decide +kernel) (by decide +kernel)
theorem inX5 : ∀ w ∈ u_ws RX5 TX5 27, w ∈ tb := tb_l [926, 928, 930, 932, 934, 936, 938, 940, 942, 944, 946, 948, 950, 952, 954, 956, 958, 960, 962, 964, 966, 968, 970, 972, 974, 976, 978] (by decide +kernel) (by decide +kernel)
end
section
/-! ===== the machine of plain values: heaps, values, the rows of its steps ===== -/
abbrev AV : Type := Int ⊕ (Option Nat ⊕ Int)
abbrev vi (z : Int) : AV := .inl z
abbrev vq (r : Option Nat) : AV := .inr (.inl r)
abbrev vr (a : Nat) : AV := .inr (.inl (some a))
abbrev vn : AV := .inr (.inl none)
abbrev vl (z : Int) : AV := .inr (.inr z)
def zI (z : Int) : Int32 := Int32.ofInt z
def tv (v : AV) : Value := match v with
  | .inl z => .int (zI z)
  | .inr (.inl r) => va_rf r
  | .inr (.inr z) => .long (Int64.ofInt z)
/-- a heap: the addresses, their kinds, their lengths, the whole numbers and the references that they hold -/
abbrev Hp : Type := List Nat × (Nat → Nat) × (Nat → Nat) × (Nat → Int → Int) × (Nat → Int → Option Nat)
def hD (h : Hp) : List Nat := h.1
def hK (h : Hp) : Nat → Nat := h.2.1
def hN (h : Hp) : Nat → Nat := h.2.2.1
def hI (h : Hp) : Nat → Int → Int := h.2.2.2.1
def hP (h : Hp) : Nat → Int → Option Nat := h.2.2.2.2
def wI (h : Hp) (a : Nat) (k v : Int) : Hp := (h.1, h.2.1, h.2.2.1, (fun x j => if x = a ∧ j = k then v else h.2.2.2.1 x j), h.2.2.2.2)
def wP (h : Hp) (a : Nat) (k : Int) (v : Option Nat) : Hp := (h.1, h.2.1, h.2.2.1, h.2.2.2.1, (fun x j => if x = a ∧ j = k then v else h.2.2.2.2 x j))
def hNew (h : Hp) (a kd n : Nat) : Hp := (h.1 ++ [a], (fun x => if x = a then kd else h.2.1 x), (fun x => if x = a then n else h.2.2.1 x), (fun x j => if x = a then 0 else h.2.2.2.1 x j), (fun x j => if x = a then none else h.2.2.2.2 x j))
/-- n references from the place sp of x to the place dp of y -/
def hCp (h : Hp) (x : Nat) (sp : Int) (y : Nat) (dp n : Int) : Hp := (h.1, h.2.1, h.2.2.1, h.2.2.2.1, (fun a j => if a = y ∧ dp ≤ j ∧ j < dp + n then h.2.2.2.2 x (sp + (j - dp)) else h.2.2.2.2 a j))
def inR (z : Int) : Prop := -2147483648 ≤ z ∧ z < 2147483648
/-- a method: name, code, places for locals, answer, table of handlers -/
abbrev MI : Type := MethodName × ByteArray × Nat × Option FieldType × Option (List (Nat × Nat × Nat × Nat))
def mW (M : MI) : Cond := match M.2.2.2.2 with
  | none => .code M.1 M.2.1 M.2.2.1 M.2.2.2.1
  | some hh => .codeWith M.1 M.2.1 M.2.2.1 M.2.2.2.1 hh
def okM (M : MI) : Prop := mW M ∈ tb ∧ (plainName M.1.cls = true ∧ M.1.name ≠ "law") ∧ Cond.initialized M.1.cls ∈ tb ∧ (M.1.cls ≠ "java/lang/invoke/MethodHandle" ∧ M.1.cls ≠ "java/lang/invoke/VarHandle") ∧ M.2.2.1 ≤ 22
/-- a call site: its class, its entry, the method that is meant -/
def cV (own : String) (ix : Nat) (M : MI) (n : Nat) : Prop := okM M ∧ M.2.2.2.2 = none ∧ Cond.methodLink own ix M.1 ∈ tb ∧ Cond.instanceMethod M.1 ∈ tb ∧ Cond.selects M.1.cls M.1 M.1 ∈ tb ∧ (parseMethodDescriptor M.1.desc).map (fun d => d.parameters.length) = some n ∧ n < M.2.2.1
def cS (own : String) (ix : Nat) (M : MI) (n : Nat) : Prop := okM M ∧ M.2.2.2.2 = none ∧ Cond.methodLink own ix M.1 ∈ tb ∧ Cond.static M.1 ∈ tb ∧ (parseMethodDescriptor M.1.desc).map (fun d => d.parameters.length) = some n ∧ n < M.2.2.1 + 1
def cSX (own : String) (ix : Nat) (M : MI) (n : Nat) : Prop := okM M ∧ M.2.2.2.2 ≠ none ∧ Cond.methodLink own ix M.1 ∈ tb ∧ Cond.static M.1 ∈ tb ∧ (parseMethodDescriptor M.1.desc).map (fun d => d.parameters.length) = some n ∧ n < M.2.2.1 + 1
def cI (own : String) (ix : Nat) (M : MI) (n : Nat) : Prop := okM M ∧ M.2.2.2.2 = none ∧ Cond.methodLink own ix M.1 ∈ tb ∧ Cond.instanceMethod M.1 ∈ tb ∧ M.1.name = "<init>" ∧ M.2.2.2.1 = none ∧ (parseMethodDescriptor M.1.desc).map (fun d => d.parameters.length) = some n ∧ n < M.2.2.1
def cN (own : String) (ix : Nat) (M : MI) (host : String) (n : Nat) : Prop := okM M ∧ M.2.2.2.2 = none ∧ Cond.methodLinkNest own ix M.1 host ∈ lw_tbl ∧ Cond.instanceMethod M.1 ∈ tb ∧ M.1.name = "<init>" ∧ M.2.2.2.1 = none ∧ (parseMethodDescriptor M.1.desc).map (fun d => d.parameters.length) = some n ∧ n < M.2.2.1
-- fields: by the class' number, the field's number
def fT (ci k : Nat) : String × String × String × Bool := match ci with
  | 0 => TJx4a65c k | 1 => TX0 k | 2 => TX1 k | 3 => TX2 k | 4 => TX3 k | 5 => TX4 k | _ => TX5 k
def fY (ci k : Nat) : FieldType := match ci with
  | 0 => tyJx4a65c k | 1 => tyX0 k | 2 => tyX1 k | 3 => tyX2 k | 4 => tyX3 k | 5 => tyX4 k | _ => tyX5 k
def nF (ci : Nat) : Nat := match ci with
  | 0 => 3 | 1 => 5 | 2 => 4 | 3 => 8 | 4 => 7 | 5 => 6 | _ => 27
def cNm (ci : Nat) : String := match ci with
  | 0 => RJx4a65c | 1 => RX0 | 2 => RX1 | 3 => RX2 | 4 => RX3 | 5 => RX4 | _ => RX5
def isRT (ty : FieldType) : Bool := match ty with
  | .object _ => true
  | .array _ => true
  | _ => false
def isRf (ci k : Nat) : Bool := isRT (fY ci k)
/-- a field as an instruction names it -/
def fL (own : String) (ix ci k : Nat) : Prop := ci < 7 ∧ k < nF ci ∧ ∃ ref, Cond.fieldLink own ix ref (fT ci k).2.1 (fT ci k).2.2.1 ∈ tb ∧ (ref = (fT ci k).1 ∨ Cond.sameField ref (fT ci k).1 (fT ci k).2.1 (fT ci k).2.2.1 ∈ tb)
def catV (v : AV) : Nat := match v with
  | .inl _ => 1
  | .inr (.inl _) => 1
  | .inr (.inr _) => 2
/-- the whole numbers that a field takes -/
def okP (ci k : Nat) (x : Int) : Prop := fY ci k = .int ∨ (fY ci k = .boolean ∧ (x = 0 ∨ x = 1))
def finOk (M : MI) (ci k : Nat) : Prop := (fT ci k).2.2.2 = false ∨ ((fT ci k).2.2.2 = true ∧ M.1.name = "<init>" ∧ (fT ci k).1 = M.1.cls)
abbrev JT : Type := Nat → List (Option AV) → List AV → Hp → Nat → Nat → Prop
abbrev CT : Type := MI → List AV → Hp → Nat → Nat → (Option AV → Hp → Prop) → (String → Hp → Prop) → Prop
/-- what never moves: the shared empty row of lists, the script, its length, its numbers -/
abbrev GX : Type := Nat × Nat × Nat × (Nat → Int)
/-- constants and locals -/
def Cl1 (b : ByteArray) (J : JT) : Prop :=
  (∀ (pc : Nat) ls st h c s (n : Int), decode b pc = .ok (.iconst n, 1) → J (pc + 1) ls (vi n :: st) h c s → J pc ls st h c s) ∧
  (∀ (pc : Nat) ls st h c s (n : Int), decode b pc = .ok (.bipush n, 2) → (Int8.ofInt n).toInt32 = zI n → J (pc + 2) ls (vi n :: st) h c s → J pc ls st h c s) ∧
  (∀ (pc : Nat) ls st h c s (n : Int), decode b pc = .ok (.sipush n, 3) → (Int16.ofInt n).toInt32 = zI n → J (pc + 3) ls (vi n :: st) h c s → J pc ls st h c s) ∧
  (∀ (pc : Nat) ls st h c s (n : Fin 2), decode b pc = .ok (.lconst n, 1) → J (pc + 1) ls (vl ((n : Nat) : Int) :: st) h c s → J pc ls st h c s) ∧
  (∀ (pc : Nat) ls st h c s, decode b pc = .ok (.aconst_null, 1) → J (pc + 1) ls (vn :: st) h c s → J pc ls st h c s) ∧
  (∀ (pc : Nat) ls st h c s (k : Fin 4) (i : Nat) (x : Int), decode b pc = .ok (.iload_n k, 1) → (k : Nat) = i → ls[i]? = some (some (vi x)) → J (pc + 1) ls (vi x :: st) h c s → J pc ls st h c s) ∧
  (∀ (pc : Nat) ls st h c s (i : Nat) (x : Int), decode b pc = .ok (.iload i, 2) → ls[i]? = some (some (vi x)) → J (pc + 2) ls (vi x :: st) h c s → J pc ls st h c s) ∧
  (∀ (pc : Nat) ls st h c s (k : Fin 4) (i : Nat) (r : Option Nat), decode b pc = .ok (.aload_n k, 1) → (k : Nat) = i → ls[i]? = some (some (vq r)) → J (pc + 1) ls (vq r :: st) h c s → J pc ls st h c s) ∧
  (∀ (pc : Nat) ls st h c s (i : Nat) (r : Option Nat), decode b pc = .ok (.aload i, 2) → ls[i]? = some (some (vq r)) → J (pc + 2) ls (vq r :: st) h c s → J pc ls st h c s) ∧
  (∀ (pc : Nat) ls st h c s (k : Fin 4) (i : Nat) (x : Int), decode b pc = .ok (.istore_n k, 1) → (k : Nat) = i → i < ls.length → J (pc + 1) (ls.set i (some (vi x))) st h c s → J pc ls (vi x :: st) h c s) ∧
  (∀ (pc : Nat) ls st h c s (i : Nat) (x : Int), decode b pc = .ok (.istore i, 2) → i < ls.length → J (pc + 2) (ls.set i (some (vi x))) st h c s → J pc ls (vi x :: st) h c s) ∧
  (∀ (pc : Nat) ls st h c s (k : Fin 4) (i : Nat) (r : Option Nat), decode b pc = .ok (.astore_n k, 1) → (k : Nat) = i → i < ls.length → J (pc + 1) (ls.set i (some (vq r))) st h c s → J pc ls (vq r :: st) h c s) ∧
  (∀ (pc : Nat) ls st h c s (i : Nat) (r : Option Nat), decode b pc = .ok (.astore i, 2) → i < ls.length → J (pc + 2) (ls.set i (some (vq r))) st h c s → J pc ls (vq r :: st) h c s) ∧
  (∀ (pc : Nat) ls st h c s (i : Nat) (n x : Int), decode b pc = .ok (.iinc i n, 3) → ls[i]? = some (some (vi x)) → J (pc + 3) (ls.set i (some (vi (x + n)))) st h c s → J pc ls st h c s)
/-- numbers and the stack -/
def Cl2 (b : ByteArray) (J : JT) : Prop :=
  (∀ (pc : Nat) ls st h c s (x y : Int), decode b pc = .ok (.iadd, 1) → J (pc + 1) ls (vi (x + y) :: st) h c s → J pc ls (vi y :: vi x :: st) h c s) ∧
  (∀ (pc : Nat) ls st h c s (x y : Int), decode b pc = .ok (.isub, 1) → J (pc + 1) ls (vi (x - y) :: st) h c s → J pc ls (vi y :: vi x :: st) h c s) ∧
  (∀ (pc : Nat) ls st h c s (x y : Int), decode b pc = .ok (.imul, 1) → J (pc + 1) ls (vi (x * y) :: st) h c s → J pc ls (vi y :: vi x :: st) h c s) ∧
  (∀ (pc : Nat) ls st h c s (x y : Int), decode b pc = .ok (.iand, 1) → J (pc + 1) ls (vi (zI x &&& zI y).toInt :: st) h c s → J pc ls (vi y :: vi x :: st) h c s) ∧
  (∀ (pc : Nat) ls st h c s (x y : Int), decode b pc = .ok (.ior, 1) → J (pc + 1) ls (vi (zI x ||| zI y).toInt :: st) h c s → J pc ls (vi y :: vi x :: st) h c s) ∧
  (∀ (pc : Nat) ls st h c s (x y : Int), decode b pc = .ok (.ixor, 1) → J (pc + 1) ls (vi (zI x ^^^ zI y).toInt :: st) h c s → J pc ls (vi y :: vi x :: st) h c s) ∧
  (∀ (pc : Nat) ls st h c s (x y : Int), decode b pc = .ok (.ishl, 1) → J (pc + 1) ls (vi (zI x <<< (zI y &&& 31)).toInt :: st) h c s → J pc ls (vi y :: vi x :: st) h c s) ∧
  (∀ (pc : Nat) ls st h c s (x y : Int), decode b pc = .ok (.ishr, 1) → J (pc + 1) ls (vi (zI x >>> (zI y &&& 31)).toInt :: st) h c s → J pc ls (vi y :: vi x :: st) h c s) ∧
  (∀ (pc : Nat) ls st h c s (x y : Int), decode b pc = .ok (.irem, 1) → 0 ≤ x → x < 2147483648 → 0 < y → y < 2147483648 → J (pc + 1) ls (vi (x % y) :: st) h c s → J pc ls (vi y :: vi x :: st) h c s) ∧
  (∀ (pc : Nat) ls st h c s (x : Int), decode b pc = .ok (.i2l, 1) → inR x → J (pc + 1) ls (vl x :: st) h c s → J pc ls (vi x :: st) h c s) ∧
  (∀ (pc : Nat) ls st h c s (x y : Int), decode b pc = .ok (.lcmp, 1) → inR x → inR y → J (pc + 1) ls (vi (if x = y then 0 else if y < x then 1 else -1) :: st) h c s → J pc ls (vl y :: vl x :: st) h c s) ∧
  (∀ (pc : Nat) ls st h c s (v : AV), decode b pc = .ok (.dup, 1) → catV v = 1 → J (pc + 1) ls (v :: v :: st) h c s → J pc ls (v :: st) h c s) ∧
  (∀ (pc : Nat) ls st h c s (v : AV), decode b pc = .ok (.pop, 1) → catV v = 1 → J (pc + 1) ls st h c s → J pc ls (v :: st) h c s) ∧
  (∀ (pc : Nat) ls st h c s (v w : AV), decode b pc = .ok (.dup_x1, 1) → catV v = 1 → catV w = 1 → J (pc + 1) ls (v :: w :: v :: st) h c s → J pc ls (v :: w :: st) h c s) ∧
  (∀ (pc : Nat) ls st h c s (v w : AV), decode b pc = .ok (.dup2, 1) → catV v = 1 → catV w = 1 → J (pc + 1) ls (v :: w :: v :: w :: st) h c s → J pc ls (v :: w :: st) h c s)
/-- branches -/
def Cl3 (b : ByteArray) (J : JT) : Prop :=
  (∀ (pc : Nat) ls st h c s (off : Int) (t : Nat), decode b pc = .ok (.goto off, 3) → (pc : Int) + off = (t : Int) → J t ls st h c s → J pc ls st h c s) ∧
  (∀ (pc : Nat) ls st h c s (off : Int) (t : Nat) (x : Int), decode b pc = .ok (.ifCond .eq off, 3) → (pc : Int) + off = (t : Int) → inR x → (x = 0 → J t ls st h c s) → (¬ x = 0 → J (pc + 3) ls st h c s) → J pc ls (vi x :: st) h c s) ∧
  (∀ (pc : Nat) ls st h c s (off : Int) (t : Nat) (x : Int), decode b pc = .ok (.ifCond .ne off, 3) → (pc : Int) + off = (t : Int) → inR x → (¬ x = 0 → J t ls st h c s) → (x = 0 → J (pc + 3) ls st h c s) → J pc ls (vi x :: st) h c s) ∧
  (∀ (pc : Nat) ls st h c s (off : Int) (t : Nat) (x : Int), decode b pc = .ok (.ifCond .lt off, 3) → (pc : Int) + off = (t : Int) → inR x → (x < 0 → J t ls st h c s) → (0 ≤ x → J (pc + 3) ls st h c s) → J pc ls (vi x :: st) h c s) ∧
  (∀ (pc : Nat) ls st h c s (off : Int) (t : Nat) (x : Int), decode b pc = .ok (.ifCond .ge off, 3) → (pc : Int) + off = (t : Int) → inR x → (0 ≤ x → J t ls st h c s) → (x < 0 → J (pc + 3) ls st h c s) → J pc ls (vi x :: st) h c s) ∧
  (∀ (pc : Nat) ls st h c s (off : Int) (t : Nat) (x : Int), decode b pc = .ok (.ifCond .gt off, 3) → (pc : Int) + off = (t : Int) → inR x → (0 < x → J t ls st h c s) → (x ≤ 0 → J (pc + 3) ls st h c s) → J pc ls (vi x :: st) h c s) ∧
  (∀ (pc : Nat) ls st h c s (off : Int) (t : Nat) (x : Int), decode b pc = .ok (.ifCond .le off, 3) → (pc : Int) + off = (t : Int) → inR x → (x ≤ 0 → J t ls st h c s) → (0 < x → J (pc + 3) ls st h c s) → J pc ls (vi x :: st) h c s) ∧
  (∀ (pc : Nat) ls st h c s (off : Int) (t : Nat) (x y : Int), decode b pc = .ok (.if_icmp .eq off, 3) → (pc : Int) + off = (t : Int) → inR x → inR y → (x = y → J t ls st h c s) → (¬ x = y → J (pc + 3) ls st h c s) → J pc ls (vi y :: vi x :: st) h c s) ∧
  (∀ (pc : Nat) ls st h c s (off : Int) (t : Nat) (x y : Int), decode b pc = .ok (.if_icmp .ne off, 3) → (pc : Int) + off = (t : Int) → inR x → inR y → (¬ x = y → J t ls st h c s) → (x = y → J (pc + 3) ls st h c s) → J pc ls (vi y :: vi x :: st) h c s) ∧
  (∀ (pc : Nat) ls st h c s (off : Int) (t : Nat) (x y : Int), decode b pc = .ok (.if_icmp .lt off, 3) → (pc : Int) + off = (t : Int) → inR x → inR y → (x < y → J t ls st h c s) → (y ≤ x → J (pc + 3) ls st h c s) → J pc ls (vi y :: vi x :: st) h c s) ∧
  (∀ (pc : Nat) ls st h c s (off : Int) (t : Nat) (x y : Int), decode b pc = .ok (.if_icmp .ge off, 3) → (pc : Int) + off = (t : Int) → inR x → inR y → (y ≤ x → J t ls st h c s) → (x < y → J (pc + 3) ls st h c s) → J pc ls (vi y :: vi x :: st) h c s) ∧
  (∀ (pc : Nat) ls st h c s (off : Int) (t : Nat) (x y : Int), decode b pc = .ok (.if_icmp .gt off, 3) → (pc : Int) + off = (t : Int) → inR x → inR y → (y < x → J t ls st h c s) → (x ≤ y → J (pc + 3) ls st h c s) → J pc ls (vi y :: vi x :: st) h c s) ∧
  (∀ (pc : Nat) ls st h c s (off : Int) (t : Nat) (x y : Int), decode b pc = .ok (.if_icmp .le off, 3) → (pc : Int) + off = (t : Int) → inR x → inR y → (x ≤ y → J t ls st h c s) → (y < x → J (pc + 3) ls st h c s) → J pc ls (vi y :: vi x :: st) h c s) ∧
  (∀ (pc : Nat) ls st h c s (off : Int) (t : Nat) (r : Option Nat), decode b pc = .ok (.ifnull off, 3) → (pc : Int) + off = (t : Int) → (r = none → J t ls st h c s) → (∀ a, r = some a → J (pc + 3) ls st h c s) → J pc ls (vq r :: st) h c s) ∧
  (∀ (pc : Nat) ls st h c s (off : Int) (t : Nat) (r : Option Nat), decode b pc = .ok (.ifnonnull off, 3) → (pc : Int) + off = (t : Int) → (∀ a, r = some a → J t ls st h c s) → (r = none → J (pc + 3) ls st h c s) → J pc ls (vq r :: st) h c s) ∧
  (∀ (pc : Nat) ls st h c s (off : Int) (t : Nat) (r q : Option Nat), decode b pc = .ok (.if_acmp .eq off, 3) → (pc : Int) + off = (t : Int) → (r = q → J t ls st h c s) → (¬ r = q → J (pc + 3) ls st h c s) → J pc ls (vq q :: vq r :: st) h c s) ∧
  (∀ (pc : Nat) ls st h c s (off : Int) (t : Nat) (r q : Option Nat), decode b pc = .ok (.if_acmp .ne off, 3) → (pc : Int) + off = (t : Int) → (¬ r = q → J t ls st h c s) → (r = q → J (pc + 3) ls st h c s) → J pc ls (vq q :: vq r :: st) h c s) ∧
  (∀ (pc : Nat) ls st h c s (df lo hi : Int) (offs : Array Int) (len : Nat) (off : Int) (t : Nat) (x : Int), decode b pc = .ok (.tableswitch df lo hi offs, len) → inR x → lo ≤ x → x ≤ hi → offs[(x - lo).toNat]? = some off → (pc : Int) + off = (t : Int) → J t ls st h c s → J pc ls (vi x :: st) h c s) ∧
  (∀ (pc : Nat) ls st h c s (df lo hi : Int) (offs : Array Int) (len : Nat) (t : Nat) (x : Int), decode b pc = .ok (.tableswitch df lo hi offs, len) → inR x → (x < lo ∨ hi < x) → (pc : Int) + df = (t : Int) → J t ls st h c s → J pc ls (vi x :: st) h c s)
def sDef : String := "DEFAULTCAPACITY_EMPTY_ELEMENTDATA"
/-- fields, new objects, casts -/
def Cl4 (gx : GX) (M : MI) (J : JT) : Prop :=
  (∀ (pc : Nat) ls st h c s (ix ci k a : Nat), decode M.2.1 pc = .ok (.getfield ix, 3) → fL M.1.cls ix ci k → isRf ci k = false → a ∈ hD h → hK h a = ci + 1 → J (pc + 3) ls (vi (hI h a k) :: st) h c s → J pc ls (vr a :: st) h c s) ∧
  (∀ (pc : Nat) ls st h c s (ix ci k a : Nat), decode M.2.1 pc = .ok (.getfield ix, 3) → fL M.1.cls ix ci k → isRf ci k = true → a ∈ hD h → hK h a = ci + 1 → J (pc + 3) ls (vq (hP h a k) :: st) h c s → J pc ls (vr a :: st) h c s) ∧
  (∀ (pc : Nat) ls st h c s (ix ci k a : Nat) (x : Int), decode M.2.1 pc = .ok (.putfield ix, 3) → fL M.1.cls ix ci k → finOk M ci k → okP ci k x → a ∈ hD h → hK h a = ci + 1 → J (pc + 3) ls st (wI h a k x) c s → J pc ls (vi x :: vr a :: st) h c s) ∧
  (∀ (pc : Nat) ls st h c s (ix ci k a : Nat) (r : Option Nat), decode M.2.1 pc = .ok (.putfield ix, 3) → fL M.1.cls ix ci k → finOk M ci k → isRf ci k = true → a ∈ hD h → hK h a = ci + 1 → J (pc + 3) ls st (wP h a k r) c s → J pc ls (vq r :: vr a :: st) h c s) ∧
  (∀ (pc : Nat) ls st h c s (ix : Nat), decode M.2.1 pc = .ok (.getstatic ix, 3) → Cond.fieldLink M.1.cls ix RJx4a65c sDef "[Ljava/lang/Object;" ∈ tb → J (pc + 3) ls (vr gx.1 :: st) h c s → J pc ls st h c s) ∧
  (∀ (pc : Nat) ls st h c s (ix ci : Nat), decode M.2.1 pc = .ok (.new ix, 3) → ci < 7 → Cond.classLink M.1.cls ix (cNm ci) ∈ tb → 1 ≤ c → nF ci ≤ s → (∀ q, q ∉ hD h → J (pc + 3) ls (vr q :: st) (hNew h q (ci + 1) (nF ci)) (c - 1) (s - nF ci)) → J pc ls st h c s) ∧
  (∀ (pc : Nat) ls st h c s (ix ci a : Nat), decode M.2.1 pc = .ok (.checkcast ix, 3) → ci < 7 → Cond.classLink M.1.cls ix (cNm ci) ∈ tb → a ∈ hD h → hK h a = ci + 1 → J (pc + 3) ls (vr a :: st) h c s → J pc ls (vr a :: st) h c s) ∧
  (∀ (pc : Nat) ls st h c s (ix a : Nat), decode M.2.1 pc = .ok (.invokespecial ix, 3) → Cond.methodLink M.1.cls ix Lib.objectInit ∈ tb → st.length ≤ 4 → J (pc + 3) ls st h c s → J pc ls (vr a :: st) h c s)
/-- arrays -/
def Cl5 (gx : GX) (M : MI) (J : JT) : Prop :=
  (∀ (pc : Nat) ls st h c s (a : Nat), decode M.2.1 pc = .ok (.arraylength, 1) → a ∈ hD h → 10 ≤ hK h a → hK h a ≤ 14 → J (pc + 1) ls (vi (hN h a) :: st) h c s → J pc ls (vr a :: st) h c s) ∧
  (∀ (pc : Nat) ls st h c s, decode M.2.1 pc = .ok (.arraylength, 1) → J (pc + 1) ls (vi 0 :: st) h c s → J pc ls (vr gx.1 :: st) h c s) ∧
  (∀ (pc : Nat) ls st h c s, decode M.2.1 pc = .ok (.arraylength, 1) → J (pc + 1) ls (vi gx.2.2.1 :: st) h c s → J pc ls (vr gx.2.1 :: st) h c s) ∧
  (∀ (pc : Nat) ls st h c s (a : Nat) (i : Int), decode M.2.1 pc = .ok (.iaload, 1) → a ∈ hD h → hK h a = 10 → 0 ≤ i → i < hN h a → i < 2147483648 → J (pc + 1) ls (vi (hI h a i) :: st) h c s → J pc ls (vi i :: vr a :: st) h c s) ∧
  (∀ (pc : Nat) ls st h c s (i : Int), decode M.2.1 pc = .ok (.iaload, 1) → 0 ≤ i → i < gx.2.2.1 → i < 2147483648 → J (pc + 1) ls (vi (gx.2.2.2 i.toNat) :: st) h c s → J pc ls (vi i :: vr gx.2.1 :: st) h c s) ∧
  (∀ (pc : Nat) ls st h c s (a : Nat) (i : Int), decode M.2.1 pc = .ok (.baload, 1) → a ∈ hD h → hK h a = 11 → 0 ≤ i → i < hN h a → i < 2147483648 → J (pc + 1) ls (vi (hI h a i) :: st) h c s → J pc ls (vi i :: vr a :: st) h c s) ∧
  (∀ (pc : Nat) ls st h c s (a : Nat) (i : Int), decode M.2.1 pc = .ok (.laload, 1) → a ∈ hD h → hK h a = 12 → 0 ≤ i → i < hN h a → i < 2147483648 → J (pc + 1) ls (vl (hI h a i) :: st) h c s → J pc ls (vi i :: vr a :: st) h c s) ∧
  (∀ (pc : Nat) ls st h c s (a : Nat) (i : Int), decode M.2.1 pc = .ok (.aaload, 1) → a ∈ hD h → (hK h a = 13 ∨ hK h a = 14) → 0 ≤ i → i < hN h a → i < 2147483648 → J (pc + 1) ls (vq (hP h a i) :: st) h c s → J pc ls (vi i :: vr a :: st) h c s) ∧
  (∀ (pc : Nat) ls st h c s (a : Nat) (i x : Int), decode M.2.1 pc = .ok (.iastore, 1) → a ∈ hD h → hK h a = 10 → 0 ≤ i → i < hN h a → i < 2147483648 → J (pc + 1) ls st (wI h a i x) c s → J pc ls (vi x :: vi i :: vr a :: st) h c s) ∧
  (∀ (pc : Nat) ls st h c s (a : Nat) (i x : Int), decode M.2.1 pc = .ok (.bastore, 1) → a ∈ hD h → hK h a = 11 → 0 ≤ i → i < hN h a → i < 2147483648 → (x = 0 ∨ x = 1) → J (pc + 1) ls st (wI h a i x) c s → J pc ls (vi x :: vi i :: vr a :: st) h c s) ∧
  (∀ (pc : Nat) ls st h c s (a : Nat) (i x : Int), decode M.2.1 pc = .ok (.lastore, 1) → a ∈ hD h → hK h a = 12 → 0 ≤ i → i < hN h a → i < 2147483648 → J (pc + 1) ls st (wI h a i x) c s → J pc ls (vl x :: vi i :: vr a :: st) h c s) ∧
  (∀ (pc : Nat) ls st h c s (a v ci : Nat) (i : Int), decode M.2.1 pc = .ok (.aastore, 1) → a ∈ hD h → hK h a = 13 → 0 ≤ i → i < hN h a → i < 2147483648 → v ∈ hD h → hK h v = ci + 1 → ci < 7 → Cond.castable (cNm ci) "java/lang/Object" ∈ tb → J (pc + 1) ls st (wP h a i (some v)) c s → J pc ls (vr v :: vi i :: vr a :: st) h c s) ∧
  (∀ (pc : Nat) ls st h c s (a : Nat) (i : Int), decode M.2.1 pc = .ok (.aastore, 1) → a ∈ hD h → hK h a = 13 → 0 ≤ i → i < hN h a → i < 2147483648 → J (pc + 1) ls st (wP h a i none) c s → J pc ls (vn :: vi i :: vr a :: st) h c s) ∧
  (∀ (pc : Nat) ls st h c s (a v : Nat) (i : Int), decode M.2.1 pc = .ok (.aastore, 1) → a ∈ hD h → hK h a = 14 → 0 ≤ i → i < hN h a → i < 2147483648 → v ∈ hD h → hK h v = 2 → J (pc + 1) ls st (wP h a i (some v)) c s → J pc ls (vr v :: vi i :: vr a :: st) h c s) ∧
  (∀ (pc : Nat) ls st h c s (n : Int), decode M.2.1 pc = .ok (.newarray .int, 2) → 0 ≤ n → n ≤ 100000 → 1 ≤ c → n.toNat ≤ s → (∀ q, q ∉ hD h → J (pc + 2) ls (vr q :: st) (hNew h q 10 n.toNat) (c - 1) (s - n.toNat)) → J pc ls (vi n :: st) h c s) ∧
  (∀ (pc : Nat) ls st h c s (n : Int), decode M.2.1 pc = .ok (.newarray .boolean, 2) → 0 ≤ n → n ≤ 100000 → 1 ≤ c → n.toNat ≤ s → (∀ q, q ∉ hD h → J (pc + 2) ls (vr q :: st) (hNew h q 11 n.toNat) (c - 1) (s - n.toNat)) → J pc ls (vi n :: st) h c s) ∧
  (∀ (pc : Nat) ls st h c s (n : Int), decode M.2.1 pc = .ok (.newarray .long, 2) → 0 ≤ n → n ≤ 100000 → 1 ≤ c → n.toNat ≤ s → (∀ q, q ∉ hD h → J (pc + 2) ls (vr q :: st) (hNew h q 12 n.toNat) (c - 1) (s - n.toNat)) → J pc ls (vi n :: st) h c s) ∧
  (∀ (pc : Nat) ls st h c s (ix : Nat) (n : Int), decode M.2.1 pc = .ok (.anewarray ix, 3) → Cond.classLink M.1.cls ix "java/lang/Object" ∈ tb → 0 ≤ n → n ≤ 100000 → 1 ≤ c → n.toNat ≤ s → (∀ q, q ∉ hD h → J (pc + 3) ls (vr q :: st) (hNew h q 13 n.toNat) (c - 1) (s - n.toNat)) → J pc ls (vi n :: st) h c s) ∧
  (∀ (pc : Nat) ls st h c s (ix : Nat) (n : Int), decode M.2.1 pc = .ok (.anewarray ix, 3) → Cond.classLink M.1.cls ix RX0 ∈ tb → 0 ≤ n → n ≤ 100000 → 1 ≤ c → n.toNat ≤ s → (∀ q, q ∉ hD h → J (pc + 3) ls (vr q :: st) (hNew h q 14 n.toNat) (c - 1) (s - n.toNat)) → J pc ls (vi n :: st) h c s)
/-- what comes behind a call -/
def aft (J : JT) (pc : Nat) (ls : List (Option AV)) (st : List AV) (c s : Nat) : Option AV → Hp → Prop := fun o h => match o with
  | some v => J (pc + 3) ls (v :: st) h c s
  | none => J (pc + 3) ls st h c s
/-- where a throw goes: to a row of the method's own table, or out -/
def cat0 (M : MI) (Qx : String → Hp → Prop) (J : JT) (pc : Nat) (ls : List (Option AV)) (c s : Nat) (E : String) (h : Hp) : Prop := match M.2.2.2.2 with
  | none => Qx E h
  | some hh => ∃ (pre : List (Nat × Nat × Nat × Nat)) (x : Nat × Nat × Nat × Nat) (suf : List (Nat × Nat × Nat × Nat)) (nm : String), hh = pre ++ x :: suf ∧ (∀ z ∈ pre, z.2.2.2 ≠ 0 ∧ ∃ n2, Cond.classLink M.1.cls z.2.2.2 n2 ∈ tb ∧ (E, n2) ∈ ([("java/lang/IllegalArgumentException", "java/lang/IndexOutOfBoundsException"), ("java/lang/IllegalStateException", "java/lang/IndexOutOfBoundsException"), ("java/lang/IllegalStateException", "java/lang/IllegalArgumentException")] : List (String × String))) ∧ x.1 ≤ pc ∧ pc < x.2.1 ∧ x.2.2.2 ≠ 0 ∧ Cond.classLink M.1.cls x.2.2.2 nm ∈ tb ∧ Cond.castable E nm ∈ tb ∧ ∀ q, J x.2.2.1 ls [vr q] h c s
/-- calls -/
def Cl6 (call : CT) (M : MI) (Qx : String → Hp → Prop) (J : JT) : Prop :=
  (∀ (pc : Nat) ls st h c s (ix ci : Nat) (N : MI) (a : Nat) (As : List AV) (c1 s1 : Nat), decode M.2.1 pc = .ok (.invokevirtual ix, 3) → cV M.1.cls ix N As.length → (∀ v ∈ As, catV v = 1) → ci < 7 → cNm ci = N.1.cls → a ∈ hD h → hK h a = ci + 1 → st.length ≤ 4 → c1 ≤ c → s1 ≤ s →
    call N (vr a :: As) h c1 s1 (aft J pc ls st (c - c1) (s - s1)) (cat0 M Qx J pc ls (c - c1) (s - s1)) → J pc ls (As.reverse ++ vr a :: st) h c s) ∧
  (∀ (pc : Nat) ls st h c s (ix : Nat) (N : MI) (As : List AV) (c1 s1 : Nat), decode M.2.1 pc = .ok (.invokestatic ix, 3) → cS M.1.cls ix N As.length → (∀ v ∈ As, catV v = 1) → st.length ≤ 4 → c1 ≤ c → s1 ≤ s →
    call N As h c1 s1 (aft J pc ls st (c - c1) (s - s1)) (cat0 M Qx J pc ls (c - c1) (s - s1)) → J pc ls (As.reverse ++ st) h c s) ∧
  (∀ (pc : Nat) ls st h c s (ix : Nat) (N : MI) (As : List AV) (c1 s1 : Nat), decode M.2.1 pc = .ok (.invokestatic ix, 3) → cSX M.1.cls ix N As.length → (∀ v ∈ As, catV v = 1) → st.length ≤ 4 → c1 ≤ c → s1 ≤ s →
    call N As h c1 s1 (aft J pc ls st (c - c1) (s - s1)) (cat0 M Qx J pc ls (c - c1) (s - s1)) → J pc ls (As.reverse ++ st) h c s) ∧
  (∀ (pc : Nat) ls st h c s (ix : Nat) (N : MI) (a : Nat) (As : List AV) (c1 s1 : Nat), decode M.2.1 pc = .ok (.invokespecial ix, 3) → cI M.1.cls ix N As.length → (∀ v ∈ As, catV v = 1) → st.length ≤ 4 → c1 ≤ c → s1 ≤ s →
    call N (vr a :: As) h c1 s1 (aft J pc ls st (c - c1) (s - s1)) (cat0 M Qx J pc ls (c - c1) (s - s1)) → J pc ls (As.reverse ++ vr a :: st) h c s) ∧
  (∀ (pc : Nat) ls st h c s (ix : Nat) (N : MI) (host : String) (a : Nat) (As : List AV) (c1 s1 : Nat), decode M.2.1 pc = .ok (.invokespecial ix, 3) → cN M.1.cls ix N host As.length → (∀ v ∈ As, catV v = 1) → st.length ≤ 4 → c1 ≤ c → s1 ≤ s →
    call N (vr a :: As) h c1 s1 (aft J pc ls st (c - c1) (s - s1)) (cat0 M Qx J pc ls (c - c1) (s - s1)) → J pc ls (As.reverse ++ vr a :: st) h c s)
/-- the library's own: Math.max, Math.min, System.arraycopy of references -/
def Cl7 (M : MI) (J : JT) : Prop :=
  (∀ (pc : Nat) ls st h c s (ix : Nat) (x y : Int), decode M.2.1 pc = .ok (.invokestatic ix, 3) → Cond.methodLink M.1.cls ix Lib.Math.max.name ∈ tb → inR x → inR y → st.length ≤ 4 → J (pc + 3) ls (vi (if x < y then y else x) :: st) h c s → J pc ls (vi y :: vi x :: st) h c s) ∧
  (∀ (pc : Nat) ls st h c s (ix : Nat) (x y : Int), decode M.2.1 pc = .ok (.invokestatic ix, 3) → Cond.methodLink M.1.cls ix Lib.Math.min.name ∈ tb → inR x → inR y → st.length ≤ 4 → J (pc + 3) ls (vi (if y < x then y else x) :: st) h c s → J pc ls (vi y :: vi x :: st) h c s) ∧
  (∀ (pc : Nat) ls st h c s (ix a0 a1 : Nat) (sp dp n : Int), decode M.2.1 pc = .ok (.invokestatic ix, 3) → Cond.methodLink M.1.cls ix arraycopyName ∈ tb → a0 ∈ hD h → hK h a0 = 13 → a1 ∈ hD h → hK h a1 = 13 → 0 ≤ sp → 0 ≤ dp → 0 ≤ n → sp + n ≤ hN h a0 → dp + n ≤ hN h a1 → sp + n < 2147483648 → dp + n < 2147483648 →
    (∀ i : Int, 0 ≤ i → i < n → ∀ y, hP h a0 (sp + i) = some y → y ∈ hD h ∧ ∃ ci, ci < 7 ∧ hK h y = ci + 1 ∧ Cond.castable (cNm ci) "java/lang/Object" ∈ tb) → st.length ≤ 1 → J (pc + 3) ls st (hCp h a0 sp a1 dp n) c s → J pc ls (vi n :: vi dp :: vr a1 :: vi sp :: vr a0 :: st) h c s)
def strs : List (String × Nat × String) := [("BlockFleet", 249, "no such rack"), ("BlockFleet", 39, "room is 1 to 12"), ("BlockFleet", 50, "there are 8 nodes"), ("BlockFleet", 239, "no such node"), ("BlockFleet", 241, "no such piece"), ("BlockFleet", 247, "no such cell"), ("BlockFleet", 92, "the node has no such cell"), ("BlockFleet", 100, "the limit is 0 to 3"), ("BlockFleet", 102, "seconds are 1 to 100"), ("BlockFleet", 104, "the second would be above 3000"), ("BlockFleet", 289, "there are 20 files"), ("BlockFleet", 243, "no such file"), ("BlockFleet", 253, "the file is not there"), ("BlockFleet", 142, "the file is not deleted"), ("BlockFleet", 251, "a number is 0 to 999"), ("BlockFleet", 300, "the piece cannot be written"), ("BlockFleet", 302, "the file would have 7 pieces"), ("BlockFleet", 255, "there would be 61 pieces"), ("BlockFleet", 311, "a new piece finds no place"), ("BlockFleet", 245, "no such place in the file"), ("BlockFleet", 166, "the primary has not so many cells"), ("BlockFleet", 201, "what is 0 to 5"), ("BlockFleet", 205, "no such copy"), ("BlockFleet", 208, "what is 0 to 2"), ("BlockFleet", 223, "what is 0 to 3")]
def exN : List String := ["java/lang/RuntimeException", "java/lang/Exception"]
/-- five instructions that make an exception with a text and throw it -/
def thr (M : MI) (pc : Nat) (E : String) : Prop := ∃ (ik is ic : Nat) (tx : String), Bundle.fit E = true ∧ (M.1.cls, is, tx) ∈ strs ∧ Cond.classLink M.1.cls ik E ∈ tb ∧ Cond.initialized E ∈ tb ∧ (∀ w ∈ vx_atS M.1.cls ic E exN, w ∈ tb) ∧ decode M.2.1 pc = .ok (.new ik, 3) ∧ decode M.2.1 (pc + 3) = .ok (.dup, 1) ∧
  ((decode M.2.1 (pc + 4) = .ok (.ldc is, 2) ∧ decode M.2.1 (pc + 6) = .ok (.invokespecial ic, 3) ∧ decode M.2.1 (pc + 9) = .ok (.athrow, 1)) ∨ (decode M.2.1 (pc + 4) = .ok (.ldc_w is, 3) ∧ decode M.2.1 (pc + 7) = .ok (.invokespecial ic, 3) ∧ decode M.2.1 (pc + 10) = .ok (.athrow, 1)))
/-- ends, and less room -/
def Cl8 (d : Nat) (M : MI) (Qr : Option AV → Hp → Prop) (Qx : String → Hp → Prop) (J : JT) : Prop :=
  (∀ (pc : Nat) ls h c s (x : Int), decode M.2.1 pc = .ok (.ireturn, 1) → (M.2.2.2.1 = some .int ∨ (M.2.2.2.1 = some .boolean ∧ (x = 0 ∨ x = 1))) → Qr (some (vi x)) h → J pc ls [vi x] h c s) ∧
  (∀ (pc : Nat) ls h c s (r : Option Nat) (ty : FieldType), decode M.2.1 pc = .ok (.areturn, 1) → M.2.2.2.1 = some ty → isRT ty = true → Qr (some (vq r)) h → J pc ls [vq r] h c s) ∧
  (∀ (pc : Nat) ls h c s, decode M.2.1 pc = .ok (.return_, 1) → M.2.2.2.1 = none → Qr none h → J pc ls [] h c s) ∧
  (∀ (pc : Nat) ls st h c s (E : String), thr M pc E → M.2.2.2.2 = none → 6 ≤ d → st.length ≤ 4 → 1 ≤ c → 6 ≤ s → Qx E h → J pc ls st h c s) ∧
  (∀ (pc : Nat) ls st h c s (c1 s1 : Nat), c1 ≤ c → s1 ≤ s → J pc ls st h c1 s1 → J pc ls st h c s)
def Cl (gx : GX) (d : Nat) (call : CT) (M : MI) (Qr : Option AV → Hp → Prop) (Qx : String → Hp → Prop) (J : JT) : Prop :=
  Cl1 M.2.1 J ∧ Cl2 M.2.1 J ∧ Cl3 M.2.1 J ∧ Cl4 gx M J ∧ Cl5 gx M J ∧ Cl6 call M Qx J ∧ Cl7 M J ∧ Cl8 d M Qr Qx J
/-- a method's run at depth d: from its arguments on, the room c, s; its ends: an answer, a throw -/
def aM (gx : GX) : Nat → CT
  | 0 => fun _ _ _ _ _ _ _ => False
  | d + 1 => fun M As h c s Qr Qx => ∀ J : JT, Cl gx (d + 1) (aM gx d) M Qr Qx J → J 0 (As.map some ++ List.replicate (M.2.2.1 - As.length) none) [] h c s
end
section
/-! ===== whole numbers ===== -/
theorem zI_add (x y : Int) : zI (x + y) = zI x + zI y := by unfold zI; exact Int32.ofInt_add x y
theorem zI_sub (x y : Int) : zI (x - y) = zI x - zI y := by unfold zI; exact Int32.ofInt_sub x y
theorem zI_mul (x y : Int) : zI (x * y) = zI x * zI y := by unfold zI; exact Int32.ofInt_mul x y
theorem zI_of (w : Int32) : zI w.toInt = w := by unfold zI; exact Int32.ofInt_toInt w
theorem zI_to {x : Int} (h : inR x) : (zI x).toInt = x := by
  unfold zI inR at *
  rw [Int32.toInt_ofInt]
  obtain ⟨h1, h2⟩ := h
  exact Int.bmod_eq_of_le (by simpa using h1) (by simpa using h2)
theorem zI_eq {x y : Int} (hx : inR x) (hy : inR y) : zI x = zI y ↔ x = y := by
  constructor
  · intro h
    have := congrArg Int32.toInt h
    rwa [zI_to hx, zI_to hy] at this
  · intro h; rw [h]
theorem zI_lt {x y : Int} (hx : inR x) (hy : inR y) : zI x < zI y ↔ x < y := by
  rw [Int32.lt_iff_toInt_lt, zI_to hx, zI_to hy]
theorem zI_le {x y : Int} (hx : inR x) (hy : inR y) : zI x ≤ zI y ↔ x ≤ y := by
  rw [Int32.le_iff_toInt_le, zI_to hx, zI_to hy]
theorem inR0 : inR 0 := ⟨by decide, by decide⟩
theorem zI_0 : (0 : Int32) = zI 0 := rfl
theorem zI_cl {i : Int} (h0 : 0 ≤ i) (h : i < 2147483648) : (zI i).toNatClampNeg = i.toNat := by
  show (zI i).toInt.toNat = i.toNat
  rw [zI_to ⟨by omega, h⟩]
theorem zI_vp {i : Int} {n : Nat} (h0 : 0 ≤ i) (h : i < 2147483648) (hn : i < n) : vp_in (zI i) n := by
  unfold vp_in
  rw [zI_cl h0 h]
  intro q
  rcases q with q | q
  · rw [zI_0, zI_lt ⟨by omega, h⟩ inR0] at q; omega
  · omega
theorem zI_nI (n : Nat) : zI (n : Int) = nI n := by
  unfold zI nI
  apply Int32.toBitVec_inj.mp
  simp
/-! ===== what a plain heap says of the machine's ===== -/
def fldV (ci : Nat) (h : Hp) (a : Nat) : List Value := (List.range (nF ci)).map (fun k => if isRf ci k = true then va_rf (hP h a k) else .int (zI (hI h a k)))
def cellE (cy : Nat → ClassId) (h : Hp) (a : Nat) : va_E :=
  if hK h a = 10 then .inl (cy 0, hN h a, .inl (fun j => zI (hI h a j)))
  else if hK h a = 11 then .inl (cy 1, hN h a, .inl (fun j => zI (hI h a j)))
  else if hK h a = 12 then .inl (cy 2, hN h a, .inr (.inl (fun j => Int64.ofInt (hI h a j))))
  else if hK h a = 13 then .inl (cy 3, hN h a, .inr (.inr (.inr (.inr (fun j => hP h a j)))))
  else if hK h a = 14 then .inl (cy 4, hN h a, .inr (.inr (.inr (.inr (fun j => hP h a j)))))
  else .inr (hK h a - 1, fldV (hK h a - 1) h a)
def tysOf (cy : Nat → ClassId) : List (ClassId × FieldType) := [(cy 0, .int), (cy 1, .boolean), (cy 2, .long), (cy 3, .object "java/lang/Object"), (cy 4, .object RX0)]
def vcl : List vw_C := [(RJx4a65c, TJx4a65c, 3), (RX0, TX0, 5), (RX1, TX1, 4), (RX2, TX2, 8), (RX3, TX3, 7), (RX4, TX4, 6), (RX5, TX5, 27)]
def exP : List (String × String) := [("java/lang/IllegalArgumentException", "java/lang/IndexOutOfBoundsException"), ("java/lang/IllegalStateException", "java/lang/IndexOutOfBoundsException"), ("java/lang/IllegalStateException", "java/lang/IllegalArgumentException")]
abbrev aB (s0 : State) : Nat → Prop := fun q => s0.heap.size ≤ q
/-- what holds at the law's start, and for ever -/
def Gl (l : Launch) (s0 : State) (a0 : Array Value) (D : va_G) (cy : Nat → ClassId) (gx : GX) : Prop :=
  l.stackTraces = false ∧ (∀ w ∈ lw_tbl, w.before a0 s0 = true) ∧ va_K D vcl (tysOf cy) s0 ∧
  va_Z RJx4a65c sDef "[Ljava/lang/Object;" (.ref gx.1) (aB s0) s0 s0.heap ∧ va_T (.object "java/lang/Object") gx.1 0 (fun _ => .null) (aB s0) s0 s0.heap ∧
  va_X gx.2.1 gx.2.2.1 (fun j => zI (gx.2.2.2 j)) s0 s0.heap ∧ gx.2.1 < s0.heap.size ∧ gx.2.2.1 < 1000000 ∧
  (∀ q ∈ strs, ∃ sa, vk_R q.1 q.2.1 q.2.2 sa s0) ∧
  vx_Zq Bundle.tN "UNASSIGNED_STACK" Bundle.steD (aB s0) s0 s0.heap ∧ vx_Zq Bundle.tN "SUPPRESSED_SENTINEL" Bundle.listD (aB s0) s0 s0.heap ∧
  (∀ pr ∈ exP, va_Nc pr.1 pr.2 s0)
def Rel (s0 : State) (D : va_G) (cy : Nat → ClassId) (h : Hp) (H : Heap) : Prop :=
  va_P D vcl (va_pl (hD h) (cellE cy h)) H ∧ va_D (aB s0) (va_pl (hD h) (cellE cy h)) ∧ s0.heap.size ≤ H.size ∧ ∀ q, q < s0.heap.size → H[q]? = s0.heap[q]?
def lvOf : Nat → List (Option AV) → List (Nat × Value)
  | _, [] => []
  | i, none :: t => lvOf (i + 1) t
  | i, some v :: t => (i, tv v) :: lvOf (i + 1) t
theorem lvOf_mem : ∀ (ls : List (Option AV)) (k : Nat) (q : Nat × Value), q ∈ lvOf k ls → ∃ (i : Nat) (v : AV), ls[i]? = some (some v) ∧ q = (k + i, tv v)
  | [], k, q, h => by cases h
  | none :: t, k, q, h => by
    obtain ⟨i, v, h1, h2⟩ := lvOf_mem t (k + 1) q h
    exact ⟨i + 1, v, by simpa using h1, by rw [h2]; congr 1; omega⟩
  | some v :: t, k, q, h => by
    rcases List.mem_cons.mp h with h | h
    · exact ⟨0, v, rfl, h⟩
    · obtain ⟨i, w, h1, h2⟩ := lvOf_mem t (k + 1) q h
      exact ⟨i + 1, w, by simpa using h1, by rw [h2]; congr 1; omega⟩
theorem lvOf_get : ∀ (ls : List (Option AV)) (k i : Nat) (v : AV), ls[i]? = some (some v) → (k + i, tv v) ∈ lvOf k ls
  | [], k, i, v, h => by simp at h
  | none :: t, k, 0, v, h => by simp at h
  | none :: t, k, i + 1, v, h => by
    have := lvOf_get t (k + 1) i v (by simpa using h)
    rw [show k + (i + 1) = k + 1 + i by omega]
    exact this
  | some w :: t, k, 0, v, h => by
    have e : w = v := by simpa using h
    rw [e]
    exact List.mem_cons_self
  | some w :: t, k, i + 1, v, h => by
    have := lvOf_get t (k + 1) i v (by simpa using h)
    rw [show k + (i + 1) = k + 1 + i by omega]
    exact List.mem_cons_of_mem _ this
theorem lv_get {lsA : Array Slot} {nL : Nat} {ls : List (Option AV)} (hl : lv_has lsA nL (lvOf 0 ls)) {i : Nat} {v : AV} (h : ls[i]? = some (some v)) : lsA[i]? = some (.val (tv v)) := by
  have := hl.2.2 _ (lvOf_get ls 0 i v h)
  simpa using this
theorem tv_cat (v : AV) : (tv v).category = catV v := by
  rcases v with z | r | z
  · rfl
  · cases r <;> rfl
  · rfl
/-- a stored value: what the locals are then -/
theorem lv_put {lsB : Array Slot} {nL : Nat} {ls : List (Option AV)} {i : Nat} {v : AV} (h : lv_has lsB nL ((i, tv v) :: (lvOf 0 ls).filter (fun q => !(q.1 == i) && !(q.1 + 1 == i && q.2.category == 2)))) (hc : ∀ (j : Nat) (w : AV), ls[j]? = some (some w) → catV w = 1) : lv_has lsB nL (lvOf 0 (ls.set i (some v))) := by
  refine ⟨h.1, h.2.1, fun q hq => ?_⟩
  obtain ⟨j, w, h1, h2⟩ := lvOf_mem _ _ _ hq
  rw [Nat.zero_add] at h2
  by_cases hj : i = j
  · subst hj
    have hw : w = v := by
      rw [List.getElem?_set] at h1
      split at h1
      · split at h1
        · exact (Option.some.inj (Option.some.inj h1)).symm
        · cases h1
      · rename_i q; exact absurd rfl q
    rw [h2, hw]
    exact h.2.2 (i, tv v) List.mem_cons_self
  · rw [List.getElem?_set_ne hj] at h1
    refine h.2.2 q (List.mem_cons_of_mem _ (List.mem_filter.mpr ⟨?_, ?_⟩))
    · rw [h2]; simpa using lvOf_get ls 0 j w h1
    · rw [h2]
      have hc1 : (tv w).category = 1 := by rw [tv_cat]; exact hc j w h1
      simp only [hc1]
      have : ¬ j = i := fun q => hj q.symm
      simp [this]
section SND
variable {p : Program} {l : Launch} {e : Env} {R : Room} {s s0 : State} {m : MethodId} {args a0 : Array Value} {below : List Frame} {meth : Method} {c : Code} {Q : State → Prop} {D : va_G} {cy : Nat → ClassId} {gx : GX} {M : MI}
/-- a word of the tables at any later state -/
theorem wd_at (hW : s0.WarmedH s.vm) {w : Cond} (hk : okW w = true) (h : w.before a0 s0 = true) (args : Array Value) : w.before args s = true := by
  unfold okW at hk
  rw [Bool.or_eq_true] at hk
  rcases hk with hk | hk
  · exact word_at hW (good_of_word hk) h
  · rw [Bool.and_eq_true] at hk
    have h1 : w.before a0 (s0.setVm s.vm) = true := Cond.before_shiftedFace (State.Shifted.of_warmed hW) w hk.2 h
    exact va_tabs hk.1 (rfl : (s0.setVm s.vm).vm = s.vm) h1
def noLong (ls : List (Option AV)) : Prop := ∀ (j : Nat) (w : AV), ls[j]? = some (some w) → catV w = 1
theorem noLong_set {ls : List (Option AV)} (h : noLong ls) {i : Nat} {v : AV} (hv : catV v = 1) : noLong (ls.set i (some v)) := by
  intro j w hj
  by_cases q : i = j
  · subst q
    rw [List.getElem?_set] at hj
    split at hj
    · split at hj
      · rw [← Option.some.inj (Option.some.inj hj)]; exact hv
      · cases hj
    · rename_i q; exact absurd rfl q
  · rw [List.getElem?_set_ne q] at hj
    exact h j w hj
/-- a point of a walk: whatever heap holds the plain heap, the machine comes to its end from there -/
def JW (p : Program) (l : Launch) (e : Env) (R : Room) (s : State) (m : MethodId) (args : Array Value) (below : List Frame) (meth : Method) (c : Code) (Q : State → Prop) (s0 : State) (D : va_G) (cy : Nat → ClassId) (nL : Nat) : JT := fun pc ls st h cc ss =>
  ∀ (H : Heap) (locs : List Loc) (cells slots : Nat) (lsA : Array Slot), Rel s0 D cy h H → va_S (aB s0) s.heap H locs → cells + cc ≤ R.cells → slots + ss ≤ R.slots → ls.length = nL → noLong ls → lv_has lsA nL (lvOf 0 ls) → W p l e R s m args below meth c H locs cells slots Q (F0 m pc lsA (st.map tv))
/-- what a walk stands on -/
def Cx (p : Program) (l : Launch) (e : Env) (s : State) (m : MethodId) (meth : Method) (c : Code) (s0 : State) (a0 : Array Value) (D : va_G) (cy : Nat → ClassId) (gx : GX) (M : MI) : Prop :=
  Gl l s0 a0 D cy gx ∧ p.tables.exec = Jvm.exec ∧ c.code = M.2.1 ∧ c.maxLocals = M.2.2.1 ∧ s.vm.findClass M.1.cls = some m.cls ∧ s0.WarmedH s.vm ∧ s0.heap.size ≤ s.heap.size ∧ (∀ q, q < s0.heap.size → s.heap[q]? = s0.heap[q]?) ∧ meth.locks = false ∧ (M.1.name = "<init>" → meth.name = "<init>") ∧ meth.sig.returnType = M.2.2.2.1 ∧ (M.1.name ≠ "law" → c.exceptionTable.toList = (match M.2.2.2.2 with | none => [] | some hh => tableOf hh))
theorem Cx.hts (C : Cx p l e s m meth c s0 a0 D cy gx M) : ∀ w ∈ tb, w.before args s = true := by
  obtain ⟨⟨-, hw, -⟩, -, -, -, -, hW, -⟩ := C
  intro w h
  obtain ⟨h1, h2⟩ := List.mem_filter.mp h
  exact wd_at hW h2 (hw w h1) args
theorem Cx.K (C : Cx p l e s m meth c s0 a0 D cy gx M) : va_K D vcl (tysOf cy) s := va_K.moved C.2.2.2.2.2.1.alike C.1.2.2.1
end SND
end
section
section SND
variable {p : Program} {l : Launch} {e : Env} {R : Room} {s s0 : State} {m : MethodId} {args a0 : Array Value} {below : List Frame} {meth : Method} {c : Code} {Q : State → Prop} {D : va_G} {cy : Nat → ClassId} {gx : GX} {M : MI} {nL : Nat}

theorem cl1 (hx : p.tables.exec = Jvm.exec) (hb : c.code = M.2.1) : Cl1 M.2.1 (JW p l e R s m args below meth c Q s0 D cy nL) := by
  refine ⟨?_, ?_, ?_, ?_, ?_, ?_, ?_, ?_, ?_, ?_, ?_, ?_, ?_, ?_⟩
  · intro pc ls st h c0 s1 n hd k H locs cells slots lsA hR hS hc hs hn hnl hl
    exact lv_iconst hx hb hd rfl (k H locs cells slots lsA hR hS hc hs hn hnl hl)
  · intro pc ls st h c0 s1 n hd hv k H locs cells slots lsA hR hS hc hs hn hnl hl
    exact lv_bipush hx hb hd hv (k H locs cells slots lsA hR hS hc hs hn hnl hl)
  · intro pc ls st h c0 s1 n hd hv k H locs cells slots lsA hR hS hc hs hn hnl hl
    exact lv_sipush hx hb hd hv (k H locs cells slots lsA hR hS hc hs hn hnl hl)
  · intro pc ls st h c0 s1 n hd k H locs cells slots lsA hR hS hc hs hn hnl hl
    refine lv_lconst hx hb hd (v := Int64.ofInt ((n : Nat) : Int)) ?_ (k H locs cells slots lsA hR hS hc hs hn hnl hl)
    apply Int64.toBitVec_inj.mp
    simp
  · intro pc ls st h c0 s1 hd k H locs cells slots lsA hR hS hc hs hn hnl hl
    exact lv_null hx hb hd (k H locs cells slots lsA hR hS hc hs hn hnl hl)
  · intro pc ls st h c0 s1 k0 i x hd hi hg k H locs cells slots lsA hR hS hc hs hn hnl hl
    exact lv_iload_n hx hb hd hi (lv_get hl hg) (k H locs cells slots lsA hR hS hc hs hn hnl hl)
  · intro pc ls st h c0 s1 i x hd hg k H locs cells slots lsA hR hS hc hs hn hnl hl
    exact lv_iload hx hb hd (lv_get hl hg) (k H locs cells slots lsA hR hS hc hs hn hnl hl)
  · intro pc ls st h c0 s1 k0 i r hd hi hg k H locs cells slots lsA hR hS hc hs hn hnl hl
    cases r with
    | none => exact lv_aload_nN hx hb hd hi (lv_get hl hg) (k H locs cells slots lsA hR hS hc hs hn hnl hl)
    | some a => exact lv_aload_n hx hb hd hi (lv_get hl hg) (k H locs cells slots lsA hR hS hc hs hn hnl hl)
  · intro pc ls st h c0 s1 i r hd hg k H locs cells slots lsA hR hS hc hs hn hnl hl
    cases r with
    | none => exact lv_aloadN hx hb hd (lv_get hl hg) (k H locs cells slots lsA hR hS hc hs hn hnl hl)
    | some a => exact lv_aload hx hb hd (lv_get hl hg) (k H locs cells slots lsA hR hS hc hs hn hnl hl)
  · intro pc ls st h c0 s1 k0 i x hd hi hlt k H locs cells slots lsA hR hS hc hs hn hnl hl
    exact lv_istore_n hx hb hd hi hl (by rw [← hn]; exact hlt) rfl (fun lsB hB => k H locs cells slots lsB hR hS hc hs (by rw [List.length_set]; exact hn) (noLong_set hnl rfl) (lv_put hB hnl))
  · intro pc ls st h c0 s1 i x hd hlt k H locs cells slots lsA hR hS hc hs hn hnl hl
    exact lv_istore hx hb hd hl (by rw [← hn]; exact hlt) rfl (fun lsB hB => k H locs cells slots lsB hR hS hc hs (by rw [List.length_set]; exact hn) (noLong_set hnl rfl) (lv_put hB hnl))
  · intro pc ls st h c0 s1 k0 i r hd hi hlt k H locs cells slots lsA hR hS hc hs hn hnl hl
    cases r with
    | none => exact lv_astore_nN hx hb hd hi hl (by rw [← hn]; exact hlt) rfl (fun lsB hB => k H locs cells slots lsB hR hS hc hs (by rw [List.length_set]; exact hn) (noLong_set hnl rfl) (lv_put (v := vn) hB hnl))
    | some a => exact lv_astore_n hx hb hd hi hl (by rw [← hn]; exact hlt) rfl (fun lsB hB => k H locs cells slots lsB hR hS hc hs (by rw [List.length_set]; exact hn) (noLong_set hnl rfl) (lv_put (v := vr a) hB hnl))
  · intro pc ls st h c0 s1 i r hd hlt k H locs cells slots lsA hR hS hc hs hn hnl hl
    cases r with
    | none => exact lv_astoreN hx hb hd hl (by rw [← hn]; exact hlt) rfl (fun lsB hB => k H locs cells slots lsB hR hS hc hs (by rw [List.length_set]; exact hn) (noLong_set hnl rfl) (lv_put (v := vn) hB hnl))
    | some a => exact lv_astore hx hb hd hl (by rw [← hn]; exact hlt) rfl (fun lsB hB => k H locs cells slots lsB hR hS hc hs (by rw [List.length_set]; exact hn) (noLong_set hnl rfl) (lv_put (v := vr a) hB hnl))
  · intro pc ls st h c0 s1 i n x hd hg k H locs cells slots lsA hR hS hc hs hn hnl hl
    have hm := lvOf_get ls 0 i (vi x) hg
    rw [Nat.zero_add] at hm
    obtain ⟨kk, hkk⟩ := List.getElem?_of_mem hm
    exact lv_iinc (v := zI (x + n)) hx hb hd hl hkk (by rw [zI_add]; rfl) (by rw [← hn]; exact (List.getElem?_eq_some_iff.mp hg).1) rfl (fun lsB hB => k H locs cells slots lsB hR hS hc hs (by rw [List.length_set]; exact hn) (noLong_set hnl rfl) (lv_put hB hnl))

theorem cl2 (hx : p.tables.exec = Jvm.exec) (hb : c.code = M.2.1) : Cl2 M.2.1 (JW p l e R s m args below meth c Q s0 D cy nL) := by
  refine ⟨?_, ?_, ?_, ?_, ?_, ?_, ?_, ?_, ?_, ?_, ?_, ?_, ?_, ?_, ?_⟩
  · intro pc ls st h c0 s1 x y hd k H locs cells slots lsA hR hS hc hs hn hnl hl
    exact lv_iadd hx hb hd (by have q := k H locs cells slots lsA hR hS hc hs hn hnl hl; rw [← zI_add]; exact q)
  · intro pc ls st h c0 s1 x y hd k H locs cells slots lsA hR hS hc hs hn hnl hl
    exact lv_isub hx hb hd (by have q := k H locs cells slots lsA hR hS hc hs hn hnl hl; rw [← zI_sub]; exact q)
  · intro pc ls st h c0 s1 x y hd k H locs cells slots lsA hR hS hc hs hn hnl hl
    exact lv_imul hx hb hd (by have q := k H locs cells slots lsA hR hS hc hs hn hnl hl; rw [← zI_mul]; exact q)
  · intro pc ls st h c0 s1 x y hd k H locs cells slots lsA hR hS hc hs hn hnl hl
    refine lv_iand hx hb hd ?_
    have q := k H locs cells slots lsA hR hS hc hs hn hnl hl
    rw [← zI_of (zI x &&& zI y)]
    exact q
  · intro pc ls st h c0 s1 x y hd k H locs cells slots lsA hR hS hc hs hn hnl hl
    refine lv_ior hx hb hd ?_
    have q := k H locs cells slots lsA hR hS hc hs hn hnl hl
    rw [← zI_of (zI x ||| zI y)]
    exact q
  · intro pc ls st h c0 s1 x y hd k H locs cells slots lsA hR hS hc hs hn hnl hl
    refine lv_ixor hx hb hd ?_
    have q := k H locs cells slots lsA hR hS hc hs hn hnl hl
    rw [← zI_of (zI x ^^^ zI y)]
    exact q
  · intro pc ls st h c0 s1 x y hd k H locs cells slots lsA hR hS hc hs hn hnl hl
    refine lv_ishl hx hb hd ?_
    have q := k H locs cells slots lsA hR hS hc hs hn hnl hl
    rw [← zI_of (zI x <<< (zI y &&& 31))]
    exact q
  · intro pc ls st h c0 s1 x y hd k H locs cells slots lsA hR hS hc hs hn hnl hl
    refine lv_ishr hx hb hd ?_
    have q := k H locs cells slots lsA hR hS hc hs hn hnl hl
    rw [← zI_of (zI x >>> (zI y &&& 31))]
    exact q
  · intro pc ls st h c0 s1 x y hd h0 h1 h2 h3 k H locs cells slots lsA hR hS hc hs hn hnl hl
    refine lv_irem hx hb hd ?_ ?_
    · rw [zI_0, zI_eq ⟨by omega, h3⟩ inR0]; omega
    · have q := k H locs cells slots lsA hR hS hc hs hn hnl hl
      obtain ⟨xn, rfl⟩ := Int.eq_ofNat_of_zero_le h0
      obtain ⟨yn, rfl⟩ := Int.eq_ofNat_of_zero_le (Int.le_of_lt h2)
      have e := pk_rem (a := xn) (d := yn) (by omega) (by omega) (by omega)
      rw [← zI_nI, ← zI_nI, ← zI_nI] at e
      rw [e, Int.natCast_emod]
      exact q
  · intro pc ls st h c0 s1 x hd hr k H locs cells slots lsA hR hS hc hs hn hnl hl
    refine lv_i2l hx hb hd (v := Int64.ofInt x) ?_ (k H locs cells slots lsA hR hS hc hs hn hnl hl)
    show Int64.ofInt (zI x).toInt = Int64.ofInt x
    rw [zI_to hr]
  · intro pc ls st h c0 s1 x y hd hrx hry k H locs cells slots lsA hR hS hc hs hn hnl hl
    refine W.lcmp hx hb hd ?_
    have q := k H locs cells slots lsA hR hS hc hs hn hnl hl
    have ex : (Int64.ofInt x).toInt = x := by
      obtain ⟨a1, a2⟩ := hrx
      have e64 : (Int64.size : Int) = 18446744073709551616 := rfl
      rw [Int64.toInt_ofInt]; exact Int.bmod_eq_of_le (by omega) (by omega)
    have ey : (Int64.ofInt y).toInt = y := by
      obtain ⟨a1, a2⟩ := hry
      have e64 : (Int64.size : Int) = 18446744073709551616 := rfl
      rw [Int64.toInt_ofInt]; exact Int.bmod_eq_of_le (by omega) (by omega)
    have hv : lg_cmp (Int64.ofInt x) (Int64.ofInt y) = zI (if x = y then 0 else if y < x then 1 else -1) := by
      unfold lg_cmp
      simp only [gt_iff_lt, Int64.lt_iff_toInt_lt, ← Int64.toInt_inj, ex, ey]
      by_cases h1 : x = y
      · simp [h1, zI]
      · by_cases h2 : y < x
        · simp [h1, h2, zI]
        · simp [h1, h2, zI]
    rw [hv]
    exact q
  · intro pc ls st h c0 s1 v hd hv k H locs cells slots lsA hR hS hc hs hn hnl hl
    exact lv_dup hx hb hd (by rw [tv_cat]; exact hv) (k H locs cells slots lsA hR hS hc hs hn hnl hl)
  · intro pc ls st h c0 s1 v hd hv k H locs cells slots lsA hR hS hc hs hn hnl hl
    exact lv_pop hx hb hd (va := tv v) (by rw [tv_cat]; exact hv) (k H locs cells slots lsA hR hS hc hs hn hnl hl)
  · intro pc ls st h c0 s1 v w hd hv hw k H locs cells slots lsA hR hS hc hs hn hnl hl
    exact lv_dup_x1 hx hb hd (va := tv v) (vb := tv w) (by rw [tv_cat]; exact hv) (by rw [tv_cat]; exact hw) (k H locs cells slots lsA hR hS hc hs hn hnl hl)
  · intro pc ls st h c0 s1 v w hd hv hw k H locs cells slots lsA hR hS hc hs hn hnl hl
    exact lv_dup2_11 hx hb hd (va := tv v) (vb := tv w) (by rw [tv_cat]; exact hv) (by rw [tv_cat]; exact hw) (k H locs cells slots lsA hR hS hc hs hn hnl hl)

theorem cl3 (hx : p.tables.exec = Jvm.exec) (hb : c.code = M.2.1) : Cl3 M.2.1 (JW p l e R s m args below meth c Q s0 D cy nL) := by
  refine ⟨?_, ?_, ?_, ?_, ?_, ?_, ?_, ?_, ?_, ?_, ?_, ?_, ?_, ?_, ?_, ?_, ?_, ?_, ?_⟩
  · intro pc ls st h c0 s1 off t hd ht k H locs cells slots lsA hR hS hc hs hn hnl hl
    exact lv_goto hx hb hd ht (k H locs cells slots lsA hR hS hc hs hn hnl hl)
  · intro pc ls st h c0 s1 off t x hd ht hr kt kf H locs cells slots lsA hR hS hc hs hn hnl hl
    exact lv_if_eq hx hb hd ht (fun q => kt ((zI_eq hr inR0).mp q) H locs cells slots lsA hR hS hc hs hn hnl hl) (fun q => kf (fun z => q ((zI_eq hr inR0).mpr z)) H locs cells slots lsA hR hS hc hs hn hnl hl)
  · intro pc ls st h c0 s1 off t x hd ht hr kt kf H locs cells slots lsA hR hS hc hs hn hnl hl
    exact lv_if_ne hx hb hd ht (fun q => kt (fun z => q ((zI_eq hr inR0).mpr z)) H locs cells slots lsA hR hS hc hs hn hnl hl) (fun q => kf ((zI_eq hr inR0).mp q) H locs cells slots lsA hR hS hc hs hn hnl hl)
  · intro pc ls st h c0 s1 off t x hd ht hr kt kf H locs cells slots lsA hR hS hc hs hn hnl hl
    exact lv_if_lt hx hb hd ht (fun q => kt ((zI_lt hr inR0).mp q) H locs cells slots lsA hR hS hc hs hn hnl hl) (fun q => kf (Int.not_lt.mp (fun z => q ((zI_lt hr inR0).mpr z))) H locs cells slots lsA hR hS hc hs hn hnl hl)
  · intro pc ls st h c0 s1 off t x hd ht hr kt kf H locs cells slots lsA hR hS hc hs hn hnl hl
    exact lv_if_ge hx hb hd ht (fun q => kt ((zI_le inR0 hr).mp q) H locs cells slots lsA hR hS hc hs hn hnl hl) (fun q => kf (Int.not_le.mp (fun z => q ((zI_le inR0 hr).mpr z))) H locs cells slots lsA hR hS hc hs hn hnl hl)
  · intro pc ls st h c0 s1 off t x hd ht hr kt kf H locs cells slots lsA hR hS hc hs hn hnl hl
    exact lv_if_gt hx hb hd ht (fun q => kt ((zI_lt inR0 hr).mp q) H locs cells slots lsA hR hS hc hs hn hnl hl) (fun q => kf (Int.not_lt.mp (fun z => q ((zI_lt inR0 hr).mpr z))) H locs cells slots lsA hR hS hc hs hn hnl hl)
  · intro pc ls st h c0 s1 off t x hd ht hr kt kf H locs cells slots lsA hR hS hc hs hn hnl hl
    exact lv_if_le hx hb hd ht (fun q => kt ((zI_le hr inR0).mp q) H locs cells slots lsA hR hS hc hs hn hnl hl) (fun q => kf (Int.not_le.mp (fun z => q ((zI_le hr inR0).mpr z))) H locs cells slots lsA hR hS hc hs hn hnl hl)
  · intro pc ls st h c0 s1 off t x y hd ht hr1 hr2 kt kf H locs cells slots lsA hR hS hc hs hn hnl hl
    exact lv_icmp_eq hx hb hd ht (fun q => kt ((zI_eq hr1 hr2).mp q) H locs cells slots lsA hR hS hc hs hn hnl hl) (fun q => kf (fun z => q ((zI_eq hr1 hr2).mpr z)) H locs cells slots lsA hR hS hc hs hn hnl hl)
  · intro pc ls st h c0 s1 off t x y hd ht hr1 hr2 kt kf H locs cells slots lsA hR hS hc hs hn hnl hl
    exact lv_icmp_ne hx hb hd ht (fun q => kt (fun z => q ((zI_eq hr1 hr2).mpr z)) H locs cells slots lsA hR hS hc hs hn hnl hl) (fun q => kf ((zI_eq hr1 hr2).mp q) H locs cells slots lsA hR hS hc hs hn hnl hl)
  · intro pc ls st h c0 s1 off t x y hd ht hr1 hr2 kt kf H locs cells slots lsA hR hS hc hs hn hnl hl
    exact lv_icmp_lt hx hb hd ht (fun q => kt ((zI_lt hr1 hr2).mp q) H locs cells slots lsA hR hS hc hs hn hnl hl) (fun q => kf (Int.not_lt.mp (fun z => q ((zI_lt hr1 hr2).mpr z))) H locs cells slots lsA hR hS hc hs hn hnl hl)
  · intro pc ls st h c0 s1 off t x y hd ht hr1 hr2 kt kf H locs cells slots lsA hR hS hc hs hn hnl hl
    exact lv_icmp_ge hx hb hd ht (fun q => kt ((zI_le hr2 hr1).mp q) H locs cells slots lsA hR hS hc hs hn hnl hl) (fun q => kf (Int.not_le.mp (fun z => q ((zI_le hr2 hr1).mpr z))) H locs cells slots lsA hR hS hc hs hn hnl hl)
  · intro pc ls st h c0 s1 off t x y hd ht hr1 hr2 kt kf H locs cells slots lsA hR hS hc hs hn hnl hl
    exact lv_icmp_gt hx hb hd ht (fun q => kt ((zI_lt hr2 hr1).mp q) H locs cells slots lsA hR hS hc hs hn hnl hl) (fun q => kf (Int.not_lt.mp (fun z => q ((zI_lt hr2 hr1).mpr z))) H locs cells slots lsA hR hS hc hs hn hnl hl)
  · intro pc ls st h c0 s1 off t x y hd ht hr1 hr2 kt kf H locs cells slots lsA hR hS hc hs hn hnl hl
    exact lv_icmp_le hx hb hd ht (fun q => kt ((zI_le hr1 hr2).mp q) H locs cells slots lsA hR hS hc hs hn hnl hl) (fun q => kf (Int.not_le.mp (fun z => q ((zI_le hr1 hr2).mpr z))) H locs cells slots lsA hR hS hc hs hn hnl hl)
  · intro pc ls st h c0 s1 off t r hd ht kn ks H locs cells slots lsA hR hS hc hs hn hnl hl
    cases r with
    | none => exact lv_ifnullN hx hb hd ht (kn rfl H locs cells slots lsA hR hS hc hs hn hnl hl)
    | some a => exact lv_ifnull hx hb hd (ks a rfl H locs cells slots lsA hR hS hc hs hn hnl hl)
  · intro pc ls st h c0 s1 off t r hd ht ks kn H locs cells slots lsA hR hS hc hs hn hnl hl
    cases r with
    | none => exact lv_ifnonnullN hx hb hd (kn rfl H locs cells slots lsA hR hS hc hs hn hnl hl)
    | some a => exact lv_ifnonnull hx hb hd ht (ks a rfl H locs cells slots lsA hR hS hc hs hn hnl hl)
  · intro pc ls st h c0 s1 off t r q hd ht kt kf H locs cells slots lsA hR hS hc hs hn hnl hl
    exact lv_acmp_eq hx hb hd ht (fun z => kt z H locs cells slots lsA hR hS hc hs hn hnl hl) (fun z => kf z H locs cells slots lsA hR hS hc hs hn hnl hl)
  · intro pc ls st h c0 s1 off t r q hd ht kt kf H locs cells slots lsA hR hS hc hs hn hnl hl
    exact lv_acmp_ne hx hb hd ht (fun z => kt z H locs cells slots lsA hR hS hc hs hn hnl hl) (fun z => kf z H locs cells slots lsA hR hS hc hs hn hnl hl)
  · intro pc ls st h c0 s1 df lo hi offs len off t x hd hr h1 h2 ho ht k H locs cells slots lsA hR hS hc hs hn hnl hl
    exact lv_tableIn hx hb hd (by rw [zI_to hr]; omega) (by rw [zI_to hr]; omega) (by rw [zI_to hr]; exact ho) ht (k H locs cells slots lsA hR hS hc hs hn hnl hl)
  · intro pc ls st h c0 s1 df lo hi offs len t x hd hr h1 ht k H locs cells slots lsA hR hS hc hs hn hnl hl
    exact lv_tableOut hx hb hd (by rw [zI_to hr]; exact h1) ht (k H locs cells slots lsA hR hS hc hs hn hnl hl)

end SND
end
section
/-! ===== the heap: cells out of a plain heap, and back ===== -/
section SND
variable {p : Program} {l : Launch} {e : Env} {R : Room} {s s0 : State} {m : MethodId} {args a0 : Array Value} {below : List Frame} {meth : Method} {c : Code} {Q : State → Prop} {D : va_G} {cy : Nat → ClassId} {gx : GX} {M : MI} {nL : Nat}
theorem vcl_at {ci : Nat} (h : ci < 7) : vcl[ci]? = some (cNm ci, fT ci, nF ci) := by
  match ci, h with
  | 0, _ => rfl
  | 1, _ => rfl
  | 2, _ => rfl
  | 3, _ => rfl
  | 4, _ => rfl
  | 5, _ => rfl
  | 6, _ => rfl
theorem in_at {ci : Nat} (h : ci < 7) : ∀ w ∈ u_ws (cNm ci) (fT ci) (nF ci), w ∈ tb := by
  match ci, h with
  | 0, _ => exact inJx4a65c
  | 1, _ => exact inX0
  | 2, _ => exact inX1
  | 3, _ => exact inX2
  | 4, _ => exact inX3
  | 5, _ => exact inX4
  | 6, _ => exact inX5
theorem ty_at {ci : Nat} (h : ci < 7) : ∀ k, k < nF ci → parseFieldDescriptor (fT ci k).2.2.1 = some (fY ci k) := by
  match ci, h with
  | 0, _ => exact tyJx4a65c_ok
  | 1, _ => exact tyX0_ok
  | 2, _ => exact tyX1_ok
  | 3, _ => exact tyX2_ok
  | 4, _ => exact tyX3_ok
  | 5, _ => exact tyX4_ok
  | 6, _ => exact tyX5_ok
theorem nm_at {ci : Nat} (h : ci < 7) : ∀ a, a < nF ci → ∀ b, b < nF ci → a ≠ b → (fT ci a).2.1 ≠ (fT ci b).2.1 := by
  match ci, h with
  | 0, _ => exact nmJx4a65c
  | 1, _ => exact nmX0
  | 2, _ => exact nmX1
  | 3, _ => exact nmX2
  | 4, _ => exact nmX3
  | 5, _ => exact nmX4
  | 6, _ => exact nmX5
theorem cellE_obj {h : Hp} {a ci : Nat} (hk : hK h a = ci + 1) (hc : ci < 7) : cellE cy h a = .inr (ci, fldV ci h a) := by
  unfold cellE
  rw [if_neg (by omega), if_neg (by omega), if_neg (by omega), if_neg (by omega), if_neg (by omega), hk, Nat.add_sub_cancel]
theorem fld_get {ci k : Nat} {h : Hp} {a : Nat} (hk : k < nF ci) : (fldV ci h a)[k]? = some (if isRf ci k = true then va_rf (hP h a k) else .int (zI (hI h a k))) := by
  unfold fldV
  rw [List.getElem?_map, List.getElem?_range hk]
  rfl
theorem fld_len {ci : Nat} {h : Hp} {a : Nat} : (fldV ci h a).length = nF ci := by
  unfold fldV
  rw [List.length_map, List.length_range]
theorem Rel.at {h : Hp} {H : Heap} (hR : Rel s0 D cy h H) {a : Nat} (ha : a ∈ hD h) {E : va_E} (hE : cellE cy h a = E) : ∃ k : Nat, (va_pl (hD h) (cellE cy h))[k]? = some (a, cellE cy h a) ∧ (va_pl (hD h) (cellE cy h))[k]? = some (a, E) := by
  obtain ⟨k, hk⟩ := va_pl_get (X := []) (f := cellE cy h) ha
  rw [List.nil_append] at hk
  exact ⟨k, hk, by rw [← hE]; exact hk⟩
/-- one cell changed: the new plain heap -/
theorem Rel.upd {h h2 : Hp} {H H1 : Heap} (hR : Rel s0 D cy h H) {a k : Nat} {E : va_E} (ha : a ∈ hD h) (hk : (va_pl (hD h) (cellE cy h))[k]? = some (a, cellE cy h a)) (hD2 : hD h2 = hD h) (hE : cellE cy h2 a = E) (ho : ∀ b, b ≠ a → cellE cy h2 b = cellE cy h b)
    (P1 : va_P D vcl ((va_pl (hD h) (cellE cy h)).set k (a, E)) H1) (D1 : va_D (aB s0) ((va_pl (hD h) (cellE cy h)).set k (a, E))) {locs : List Loc} (hS : va_S (aB s0) s.heap H1 locs) (hs : s0.heap.size ≤ s.heap.size) (hb : ∀ q, q < s0.heap.size → s.heap[q]? = s0.heap[q]?) : Rel s0 D cy h2 H1 := by
  have e : (va_pl (hD h) (cellE cy h)).set k (a, E) = va_pl (hD h2) (cellE cy h2) := by
    have e1 := va_pl_set (A := aB s0) (X := []) (L := hD h) (f := cellE cy h) (a := a) (k := k) (e := E) (by rw [List.nil_append]; exact hR.2.1) ha (by rw [List.nil_append]; exact hk)
    rw [List.nil_append, List.nil_append] at e1
    rw [e1, show hD h2 = hD h from hD2]
    refine va_pl_congr fun b => ?_
    by_cases q : b = a
    · rw [q, va_up_self, hE]
    · rw [va_up_ne _ _ q, ho b q]
  rw [e] at P1 D1
  refine ⟨P1, D1, Nat.le_trans hs hS.1, fun q hq => ?_⟩
  rw [hS.2.1 q (Nat.lt_of_lt_of_le hq hs) (by show ¬ s0.heap.size ≤ q; omega)]
  exact hb q hq
/-- one cell more -/
theorem Rel.new {h h2 : Hp} {H1 : Heap} {q : Nat} {E : va_E} (hq : q ∉ hD h) (hD2 : hD h2 = hD h ++ [q]) (hE : cellE cy h2 q = E) (ho : ∀ b, b ≠ q → cellE cy h2 b = cellE cy h b)
    (P1 : va_P D vcl (va_pl (hD h) (cellE cy h) ++ [(q, E)]) H1) (D1 : va_D (aB s0) (va_pl (hD h) (cellE cy h) ++ [(q, E)])) {locs : List Loc} (hS : va_S (aB s0) s.heap H1 locs) (hs : s0.heap.size ≤ s.heap.size) (hb : ∀ q, q < s0.heap.size → s.heap[q]? = s0.heap[q]?) : Rel s0 D cy h2 H1 := by
  have e : va_pl (hD h) (cellE cy h) ++ [(q, E)] = va_pl (hD h2) (cellE cy h2) := by
    rw [va_pl_push hq, show hD h2 = hD h ++ [q] from hD2]
    refine va_pl_congr fun b => ?_
    by_cases z : b = q
    · rw [z, va_up_self, hE]
    · rw [va_up_ne _ _ z, ho b z]
  rw [e] at P1 D1
  refine ⟨P1, D1, Nat.le_trans hs hS.1, fun x hx => ?_⟩
  rw [hS.2.1 x (Nat.lt_of_lt_of_le hx hs) (by show ¬ s0.heap.size ≤ x; omega)]
  exact hb x hx
/-- a new cell's address is new -/
theorem fresh_of {h : Hp} {q : Nat} {E : va_E} (D1 : va_D (aB s0) (va_pl (hD h) (cellE cy h) ++ [(q, E)])) : q ∉ hD h := by
  intro hq
  obtain ⟨k, hk⟩ := va_pl_get (X := []) (f := cellE cy h) hq
  rw [List.nil_append] at hk
  have hl := (List.getElem?_eq_some_iff.mp hk).1
  have h1 : (va_pl (hD h) (cellE cy h) ++ [(q, E)])[k]? = some (q, cellE cy h q) := by rw [List.getElem?_append_left hl]; exact hk
  have h2 : (va_pl (hD h) (cellE cy h) ++ [(q, E)])[(va_pl (hD h) (cellE cy h)).length]? = some (q, E) := by simp
  have := D1.1 _ _ _ _ h1 h2 rfl
  omega
theorem cellE_wI_ne {h : Hp} {a b : Nat} {k v : Int} (hb : b ≠ a) : cellE cy (wI h a k v) b = cellE cy h b := by
  have e : ∀ j, hI (wI h a k v) b j = hI h b j := fun j => by show (if b = a ∧ j = k then v else _) = _; rw [if_neg (fun q => hb q.1)]; rfl
  unfold cellE
  simp only [show hK (wI h a k v) = hK h from rfl, show hN (wI h a k v) = hN h from rfl, show hP (wI h a k v) = hP h from rfl, fldV, e]
theorem cellE_wP_ne {h : Hp} {a b : Nat} {k : Int} {v : Option Nat} (hb : b ≠ a) : cellE cy (wP h a k v) b = cellE cy h b := by
  have e : ∀ j, hP (wP h a k v) b j = hP h b j := fun j => by show (if b = a ∧ j = k then v else _) = _; rw [if_neg (fun q => hb q.1)]; rfl
  unfold cellE
  simp only [show hK (wP h a k v) = hK h from rfl, show hN (wP h a k v) = hN h from rfl, show hI (wP h a k v) = hI h from rfl, fldV, e]
theorem cellE_new_ne {h : Hp} {a b kd n : Nat} (hb : b ≠ a) : cellE cy (hNew h a kd n) b = cellE cy h b := by
  have e1 : ∀ j, hP (hNew h a kd n) b j = hP h b j := fun j => by show (if b = a then none else _) = _; rw [if_neg hb]; rfl
  have e2 : ∀ j, hI (hNew h a kd n) b j = hI h b j := fun j => by show (if b = a then 0 else _) = _; rw [if_neg hb]; rfl
  have e3 : hK (hNew h a kd n) b = hK h b := by show (if b = a then kd else _) = _; rw [if_neg hb]; rfl
  have e4 : hN (hNew h a kd n) b = hN h b := by show (if b = a then n else _) = _; rw [if_neg hb]; rfl
  unfold cellE
  simp only [fldV, e1, e2, e3, e4]
theorem fld_setI {ci k : Nat} {h : Hp} {a : Nat} {x : Int} (hk : k < nF ci) (hr : isRf ci k = false) : fldV ci (wI h a k x) a = (fldV ci h a).set k (.int (zI x)) := by
  apply List.ext_getElem?
  intro j
  by_cases hj : j < nF ci
  · rw [fld_get hj]
    by_cases q : k = j
    · subst q
      rw [List.getElem?_set_self (by rw [fld_len]; exact hk), if_neg (by rw [hr]; decide)]
      show some (Value.int (zI (if a = a ∧ (k : Int) = k then x else _))) = _
      rw [if_pos ⟨rfl, rfl⟩]
    · rw [List.getElem?_set_ne q, fld_get hj]
      have : hI (wI h a k x) a j = hI h a j := by show (if a = a ∧ (j : Int) = k then x else _) = _; rw [if_neg (by omega)]; rfl
      rw [this]
      rfl
  · rw [List.getElem?_eq_none (by rw [fld_len]; omega), List.getElem?_eq_none (by rw [List.length_set, fld_len]; omega)]
theorem fld_setP {ci k : Nat} {h : Hp} {a : Nat} {r : Option Nat} (hk : k < nF ci) (hr : isRf ci k = true) : fldV ci (wP h a k r) a = (fldV ci h a).set k (va_rf r) := by
  apply List.ext_getElem?
  intro j
  by_cases hj : j < nF ci
  · rw [fld_get hj]
    by_cases q : k = j
    · subst q
      rw [List.getElem?_set_self (by rw [fld_len]; exact hk), if_pos hr]
      show some (va_rf (if a = a ∧ (k : Int) = k then r else _)) = _
      rw [if_pos ⟨rfl, rfl⟩]
    · rw [List.getElem?_set_ne q, fld_get hj]
      have : hP (wP h a k r) a j = hP h a j := by show (if a = a ∧ (j : Int) = k then r else _) = _; rw [if_neg (by omega)]; rfl
      rw [this]
      rfl
  · rw [List.getElem?_eq_none (by rw [fld_len]; omega), List.getElem?_eq_none (by rw [List.length_set, fld_len]; omega)]
theorem fL_same (C : Cx p l e s m meth c s0 a0 D cy gx M) {own : String} {ix ci k : Nat} (hf : fL own ix ci k) : ∃ ref, Cond.fieldLink own ix ref (fT ci k).2.1 (fT ci k).2.2.1 ∈ tb ∧ ∀ x, s.fieldFound? (fT ci k).1 (fT ci k).2.1 (fT ci k).2.2.1 = some x → s.fieldFound? ref (fT ci k).2.1 (fT ci k).2.2.1 = some x := by
  obtain ⟨-, -, ref, h1, h2⟩ := hf
  refine ⟨ref, h1, ?_⟩
  rcases h2 with h2 | h2
  · intro x hx; rw [h2]; exact hx
  · intro x hx; exact u_same (C.hts (args := #[]) _ h2) x hx
end SND
end
section
/-! ===== fields, new objects, casts ===== -/
section SND
variable {p : Program} {l : Launch} {e : Env} {R : Room} {s s0 : State} {m : MethodId} {args a0 : Array Value} {below : List Frame} {meth : Method} {c : Code} {Q : State → Prop} {D : va_G} {cy : Nat → ClassId} {gx : GX} {M : MI} {nL : Nat}

theorem inst_at {ci : Nat} (h : ci < 7) : Cond.instantiable (cNm ci) (nF ci) ∈ tb := by
  match ci, h with
  | 0, _ => exact tbm1 31 (by decide +kernel) (by decide +kernel)
  | 1, _ => exact tbm1 207 (by decide +kernel) (by decide +kernel)
  | 2, _ => exact tbm3 80 (by decide +kernel) (by decide +kernel)
  | 3, _ => exact tbm1 197 (by decide +kernel) (by decide +kernel)
  | 4, _ => exact tbm3 176 (by decide +kernel) (by decide +kernel)
  | 5, _ => exact tbm1 23 (by decide +kernel) (by decide +kernel)
  | 6, _ => exact tbm4 105 (by decide +kernel) (by decide +kernel)

theorem ini_at {ci : Nat} (h : ci < 7) : Cond.initialized (cNm ci) ∈ tb := by
  match ci, h with
  | 0, _ => exact tbm1 4 (by decide +kernel) (by decide +kernel)
  | 1, _ => exact tbm1 14 (by decide +kernel) (by decide +kernel)
  | 2, _ => exact tbm1 20 (by decide +kernel) (by decide +kernel)
  | 3, _ => exact tbm1 12 (by decide +kernel) (by decide +kernel)
  | 4, _ => exact tbm1 21 (by decide +kernel) (by decide +kernel)
  | 5, _ => exact tbm1 1 (by decide +kernel) (by decide +kernel)
  | 6, _ => exact tbm1 5 (by decide +kernel) (by decide +kernel)

theorem oi_at1 : Cond.instanceMethod Lib.objectInit ∈ tb := tbm1 28 (by decide +kernel) (by decide +kernel)
theorem oi_at2 : Cond.code Lib.objectInit ⟨#[0xb1]⟩ 1 none ∈ tb := tbm1 29 (by decide +kernel) (by decide +kernel)
theorem cat_le (v : AV) : catV v ≤ 2 := by
  rcases v with z | r | z
  · exact Nat.le_of_ble_eq_true rfl
  · exact Nat.le_of_ble_eq_true rfl
  · exact Nat.le_of_ble_eq_true rfl
theorem cat_sum : ∀ st : List AV, ((st.map tv).map fun v => v.category).sum ≤ 2 * st.length
  | [] => Nat.le_refl _
  | v :: t => by
    have h1 := cat_sum t
    have h2 := cat_le v
    simp only [List.map_cons, List.sum_cons, List.length_cons, tv_cat]
    omega

theorem dv_dec : ∀ ci, ci < 7 → ∀ k, k < nF ci → defaultValue (fY ci k) = (if isRf ci k = true then Value.null else Value.int 0) := by decide +kernel
theorem okP_n {ci k : Nat} {x : Int} (h : okP ci k x) : narrow (fY ci k) (.int (zI x)) = .int (zI x) ∧ fits (fY ci k) (.int (zI x)) = true := by
  rcases h with h | ⟨h, h1⟩
  · rw [h]; exact ⟨rfl, rfl⟩
  · rw [h]
    rcases h1 with rfl | rfl
    · exact ⟨rfl, rfl⟩
    · exact ⟨rfl, rfl⟩
theorem okP_r {ci k : Nat} {x : Int} (h : okP ci k x) : isRf ci k = false := by
  unfold isRf
  rcases h with h | ⟨h, h1⟩
  · rw [h]; rfl
  · rw [h]; rfl
theorem rf_n {ci k : Nat} (r : Option Nat) (h : isRf ci k = true) : narrow (fY ci k) (va_rf r) = va_rf r ∧ fits (fY ci k) (va_rf r) = true := by
  unfold isRf at h
  revert h
  cases fY ci k <;> intro h <;> first | (cases h; done) | (cases r <;> exact ⟨rfl, rfl⟩)
theorem cl4 (C : Cx p l e s m meth c s0 a0 D cy gx M) (hfr : 1 ≤ R.frames) (hlo : 24 ≤ R.locals) (hml : nL = M.2.2.1) : Cl4 gx M (JW p l e R s m args below meth c Q s0 D cy nL) := by
  obtain ⟨hx, hb, hmx, hown, hW, hsz, hbel, hlk, hnm, hret, htab⟩ := C.2
  have hts : ∀ w ∈ tb, w.before args s = true := C.hts
  have hKK := C.K
  have hA : ∀ q, s.heap.size ≤ q → aB s0 q := fun q h => Nat.le_trans hsz h
  refine ⟨?_, ?_, ?_, ?_, ?_, ?_, ?_, ?_⟩
  · intro pc ls st h c0 s1 ix ci k a hd hf hr ha hka kk H locs cells slots lsA hR hS hc hs hn hnl hl
    obtain ⟨ref, hl1, hsame⟩ := fL_same C hf
    obtain ⟨k0, e1, e2⟩ := hR.at ha (cellE_obj hka hf.1)
    exact va_get hx hb hts (in_at hf.1) hown hKK hR.1 k0 e2 (vcl_at hf.1) k hf.2.1 (hts _ hl1) hsame (v := .int (zI (hI h a k))) (by rw [fld_get hf.2.1, if_neg (by rw [hr]; decide)]) hd (kk H locs cells slots lsA hR hS hc hs hn hnl hl)
  · intro pc ls st h c0 s1 ix ci k a hd hf hr ha hka kk H locs cells slots lsA hR hS hc hs hn hnl hl
    obtain ⟨ref, hl1, hsame⟩ := fL_same C hf
    obtain ⟨k0, e1, e2⟩ := hR.at ha (cellE_obj hka hf.1)
    exact va_get hx hb hts (in_at hf.1) hown hKK hR.1 k0 e2 (vcl_at hf.1) k hf.2.1 (hts _ hl1) hsame (v := va_rf (hP h a k)) (by rw [fld_get hf.2.1, if_pos hr]) hd (kk H locs cells slots lsA hR hS hc hs hn hnl hl)
  · intro pc ls st h c0 s1 ix ci k a x hd hf hfi hok ha hka kk H locs cells slots lsA hR hS hc hs hn hnl hl
    obtain ⟨ref, hl1, hsame⟩ := fL_same C hf
    obtain ⟨k0, e1, e2⟩ := hR.at ha (cellE_obj hka hf.1)
    have q0 := fun (H1 : Heap) (locs1 : List Loc) (P1 : va_P D vcl ((va_pl (hD h) (cellE cy h)).set k0 (a, .inr (ci, (fldV ci h a).set k (.int (zI x))))) H1) (D1 : va_D (aB s0) ((va_pl (hD h) (cellE cy h)).set k0 (a, .inr (ci, (fldV ci h a).set k (.int (zI x)))))) (S1 : va_S (aB s0) s.heap H1 locs1) =>
      kk H1 locs1 cells slots lsA (hR.upd (h2 := wI h a k x) ha e1 rfl (by rw [cellE_obj (h := wI h a k x) hka hf.1, fld_setI hf.2.1 (okP_r hok)]) (fun b hb => cellE_wI_ne hb) P1 D1 S1 hsz hbel) S1 hc hs hn hnl hl
    rcases hfi with hfi | ⟨hfi, hini, hdc⟩
    · exact va_put hx hb hts (in_at hf.1) (fY ci) (ty_at hf.1) (nm_at hf.1) hown hKK hR.1 hR.2.1 hS k0 e2 (vcl_at hf.1) k hf.2.1 (hts _ hl1) hsame hfi (ty_at hf.1 k hf.2.1) (okP_n hok).1 (okP_n hok).2 (by rw [fld_len]; exact hf.2.1) hd q0
    · exact va_putF hx hb hts (in_at hf.1) (fY ci) (ty_at hf.1) (nm_at hf.1) hown hKK hR.1 hR.2.1 hS k0 e2 (vcl_at hf.1) k hf.2.1 (hts _ hl1) hsame hfi (hnm hini) hdc (ty_at hf.1 k hf.2.1) (okP_n hok).1 (okP_n hok).2 (by rw [fld_len]; exact hf.2.1) hd q0
  · intro pc ls st h c0 s1 ix ci k a r hd hf hfi hok ha hka kk H locs cells slots lsA hR hS hc hs hn hnl hl
    obtain ⟨ref, hl1, hsame⟩ := fL_same C hf
    obtain ⟨k0, e1, e2⟩ := hR.at ha (cellE_obj hka hf.1)
    have q0 := fun (H1 : Heap) (locs1 : List Loc) (P1 : va_P D vcl ((va_pl (hD h) (cellE cy h)).set k0 (a, .inr (ci, (fldV ci h a).set k (va_rf r)))) H1) (D1 : va_D (aB s0) ((va_pl (hD h) (cellE cy h)).set k0 (a, .inr (ci, (fldV ci h a).set k (va_rf r))))) (S1 : va_S (aB s0) s.heap H1 locs1) =>
      kk H1 locs1 cells slots lsA (hR.upd (h2 := wP h a k r) ha e1 rfl (by rw [cellE_obj (h := wP h a k r) hka hf.1, fld_setP hf.2.1 hok]) (fun b hb => cellE_wP_ne hb) P1 D1 S1 hsz hbel) S1 hc hs hn hnl hl
    rcases hfi with hfi | ⟨hfi, hini, hdc⟩
    · exact va_put hx hb hts (in_at hf.1) (fY ci) (ty_at hf.1) (nm_at hf.1) hown hKK hR.1 hR.2.1 hS k0 e2 (vcl_at hf.1) k hf.2.1 (hts _ hl1) hsame hfi (ty_at hf.1 k hf.2.1) (rf_n r hok).1 (rf_n r hok).2 (by rw [fld_len]; exact hf.2.1) hd q0
    · exact va_putF hx hb hts (in_at hf.1) (fY ci) (ty_at hf.1) (nm_at hf.1) hown hKK hR.1 hR.2.1 hS k0 e2 (vcl_at hf.1) k hf.2.1 (hts _ hl1) hsame hfi (hnm hini) hdc (ty_at hf.1 k hf.2.1) (rf_n r hok).1 (rf_n r hok).2 (by rw [fld_len]; exact hf.2.1) hd q0
  · intro pc ls st h c0 s1 ix hd hw kk H locs cells slots lsA hR hS hc hs hn hnl hl
    exact va_gets hx hb (v := .ref gx.1) (((C.1.2.2.2.1).moved hW.alike).kept (fun a ha hn => hbel a ha)) hS hown (hts _ hw) (fun _ q => q) hd (kk H locs cells slots lsA hR hS hc hs hn hnl hl)
  · intro pc ls st h c0 s1 ix ci hd hci hw h1 h2 kk H locs cells slots lsA hR hS hc hs hn hnl hl
    refine va_new (fs := (List.range (nF ci)).map (fun k => if isRf ci k = true then Value.null else Value.int 0)) hx hb hts (in_at hci) (fY ci) (ty_at hci) hown (hts _ hw) (hts _ (inst_at hci)) (hts _ (ini_at hci)) hKK hR.1 hR.2.1 hS hA (vcl_at hci) (fun j hj => ?_) (by omega) (by omega) hd (fun q H1 P1 D1 S1 => ?_)
    · rw [dv_dec ci hci j hj]
      unfold vp_V
      rw [List.getD_eq_getElem?_getD, List.getElem?_map, List.getElem?_range hj]
      rfl
    · refine kk q (fresh_of D1) H1 locs (cells + 1) (slots + nF ci) lsA (Rel.new (h := h) (fresh_of D1) rfl ?_ (fun b hb => cellE_new_ne hb) P1 D1 S1 hsz hbel) S1 (by omega) (by omega) hn hnl hl
      have hkq : hK (hNew h q (ci + 1) (nF ci)) q = ci + 1 := by show (if q = q then ci + 1 else _) = _; rw [if_pos rfl]
      rw [cellE_obj hkq hci]
      unfold fldV
      have e : ∀ k : Nat, (if isRf ci k = true then va_rf (hP (hNew h q (ci + 1) (nF ci)) q k) else Value.int (zI (hI (hNew h q (ci + 1) (nF ci)) q k))) = (if isRf ci k = true then Value.null else Value.int 0) := by
        intro k
        have e1 : hP (hNew h q (ci + 1) (nF ci)) q k = none := by show (if q = q then none else _) = _; rw [if_pos rfl]
        have e2 : hI (hNew h q (ci + 1) (nF ci)) q k = 0 := by show (if q = q then (0 : Int) else _) = _; rw [if_pos rfl]
        rw [e1, e2]
        rfl
      simp only [e]
  · intro pc ls st h c0 s1 ix ci a hd hci hw ha hka kk H locs cells slots lsA hR hS hc hs hn hnl hl
    obtain ⟨k0, e1, e2⟩ := hR.at ha (cellE_obj hka hci)
    exact va_castS hx hb hown (hts _ hw) (hKK.1 ci _ (vcl_at hci)).2 (va_recv hKK hR.1 (vcl_at hci) e2) hd (kk H locs cells slots lsA hR hS hc hs hn hnl hl)
  · intro pc ls st h c0 s1 ix a hd hw hst kk H locs cells slots lsA hR hS hc hs hn hnl hl
    refine W.objInit hx hb hown (hts _ hw) (hts _ oi_at1) (hts _ oi_at2) rfl (by rw [hmx, ← hml]; exact hl.1) rfl hd hfr ?_ (kk H locs cells slots lsA hR hS hc hs hn hnl hl)
    have := cat_sum st
    show 2 * 0 + ((st.map tv).map fun v => v.category).sum + 12 ≤ R.locals
    omega
end SND
end
section
/-! ===== arrays ===== -/
theorem ac_int : Cond.arrayClass .int ∈ tb := tbm1 233 (by decide +kernel) (by decide +kernel)
theorem ac_boolean : Cond.arrayClass .boolean ∈ tb := tbm4 192 (by decide +kernel) (by decide +kernel)
theorem ac_long : Cond.arrayClass .long ∈ tb := tbm5 231 (by decide +kernel) (by decide +kernel)
theorem ao_obj : Cond.arrayOver (.object "java/lang/Object") ∈ lw_tbl := tbl2 73 (by decide +kernel)
theorem ao_copy : Cond.arrayOver (.object RX0) ∈ lw_tbl := tbl1 206 (by decide +kernel)
section SND
variable {p : Program} {l : Launch} {e : Env} {R : Room} {s s0 : State} {m : MethodId} {args a0 : Array Value} {below : List Frame} {meth : Method} {c : Code} {Q : State → Prop} {D : va_G} {cy : Nat → ClassId} {gx : GX} {M : MI} {nL : Nat}
theorem cellE_10 {h : Hp} {a : Nat} (hk : hK h a = 10) : cellE cy h a = .inl (cy 0, hN h a, .inl (fun j => zI (hI h a j))) := by
  unfold cellE; rw [if_pos hk]
theorem cellE_11 {h : Hp} {a : Nat} (hk : hK h a = 11) : cellE cy h a = .inl (cy 1, hN h a, .inl (fun j => zI (hI h a j))) := by
  unfold cellE; rw [if_neg (by omega), if_pos hk]
theorem cellE_12 {h : Hp} {a : Nat} (hk : hK h a = 12) : cellE cy h a = .inl (cy 2, hN h a, .inr (.inl (fun j => Int64.ofInt (hI h a j)))) := by
  unfold cellE; rw [if_neg (by omega), if_neg (by omega), if_pos hk]
theorem cellE_13 {h : Hp} {a : Nat} (hk : hK h a = 13) : cellE cy h a = .inl (cy 3, hN h a, .inr (.inr (.inr (.inr (fun j => hP h a j))))) := by
  unfold cellE; rw [if_neg (by omega), if_neg (by omega), if_neg (by omega), if_pos hk]
theorem cellE_14 {h : Hp} {a : Nat} (hk : hK h a = 14) : cellE cy h a = .inl (cy 4, hN h a, .inr (.inr (.inr (.inr (fun j => hP h a j))))) := by
  unfold cellE; rw [if_neg (by omega), if_neg (by omega), if_neg (by omega), if_neg (by omega), if_pos hk]
theorem zI_ix {i : Int} (h0 : 0 ≤ i) (h : i < 2147483648) : (((zI i).toNatClampNeg : Nat) : Int) = i := by
  rw [zI_cl h0 h]; exact Int.toNat_of_nonneg h0
theorem updE (f : Int → Int) {i : Int} (x : Int) (h0 : 0 ≤ i) (h : i < 2147483648) : (fun j : Nat => zI (if (j : Int) = i then x else f j)) = upd (fun j => zI (f j)) (zI i).toNatClampNeg (zI x) := by
  funext j
  show _ = (if j = (zI i).toNatClampNeg then zI x else zI (f j))
  have e := zI_ix h0 h
  by_cases q : (j : Int) = i
  · rw [if_pos q, if_pos (by omega)]
  · rw [if_neg q, if_neg (by omega)]
theorem updEL (f : Int → Int) {i : Int} (x : Int) (h0 : 0 ≤ i) (h : i < 2147483648) : (fun j : Nat => Int64.ofInt (if (j : Int) = i then x else f j)) = vp_updL (fun j => Int64.ofInt (f j)) (zI i).toNatClampNeg (Int64.ofInt x) := by
  funext j
  show _ = (if j = (zI i).toNatClampNeg then Int64.ofInt x else Int64.ofInt (f j))
  have e := zI_ix h0 h
  by_cases q : (j : Int) = i
  · rw [if_pos q, if_pos (by omega)]
  · rw [if_neg q, if_neg (by omega)]
theorem updEP (f : Int → Option Nat) {i : Int} (x : Option Nat) (h0 : 0 ≤ i) (h : i < 2147483648) : (fun j : Nat => (if (j : Int) = i then x else f j)) = va_up (fun j => f j) (zI i).toNatClampNeg x := by
  funext j
  show _ = (if j = (zI i).toNatClampNeg then x else f j)
  have e := zI_ix h0 h
  by_cases q : (j : Int) = i
  · rw [if_pos q, if_pos (by omega)]
  · rw [if_neg q, if_neg (by omega)]
theorem hI_wI_self {h : Hp} {a : Nat} {i x : Int} (j : Int) : hI (wI h a i x) a j = if j = i then x else hI h a j := by
  show (if a = a ∧ j = i then x else _) = _
  by_cases q : j = i
  · rw [if_pos ⟨rfl, q⟩, if_pos q]
  · rw [if_neg (fun z => q z.2), if_neg q]; rfl
theorem hP_wP_self {h : Hp} {a : Nat} {i : Int} {x : Option Nat} (j : Int) : hP (wP h a i x) a j = if j = i then x else hP h a j := by
  show (if a = a ∧ j = i then x else _) = _
  by_cases q : j = i
  · rw [if_pos ⟨rfl, q⟩, if_pos q]
  · rw [if_neg (fun z => q z.2), if_neg q]; rfl
theorem cy_prim {cA : ClassId} {ty : FieldType} {t0 : Nat} (hKK : va_K D vcl (tysOf cy) s) (h0 : (tysOf cy)[t0]? = some (cy t0, ty)) (hK1 : va_K D vcl (tysOf cy ++ [(cA, ty)]) s) : cA = cy t0 := by
  have h1 : va_RA s cA ty := (hK1.2 5 (cA, ty) rfl).2
  have h2 : va_RA s (cy t0) ty := (hKK.2 t0 _ h0).2
  cases ty with
  | object C =>
    obtain ⟨_, _, -, -, -, q1⟩ := h1
    obtain ⟨_, _, -, -, -, q2⟩ := h2
    exact Option.some.inj (q1.symm.trans q2)
  | _ => exact Option.some.inj ((show s.vm.findClass _ = some cA from h1).symm.trans (show s.vm.findClass _ = some (cy t0) from h2))
theorem kNew {h : Hp} {q kd n : Nat} : hK (hNew h q kd n) q = kd := by show (if q = q then kd else _) = _; rw [if_pos rfl]
theorem nNew {h : Hp} {q kd n : Nat} : hN (hNew h q kd n) q = n := by show (if q = q then n else _) = _; rw [if_pos rfl]
theorem iNew {h : Hp} {q kd n : Nat} (j : Int) : hI (hNew h q kd n) q j = 0 := by show (if q = q then (0 : Int) else _) = _; rw [if_pos rfl]
theorem pNew {h : Hp} {q kd n : Nat} (j : Int) : hP (hNew h q kd n) q j = none := by show (if q = q then none else _) = _; rw [if_pos rfl]
theorem cl5 (C : Cx p l e s m meth c s0 a0 D cy gx M) : Cl5 gx M (JW p l e R s m args below meth c Q s0 D cy nL) := by
  obtain ⟨hx, hb, hmx, hown, hW, hsz, hbel, hlk, hnm, hret, htab⟩ := C.2
  have hts : ∀ w ∈ tb, w.before args s = true := C.hts
  have hKK := C.K
  have hA : ∀ q, s.heap.size ≤ q → aB s0 q := fun q h => Nat.le_trans hsz h
  obtain ⟨-, hlw, -, -, hT0, hX0, hbl0, hL0, -⟩ := C.1
  have hT : va_T (.object "java/lang/Object") gx.1 0 (fun _ => .null) (aB s0) s s.heap := (hT0.moved hW.alike).kept (fun a ha hn => hbel a ha)
  have hX : va_X gx.2.1 gx.2.2.1 (fun j => zI (gx.2.2.2 j)) s s.heap := (hX0.moved hW.alike).kept (hbel _ hbl0)
  have hbl : gx.2.1 < s.heap.size := Nat.lt_of_lt_of_le hbl0 hsz
  have hbA : ¬ aB s0 gx.2.1 := Nat.not_le.mpr hbl0
  refine ⟨?_, ?_, ?_, ?_, ?_, ?_, ?_, ?_, ?_, ?_, ?_, ?_, ?_, ?_, ?_, ?_, ?_, ?_, ?_⟩
  · intro pc ls st h c0 s1 a hd ha h1 h2 kk H locs cells slots lsA hR hS hc hs hn hnl hl
    have hk5 : hK h a = 10 ∨ hK h a = 11 ∨ hK h a = 12 ∨ hK h a = 13 ∨ hK h a = 14 := by omega
    rcases hk5 with hk | hk | hk | hk | hk
    · obtain ⟨k0, e1, e2⟩ := hR.at ha (cellE_10 hk)
      exact va_alen hx hb hKK hR.1 k0 0 e2 rfl (v := zI (hN h a)) (zI_nI _).symm hd (kk H locs cells slots lsA hR hS hc hs hn hnl hl)
    · obtain ⟨k0, e1, e2⟩ := hR.at ha (cellE_11 hk)
      exact va_alen hx hb hKK hR.1 k0 1 e2 rfl (v := zI (hN h a)) (zI_nI _).symm hd (kk H locs cells slots lsA hR hS hc hs hn hnl hl)
    · obtain ⟨k0, e1, e2⟩ := hR.at ha (cellE_12 hk)
      exact va_alen hx hb hKK hR.1 k0 2 e2 rfl (v := zI (hN h a)) (zI_nI _).symm hd (kk H locs cells slots lsA hR hS hc hs hn hnl hl)
    · obtain ⟨k0, e1, e2⟩ := hR.at ha (cellE_13 hk)
      exact va_alen hx hb hKK hR.1 k0 3 e2 rfl (v := zI (hN h a)) (zI_nI _).symm hd (kk H locs cells slots lsA hR hS hc hs hn hnl hl)
    · obtain ⟨k0, e1, e2⟩ := hR.at ha (cellE_14 hk)
      exact va_alen hx hb hKK hR.1 k0 4 e2 rfl (v := zI (hN h a)) (zI_nI _).symm hd (kk H locs cells slots lsA hR hS hc hs hn hnl hl)
  · intro pc ls st h c0 s1 hd kk H locs cells slots lsA hR hS hc hs hn hnl hl
    exact va_tlen hx hb hT hS (v := zI 0) rfl hd (kk H locs cells slots lsA hR hS hc hs hn hnl hl)
  · intro pc ls st h c0 s1 hd kk H locs cells slots lsA hR hS hc hs hn hnl hl
    have q := kk H locs cells slots lsA hR hS hc hs hn hnl hl
    refine va_slen hx hb hX hbl hbA hS hd ?_
    rw [show Int32.ofNat gx.2.2.1 = zI (gx.2.2.1 : Int) from (zI_nI _).symm]
    exact q
  · intro pc ls st h c0 s1 a i hd ha hk h0 h1 h2 kk H locs cells slots lsA hR hS hc hs hn hnl hl
    obtain ⟨k0, e1, e2⟩ := hR.at ha (cellE_10 hk)
    have q := kk H locs cells slots lsA hR hS hc hs hn hnl hl
    have ei := zI_ix h0 h2
    rw [← ei] at q
    exact va_iald hx hb hKK hR.1 k0 0 e2 rfl (zI_vp h0 h2 h1) hd q
  · intro pc ls st h c0 s1 i hd h0 h1 h2 kk H locs cells slots lsA hR hS hc hs hn hnl hl
    have q := kk H locs cells slots lsA hR hS hc hs hn hnl hl
    refine va_sld hx hb hX hbl hbA hS (zI_vp h0 h2 h1) hd ?_
    rw [zI_cl h0 h2]
    exact q
  · intro pc ls st h c0 s1 a i hd ha hk h0 h1 h2 kk H locs cells slots lsA hR hS hc hs hn hnl hl
    obtain ⟨k0, e1, e2⟩ := hR.at ha (cellE_11 hk)
    have q := kk H locs cells slots lsA hR hS hc hs hn hnl hl
    have ei := zI_ix h0 h2
    rw [← ei] at q
    exact va_zald hx hb hKK hR.1 k0 1 e2 rfl (zI_vp h0 h2 h1) hd q
  · intro pc ls st h c0 s1 a i hd ha hk h0 h1 h2 kk H locs cells slots lsA hR hS hc hs hn hnl hl
    obtain ⟨k0, e1, e2⟩ := hR.at ha (cellE_12 hk)
    have q := kk H locs cells slots lsA hR hS hc hs hn hnl hl
    have ei := zI_ix h0 h2
    rw [← ei] at q
    exact va_lald hx hb hKK hR.1 k0 2 e2 rfl (zI_vp h0 h2 h1) hd q
  · intro pc ls st h c0 s1 a i hd ha hk h0 h1 h2 kk H locs cells slots lsA hR hS hc hs hn hnl hl
    have q := kk H locs cells slots lsA hR hS hc hs hn hnl hl
    have ei := zI_ix h0 h2
    rw [← ei] at q
    rcases hk with hk | hk
    · obtain ⟨k0, e1, e2⟩ := hR.at ha (cellE_13 hk)
      exact va_aldq hx hb hKK hR.1 k0 3 e2 rfl (zI_vp h0 h2 h1) hd q
    · obtain ⟨k0, e1, e2⟩ := hR.at ha (cellE_14 hk)
      exact va_aldq hx hb hKK hR.1 k0 4 e2 rfl (zI_vp h0 h2 h1) hd q
  · intro pc ls st h c0 s1 a i x hd ha hk h0 h1 h2 kk H locs cells slots lsA hR hS hc hs hn hnl hl
    obtain ⟨k0, e1, e2⟩ := hR.at ha (cellE_10 hk)
    refine va_iast hx hb hKK hR.1 hR.2.1 hS k0 0 e2 rfl (zI_vp h0 h2 h1) hd (fun H1 locs1 P1 D1 S1 => kk H1 locs1 cells slots lsA (hR.upd (h2 := wI h a i x) ha e1 rfl ?_ (fun b hb => cellE_wI_ne hb) P1 D1 S1 hsz hbel) S1 hc hs hn hnl hl)
    rw [cellE_10 (h := wI h a i x) hk]
    simp only [hI_wI_self]
    rw [updE (fun j => hI h a j) x h0 h2]; rfl
  · intro pc ls st h c0 s1 a i x hd ha hk h0 h1 h2 hx01 kk H locs cells slots lsA hR hS hc hs hn hnl hl
    obtain ⟨k0, e1, e2⟩ := hR.at ha (cellE_11 hk)
    refine va_zast hx hb hKK hR.1 hR.2.1 hS k0 1 e2 rfl (zI_vp h0 h2 h1) hd (fun H1 locs1 P1 D1 S1 => kk H1 locs1 cells slots lsA (hR.upd (h2 := wI h a i x) ha e1 rfl ?_ (fun b hb => cellE_wI_ne hb) P1 D1 S1 hsz hbel) S1 hc hs hn hnl hl)
    rw [cellE_11 (h := wI h a i x) hk]
    simp only [hI_wI_self]
    have ez : vp_nar .boolean (zI x) = zI x := by
      rcases hx01 with rfl | rfl
      · rfl
      · rfl
    rw [updE (fun j => hI h a j) x h0 h2, ez]; rfl
  · intro pc ls st h c0 s1 a i x hd ha hk h0 h1 h2 kk H locs cells slots lsA hR hS hc hs hn hnl hl
    obtain ⟨k0, e1, e2⟩ := hR.at ha (cellE_12 hk)
    refine va_last hx hb hKK hR.1 hR.2.1 hS k0 2 e2 rfl (zI_vp h0 h2 h1) hd (fun H1 locs1 P1 D1 S1 => kk H1 locs1 cells slots lsA (hR.upd (h2 := wI h a i x) ha e1 rfl ?_ (fun b hb => cellE_wI_ne hb) P1 D1 S1 hsz hbel) S1 hc hs hn hnl hl)
    rw [cellE_12 (h := wI h a i x) hk]
    simp only [hI_wI_self]
    rw [updEL (fun j => hI h a j) x h0 h2]; rfl
  · intro pc ls st h c0 s1 a v ci i hd ha hk h0 h1 h2 hv hkv hci hcast kk H locs cells slots lsA hR hS hc hs hn hnl hl
    obtain ⟨k0, e1, e2⟩ := hR.at ha (cellE_13 hk)
    obtain ⟨k1, e3, e4⟩ := hR.at hv (cellE_obj hkv hci)
    refine va_astqO hx hb hKK hR.1 hR.2.1 hS k0 3 k1 ci e2 rfl (C.hts (args := #[]) _ hcast) e4 (vcl_at hci) (zI_vp h0 h2 h1) hd (fun H1 locs1 P1 D1 S1 => kk H1 locs1 cells slots lsA (hR.upd (h2 := wP h a i (some v)) ha e1 rfl ?_ (fun b hb => cellE_wP_ne hb) P1 D1 S1 hsz hbel) S1 hc hs hn hnl hl)
    rw [cellE_13 (h := wP h a i (some v)) hk]
    simp only [hP_wP_self]
    rw [updEP (fun j => hP h a j) (some v) h0 h2]; rfl
  · intro pc ls st h c0 s1 a i hd ha hk h0 h1 h2 kk H locs cells slots lsA hR hS hc hs hn hnl hl
    obtain ⟨k0, e1, e2⟩ := hR.at ha (cellE_13 hk)
    refine va_astqN hx hb hKK hR.1 hR.2.1 hS k0 3 e2 rfl (zI_vp h0 h2 h1) hd (fun H1 locs1 P1 D1 S1 => kk H1 locs1 cells slots lsA (hR.upd (h2 := wP h a i none) ha e1 rfl ?_ (fun b hb => cellE_wP_ne hb) P1 D1 S1 hsz hbel) S1 hc hs hn hnl hl)
    rw [cellE_13 (h := wP h a i none) hk]
    simp only [hP_wP_self]
    rw [updEP (fun j => hP h a j) none h0 h2]; rfl
  · intro pc ls st h c0 s1 a v i hd ha hk h0 h1 h2 hv hkv kk H locs cells slots lsA hR hS hc hs hn hnl hl
    obtain ⟨k0, e1, e2⟩ := hR.at ha (cellE_14 hk)
    obtain ⟨k1, e3, e4⟩ := hR.at hv (cellE_obj (ci := 1) hkv (by omega))
    refine va_astq hx hb hKK hR.1 hR.2.1 hS k0 4 k1 1 (r := (RX0, TX0, 5)) e2 rfl e4 rfl (zI_vp h0 h2 h1) hd (fun H1 locs1 P1 D1 S1 => kk H1 locs1 cells slots lsA (hR.upd (h2 := wP h a i (some v)) ha e1 rfl ?_ (fun b hb => cellE_wP_ne hb) P1 D1 S1 hsz hbel) S1 hc hs hn hnl hl)
    rw [cellE_14 (h := wP h a i (some v)) hk]
    simp only [hP_wP_self]
    rw [updEP (fun j => hP h a j) (some v) h0 h2]; rfl
  · intro pc ls st h c0 s1 n hd h0 h1 h2 h3 kk H locs cells slots lsA hR hS hc hs hn hnl hl
    refine va_newa (atype := .int) hx hb (hts _ ac_int) (ty := .int) rfl hKK hR.1 hR.2.1 hS hA (N' := n.toNat) (a0 := (n.toNat, .inl (fun _ => 0))) (fun cA => rfl) (by rw [zI_0, zI_lt ⟨by omega, by omega⟩ inR0]; omega) (zI_cl h0 (by omega)) (by show n.toNat * 4 ≤ _; omega) (by omega) (by omega) hd (fun q cA H1 K1 P1 D1 S1 => ?_)
    have hcA := cy_prim (t0 := 0) hKK rfl K1
    refine kk q (fresh_of D1) H1 locs (cells + 1) (slots + n.toNat) lsA (Rel.new (h := h) (fresh_of D1) rfl ?_ (fun b hb => cellE_new_ne hb) P1 D1 S1 hsz hbel) S1 (by omega) (by omega) hn hnl hl
    rw [cellE_10 kNew, nNew, hcA]
    simp only [iNew]
    rfl
  · intro pc ls st h c0 s1 n hd h0 h1 h2 h3 kk H locs cells slots lsA hR hS hc hs hn hnl hl
    refine va_newa (atype := .boolean) hx hb (hts _ ac_boolean) (ty := .boolean) rfl hKK hR.1 hR.2.1 hS hA (N' := n.toNat) (a0 := (n.toNat, .inl (fun _ => 0))) (fun cA => rfl) (by rw [zI_0, zI_lt ⟨by omega, by omega⟩ inR0]; omega) (zI_cl h0 (by omega)) (by show n.toNat * 1 ≤ _; omega) (by omega) (by omega) hd (fun q cA H1 K1 P1 D1 S1 => ?_)
    have hcA := cy_prim (t0 := 1) hKK rfl K1
    refine kk q (fresh_of D1) H1 locs (cells + 1) (slots + n.toNat) lsA (Rel.new (h := h) (fresh_of D1) rfl ?_ (fun b hb => cellE_new_ne hb) P1 D1 S1 hsz hbel) S1 (by omega) (by omega) hn hnl hl
    rw [cellE_11 kNew, nNew, hcA]
    simp only [iNew]
    rfl
  · intro pc ls st h c0 s1 n hd h0 h1 h2 h3 kk H locs cells slots lsA hR hS hc hs hn hnl hl
    refine va_newa (atype := .long) hx hb (hts _ ac_long) (ty := .long) rfl hKK hR.1 hR.2.1 hS hA (N' := n.toNat) (a0 := (n.toNat, .inr (.inl (fun _ => 0)))) (fun cA => rfl) (by rw [zI_0, zI_lt ⟨by omega, by omega⟩ inR0]; omega) (zI_cl h0 (by omega)) (by show n.toNat * 8 ≤ _; omega) (by omega) (by omega) hd (fun q cA H1 K1 P1 D1 S1 => ?_)
    have hcA := cy_prim (t0 := 2) hKK rfl K1
    refine kk q (fresh_of D1) H1 locs (cells + 1) (slots + n.toNat) lsA (Rel.new (h := h) (fresh_of D1) rfl ?_ (fun b hb => cellE_new_ne hb) P1 D1 S1 hsz hbel) S1 (by omega) (by omega) hn hnl hl
    rw [cellE_12 kNew, nNew, hcA]
    simp only [iNew]
    rfl
  · intro pc ls st h c0 s1 ix n hd hw h0 h1 h2 h3 kk H locs cells slots lsA hR hS hc hs hn hnl hl
    refine va_newq hx hb hown (hts _ hw) (((va_AO.of (hlw _ ao_obj) : va_AO "java/lang/Object" s0)).moved hW.alike) hKK hR.1 hR.2.1 hS hA (N' := n.toNat) (by rw [zI_0, zI_lt ⟨by omega, by omega⟩ inR0]; omega) (zI_cl h0 (by omega)) (by omega) (by omega) (by omega) hd (fun q cA H1 K1 P1 D1 S1 => ?_)
    have hcA := cy_prim (t0 := 3) hKK rfl K1
    refine kk q (fresh_of D1) H1 locs (cells + 1) (slots + n.toNat) lsA (Rel.new (h := h) (fresh_of D1) rfl ?_ (fun b hb => cellE_new_ne hb) P1 D1 S1 hsz hbel) S1 (by omega) (by omega) hn hnl hl
    rw [cellE_13 kNew, nNew, hcA]
    simp only [pNew]
  · intro pc ls st h c0 s1 ix n hd hw h0 h1 h2 h3 kk H locs cells slots lsA hR hS hc hs hn hnl hl
    refine va_newq hx hb hown (hts _ hw) (((va_AO.of (hlw _ ao_copy) : va_AO RX0 s0)).moved hW.alike) hKK hR.1 hR.2.1 hS hA (N' := n.toNat) (by rw [zI_0, zI_lt ⟨by omega, by omega⟩ inR0]; omega) (zI_cl h0 (by omega)) (by omega) (by omega) (by omega) hd (fun q cA H1 K1 P1 D1 S1 => ?_)
    have hcA := cy_prim (t0 := 4) hKK rfl K1
    refine kk q (fresh_of D1) H1 locs (cells + 1) (slots + n.toNat) lsA (Rel.new (h := h) (fresh_of D1) rfl ?_ (fun b hb => cellE_new_ne hb) P1 D1 S1 hsz hbel) S1 (by omega) (by omega) hn hnl hl
    rw [cellE_14 kNew, nNew, hcA]
    simp only [pNew]
end SND
end
section
/-! ===== calls ===== -/
section SND
variable {p : Program} {l : Launch} {e : Env} {R : Room} {s s0 : State} {m : MethodId} {args a0 : Array Value} {below : List Frame} {meth : Method} {c : Code} {Q : State → Prop} {D : va_G} {cy : Nat → ClassId} {gx : GX} {M : MI} {nL : Nat}
def PcA (s0 : State) (D : va_G) (cy : Nat → ClassId) (As : List AV) (h : Hp) : Array Value → State → Prop := fun v U => v = (As.map tv).toArray ∧ s0.WarmedH U.vm ∧ Rel s0 D cy h U.heap
def QcA (s0 : State) (D : va_G) (cy : Nat → ClassId) (Qr : Option AV → Hp → Prop) : Array Value → State → Outcome → State → Prop := fun _ st o t => ∃ (v : Option AV) (h : Hp), o = .returned (v.map tv) ∧ Qr v h ∧ Rel s0 D cy h t.heap ∧ va_F (aB s0) st t
def XCA (s0 : State) (D : va_G) (cy : Nat → ClassId) (Qx : String → Hp → Prop) : String → State → State → Prop := fun E st t => ∃ h : Hp, Qx E h ∧ Rel s0 D cy h t.heap ∧ va_F (aB s0) st t
abbrev rmD (d c1 s1 : Nat) : Room := { frames := d, cells := c1, slots := s1, locals := 41 * d }
/-- what a method's plain run says of the machine, at depth d -/
def Snd (l : Launch) (s0 : State) (D : va_G) (cy : Nat → ClassId) (gx : GX) (d : Nat) : Prop := ∀ (N : MI) (As : List AV) (h : Hp) (c1 s1 : Nat) (Qr : Option AV → Hp → Prop) (Qx : String → Hp → Prop), okM N → As.length ≤ N.2.2.1 → noLong (As.map some) → aM gx d N As h c1 s1 Qr Qx →
  vx_Met l N.1 [mW N] (rmD d c1 s1) (PcA s0 D cy As h) (QcA s0 D cy Qr) (XCA s0 D cy Qx) c1 s1 (aB s0)
theorem pc_blind {As : List AV} {h : Hp} : FrameBlind (PcA s0 D cy As h) := fun _ _ _ _ q => q
theorem call_go {H : Heap} {locs : List Loc} {cells slots mc ms : Nat} {pc : Nat} {lsA : Array Slot} {st0 rest : List Value} {a : Array Value} {Qr : Option AV → Hp → Prop} {Qx : String → Hp → Prop}
    (hr : vx_Run p l e R s m args below meth c H locs cells slots mc ms (F0 m pc lsA st0) rest (QcA s0 D cy Qr a) (XCA s0 D cy Qx) (aB s0)) (hS : va_S (aB s0) s.heap H locs)
    (kx : ∀ (E : String) (ce : Cell) (q9 : Addr) (h' : Hp) (H1 : Heap) (locs1 : List Loc), Qx E h' → Rel s0 D cy h' H1 → va_S (aB s0) s.heap H1 locs1 → H1[q9]? = some ce → ce.vm = .none → s.vm.findClass E = some ce.cls → vx_W p l e R s m args below meth c H1 locs1 (cells + mc) (slots + ms) Q (F0 m pc lsA rest) q9)
    (kk : ∀ (v : Option AV) (h' : Hp) (H1 : Heap) (locs1 : List Loc), Qr v h' → Rel s0 D cy h' H1 → va_S (aB s0) s.heap H1 locs1 → W p l e R s m args below meth c H1 locs1 (cells + mc) (slots + ms) Q (F0 m (pc + 3) lsA ((v.map tv).toList ++ rest))) :
    W p l e R s m args below meth c H locs cells slots Q (F0 m pc lsA st0) := by
  intro T hT X
  rcases hr T hT X with ⟨v, st₀, t, T', L, h0, X', hL, e1, e2, ⟨w, h', hv, hq, hrl, hF⟩, st⟩ | ⟨q, st₀, t, T', L, E, ce, h0, X', hL, e1, e2, ⟨h', hq, hrl, hF⟩, hce, hcv, hcl, st⟩
  · cases hv
    obtain ⟨k1, k2, k3⟩ := vx_keep h0 e1 hS (fun q _ h => h) (fun q h => h) hL hF
    obtain ⟨t2, a1, b1⟩ := kk w h' T'.heap (locs ++ L) hq (by rw [e1]; exact hrl) k3 T' rfl X'
    exact ⟨t2, st t2 a1, b1⟩
  · obtain ⟨k1, k2, k3⟩ := vx_keep h0 e1 hS (fun q _ h => h) (fun q h => h) hL hF
    obtain ⟨t2, a1, b1⟩ := kx E ce q h' T'.heap (locs ++ L) hq (by rw [e1]; exact hrl) k3 (by rw [e1]; exact hce) hcv hcl T' rfl X'
    exact ⟨t2, st.trans a1, b1⟩
theorem mW_none {N : MI} (h : N.2.2.2.2 = none) : mW N = .code N.1 N.2.1 N.2.2.1 N.2.2.2.1 := by
  unfold mW; rw [h]
theorem cw_b {N : MI} {own : String} {ix n d c1 s1 : Nat} {R' : Room} (hts : ∀ w ∈ tb, w.before args s = true) (hok : okM N) (hno : N.2.2.2.2 = none) (hl : Cond.methodLink own ix N.1 ∈ tb) (hds : (parseMethodDescriptor N.1.desc).map (fun d => d.parameters.length) = some n) (hf : d + 1 ≤ R'.frames) (hlo : 41 * (d + 1) ≤ R'.locals) :
    CallB R' s args own ix N.1 N.2.1 N.2.2.1 N.2.2.2.1 [mW N] (rmD d c1 s1) c1 s1 n := by
  obtain ⟨h1, h2, h3, h4, h5⟩ := hok
  have hw := mW_none hno
  refine ⟨rfl, rfl, hf, (by show 8 + (N.2.2.1 + 11) + 41 * d ≤ R'.locals; omega), ?_, ?_, ?_, hts _ h3, h4, ?_, hts _ hl⟩
  · intro w hm a' U hW
    rw [List.mem_singleton.mp hm, hw]
    have q := hts _ h1
    rw [hw] at q
    exact word_at hW (Or.inl rfl) q
  · rw [hw]; exact List.mem_singleton.mpr rfl
  · have q := hts _ h1
    rw [hw] at q
    exact q
  · intro sig h
    rw [h] at hds
    exact (Option.some.inj hds).symm
theorem noL_of {As : List AV} (h : ∀ v ∈ As, catV v = 1) : noLong (As.map some) := by
  intro j w hj
  rw [List.getElem?_map] at hj
  cases q : As[j]? with
  | none => rw [q] at hj; cases hj
  | some v =>
    rw [q] at hj
    rw [← Option.some.inj (Option.some.inj hj)]
    exact h v (List.mem_of_getElem? q)
/-- where a throw is caught, or goes out -/
def Out (p : Program) (l : Launch) (e : Env) (R : Room) (s : State) (m : MethodId) (args : Array Value) (below : List Frame) (meth : Method) (c : Code) (Q : State → Prop) (s0 : State) (D : va_G) (cy : Nat → ClassId) (M : MI) (nL : Nat) (Qx : String → Hp → Prop) : Prop :=
  ∀ (pc : Nat) (ls : List (Option AV)) (cc ss : Nat) (E : String) (h' : Hp), cat0 M Qx (JW p l e R s m args below meth c Q s0 D cy nL) pc ls cc ss E h' →
    ∀ (H1 : Heap) (locs1 : List Loc) (cells slots : Nat) (lsA : Array Slot) (rest : List Value) (q9 : Addr) (ce : Cell), Rel s0 D cy h' H1 → va_S (aB s0) s.heap H1 locs1 → cells + cc ≤ R.cells → slots + ss ≤ R.slots → ls.length = nL → noLong ls → lv_has lsA nL (lvOf 0 ls) → H1[q9]? = some ce → ce.vm = .none → s.vm.findClass E = some ce.cls → vx_W p l e R s m args below meth c H1 locs1 cells slots Q (F0 m pc lsA rest) q9
theorem aft_go {pc : Nat} {ls : List (Option AV)} {st : List AV} {cc ss c1 s1 : Nat} {v : Option AV} {h' : Hp} (hq : aft (JW p l e R s m args below meth c Q s0 D cy nL) pc ls st (cc - c1) (ss - s1) v h') {H1 : Heap} {locs1 : List Loc} {cells slots : Nat} {lsA : Array Slot} (hR : Rel s0 D cy h' H1) (hS : va_S (aB s0) s.heap H1 locs1) (hc : cells + cc ≤ R.cells) (hs : slots + ss ≤ R.slots) (h1 : c1 ≤ cc) (h2 : s1 ≤ ss) (hn : ls.length = nL) (hnl : noLong ls) (hl : lv_has lsA nL (lvOf 0 ls)) :
    W p l e R s m args below meth c H1 locs1 (cells + c1) (slots + s1) Q (F0 m (pc + 3) lsA ((v.map tv).toList ++ st.map tv)) := by
  cases v with
  | none => exact hq H1 locs1 (cells + c1) (slots + s1) lsA hR hS (by omega) (by omega) hn hnl hl
  | some w => exact hq H1 locs1 (cells + c1) (slots + s1) lsA hR hS (by omega) (by omega) hn hnl hl
theorem room_st {pc : Nat} {lsA : Array Slot} {st0 : List Value} (st : List AV) (h : st.length ≤ 4) : 2 * (F0 m pc lsA st0).monitorRoom + ((st.map tv).map fun v => v.category).sum ≤ 8 := lv_room (by have := cat_sum st; omega)
theorem cl6 {d : Nat} {Qx : String → Hp → Prop} (C : Cx p l e s m meth c s0 a0 D cy gx M) (hSnd : Snd l s0 D cy gx d) (hO : Out p l e R s m args below meth c Q s0 D cy M nL Qx) (hfr : d + 1 ≤ R.frames) (hlo : 41 * (d + 1) ≤ R.locals) (hml : nL = M.2.2.1) : Cl6 (aM gx d) M Qx (JW p l e R s m args below meth c Q s0 D cy nL) := by
  obtain ⟨hx, hb, hmx, hown, hW, hsz, hbel, hlk, hnm, hret, htab⟩ := C.2
  have hts : ∀ w ∈ tb, w.before args s = true := C.hts
  have hKK := C.K
  have hF : CallFix p m c M.2.1 nL s args [] M.1.cls := ⟨hx, hb, by rw [hmx, hml], hown, fun _ h => by cases h⟩
  refine ⟨?_, ?_, ?_, ?_, ?_⟩
  · intro pc ls st h c0 sl ix ci N a As c1 s1 hd hcv hcat hci hcn ha hka hst h1 h2 hcall H locs cells slots lsA hR hS hc hs hn hnl hl
    obtain ⟨hok, hno, hlk1, hin, hse, hds, hle⟩ := hcv
    have hM := hSnd N (vr a :: As) h c1 s1 _ _ hok (by rw [List.length_cons]; omega) (noL_of (fun v hv => (List.mem_cons.mp hv).elim (fun q => by rw [q]; rfl) (hcat v))) hcall
    have hPre : ∀ U : State, U.heap = H → s.WarmedH U.vm → PcA s0 D cy (vr a :: As) h (Value.ref a :: As.map tv).toArray U := fun U hU hWU => ⟨rfl, State.WarmedH.trans hW hWU, by rw [hU]; exact hR⟩
    have est : ((As.reverse ++ vr a :: st).map tv) = (As.map tv).reverse ++ Value.ref a :: st.map tv := by rw [List.map_append, List.map_reverse]; rfl
    have hr := vx_runV (e := e) (below := below) (meth := meth) (H := H) (locs := locs) (cells := cells) (slots := slots) (g := F0 m pc lsA ((As.reverse ++ vr a :: st).map tv)) (rest := st.map tv) (As := As.map tv) hF hM (C := N.1.cls) ⟨cw_b (c1 := c1) (s1 := s1) hts hok hno hlk1 hds hfr hlo, hts _ hin, hts _ hse⟩ ⟨pc_blind, by
      obtain ⟨k0, e1, e2⟩ := hR.at ha (cellE_obj hka hci)
      have q := va_recv hKK hR.1 (vcl_at hci) e2
      rw [show ((cNm ci, fT ci, nF ci) : vw_C).1 = N.1.cls from hcn] at q
      exact q, hPre⟩ rfl (List.length_map _) hl.1 est (room_st st hst) hd ⟨by omega, by omega⟩
    exact call_go hr hS (fun E ce q9 h' H1 locs1 hq hR1 hS1 hce hcv9 hcl => hO pc ls _ _ E h' hq H1 locs1 _ _ lsA _ q9 ce hR1 hS1 (by omega) (by omega) hn hnl hl hce hcv9 hcl) (fun v h' H1 locs1 hq hR1 hS1 => aft_go hq hR1 hS1 hc hs h1 h2 hn hnl hl)
  · intro pc ls st h c0 sl ix N As c1 s1 hd hcv hcat hst h1 h2 hcall H locs cells slots lsA hR hS hc hs hn hnl hl
    obtain ⟨hok, hno, hlk1, hstt, hds, hle⟩ := hcv
    have hM := hSnd N As h c1 s1 _ _ hok (by omega) (noL_of hcat) hcall
    have hPre : ∀ U : State, U.heap = H → s.WarmedH U.vm → PcA s0 D cy As h (As.map tv).toArray U := fun U hU hWU => ⟨rfl, State.WarmedH.trans hW hWU, by rw [hU]; exact hR⟩
    have est : ((As.reverse ++ st).map tv) = (As.map tv).reverse ++ st.map tv := by rw [List.map_append, List.map_reverse]
    have hr := vx_runS (e := e) (below := below) (meth := meth) (H := H) (locs := locs) (cells := cells) (slots := slots) (g := F0 m pc lsA ((As.reverse ++ st).map tv)) (rest := st.map tv) (As := As.map tv) hF hM ⟨cw_b (c1 := c1) (s1 := s1) hts hok hno hlk1 hds hfr hlo, hts _ hstt⟩ ⟨pc_blind, hPre⟩ rfl (List.length_map _) hl.1 est (room_st st hst) hd ⟨by omega, by omega⟩
    exact call_go hr hS (fun E ce q9 h' H1 locs1 hq hR1 hS1 hce hcv9 hcl => hO pc ls _ _ E h' hq H1 locs1 _ _ lsA _ q9 ce hR1 hS1 (by omega) (by omega) hn hnl hl hce hcv9 hcl) (fun v h' H1 locs1 hq hR1 hS1 => aft_go hq hR1 hS1 hc hs h1 h2 hn hnl hl)
  · intro pc ls st h c0 sl ix N As c1 s1 hd hcv hcat hst h1 h2 hcall H locs cells slots lsA hR hS hc hs hn hnl hl
    obtain ⟨hok, hno, hlk1, hstt, hds, hle⟩ := hcv
    have hM := hSnd N As h c1 s1 _ _ hok (by omega) (noL_of hcat) hcall
    have hPre : ∀ U : State, U.heap = H → s.WarmedH U.vm → PcA s0 D cy As h (As.map tv).toArray U := fun U hU hWU => ⟨rfl, State.WarmedH.trans hW hWU, by rw [hU]; exact hR⟩
    have est : ((As.reverse ++ st).map tv) = (As.map tv).reverse ++ st.map tv := by rw [List.map_append, List.map_reverse]
    obtain ⟨hh, hno⟩ := Option.ne_none_iff_exists'.mp hno
    have hw : mW N = .codeWith N.1 N.2.1 N.2.2.1 N.2.2.2.1 hh := by unfold mW; rw [hno]
    have hcode : (Cond.codeWith N.1 N.2.1 N.2.2.1 N.2.2.2.1 hh).before args s = true := by rw [← hw]; exact hts _ hok.1
    have hr := vx_runSX (e := e) (below := below) (meth := meth) (H := H) (locs := locs) (cells := cells) (slots := slots) (g := F0 m pc lsA ((As.reverse ++ st).map tv)) (rest := st.map tv) (As := As.map tv) (bytes := N.2.1) (maxL := N.2.2.1) (ret := N.2.2.2.1) (n := As.length) hF hM (hh := hh) ⟨⟨rfl, rfl, hfr, (by show 8 + (N.2.2.1 + 11) + 41 * d ≤ R.locals; have := hok.2.2.2.2; omega), (fun w hm a' U hWU => by rw [List.mem_singleton.mp hm, hw]; exact word_at hWU (Or.inl rfl) hcode), by rw [hw]; exact List.mem_singleton.mpr rfl⟩, hcode, hts _ hok.2.2.1, hok.2.2.2.1, (fun sig h9 => by rw [h9] at hds; exact (Option.some.inj hds).symm), hts _ hlk1, hts _ hstt⟩ ⟨pc_blind, hPre⟩ rfl (List.length_map _) hl.1 est (room_st st hst) hd ⟨by omega, by omega⟩
    exact call_go hr hS (fun E ce q9 h' H1 locs1 hq hR1 hS1 hce hcv9 hcl => hO pc ls _ _ E h' hq H1 locs1 _ _ lsA _ q9 ce hR1 hS1 (by omega) (by omega) hn hnl hl hce hcv9 hcl) (fun v h' H1 locs1 hq hR1 hS1 => aft_go hq hR1 hS1 hc hs h1 h2 hn hnl hl)
  · intro pc ls st h c0 sl ix N a As c1 s1 hd hcv hcat hst h1 h2 hcall H locs cells slots lsA hR hS hc hs hn hnl hl
    obtain ⟨hok, hno, hlk1, hin, hni, hrt, hds, hle⟩ := hcv
    have hM := hSnd N (vr a :: As) h c1 s1 _ _ hok (by rw [List.length_cons]; omega) (noL_of (fun v hv => (List.mem_cons.mp hv).elim (fun q => by rw [q]; rfl) (hcat v))) hcall
    have hPre : ∀ U : State, U.heap = H → s.WarmedH U.vm → PcA s0 D cy (vr a :: As) h (Value.ref a :: As.map tv).toArray U := fun U hU hWU => ⟨rfl, State.WarmedH.trans hW hWU, by rw [hU]; exact hR⟩
    have est : ((As.reverse ++ vr a :: st).map tv) = (As.map tv).reverse ++ Value.ref a :: st.map tv := by rw [List.map_append, List.map_reverse]; rfl
    have hcb := cw_b (R' := R) (c1 := c1) (s1 := s1) hts hok hno hlk1 hds hfr hlo
    rw [hrt] at hcb
    have hr := vx_runI (e := e) (below := below) (meth := meth) (H := H) (locs := locs) (cells := cells) (slots := slots) (g := F0 m pc lsA ((As.reverse ++ vr a :: st).map tv)) (rest := st.map tv) (As := As.map tv) hF hM ⟨hcb, hni, hts _ hin⟩ ⟨pc_blind, hPre⟩ rfl (List.length_map _) hl.1 est (room_st st hst) hd ⟨by omega, by omega⟩
    exact call_go hr hS (fun E ce q9 h' H1 locs1 hq hR1 hS1 hce hcv9 hcl => hO pc ls _ _ E h' hq H1 locs1 _ _ lsA _ q9 ce hR1 hS1 (by omega) (by omega) hn hnl hl hce hcv9 hcl) (fun v h' H1 locs1 hq hR1 hS1 => aft_go hq hR1 hS1 hc hs h1 h2 hn hnl hl)
  · intro pc ls st h c0 sl ix N host a As c1 s1 hd hcv hcat hst h1 h2 hcall H locs cells slots lsA hR hS hc hs hn hnl hl
    obtain ⟨hok, hno, hlk1, hin, hni, hrt, hds, hle⟩ := hcv
    have hM := hSnd N (vr a :: As) h c1 s1 _ _ hok (by rw [List.length_cons]; omega) (noL_of (fun v hv => (List.mem_cons.mp hv).elim (fun q => by rw [q]; rfl) (hcat v))) hcall
    have hPre : ∀ U : State, U.heap = H → s.WarmedH U.vm → PcA s0 D cy (vr a :: As) h (Value.ref a :: As.map tv).toArray U := fun U hU hWU => ⟨rfl, State.WarmedH.trans hW hWU, by rw [hU]; exact hR⟩
    have est : ((As.reverse ++ vr a :: st).map tv) = (As.map tv).reverse ++ Value.ref a :: st.map tv := by rw [List.map_append, List.map_reverse]; rfl
    have hw := mW_none hno
    have hcode : (Cond.code N.1 N.2.1 N.2.2.1 none).before args s = true := by have q := hts _ hok.1; rw [hw, hrt] at q; exact q
    have hr := vx_runIN (e := e) (below := below) (meth := meth) (H := H) (locs := locs) (cells := cells) (slots := slots) (g := F0 m pc lsA ((As.reverse ++ vr a :: st).map tv)) (rest := st.map tv) (As := As.map tv) (bytes := N.2.1) (maxL := N.2.2.1) (n := As.length) hF hM ⟨⟨⟨rfl, rfl, hfr, (by show 8 + (N.2.2.1 + 11) + 41 * d ≤ R.locals; have := hok.2.2.2.2; omega), (fun w hm a' U hWU => by rw [List.mem_singleton.mp hm, hw, hrt]; exact word_at hWU (Or.inl rfl) hcode), by rw [hw, hrt]; exact List.mem_singleton.mpr rfl⟩, hcode, hts _ hok.2.2.1, hok.2.2.2.1, (fun sig h9 => by rw [h9] at hds; exact (Option.some.inj hds).symm), va_Nw.use rfl (va_Nw.warmM hW (va_Nw.of rfl (C.1.2.1 _ hlk1)))⟩, hni, hts _ hin⟩ ⟨pc_blind, hPre⟩ rfl (List.length_map _) hl.1 est (room_st st hst) hd ⟨by omega, by omega⟩
    exact call_go hr hS (fun E ce q9 h' H1 locs1 hq hR1 hS1 hce hcv9 hcl => hO pc ls _ _ E h' hq H1 locs1 _ _ lsA _ q9 ce hR1 hS1 (by omega) (by omega) hn hnl hl hce hcv9 hcl) (fun v h' H1 locs1 hq hR1 hS1 => aft_go hq hR1 hS1 hc hs h1 h2 hn hnl hl)
end SND
end
section
/-! ===== the library's own, ends ===== -/
theorem mx1 : Cond.static Lib.Math.max.name ∈ tb := tbm1 203 (by decide +kernel) (by decide +kernel)
theorem mx2 : Cond.initialized "java/lang/Math" ∈ tb := tbm1 13 (by decide +kernel) (by decide +kernel)
theorem mx3 : Cond.code Lib.Math.max.name Lib.Math.max.code 2 (some .int) ∈ tb := tbm1 204 (by decide +kernel) (by decide +kernel)
theorem mn1 : Cond.static Lib.Math.min.name ∈ tb := tbm2 76 (by decide +kernel) (by decide +kernel)
theorem mn3 : Cond.code Lib.Math.min.name Lib.Math.min.code 2 (some .int) ∈ tb := tbm2 77 (by decide +kernel) (by decide +kernel)
theorem cp1 : Cond.native arraycopyName ∈ tb := tbm2 80 (by decide +kernel) (by decide +kernel)
theorem cp2 : Cond.static arraycopyName ∈ tb := tbm2 79 (by decide +kernel) (by decide +kernel)
theorem cp3 : Cond.initialized "java/lang/System" ∈ tb := tbm1 17 (by decide +kernel) (by decide +kernel)
section SND
variable {p : Program} {l : Launch} {e : Env} {R : Room} {s s0 : State} {m : MethodId} {args a0 : Array Value} {below : List Frame} {meth : Method} {c : Code} {Q : State → Prop} {D : va_G} {cy : Nat → ClassId} {gx : GX} {M : MI} {nL : Nat}
theorem cellE_cp_ne {h : Hp} {x y b : Nat} {sp dp n : Int} (hb : b ≠ y) : cellE cy (hCp h x sp y dp n) b = cellE cy h b := by
  have e : ∀ j, hP (hCp h x sp y dp n) b j = hP h b j := fun j => by show (if b = y ∧ dp ≤ j ∧ j < dp + n then _ else _) = _; rw [if_neg (fun q => hb q.1)]; rfl
  unfold cellE
  simp only [show hK (hCp h x sp y dp n) = hK h from rfl, show hN (hCp h x sp y dp n) = hN h from rfl, show hI (hCp h x sp y dp n) = hI h from rfl, fldV, e]
theorem cast_asg (hts : ∀ w ∈ tb, w.before args s = true) {a b : String} (h : Cond.castable a b ∈ tb) : ∀ comp c0 : ClassId, s.vm.findClass b = some comp → s.vm.findClass a = some c0 → s.vm.assignable c0 comp = true := by
  intro comp c0 h1 h2
  obtain ⟨x, y, e1, e2, e3⟩ := Cond.castable_spec (hts _ h)
  cases e1.symm.trans h2
  cases e2.symm.trans h1
  exact e3
theorem cl7 (C : Cx p l e s m meth c s0 a0 D cy gx M) (hfr : 1 ≤ R.frames) (hlo : 41 ≤ R.locals) (hml : nL = M.2.2.1) : Cl7 M (JW p l e R s m args below meth c Q s0 D cy nL) := by
  obtain ⟨hx, hb, hmx, hown, hW, hsz, hbel, hlk, hnm, hret, htab⟩ := C.2
  have hts : ∀ w ∈ tb, w.before args s = true := C.hts
  have hKK := C.K
  refine ⟨?_, ?_, ?_⟩
  · intro pc ls st h c0 s1 ix x y hd hw h1 h2 hst kk H locs cells slots lsA hR hS hc hs hn hnl hl
    have q := kk H locs cells slots lsA hR hS hc hs hn hnl hl
    have hcs := cat_sum st
    refine va_mmax hx hb (by rw [hmx, ← hml]; exact hl.1.symm) hown (hts _ hw) (hts _ mx1) (hts _ mx2) (hts _ mx3) hfr (by omega) (by omega) (by omega) hd ?_
    have ev : (if zI x < zI y then zI y else zI x) = zI (if x < y then y else x) := by
      by_cases z : x < y
      · rw [if_pos z, if_pos ((zI_lt h1 h2).mpr z)]
      · rw [if_neg z, if_neg (fun z2 => z ((zI_lt h1 h2).mp z2))]
    rw [ev]
    exact q
  · intro pc ls st h c0 s1 ix x y hd hw h1 h2 hst kk H locs cells slots lsA hR hS hc hs hn hnl hl
    have q := kk H locs cells slots lsA hR hS hc hs hn hnl hl
    have hcs := cat_sum st
    refine va_mmin hx hb (by rw [hmx, ← hml]; exact hl.1.symm) hown (hts _ hw) (hts _ mn1) (hts _ mx2) (hts _ mn3) hfr (by omega) (by omega) (by omega) hd ?_
    have ev : (if zI y < zI x then zI y else zI x) = zI (if y < x then y else x) := by
      by_cases z : y < x
      · rw [if_pos z, if_pos ((zI_lt h2 h1).mpr z)]
      · rw [if_neg z, if_neg (fun z2 => z ((zI_lt h2 h1).mp z2))]
    rw [ev]
    exact q
  · intro pc ls st h c0 s1 ix b0 b1 sp dp n hd hw ha0 hk0 ha1 hk1 g1 g2 g3 g4 g5 g6 g7 hel hst kk H locs cells slots lsA hR hS hc hs hn hnl hl
    have hcs := cat_sum st
    obtain ⟨k0, e1, e2⟩ := hR.at ha0 (cellE_13 hk0)
    obtain ⟨k1, e3, e4⟩ := hR.at ha1 (cellE_13 hk1)
    have neg : ∀ z : Int, 0 ≤ z → z < 2147483648 → ¬ zI z < 0 := fun z z0 z1 => by rw [zI_0, zI_lt ⟨by omega, z1⟩ inR0]; omega
    have c1 := zI_cl g1 (by omega)
    have c2 := zI_cl g2 (by omega)
    have c3 := zI_cl g3 (by omega)
    refine va_copyM hx hb (by rw [hmx, ← hml]; exact hl.1.symm) hown (hts _ hw) (hts _ cp1) (hts _ cp2) (hts _ cp3) hKK hR.1 hR.2.1 hS k0 k1 3 3 e2 e4 rfl rfl (neg sp g1 (by omega)) (neg dp g2 (by omega)) (neg n g3 (by omega)) (by rw [c1, c3]; omega) (by rw [c2, c3]; omega) ?_ hfr ?_ hd (fun H1 locs1 P1 D1 S1 => kk H1 locs1 cells slots lsA (hR.upd (h2 := hCp h b0 sp b1 dp n) ha1 e3 rfl ?_ (fun b hb => cellE_cp_ne hb) P1 D1 S1 hsz hbel) S1 hc hs hn hnl hl)
    · intro i hi y hy
      rw [c3] at hi
      rw [c1] at hy
      obtain ⟨hyd, ci, hci, hky, hcast⟩ := hel (i : Int) (by omega) (by omega) y (by rw [← hy]; show _ = hP h b0 ((sp.toNat + i : Nat) : Int); congr 1; omega)
      obtain ⟨k2, e5, e6⟩ := hR.at hyd (cellE_obj hky hci)
      exact va_rAny hKK hR.1 e6 (vcl_at hci) (cast_asg hts hcast)
    · show ((st.map tv).map fun v => v.category).sum + (7 + 11) ≤ R.locals
      omega
    · rw [cellE_13 (h := hCp h b0 sp b1 dp n) hk1]
      congr 1
      congr 1
      show ((hN h b1, Sum.inr (Sum.inr (Sum.inr (Sum.inr (fun j : Nat => hP (hCp h b0 sp b1 dp n) b1 j))))) : vp_A) = (hN h b1, _)
      congr 5
      funext j
      show (if b1 = b1 ∧ dp ≤ (j : Int) ∧ (j : Int) < dp + n then hP h b0 (sp + ((j : Int) - dp)) else hP h b1 j) = va_cpy (fun j : Nat => hP h b0 j) (fun j : Nat => hP h b1 j) (zI sp).toNatClampNeg (zI dp).toNatClampNeg (zI n).toNatClampNeg j
      unfold va_cpy
      rw [c1, c2, c3]
      by_cases z : dp ≤ (j : Int) ∧ (j : Int) < dp + n
      · rw [if_pos ⟨rfl, z⟩, if_pos (by omega)]
        congr 1
        omega
      · rw [if_neg (fun q => z q.2), if_neg (by omega)]
/-- no table: a throw goes out -/
theorem out_none {Qr : Option AV → Hp → Prop} {Qx : String → Hp → Prop} (C : Cx p l e s m meth c s0 a0 D cy gx M) (hno : M.2.2.2.2 = none) (hlw : M.1.name ≠ "law") : Out p l e R s m args below meth c (vx_MQ below (QcA s0 D cy Qr) (XCA s0 D cy Qx) args s R.cells R.slots (aB s0)) s0 D cy M nL Qx := by
  obtain ⟨hx, hb, hmx, hown, hW, hsz, hbel, hlk, hnm, hret, htab⟩ := C.2
  have htab := htab hlw
  intro pc ls cc ss E h' hq H1 locs1 cells slots lsA rest q9 ce hR hS hc hs hn hnl hl hce hcv hcl
  unfold cat0 at hq
  rw [hno] at hq htab
  have htab : c.exceptionTable.toList = [] := htab
  refine vx_out (fun x hxx => by rw [htab] at hxx; cases hxx) hlk hce hcv hcl (fun t ht hal => ⟨h', hq, by rw [ht]; exact hR, hS.F ht⟩) hS.2.2 (by omega) (by omega)
/-- a table: the row that takes it -/
theorem out_some {Qx : String → Hp → Prop} {hh : List (Nat × Nat × Nat × Nat)} (C : Cx p l e s m meth c s0 a0 D cy gx M) (hso : M.2.2.2.2 = some hh) (hlw : M.1.name ≠ "law") : Out p l e R s m args below meth c Q s0 D cy M nL Qx := by
  obtain ⟨hx, hb, hmx, hown, hW, hsz, hbel, hlk, hnm, hret, htab⟩ := C.2
  have htab := htab hlw
  have hts : ∀ w ∈ tb, w.before args s = true := C.hts
  intro pc ls cc ss E h' hq H1 locs1 cells slots lsA rest q9 ce hR hS hc hs hn hnl hl hce hcv hcl
  unfold cat0 at hq
  rw [hso] at hq htab
  obtain ⟨pre, x, suf, nm, rfl, hpre, hx1, hx2, hx3, hlk2, hcast, hJ⟩ := hq
  have htab : c.exceptionTable.toList = tableOf (pre ++ x :: suf) := htab
  have hT : ∀ z : Nat × Nat × Nat × Nat, ExceptionTableEntry := fun z => ⟨z.1, z.2.1, z.2.2.1, z.2.2.2⟩
  refine vx_catch (own := M.1.cls) (name := nm) (E := E) hown (tableOf pre) ⟨x.1, x.2.1, x.2.2.1, x.2.2.2⟩ (tableOf suf) (by rw [htab]; unfold tableOf; rw [List.map_append]; rfl) ?_ ?_ hx3 (hts _ hlk2) (hts _ hcast) hce hcv hcl ?_
  · intro z hz
    obtain ⟨y, hy, rfl⟩ := List.mem_map.mp hz
    obtain ⟨h1, n2, h2, h3⟩ := hpre y hy
    exact Or.inr ⟨h1, n2, hts _ h2, va_Nc.moved hW.alike (C.1.2.2.2.2.2.2.2.2.2.2.2 (E, n2) h3)⟩
  · simp only [covers, Bool.and_eq_true, decide_eq_true_eq]
    exact ⟨hx1, hx2⟩
  · exact hJ q9 H1 locs1 cells slots lsA hR hS hc hs hn hnl hl
theorem rt_of {ty : FieldType} (h : isRT ty = true) : (∃ n, ty = .object n) ∨ ∃ t, ty = .array t := by
  cases ty <;> first | exact Or.inl ⟨_, rfl⟩ | exact Or.inr ⟨_, rfl⟩ | cases h
theorem cl8 {d : Nat} {Qr : Option AV → Hp → Prop} {Qx : String → Hp → Prop} (C : Cx p l e s m meth c s0 a0 D cy gx M) (hfr : d ≤ R.frames) (hlo : 41 * d ≤ R.locals) (hml : nL = M.2.2.1) (hlw : M.1.name ≠ "law") :
    Cl8 d M Qr Qx (JW p l e R s m args below meth c (vx_MQ below (QcA s0 D cy Qr) (XCA s0 D cy Qx) args s R.cells R.slots (aB s0)) s0 D cy nL) := by
  obtain ⟨hx, hb, hmx, hown, hW, hsz, hbel, hlk, hnm, hret, htab⟩ := C.2
  have htab := htab hlw
  have hts : ∀ w ∈ tb, w.before args s = true := C.hts
  refine ⟨?_, ?_, ?_, ?_, ?_⟩
  · intro pc ls h c0 s1 x hd hty hq H locs cells slots lsA hR hS hc hs hn hnl hl
    refine W.widen (k := R.cells) (n := R.slots) (by omega) (by omega) (vx_ret ?_)
    have fin : ∀ t : State, t.heap = H → s.WarmedH t.vm → QcA s0 D cy Qr args s (.returned (some (.int (zI x)))) t := fun t ht _ => ⟨some (vi x), h, rfl, hq, by rw [ht]; exact hR, hS.F ht⟩
    rcases hty with hty | ⟨hty, hx01⟩
    · exact W.iret (v := zI x) hx hb (by rw [hret, hty]) fin hS.2.2 hd hlk
    · exact W.zret (v := zI x) (ty := .boolean) hx hb (by rw [hret, hty]) (by rcases hx01 with rfl | rfl <;> rfl) fin hS.2.2 hd hlk
  · intro pc ls h c0 s1 r ty hd hty hrt hq H locs cells slots lsA hR hS hc hs hn hnl hl
    refine W.widen (k := R.cells) (n := R.slots) (by omega) (by omega) (vx_ret ?_)
    exact W.aret (v := va_rf r) (rt := ty) hx hb (by rw [hret, hty]) (rt_of hrt) (by cases r; exact Or.inl rfl; exact Or.inr ⟨_, rfl⟩) (fun t ht _ => ⟨some (vq r), h, rfl, hq, by rw [ht]; exact hR, hS.F ht⟩) hS.2.2 hd hlk
  · intro pc ls h c0 s1 hd hty hq H locs cells slots lsA hR hS hc hs hn hnl hl
    refine W.widen (k := R.cells) (n := R.slots) (by omega) (by omega) (vx_ret ?_)
    exact W.vret hx hb (by rw [hret, hty]) (fun t ht _ => ⟨none, h, rfl, hq, by rw [ht]; exact hR, hS.F ht⟩) hS.2.2 hd hlk
  · intro pc ls st h c0 s1 E hthr hno h6 hst h1 h2 hq H locs cells slots lsA hR hS hc hs hn hnl hl
    obtain ⟨ik, is, ic, tx, hfit, hstr, hlnk, hini, hat, d0, d3, d49⟩ := hthr
    have hcs := cat_sum st
    obtain ⟨sa, hsa⟩ := C.1.2.2.2.2.2.2.2.2.1 _ hstr
    have hU := C.1.2.2.2.2.2.2.2.2.2.1
    have hN := C.1.2.2.2.2.2.2.2.2.2.2.1
    have hg : ∀ w ∈ Cond.classLink M.1.cls ik E :: Cond.initialized E :: vx_atS M.1.cls ic E exN, vx_ot w = true := by
      intro w hw
      have hk : okW w = true := by
        rcases List.mem_cons.mp hw with q | hw
        · rw [q]; exact (List.mem_filter.mp hlnk).2
        · rcases List.mem_cons.mp hw with q | hw
          · rw [q]; exact (List.mem_filter.mp hini).2
          · exact (List.mem_filter.mp (hat w hw)).2
      unfold okW at hk
      unfold vx_ot
      rw [Bool.or_eq_true] at hk ⊢
      rcases hk with hk | hk
      · exact Or.inr hk
      · rw [Bool.and_eq_true] at hk
        exact Or.inl hk.1
    have hout : ∀ (pc9 : Nat), ∀ x ∈ c.exceptionTable.toList, covers x pc9 = false := fun pc9 x hxx => by
      rw [hno] at htab
      have htab : c.exceptionTable.toList = [] := htab
      rw [htab] at hxx; cases hxx
    have hsl : lsA.size = c.maxLocals := by rw [hmx, ← hml]; exact hl.1
    have hXC : ∀ t : State, s.vm.Alike t.vm → H.size ≤ t.heap.size → (∀ q : Nat, q < H.size → t.heap[q]? = H[q]?) → XCA s0 D cy Qx E s t := fun t _ hz hk => by
      refine ⟨h, hq, ⟨hR.1.kept (fun k q hkq => hk q.1 (hR.1 k q hkq).lt), hR.2.1, Nat.le_trans hR.2.2.1 hz, fun q hlt => ?_⟩, ?_⟩
      · rw [hk q (Nat.lt_of_lt_of_le hlt hR.2.2.1)]; exact hR.2.2.2 q hlt
      · refine ⟨Nat.le_trans hS.1 hz, fun q h9 h8 => ?_⟩
        rw [hk q (Nat.lt_of_lt_of_le h9 hS.1)]
        exact hS.2.1 q h9 h8
    have hf8 : exN.length + 3 < R.frames := by show 2 + 3 < R.frames; omega
    have hl8 : ((st.map tv).map fun v => v.category).sum + (13 * (exN.length + 1) + 43) ≤ R.locals := by show _ + (13 * (2 + 1) + 43) ≤ R.locals; omega
    rcases d49 with ⟨d4, d6, d9⟩ | ⟨d4, d6, d9⟩
    · exact vx_throwS (A := aB s0) (sa := sa) hx hb C.1.1 hown hfit (by decide) (hts _ hlnk) (hts _ hini) (vk_R.warm hW hsa) (fun w hw => hts _ (hat w hw)) hg ((hU.moved hW.alike).kept (fun a ha hn => hbel a ha)) ((hN.moved hW.alike).kept (fun a ha hn => hbel a ha)) hS hsl d0 d3 d4 d6 d9 (hout _) hf8 hl8 (by omega) (by omega) hlk hXC hS.2.2 (by omega) (by omega)
    · exact vx_throwSW (A := aB s0) (sa := sa) hx hb C.1.1 hown hfit (by decide) (hts _ hlnk) (hts _ hini) (vk_R.warm hW hsa) (fun w hw => hts _ (hat w hw)) hg ((hU.moved hW.alike).kept (fun a ha hn => hbel a ha)) ((hN.moved hW.alike).kept (fun a ha hn => hbel a ha)) hS hsl d0 d3 d4 d6 d9 (hout _) hf8 hl8 (by omega) (by omega) hlk hXC hS.2.2 (by omega) (by omega)
  · intro pc ls st h c0 s1 c1 s2 h1 h2 hq H locs cells slots lsA hR hS hc hs hn hnl hl
    exact hq H locs cells slots lsA hR hS (by omega) (by omega) hn hnl hl
end SND
end
section
/-! ===== plain runs are the machine's runs ===== -/
section SND
variable {l : Launch} {s0 : State} {a0 : Array Value} {D : va_G} {cy : Nat → ClassId} {gx : GX}
theorem sl_one : ∀ As : List AV, noLong (As.map some) → lg_sl (As.map tv) = (As.map tv).map Slot.val
  | [], _ => rfl
  | v :: t, h => by
    have h1 : catV v = 1 := h 0 v rfl
    have h2 := sl_one t (fun j w hj => h (j + 1) w hj)
    show (if (tv v).category = 2 then [Slot.val (tv v), .second] else [.val (tv v)]) ++ lg_sl (t.map tv) = _
    rw [tv_cat, h1, if_neg (by decide), h2]
    rfl
theorem args_of : ∀ (As : List AV) (n k : Nat), noLong (As.map some) → lv_args k (As.map tv) = lvOf k (As.map some ++ List.replicate n none)
  | [], 0, k, _ => rfl
  | [], n + 1, k, h => by
    show [] = lvOf k (none :: List.replicate n none)
    exact args_of [] n (k + 1) h
  | v :: t, n, k, h => by
    have h1 : catV v = 1 := h 0 v rfl
    have h2 := args_of t n (k + 1) (fun j w hj => h (j + 1) w hj)
    show (k, tv v) :: lv_args (if (tv v).category = 2 then k + 2 else k + 1) (t.map tv) = (k, tv v) :: lvOf (k + 1) _
    rw [tv_cat, h1, if_neg (by decide), h2]
    rfl
theorem noL_app {As : List AV} (h : noLong (As.map some)) (n : Nat) : noLong (As.map some ++ List.replicate n none) := by
  intro j w hj
  by_cases q : j < (As.map some).length
  · rw [List.getElem?_append_left q] at hj
    exact h j w hj
  · rw [List.getElem?_append_right (by omega), List.getElem?_replicate] at hj
    split at hj
    · cases hj
    · cases hj
/-- a method's entry -/
theorem entry_go {p : Program} {e : Env} {R : Room} {s : State} {m : MethodId} {args : Array Value} {below : List Frame} {meth : Method} {c : Code} {Q : State → Prop} {As : List AV} {h : Hp} {nL c1 s1 : Nat} (hargs : args = (As.map tv).toArray) (hlen : As.length ≤ nL) (hcat : noLong (As.map some)) (hR : Rel s0 D cy h s.heap) (hc : c1 ≤ R.cells) (hs : s1 ≤ R.slots)
    (k : JW p l e R s m args below meth c Q s0 D cy nL 0 (As.map some ++ List.replicate (nL - As.length) none) [] h c1 s1) : W p l e R s m args below meth c s.heap [] 0 0 Q (entryFrame m args nL) := by
  rw [hargs, lg_entry_eq]
  have hlg : (lg_sl (As.map tv)).length = As.length := by rw [sl_one As hcat]; simp
  have hl := lv_entry (As.map tv) (n := nL) (by rw [hlg]; exact hlen)
  rw [args_of As (nL - As.length) 0 hcat] at hl
  rw [hargs] at k
  exact k s.heap [] 0 0 _ hR va_S.rf (by omega) (by omega) (by simp; omega) (noL_app hcat _) hl
theorem snd (hG : Gl l s0 a0 D cy gx) : ∀ d, Snd l s0 D cy gx d := by
  intro d
  induction d with
  | zero => intro N As h c1 s1 Qr Qx hok hlen hcat hrun; exact absurd hrun id
  | succ d ih =>
    intro N As h c1 s1 Qr Qx hok hlen hcat hrun
    cases htb : N.2.2.2.2 with
    | none =>
      have hw : [mW N] = Cond.code N.1 N.2.1 N.2.2.1 N.2.2.2.1 :: [] := by rw [mW_none htb]
      refine vx_ofW hok.2.1.1 hw ?_
      intro p e s m args below meth c s₁ B hml htab hv
      obtain ⟨hargs, hW, hR⟩ := hv
      have C : Cx p l e s m meth c s0 a0 D cy gx N := ⟨hG, B.exec, B.bytes, hml, findClass_of_methodNamed B.named, hW, hR.2.2.1, hR.2.2.2, B.notSynchronized, fun q => by rw [(name_of_methodNamed B.named B.method).1]; exact q, B.returns, fun _ => by
        rw [htb]
        cases hq : c.exceptionTable.toList with
        | nil => rfl
        | cons x t => exact absurd (htab x (by rw [hq]; exact List.mem_cons_self)) id⟩
      refine entry_go hargs hlen hcat hR (Nat.le_refl c1) (Nat.le_refl s1) ?_
      refine hrun _ ⟨cl1 B.exec B.bytes, cl2 B.exec B.bytes, cl3 B.exec B.bytes, cl4 C ?_ ?_ rfl, cl5 C, cl6 C ih (out_none C htb hok.2.1.2) (Nat.le_refl _) (Nat.le_refl _) rfl, cl7 C ?_ ?_ rfl, cl8 C (Nat.le_refl _) (Nat.le_refl _) rfl hok.2.1.2⟩
      · show 1 ≤ d + 1; omega
      · show 24 ≤ 41 * (d + 1); omega
      · show 1 ≤ d + 1; omega
      · show 41 ≤ 41 * (d + 1); omega
    | some hh =>
      have hw : [mW N] = Cond.codeWith N.1 N.2.1 N.2.2.1 N.2.2.2.1 hh :: [] := by unfold mW; rw [htb]
      refine vx_ofWH hok.2.1.1 hw ?_
      intro p e s m args below meth c s₁ B hml hv
      obtain ⟨hargs, hW, hR⟩ := hv
      have hcw : (Cond.codeWith N.1 N.2.1 N.2.2.1 N.2.2.2.1 hh).before args s = true := atoms_spec (ws := [mW N]) B.pre _ (by rw [hw]; exact List.mem_cons_self)
      have htt : c.exceptionTable.toList = (match N.2.2.2.2 with | none => [] | some hh => tableOf hh) := by
        rw [htb]
        exact vx_table (x := N.1) B hcw
      have C : Cx p l e s m meth c s0 a0 D cy gx N := ⟨hG, B.exec, B.bytes, hml, findClass_of_methodNamed B.named, hW, hR.2.2.1, hR.2.2.2, B.notSynchronized, fun q => by rw [(name_of_methodNamed B.named B.method).1]; exact q, B.returns, fun _ => htt⟩
      refine entry_go hargs hlen hcat hR (Nat.le_refl c1) (Nat.le_refl s1) ?_
      refine hrun _ ⟨cl1 B.exec B.bytes, cl2 B.exec B.bytes, cl3 B.exec B.bytes, cl4 C ?_ ?_ rfl, cl5 C, cl6 C ih (out_some C htb hok.2.1.2) (Nat.le_refl _) (Nat.le_refl _) rfl, cl7 C ?_ ?_ rfl, cl8 C (Nat.le_refl _) (Nat.le_refl _) rfl hok.2.1.2⟩
      · show 1 ≤ d + 1; omega
      · show 24 ≤ 41 * (d + 1); omega
      · show 1 ≤ d + 1; omega
      · show 41 ≤ 41 * (d + 1); omega
end SND
end
section
/-! THE CLAIM OUT OF ONE WALK OF THE LAW'S BODY. Your part is whole_start (and what it stands on); all else here is the same for every law, but numbers. -/
def R_law : String := "BlockFleetLaw"
def lw_P (b : Addr) (xs : List Int32) (args : Array Value) (s : State) : Prop := args = #[.ref b] ∧ s.IntsAt b xs ∧ xs.length ≤ 2560 ∧ (Jvm.Cond.and given_1 narrow_1).before args s = true
def lw_Q (_ : Array Value) (s : State) (o : Outcome) (t : State) : Prop := o = .returned (some (.int 1)) ∧ Framed s o t [] 601024 7293034
def lw_Z (below : List Frame) (a : Array Value) (s : State) : State → Prop := fun t => ∃ o, t.status = .running ∧ Ended t below o ∧ lw_Q a s o t
/-- the law's own end, with 1 on the stack, nothing written that was there before, its room as the claim has it -/
theorem lw_ret {p : Program} {l : Launch} {e : Env} {s : State} {m : MethodId} {below : List Frame} {meth : Method} {c : Code} {b : Nat} (hx : p.tables.exec = Jvm.exec) (hb : c.code = code) (hr : meth.sig.returnType = ret) (hlocks : meth.locks = false) {pc : Nat} {H : Heap} {ls : Array Slot} (hdg : decode code pc = .ok (.ireturn, 1)) : W p l e room_1 s m #[Value.ref b] below meth c H [] 601024 7293034 (lw_Z below #[Value.ref b] s) (F0 m pc ls [.int 1]) := by
  intro T hT X
  obtain ⟨fs, hret, hrun, hended, hW, hframe⟩ := X.leave (v := some (.int 1)) (hlocks := hlocks) (fun h => by rw [hr] at h; cases h)
  have hmeth' : T.vm.method? m = some meth := X.method'
  refine ⟨T.setFrames fs, ?_, .returned (some (.int 1)), hrun, hended, rfl, ⟨_, rfl⟩, hW, hframe⟩
  jvm_step X.here [X.here.top, hx, hb, hdg, hmeth', hr, ret, narrow_b1]
  (try refine ⟨rfl, ?_⟩); (try refine ⟨rfl, ?_⟩)
  first | (intro acts; rw [hret _ acts rfl rfl rfl]) | rw [hret _ _ rfl rfl rfl]
  exact Steps.refl _
/-- what holds at the law's entry: the machine, the code, the tables' words (any of lw_tbl by 'hts w (by decide +kernel)'), the script of L ints xs at the cell b, what the Statement gives of the start (any of its parts by flat_of_before) -/
def lw_At (p : Program) (s : State) (m : MethodId) (meth : Method) (c : Code) (b L : Nat) (xs : Nat → Int32) : Prop :=
  p.tables.exec = Jvm.exec ∧ c.code = code ∧ meth.sig.returnType = ret ∧ c.maxLocals = 7 ∧ s.vm.findClass R_law = some m.cls ∧ (∀ w ∈ lw_tbl, w.before #[Value.ref b] s = true) ∧ va_X b L xs s s.heap ∧ b < s.heap.size ∧ meth.locks = false ∧ (Jvm.Cond.and given_1 narrow_1).before #[Value.ref b] s = true
end
section
/-! ===== the law's start ===== -/
theorem exact_ref {args : Array Value} {s : State} {t : Term} {cls : String} (h : (Cond.exactly t cls).before args s = true) : ∃ a, t.eval args s none [] s = some (.ref a) := by
  obtain ⟨a, _, _, _, h1, -⟩ := Cond.exactly_spec h
  exact ⟨a, h1⟩
theorem arr_prim {args : Array Value} {s : State} {ty : FieldType} (h : (Cond.arrayClass ty).before args s = true) (hne : ∀ C, ty ≠ .object C) : ∃ cA : ClassId, ArrOfT s cA ty ∧ va_RA s cA ty := by
  obtain ⟨cA, kA, comp, h1, h2, h3⟩ := Cond.arrayClass_spec h
  refine ⟨cA, fun n z => ⟨fun k h => (by cases h), kA, h2, comp, h3⟩, ?_⟩
  cases ty with
  | object C => exact absurd rfl (hne C)
  | _ => exact h1
theorem arr_obj {args : Array Value} {s : State} {C : String} (h : (Cond.arrayOver (.object C)).before args s = true) : ∃ cA : ClassId, ArrOfT s cA (.object C) ∧ va_RA s cA (.object C) := by
  obtain ⟨comp, cA, kA, h1, -, h2, h3, h4⟩ := Cond.arrayOver_spec h
  exact ⟨cA, fun n z => ⟨fun k h => (by cases h), kA, h2, comp, h3⟩, kA, comp, h2, h3, h1, h4⟩
theorem strs_ok {args : Array Value} {s : State} (hw : ∀ w ∈ lw_tbl, w.before args s = true) (hs : ∀ w ∈ flatC (Jvm.Cond.and given_1 narrow_1), w.before args s = true) : ∀ q ∈ strs, ∃ sa, vk_R q.1 q.2.1 q.2.2 sa s := by
  have key : ∀ (own : String) (k : Nat) (tx : String), Cond.stringRef own k tx ∈ lw_tbl → Cond.exactly (.string own k) "java/lang/String" ∈ flatC (Jvm.Cond.and given_1 narrow_1) → ∃ sa, vk_R own k tx sa s := by
    intro own k tx h1 h2
    obtain ⟨sa, e⟩ := exact_ref (hs _ h2)
    exact ⟨sa, vk_R.of (hw _ h1) e⟩
  unfold strs
  exact List.forall_mem_cons.mpr ⟨key "BlockFleet" 249 "no such rack" (tbl1 133 (by decide +kernel)) (by decide +kernel), List.forall_mem_cons.mpr ⟨key "BlockFleet" 39 "room is 1 to 12" (tbl1 169 (by decide +kernel)) (by decide +kernel), List.forall_mem_cons.mpr ⟨key "BlockFleet" 50 "there are 8 nodes" (tbl1 189 (by decide +kernel)) (by decide +kernel), List.forall_mem_cons.mpr ⟨key "BlockFleet" 239 "no such node" (tbl2 94 (by decide +kernel)) (by decide +kernel), List.forall_mem_cons.mpr ⟨key "BlockFleet" 241 "no such piece" (tbl2 120 (by decide +kernel)) (by decide +kernel), List.forall_mem_cons.mpr ⟨key "BlockFleet" 247 "no such cell" (tbl2 125 (by decide +kernel)) (by decide +kernel), List.forall_mem_cons.mpr ⟨key "BlockFleet" 92 "the node has no such cell" (tbl2 134 (by decide +kernel)) (by decide +kernel), List.forall_mem_cons.mpr ⟨key "BlockFleet" 100 "the limit is 0 to 3" (tbl2 151 (by decide +kernel)) (by decide +kernel), List.forall_mem_cons.mpr ⟨key "BlockFleet" 102 "seconds are 1 to 100" (tbl2 159 (by decide +kernel)) (by decide +kernel), List.forall_mem_cons.mpr ⟨key "BlockFleet" 104 "the second would be above 3000" (tbl2 160 (by decide +kernel)) (by decide +kernel), List.forall_mem_cons.mpr ⟨key "BlockFleet" 289 "there are 20 files" (tbl3 79 (by decide +kernel)) (by decide +kernel), List.forall_mem_cons.mpr ⟨key "BlockFleet" 243 "no such file" (tbl3 115 (by decide +kernel)) (by decide +kernel), List.forall_mem_cons.mpr ⟨key "BlockFleet" 253 "the file is not there" (tbl3 119 (by decide +kernel)) (by decide +kernel), List.forall_mem_cons.mpr ⟨key "BlockFleet" 142 "the file is not deleted" (tbl3 134 (by decide +kernel)) (by decide +kernel), List.forall_mem_cons.mpr ⟨key "BlockFleet" 251 "a number is 0 to 999" (tbl3 145 (by decide +kernel)) (by decide +kernel), List.forall_mem_cons.mpr ⟨key "BlockFleet" 300 "the piece cannot be written" (tbl3 165 (by decide +kernel)) (by decide +kernel), List.forall_mem_cons.mpr ⟨key "BlockFleet" 302 "the file would have 7 pieces" (tbl3 170 (by decide +kernel)) (by decide +kernel), List.forall_mem_cons.mpr ⟨key "BlockFleet" 255 "there would be 61 pieces" (tbl3 175 (by decide +kernel)) (by decide +kernel), List.forall_mem_cons.mpr ⟨key "BlockFleet" 311 "a new piece finds no place" (tbl3 215 (by decide +kernel)) (by decide +kernel), List.forall_mem_cons.mpr ⟨key "BlockFleet" 245 "no such place in the file" (tbl3 223 (by decide +kernel)) (by decide +kernel), List.forall_mem_cons.mpr ⟨key "BlockFleet" 166 "the primary has not so many cells" (tbl4 12 (by decide +kernel)) (by decide +kernel), List.forall_mem_cons.mpr ⟨key "BlockFleet" 201 "what is 0 to 5" (tbl4 55 (by decide +kernel)) (by decide +kernel), List.forall_mem_cons.mpr ⟨key "BlockFleet" 205 "no such copy" (tbl4 63 (by decide +kernel)) (by decide +kernel), List.forall_mem_cons.mpr ⟨key "BlockFleet" 208 "what is 0 to 2" (tbl4 71 (by decide +kernel)) (by decide +kernel), List.forall_mem_cons.mpr ⟨key "BlockFleet" 223 "what is 0 to 3" (tbl4 100 (by decide +kernel)) (by decide +kernel), List.forall_mem_nil _⟩⟩⟩⟩⟩⟩⟩⟩⟩⟩⟩⟩⟩⟩⟩⟩⟩⟩⟩⟩⟩⟩⟩⟩⟩
set_option maxRecDepth 100000 in
set_option maxHeartbeats 4000000 in
theorem gl_start {p : Program} {s : State} {m : MethodId} {meth : Method} {c : Code} (l : Launch) (hflags : l.flags = flags0) {b L : Nat} {xs : Nat → Int32} (hL : L ≤ 2560) (C0 : lw_At p s m meth c b L xs) : ∃ (D : va_G) (cy : Nat → ClassId) (t0 : Nat), Gl l s #[Value.ref b] D cy (t0, b, L, fun j => (xs j).toInt) := by
  obtain ⟨hx, hb, hr, hml, hown, hw, hX, hbl, hlocks, hgv⟩ := C0
  have hs := flat_of_before _ hgv
  have hts : ∀ w ∈ tb, w.before #[Value.ref b] s = true := fun w h => hw w (List.mem_filter.mp h).1
  have hA : ∀ a : Nat, a < s.heap.size → ¬ aB s a := fun a h => Nat.not_le.mpr h
  have hk : ∀ ci, ∃ (cC : ClassId) (iS : Nat → Nat), ci < 7 → u_Kn s (cNm ci) (fT ci) (nF ci) cC iS := by
    intro ci
    by_cases h : ci < 7
    · obtain ⟨cC, iS, q⟩ := u_known hts (in_at h) (hts _ (inst_at h))
      exact ⟨cC, iS, fun _ => q⟩
    · exact ⟨0, fun _ => 0, fun q => absurd q h⟩
  obtain ⟨cI, i1, i2⟩ := arr_prim (hts _ ac_int) (fun C h => by cases h)
  obtain ⟨cZ, z1, z2⟩ := arr_prim (hts _ ac_boolean) (fun C h => by cases h)
  obtain ⟨cJ, j1, j2⟩ := arr_prim (hts _ ac_long) (fun C h => by cases h)
  obtain ⟨cO, o1, o2⟩ := arr_obj (hw _ ao_obj)
  obtain ⟨cC, c1, c2⟩ := arr_obj (hw _ ao_copy)
  have hlen := va_eqt (hs (.eq (.length (.static RJx4a65c sDef "[Ljava/lang/Object;")) (.int 0)) (by decide +kernel))
  obtain ⟨t0, ht0, hT⟩ := va_Tof (N := 0) (f := fun _ => Value.null) (A := aB s) (by decide) (hs (.arrayOf (.static RJx4a65c sDef "[Ljava/lang/Object;") (.object "java/lang/Object")) (by decide +kernel)) hlen (fun j hj => absurd hj (Nat.not_lt_zero j)) hA
  refine ⟨(fun ci => Classical.choose (hk ci), fun ci => Classical.choose (Classical.choose_spec (hk ci))), (fun k => match k with | 0 => cI | 1 => cZ | 2 => cJ | 3 => cO | _ => cC), t0, ?_, hw, ⟨?_, ?_⟩, ?_, hT, ?_, hbl, ?_, strs_ok hw hs, ?_, ?_, ?_⟩
  · unfold Launch.stackTraces
    rw [hflags]
    decide +kernel
  · intro ci q hq
    have hci : ci < 7 := (List.getElem?_eq_some_iff.mp hq).1
    rw [vcl_at hci] at hq
    cases hq
    exact Classical.choose_spec (Classical.choose_spec (hk ci)) hci
  · intro k q hq
    match k, hq with
    | 0, hq => cases hq; exact ⟨i1, i2⟩
    | 1, hq => cases hq; exact ⟨z1, z2⟩
    | 2, hq => cases hq; exact ⟨j1, j2⟩
    | 3, hq => cases hq; exact ⟨o1, o2⟩
    | 4, hq => cases hq; exact ⟨c1, c2⟩
    | k + 5, hq => cases hq
  · exact va_Zof (hw _ (tbl1 43 (by decide +kernel))) (hts _ (ini_at (ci := 0) (by decide))) ht0 hA
  · obtain ⟨scr, h1, h2, h3, h4, h5⟩ := hX
    exact ⟨scr, h1, h2, h3, h4, fun j hj => by rw [h5 j hj]; show _ = some (Value.int (zI (xs j).toInt)); rw [zI_of]⟩
  · show L < 1000000
    omega
  · exact vx_Zqof (hw _ (tbl1 119 (by decide +kernel))) (hw _ (tbl1 6 (by decide +kernel))) (hs _ (by decide +kernel)) hA
  · exact vx_Zqof (hw _ (tbl1 121 (by decide +kernel))) (hw _ (tbl1 6 (by decide +kernel))) (hs _ (by decide +kernel)) hA
  · unfold exP
    exact List.forall_mem_cons.mpr ⟨va_Nc.of (hs _ (by decide +kernel)), List.forall_mem_cons.mpr ⟨va_Nc.of (hs _ (by decide +kernel)), List.forall_mem_cons.mpr ⟨va_Nc.of (hs _ (by decide +kernel)), List.forall_mem_nil _⟩⟩⟩
/-- the law as a plain method -/
abbrev mLaw : MI := (⟨RL, "law", "([I)Z"⟩, code, 7, ret, none)
def hp0 : Hp := ([], fun _ => 0, fun _ => 0, fun _ _ => 0, fun _ _ => none)
/-- the law's whole walk, said of plain heaps -/
theorem law_start {p : Program} {e : Env} {s : State} {m : MethodId} {below : List Frame} {meth : Method} {c : Code} (l : Launch) (hflags : l.flags = flags0) {b L : Nat} {xs : Nat → Int32} (hL : L ≤ 2560) (C0 : lw_At p s m meth c b L xs)
    (hrun : ∀ t0 : Nat, aM (t0, b, L, fun j => (xs j).toInt) 14 mLaw [vr b] hp0 601024 7293034 (fun v _ => v = some (vi 1)) (fun _ _ => False)) : W p l e room_1 s m #[Value.ref b] below meth c s.heap [] 0 0 (lw_Z below #[Value.ref b] s) (entryFrame m ([Value.ref b] : List Value).toArray 7) := by
  obtain ⟨D, cy, t0, hG⟩ := gl_start l hflags hL C0
  obtain ⟨hx, hb, hr, hml, hown, hw, hX, hbl, hlocks, hgv⟩ := id C0
  have h0 : ∀ (k : Nat) (q : Nat × va_E), (va_pl (hD hp0) (cellE cy hp0))[k]? = some q → False := by
    intro k q h
    simp [va_pl, hD, hp0] at h
  have hR0 : Rel s D cy hp0 s.heap := ⟨fun k q h => absurd (h0 k q h) id, ⟨fun i j p q h => absurd (h0 i p h) id, fun k q h => absurd (h0 k q h) id⟩, Nat.le_refl _, fun _ _ => rfl⟩
  have C : Cx p l e s m meth c s #[Value.ref b] D cy (t0, b, L, fun j => (xs j).toInt) mLaw := ⟨hG, hx, hb, hml, hown, State.WarmedH.refl s, Nat.le_refl _, fun _ _ => rfl, hlocks, fun q => absurd q (by decide), hr, fun q => absurd rfl q⟩
  refine entry_go (As := [vr b]) (h := hp0) (D := D) (cy := cy) (s0 := s) (c1 := 601024) (s1 := 7293034) rfl (Nat.le_of_ble_eq_true rfl) (noL_of (fun v hv => by rw [List.mem_singleton.mp hv]; rfl)) hR0 (Nat.le_refl _) (Nat.le_refl _) ?_
  refine hrun t0 _ ⟨cl1 hx hb, cl2 hx hb, cl3 hx hb, cl4 C ?_ ?_ rfl, cl5 C, cl6 C (snd hG 13) ?_ (Nat.le_refl _) (Nat.le_refl _) rfl, cl7 C ?_ ?_ rfl, ?_⟩
  · exact Nat.le_of_ble_eq_true rfl
  · exact Nat.le_of_ble_eq_true rfl
  · intro pc ls cc ss E h' hq
    exact absurd hq id
  · exact Nat.le_of_ble_eq_true rfl
  · exact Nat.le_of_ble_eq_true rfl
  · refine ⟨?_, ?_, ?_, ?_, ?_⟩
    · intro pc ls h c0 s1 v hd hty hq H locs cells slots lsA hR hS hc hs hn hnl hl
      have ev : v = 1 := by
        have := Option.some.inj hq
        exact Sum.inl.inj this
      subst ev
      refine va_forget (fun q hq => hS.2.2 q hq) ?_
      refine W.widen (k := 601024) (n := 7293034) (by have : cells + c0 ≤ 601024 := hc; omega) (by have : slots + s1 ≤ 7293034 := hs; omega) ?_
      exact lw_ret hx hb hr hlocks hd
    · intro pc ls h c0 s1 r ty hd hty hrt hq
      exact absurd (Option.some.inj hq) (by intro z; cases z)
    · intro pc ls h c0 s1 hd hty hq
      cases hq
    · intro pc ls st h c0 s1 E hthr hno h6 hst h1 h2 hq
      exact absurd hq id
    · intro pc ls st h c0 s1 c1 s2 h1 h2 hq H locs cells slots lsA hR hS hc hs hn hnl hl
      exact hq H locs cells slots lsA hR hS (by omega) (by omega) hn hnl hl
end
section
theorem zz_last : True := trivial
end
