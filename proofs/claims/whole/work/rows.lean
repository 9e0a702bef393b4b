section
-- ===== PART A: goes FIRST, ahead of the names: the tables' words, and 'selects' of the private methods out of them =====
/-- a private method of a class that the tables say can be made, by its rows of tables_1 -/
def lw_okq (q : MethodName × Nat) : Prop := (q.1.cls ≠ "java/lang/invoke/MethodHandle" ∧ q.1.cls ≠ "java/lang/invoke/VarHandle") ∧ Cond.instantiable q.1.cls q.2 ∈ tables_1 ∧ Cond.privateMethod q.1 ∈ tables_1 ∧ Cond.instanceMethod q.1 ∈ tables_1
theorem lw_p0 : lw_okq (⟨"RingDraughts$Board", "addToNumber", "(II)V"⟩, 4) := ⟨⟨by decide +kernel, by decide +kernel⟩, List.mem_of_getElem? (i := 27) (by decide +kernel), List.mem_of_getElem? (i := 186) (by decide +kernel), List.mem_of_getElem? (i := 187) (by decide +kernel)⟩
theorem lw_p1 : lw_okq (⟨"RingDraughts$Game", "keepPosition", "()V"⟩, 9) := ⟨⟨by decide +kernel, by decide +kernel⟩, List.mem_of_getElem? (i := 21) (by decide +kernel), List.mem_of_getElem? (i := 195) (by decide +kernel), List.mem_of_getElem? (i := 196) (by decide +kernel)⟩
theorem lw_p2 : lw_okq (⟨"RingDraughts$Game", "judge", "()V"⟩, 9) := ⟨⟨by decide +kernel, by decide +kernel⟩, List.mem_of_getElem? (i := 21) (by decide +kernel), List.mem_of_getElem? (i := 207) (by decide +kernel), List.mem_of_getElem? (i := 208) (by decide +kernel)⟩
theorem lw_p3 : lw_okq (⟨"RingDraughts$Game", "isSamePosition", "(II)Z"⟩, 9) := ⟨⟨by decide +kernel, by decide +kernel⟩, List.mem_of_getElem? (i := 21) (by decide +kernel), List.mem_of_getElem? (i := 247) (by decide +kernel), List.mem_of_getElem? (i := 248) (by decide +kernel)⟩
theorem lw_p4 : lw_okq (⟨"RingDraughts$History", "dropOldest", "()V"⟩, 2) := ⟨⟨by decide +kernel, by decide +kernel⟩, List.mem_of_getElem? (i := 92) (by decide +kernel), List.mem_of_getElem? (i := 281) (by decide +kernel), List.mem_of_getElem? (i := 282) (by decide +kernel)⟩
theorem lw_p5 : lw_okq (⟨"RingDraughts$Board", "numberOf", "(I)I"⟩, 4) := ⟨⟨by decide +kernel, by decide +kernel⟩, List.mem_of_getElem? (i := 27) (by decide +kernel), List.mem_of_getElem? (i := 310) (by decide +kernel), List.mem_of_getElem? (i := 311) (by decide +kernel)⟩
theorem lw_p6 : lw_okq (⟨"RingDraughts", "isOneTooMany", "(II)Z"⟩, 5) := ⟨⟨by decide +kernel, by decide +kernel⟩, List.mem_of_getElem? (i := 13) (by decide +kernel), List.mem_of_getElem? (i := 332) (by decide +kernel), List.mem_of_getElem? (i := 333) (by decide +kernel)⟩
theorem lw_p7 : lw_okq (⟨"RingDraughts", "hopsOfNow", "()LRingDraughts$Hops;"⟩, 5) := ⟨⟨by decide +kernel, by decide +kernel⟩, List.mem_of_getElem? (i := 13) (by decide +kernel), List.mem_of_getElem? (i := 350) (by decide +kernel), List.mem_of_getElem? (i := 351) (by decide +kernel)⟩
theorem lw_p8 : lw_okq (⟨"RingDraughts$Hops", "addLandings", "(LRingDraughts$Board;IIII)V"⟩, 6) := ⟨⟨by decide +kernel, by decide +kernel⟩, List.mem_of_getElem? (i := 131) (by decide +kernel), List.mem_of_getElem? (i := 367) (by decide +kernel), List.mem_of_getElem? (i := 368) (by decide +kernel)⟩
theorem lw_p9 : lw_okq (⟨"RingDraughts$Hops", "add", "(IIIII)V"⟩, 6) := ⟨⟨by decide +kernel, by decide +kernel⟩, List.mem_of_getElem? (i := 131) (by decide +kernel), List.mem_of_getElem? (i := 372) (by decide +kernel), List.mem_of_getElem? (i := 373) (by decide +kernel)⟩
theorem lw_p10 : lw_okq (⟨"RingDraughts$Hops", "listPlainHops", "(LRingDraughts$Board;)V"⟩, 6) := ⟨⟨by decide +kernel, by decide +kernel⟩, List.mem_of_getElem? (i := 131) (by decide +kernel), List.mem_of_getElem? (i := 376) (by decide +kernel), List.mem_of_getElem? (i := 377) (by decide +kernel)⟩
theorem lw_p11 : lw_okq (⟨"RingDraughts", "makeToldHop", "(IIZ)Z"⟩, 5) := ⟨⟨by decide +kernel, by decide +kernel⟩, List.mem_of_getElem? (i := 13) (by decide +kernel), List.mem_of_getElem? (i := 446) (by decide +kernel), List.mem_of_getElem? (i := 447) (by decide +kernel)⟩
theorem lw_p12 : lw_okq (⟨"RingDraughts", "isInDanger", "(I)Z"⟩, 5) := ⟨⟨by decide +kernel, by decide +kernel⟩, List.mem_of_getElem? (i := 13) (by decide +kernel), List.mem_of_getElem? (i := 460) (by decide +kernel), List.mem_of_getElem? (i := 461) (by decide +kernel)⟩
theorem lw_p13 : lw_okq (⟨"RingDraughts", "isJumpedOnBehind", "(I)Z"⟩, 5) := ⟨⟨by decide +kernel, by decide +kernel⟩, List.mem_of_getElem? (i := 13) (by decide +kernel), List.mem_of_getElem? (i := 494) (by decide +kernel), List.mem_of_getElem? (i := 495) (by decide +kernel)⟩
theorem lw_p14 : lw_okq (⟨"RingDraughtsModel", "start", "(Z)V"⟩, 20) := ⟨⟨by decide +kernel, by decide +kernel⟩, List.mem_of_getElem? (i := 578) (by decide +kernel), List.mem_of_getElem? (i := 584) (by decide +kernel), List.mem_of_getElem? (i := 585) (by decide +kernel)⟩
theorem lw_p15 : lw_okq (⟨"RingDraughtsModel", "beginHere", "()V"⟩, 20) := ⟨⟨by decide +kernel, by decide +kernel⟩, List.mem_of_getElem? (i := 578) (by decide +kernel), List.mem_of_getElem? (i := 591) (by decide +kernel), List.mem_of_getElem? (i := 592) (by decide +kernel)⟩
def lw_privs_1 : List (MethodName × Nat) := [(⟨"RingDraughts$Board", "addToNumber", "(II)V"⟩, 4), (⟨"RingDraughts$Game", "keepPosition", "()V"⟩, 9), (⟨"RingDraughts$Game", "judge", "()V"⟩, 9), (⟨"RingDraughts$Game", "isSamePosition", "(II)Z"⟩, 9), (⟨"RingDraughts$History", "dropOldest", "()V"⟩, 2), (⟨"RingDraughts$Board", "numberOf", "(I)I"⟩, 4), (⟨"RingDraughts", "isOneTooMany", "(II)Z"⟩, 5), (⟨"RingDraughts", "hopsOfNow", "()LRingDraughts$Hops;"⟩, 5), (⟨"RingDraughts$Hops", "addLandings", "(LRingDraughts$Board;IIII)V"⟩, 6), (⟨"RingDraughts$Hops", "add", "(IIIII)V"⟩, 6), (⟨"RingDraughts$Hops", "listPlainHops", "(LRingDraughts$Board;)V"⟩, 6), (⟨"RingDraughts", "makeToldHop", "(IIZ)Z"⟩, 5), (⟨"RingDraughts", "isInDanger", "(I)Z"⟩, 5), (⟨"RingDraughts", "isJumpedOnBehind", "(I)Z"⟩, 5), (⟨"RingDraughtsModel", "start", "(Z)V"⟩, 20), (⟨"RingDraughtsModel", "beginHere", "()V"⟩, 20)]
theorem lw_r1 : ∀ q ∈ lw_privs_1, lw_okq q := List.forall_mem_cons.mpr ⟨lw_p0, List.forall_mem_cons.mpr ⟨lw_p1, List.forall_mem_cons.mpr ⟨lw_p2, List.forall_mem_cons.mpr ⟨lw_p3, List.forall_mem_cons.mpr ⟨lw_p4, List.forall_mem_cons.mpr ⟨lw_p5, List.forall_mem_cons.mpr ⟨lw_p6, List.forall_mem_cons.mpr ⟨lw_p7, List.forall_mem_cons.mpr ⟨lw_p8, List.forall_mem_cons.mpr ⟨lw_p9, List.forall_mem_cons.mpr ⟨lw_p10, List.forall_mem_cons.mpr ⟨lw_p11, List.forall_mem_cons.mpr ⟨lw_p12, List.forall_mem_cons.mpr ⟨lw_p13, List.forall_mem_cons.mpr ⟨lw_p14, List.forall_mem_cons.mpr ⟨lw_p15, fun _ h => absurd h List.not_mem_nil⟩⟩⟩⟩⟩⟩⟩⟩⟩⟩⟩⟩⟩⟩⟩⟩
theorem lw_p16 : lw_okq (⟨"RingDraughtsModel", "forgetPositions", "()V"⟩, 20) := ⟨⟨by decide +kernel, by decide +kernel⟩, List.mem_of_getElem? (i := 578) (by decide +kernel), List.mem_of_getElem? (i := 595) (by decide +kernel), List.mem_of_getElem? (i := 596) (by decide +kernel)⟩
theorem lw_p17 : lw_okq (⟨"RingDraughtsModel", "writePosition", "()V"⟩, 20) := ⟨⟨by decide +kernel, by decide +kernel⟩, List.mem_of_getElem? (i := 578) (by decide +kernel), List.mem_of_getElem? (i := 599) (by decide +kernel), List.mem_of_getElem? (i := 600) (by decide +kernel)⟩
theorem lw_p18 : lw_okq (⟨"RingDraughtsModel", "squaresOf", "(I)I"⟩, 20) := ⟨⟨by decide +kernel, by decide +kernel⟩, List.mem_of_getElem? (i := 578) (by decide +kernel), List.mem_of_getElem? (i := 603) (by decide +kernel), List.mem_of_getElem? (i := 604) (by decide +kernel)⟩
theorem lw_p19 : lw_okq (⟨"RingDraughtsModel", "judge", "()V"⟩, 20) := ⟨⟨by decide +kernel, by decide +kernel⟩, List.mem_of_getElem? (i := 578) (by decide +kernel), List.mem_of_getElem? (i := 607) (by decide +kernel), List.mem_of_getElem? (i := 608) (by decide +kernel)⟩
theorem lw_p20 : lw_okq (⟨"RingDraughtsModel", "look", "()V"⟩, 20) := ⟨⟨by decide +kernel, by decide +kernel⟩, List.mem_of_getElem? (i := 578) (by decide +kernel), List.mem_of_getElem? (i := 611) (by decide +kernel), List.mem_of_getElem? (i := 612) (by decide +kernel)⟩
theorem lw_p21 : lw_okq (⟨"RingDraughtsModel", "listHops", "(I)V"⟩, 20) := ⟨⟨by decide +kernel, by decide +kernel⟩, List.mem_of_getElem? (i := 578) (by decide +kernel), List.mem_of_getElem? (i := 615) (by decide +kernel), List.mem_of_getElem? (i := 616) (by decide +kernel)⟩
theorem lw_p22 : lw_okq (⟨"RingDraughtsModel", "listAllJumps", "(III)V"⟩, 20) := ⟨⟨by decide +kernel, by decide +kernel⟩, List.mem_of_getElem? (i := 578) (by decide +kernel), List.mem_of_getElem? (i := 619) (by decide +kernel), List.mem_of_getElem? (i := 620) (by decide +kernel)⟩
theorem lw_p23 : lw_okq (⟨"RingDraughtsModel", "pieceAt", "(II)I"⟩, 20) := ⟨⟨by decide +kernel, by decide +kernel⟩, List.mem_of_getElem? (i := 578) (by decide +kernel), List.mem_of_getElem? (i := 623) (by decide +kernel), List.mem_of_getElem? (i := 624) (by decide +kernel)⟩
theorem lw_p24 : lw_okq (⟨"RingDraughtsModel", "goesWay", "(II)Z"⟩, 20) := ⟨⟨by decide +kernel, by decide +kernel⟩, List.mem_of_getElem? (i := 578) (by decide +kernel), List.mem_of_getElem? (i := 630) (by decide +kernel), List.mem_of_getElem? (i := 631) (by decide +kernel)⟩
theorem lw_p25 : lw_okq (⟨"RingDraughtsModel", "listJumps", "(III)V"⟩, 20) := ⟨⟨by decide +kernel, by decide +kernel⟩, List.mem_of_getElem? (i := 578) (by decide +kernel), List.mem_of_getElem? (i := 637) (by decide +kernel), List.mem_of_getElem? (i := 638) (by decide +kernel)⟩
theorem lw_p26 : lw_okq (⟨"RingDraughtsModel", "isEmpty", "(II)Z"⟩, 20) := ⟨⟨by decide +kernel, by decide +kernel⟩, List.mem_of_getElem? (i := 578) (by decide +kernel), List.mem_of_getElem? (i := 647) (by decide +kernel), List.mem_of_getElem? (i := 648) (by decide +kernel)⟩
theorem lw_p27 : lw_okq (⟨"RingDraughtsModel", "list", "(IIIIII)V"⟩, 20) := ⟨⟨by decide +kernel, by decide +kernel⟩, List.mem_of_getElem? (i := 578) (by decide +kernel), List.mem_of_getElem? (i := 651) (by decide +kernel), List.mem_of_getElem? (i := 652) (by decide +kernel)⟩
theorem lw_p28 : lw_okq (⟨"RingDraughtsModel", "listMoves", "(III)V"⟩, 20) := ⟨⟨by decide +kernel, by decide +kernel⟩, List.mem_of_getElem? (i := 578) (by decide +kernel), List.mem_of_getElem? (i := 655) (by decide +kernel), List.mem_of_getElem? (i := 656) (by decide +kernel)⟩
theorem lw_p29 : lw_okq (⟨"RingDraughtsModel", "timesCome", "()I"⟩, 20) := ⟨⟨by decide +kernel, by decide +kernel⟩, List.mem_of_getElem? (i := 578) (by decide +kernel), List.mem_of_getElem? (i := 659) (by decide +kernel), List.mem_of_getElem? (i := 660) (by decide +kernel)⟩
theorem lw_p30 : lw_okq (⟨"RingDraughtsModel", "record", "()V"⟩, 20) := ⟨⟨by decide +kernel, by decide +kernel⟩, List.mem_of_getElem? (i := 578) (by decide +kernel), List.mem_of_getElem? (i := 740) (by decide +kernel), List.mem_of_getElem? (i := 741) (by decide +kernel)⟩
theorem lw_p31 : lw_okq (⟨"RingDraughtsModel", "all", "(I)I"⟩, 20) := ⟨⟨by decide +kernel, by decide +kernel⟩, List.mem_of_getElem? (i := 578) (by decide +kernel), List.mem_of_getElem? (i := 752) (by decide +kernel), List.mem_of_getElem? (i := 753) (by decide +kernel)⟩
def lw_privs_2 : List (MethodName × Nat) := [(⟨"RingDraughtsModel", "forgetPositions", "()V"⟩, 20), (⟨"RingDraughtsModel", "writePosition", "()V"⟩, 20), (⟨"RingDraughtsModel", "squaresOf", "(I)I"⟩, 20), (⟨"RingDraughtsModel", "judge", "()V"⟩, 20), (⟨"RingDraughtsModel", "look", "()V"⟩, 20), (⟨"RingDraughtsModel", "listHops", "(I)V"⟩, 20), (⟨"RingDraughtsModel", "listAllJumps", "(III)V"⟩, 20), (⟨"RingDraughtsModel", "pieceAt", "(II)I"⟩, 20), (⟨"RingDraughtsModel", "goesWay", "(II)Z"⟩, 20), (⟨"RingDraughtsModel", "listJumps", "(III)V"⟩, 20), (⟨"RingDraughtsModel", "isEmpty", "(II)Z"⟩, 20), (⟨"RingDraughtsModel", "list", "(IIIIII)V"⟩, 20), (⟨"RingDraughtsModel", "listMoves", "(III)V"⟩, 20), (⟨"RingDraughtsModel", "timesCome", "()I"⟩, 20), (⟨"RingDraughtsModel", "record", "()V"⟩, 20), (⟨"RingDraughtsModel", "all", "(I)I"⟩, 20)]
theorem lw_r2 : ∀ q ∈ lw_privs_2, lw_okq q := List.forall_mem_cons.mpr ⟨lw_p16, List.forall_mem_cons.mpr ⟨lw_p17, List.forall_mem_cons.mpr ⟨lw_p18, List.forall_mem_cons.mpr ⟨lw_p19, List.forall_mem_cons.mpr ⟨lw_p20, List.forall_mem_cons.mpr ⟨lw_p21, List.forall_mem_cons.mpr ⟨lw_p22, List.forall_mem_cons.mpr ⟨lw_p23, List.forall_mem_cons.mpr ⟨lw_p24, List.forall_mem_cons.mpr ⟨lw_p25, List.forall_mem_cons.mpr ⟨lw_p26, List.forall_mem_cons.mpr ⟨lw_p27, List.forall_mem_cons.mpr ⟨lw_p28, List.forall_mem_cons.mpr ⟨lw_p29, List.forall_mem_cons.mpr ⟨lw_p30, List.forall_mem_cons.mpr ⟨lw_p31, fun _ h => absurd h List.not_mem_nil⟩⟩⟩⟩⟩⟩⟩⟩⟩⟩⟩⟩⟩⟩⟩⟩
theorem lw_p32 : lw_okq (⟨"RingDraughtsModel", "pieces", "(II)I"⟩, 20) := ⟨⟨by decide +kernel, by decide +kernel⟩, List.mem_of_getElem? (i := 578) (by decide +kernel), List.mem_of_getElem? (i := 756) (by decide +kernel), List.mem_of_getElem? (i := 757) (by decide +kernel)⟩
theorem lw_p33 : lw_okq (⟨"RingDraughtsModel", "makeIt", "(I)V"⟩, 20) := ⟨⟨by decide +kernel, by decide +kernel⟩, List.mem_of_getElem? (i := 578) (by decide +kernel), List.mem_of_getElem? (i := 775) (by decide +kernel), List.mem_of_getElem? (i := 776) (by decide +kernel)⟩
theorem lw_p34 : lw_okq (⟨"RingDraughtsModel", "go", "(II)V"⟩, 20) := ⟨⟨by decide +kernel, by decide +kernel⟩, List.mem_of_getElem? (i := 578) (by decide +kernel), List.mem_of_getElem? (i := 779) (by decide +kernel), List.mem_of_getElem? (i := 780) (by decide +kernel)⟩
theorem lw_p35 : lw_okq (⟨"RingDraughtsModel", "becomesKing", "(II)Z"⟩, 20) := ⟨⟨by decide +kernel, by decide +kernel⟩, List.mem_of_getElem? (i := 578) (by decide +kernel), List.mem_of_getElem? (i := 783) (by decide +kernel), List.mem_of_getElem? (i := 784) (by decide +kernel)⟩
theorem lw_p36 : lw_okq (⟨"RingDraughtsModel", "hopFrom", "(II)I"⟩, 20) := ⟨⟨by decide +kernel, by decide +kernel⟩, List.mem_of_getElem? (i := 578) (by decide +kernel), List.mem_of_getElem? (i := 791) (by decide +kernel), List.mem_of_getElem? (i := 792) (by decide +kernel)⟩
theorem lw_p37 : lw_okq (⟨"RingDraughtsModel", "isInDanger", "(I)Z"⟩, 20) := ⟨⟨by decide +kernel, by decide +kernel⟩, List.mem_of_getElem? (i := 578) (by decide +kernel), List.mem_of_getElem? (i := 803) (by decide +kernel), List.mem_of_getElem? (i := 804) (by decide +kernel)⟩
theorem lw_p38 : lw_okq (⟨"RingDraughtsModel", "hopsFrom", "(I)I"⟩, 20) := ⟨⟨by decide +kernel, by decide +kernel⟩, List.mem_of_getElem? (i := 578) (by decide +kernel), List.mem_of_getElem? (i := 807) (by decide +kernel), List.mem_of_getElem? (i := 808) (by decide +kernel)⟩
theorem lw_p39 : lw_okq (⟨"RingDraughtsModel", "goesOn", "(I)I"⟩, 20) := ⟨⟨by decide +kernel, by decide +kernel⟩, List.mem_of_getElem? (i := 578) (by decide +kernel), List.mem_of_getElem? (i := 819) (by decide +kernel), List.mem_of_getElem? (i := 820) (by decide +kernel)⟩
theorem lw_p40 : lw_okq (⟨"RingDraughtsModel", "hopsNow", "()I"⟩, 20) := ⟨⟨by decide +kernel, by decide +kernel⟩, List.mem_of_getElem? (i := 578) (by decide +kernel), List.mem_of_getElem? (i := 831) (by decide +kernel), List.mem_of_getElem? (i := 832) (by decide +kernel)⟩
theorem lw_p41 : lw_okq (⟨"RingDraughtsModel", "rowsOfTwo", "(II)I"⟩, 20) := ⟨⟨by decide +kernel, by decide +kernel⟩, List.mem_of_getElem? (i := 578) (by decide +kernel), List.mem_of_getElem? (i := 839) (by decide +kernel), List.mem_of_getElem? (i := 840) (by decide +kernel)⟩
theorem lw_p42 : lw_okq (⟨"RingDraughtsModel", "rowsOfThree", "()I"⟩, 20) := ⟨⟨by decide +kernel, by decide +kernel⟩, List.mem_of_getElem? (i := 578) (by decide +kernel), List.mem_of_getElem? (i := 843) (by decide +kernel), List.mem_of_getElem? (i := 844) (by decide +kernel)⟩
theorem lw_p43 : lw_okq (⟨"RingDraughtsModel", "worthNow", "(I)I"⟩, 20) := ⟨⟨by decide +kernel, by decide +kernel⟩, List.mem_of_getElem? (i := 578) (by decide +kernel), List.mem_of_getElem? (i := 851) (by decide +kernel), List.mem_of_getElem? (i := 852) (by decide +kernel)⟩
theorem lw_p44 : lw_okq (⟨"RingDraughtsModel", "worthOfOne", "(I)I"⟩, 20) := ⟨⟨by decide +kernel, by decide +kernel⟩, List.mem_of_getElem? (i := 578) (by decide +kernel), List.mem_of_getElem? (i := 855) (by decide +kernel), List.mem_of_getElem? (i := 856) (by decide +kernel)⟩
theorem lw_p45 : lw_okq (⟨"RingDraughtsModel", "worthLost", "(I)I"⟩, 20) := ⟨⟨by decide +kernel, by decide +kernel⟩, List.mem_of_getElem? (i := 578) (by decide +kernel), List.mem_of_getElem? (i := 859) (by decide +kernel), List.mem_of_getElem? (i := 860) (by decide +kernel)⟩
theorem lw_p46 : lw_okq (⟨"RingDraughtsModel", "isBetter", "(III)Z"⟩, 20) := ⟨⟨by decide +kernel, by decide +kernel⟩, List.mem_of_getElem? (i := 578) (by decide +kernel), List.mem_of_getElem? (i := 863) (by decide +kernel), List.mem_of_getElem? (i := 864) (by decide +kernel)⟩
theorem lw_p47 : lw_okq (⟨"RingDraughtsModel", "worthOfTwo", "()I"⟩, 20) := ⟨⟨by decide +kernel, by decide +kernel⟩, List.mem_of_getElem? (i := 578) (by decide +kernel), List.mem_of_getElem? (i := 867) (by decide +kernel), List.mem_of_getElem? (i := 868) (by decide +kernel)⟩
def lw_privs_3 : List (MethodName × Nat) := [(⟨"RingDraughtsModel", "pieces", "(II)I"⟩, 20), (⟨"RingDraughtsModel", "makeIt", "(I)V"⟩, 20), (⟨"RingDraughtsModel", "go", "(II)V"⟩, 20), (⟨"RingDraughtsModel", "becomesKing", "(II)Z"⟩, 20), (⟨"RingDraughtsModel", "hopFrom", "(II)I"⟩, 20), (⟨"RingDraughtsModel", "isInDanger", "(I)Z"⟩, 20), (⟨"RingDraughtsModel", "hopsFrom", "(I)I"⟩, 20), (⟨"RingDraughtsModel", "goesOn", "(I)I"⟩, 20), (⟨"RingDraughtsModel", "hopsNow", "()I"⟩, 20), (⟨"RingDraughtsModel", "rowsOfTwo", "(II)I"⟩, 20), (⟨"RingDraughtsModel", "rowsOfThree", "()I"⟩, 20), (⟨"RingDraughtsModel", "worthNow", "(I)I"⟩, 20), (⟨"RingDraughtsModel", "worthOfOne", "(I)I"⟩, 20), (⟨"RingDraughtsModel", "worthLost", "(I)I"⟩, 20), (⟨"RingDraughtsModel", "isBetter", "(III)Z"⟩, 20), (⟨"RingDraughtsModel", "worthOfTwo", "()I"⟩, 20)]
theorem lw_r3 : ∀ q ∈ lw_privs_3, lw_okq q := List.forall_mem_cons.mpr ⟨lw_p32, List.forall_mem_cons.mpr ⟨lw_p33, List.forall_mem_cons.mpr ⟨lw_p34, List.forall_mem_cons.mpr ⟨lw_p35, List.forall_mem_cons.mpr ⟨lw_p36, List.forall_mem_cons.mpr ⟨lw_p37, List.forall_mem_cons.mpr ⟨lw_p38, List.forall_mem_cons.mpr ⟨lw_p39, List.forall_mem_cons.mpr ⟨lw_p40, List.forall_mem_cons.mpr ⟨lw_p41, List.forall_mem_cons.mpr ⟨lw_p42, List.forall_mem_cons.mpr ⟨lw_p43, List.forall_mem_cons.mpr ⟨lw_p44, List.forall_mem_cons.mpr ⟨lw_p45, List.forall_mem_cons.mpr ⟨lw_p46, List.forall_mem_cons.mpr ⟨lw_p47, fun _ h => absurd h List.not_mem_nil⟩⟩⟩⟩⟩⟩⟩⟩⟩⟩⟩⟩⟩⟩⟩⟩
theorem lw_p48 : lw_okq (⟨"RingDraughtsModel", "readPad", "()I"⟩, 20) := ⟨⟨by decide +kernel, by decide +kernel⟩, List.mem_of_getElem? (i := 578) (by decide +kernel), List.mem_of_getElem? (i := 888) (by decide +kernel), List.mem_of_getElem? (i := 889) (by decide +kernel)⟩
theorem lw_p49 : lw_okq (⟨"RingDraughtsModel", "readHop", "()V"⟩, 20) := ⟨⟨by decide +kernel, by decide +kernel⟩, List.mem_of_getElem? (i := 578) (by decide +kernel), List.mem_of_getElem? (i := 892) (by decide +kernel), List.mem_of_getElem? (i := 893) (by decide +kernel)⟩
theorem lw_p50 : lw_okq (⟨"RingDraughtsModel", "number", "()I"⟩, 20) := ⟨⟨by decide +kernel, by decide +kernel⟩, List.mem_of_getElem? (i := 578) (by decide +kernel), List.mem_of_getElem? (i := 896) (by decide +kernel), List.mem_of_getElem? (i := 897) (by decide +kernel)⟩
theorem lw_p51 : lw_okq (⟨"RingDraughtsModel", "letter", "()I"⟩, 20) := ⟨⟨by decide +kernel, by decide +kernel⟩, List.mem_of_getElem? (i := 578) (by decide +kernel), List.mem_of_getElem? (i := 900) (by decide +kernel), List.mem_of_getElem? (i := 901) (by decide +kernel)⟩
theorem lw_p52 : lw_okq (⟨"RingDraughtsModel", "wants", "(Z)V"⟩, 20) := ⟨⟨by decide +kernel, by decide +kernel⟩, List.mem_of_getElem? (i := 578) (by decide +kernel), List.mem_of_getElem? (i := 904) (by decide +kernel), List.mem_of_getElem? (i := 905) (by decide +kernel)⟩
theorem lw_p53 : lw_okq (⟨"RingDraughtsModel", "plays", "(I)Z"⟩, 20) := ⟨⟨by decide +kernel, by decide +kernel⟩, List.mem_of_getElem? (i := 578) (by decide +kernel), List.mem_of_getElem? (i := 912) (by decide +kernel), List.mem_of_getElem? (i := 913) (by decide +kernel)⟩
def lw_privs_4 : List (MethodName × Nat) := [(⟨"RingDraughtsModel", "readPad", "()I"⟩, 20), (⟨"RingDraughtsModel", "readHop", "()V"⟩, 20), (⟨"RingDraughtsModel", "number", "()I"⟩, 20), (⟨"RingDraughtsModel", "letter", "()I"⟩, 20), (⟨"RingDraughtsModel", "wants", "(Z)V"⟩, 20), (⟨"RingDraughtsModel", "plays", "(I)Z"⟩, 20)]
theorem lw_r4 : ∀ q ∈ lw_privs_4, lw_okq q := List.forall_mem_cons.mpr ⟨lw_p48, List.forall_mem_cons.mpr ⟨lw_p49, List.forall_mem_cons.mpr ⟨lw_p50, List.forall_mem_cons.mpr ⟨lw_p51, List.forall_mem_cons.mpr ⟨lw_p52, List.forall_mem_cons.mpr ⟨lw_p53, fun _ h => absurd h List.not_mem_nil⟩⟩⟩⟩⟩⟩
def lw_privs : List (MethodName × Nat) := lw_privs_1 ++ (lw_privs_2 ++ (lw_privs_3 ++ (lw_privs_4)))
def lw_tbl : List Cond := k2_sels lw_privs ++ tables_1
theorem lw_privs_ok : ∀ q ∈ lw_privs, lw_okq q := by
  show ∀ q ∈ lw_privs_1 ++ (lw_privs_2 ++ (lw_privs_3 ++ (lw_privs_4))), lw_okq q
  exact List.forall_mem_append.mpr ⟨lw_r1, List.forall_mem_append.mpr ⟨lw_r2, List.forall_mem_append.mpr ⟨lw_r3, lw_r4⟩⟩⟩
end
section
def RX0 : String := "RingDraughts$Board"
def TX0 : u_T := fun k => match k with
  | 0 => ("RingDraughts$Board", "pieces", "[I", true)
  | 1 => ("RingDraughts$Board", "numbers", "[I", true)
  | 2 => ("RingDraughts$Board", "mover", "I", false)
  | _ => ("RingDraughts$Board", "jumper", "I", false)
def tyX0 : Nat → FieldType := fun k => match k with
  | 0 => .array .int
  | 1 => .array .int
  | 2 => .int
  | _ => .int
abbrev wsX00 : List Cond := u_ws RX0 TX0 4
theorem nmX0 : ∀ a, a < 4 → ∀ b, b < 4 → a ≠ b → (TX0 a).2.1 ≠ (TX0 b).2.1 := by decide +kernel
theorem tyX0_ok : ∀ k, k < 4 → parseFieldDescriptor (TX0 k).2.2.1 = some (tyX0 k) := by decide +kernel
abbrev cX0_init : ByteArray := prog_2_method_1_code
def yX0_init : MethodName := ⟨RX0, "<init>", "()V"⟩
abbrev cX0_copyFrom : ByteArray := prog_2_method_2_code
def yX0_copyFrom : MethodName := ⟨RX0, "copyFrom", "(LRingDraughts$Board;)V"⟩
abbrev cX0_empty : ByteArray := prog_2_method_3_code
def yX0_empty : MethodName := ⟨RX0, "empty", "()V"⟩
abbrev cX0_fillRow : ByteArray := prog_2_method_4_code
def yX0_fillRow : MethodName := ⟨RX0, "fillRow", "(II)V"⟩
abbrev cX0_pieceAt : ByteArray := prog_2_method_5_code
def yX0_pieceAt : MethodName := ⟨RX0, "pieceAt", "(I)I"⟩
abbrev cX0_place : ByteArray := prog_2_method_6_code
def yX0_place : MethodName := ⟨RX0, "place", "(II)V"⟩
abbrev cX0_addToNumber : ByteArray := prog_2_method_7_code
def yX0_addToNumber : MethodName := ⟨RX0, "addToNumber", "(II)V"⟩
abbrev cX0_numberOf : ByteArray := prog_2_method_8_code
def yX0_numberOf : MethodName := ⟨RX0, "numberOf", "(I)I"⟩
abbrev cX0_menOf : ByteArray := prog_2_method_9_code
def yX0_menOf : MethodName := ⟨RX0, "menOf", "(I)I"⟩
abbrev cX0_kingsOf : ByteArray := prog_2_method_10_code
def yX0_kingsOf : MethodName := ⟨RX0, "kingsOf", "(I)I"⟩
abbrev cX0_piecesOf : ByteArray := prog_2_method_11_code
def yX0_piecesOf : MethodName := ⟨RX0, "piecesOf", "(I)I"⟩
abbrev cX0_worthOf : ByteArray := prog_2_method_12_code
def yX0_worthOf : MethodName := ⟨RX0, "worthOf", "(I)I"⟩
abbrev cX0_stepsToPrey : ByteArray := prog_2_method_13_code
def yX0_stepsToPrey : MethodName := ⟨RX0, "stepsToPrey", "(II)I"⟩
abbrev cX0_canJump : ByteArray := prog_2_method_14_code
def yX0_canJump : MethodName := ⟨RX0, "canJump", "(I)Z"⟩
abbrev cX0_hasHop : ByteArray := prog_2_method_15_code
def yX0_hasHop : MethodName := ⟨RX0, "hasHop", "()Z"⟩
abbrev cX0_make : ByteArray := prog_2_method_16_code
def yX0_make : MethodName := ⟨RX0, "make", "(LRingDraughts$Hops;I)V"⟩
abbrev cX0_third : ByteArray := prog_2_method_17_code
def yX0_third : MethodName := ⟨RX0, "third", "(I)J"⟩
def RX1 : String := "RingDraughts$Game"
def TX1 : u_T := fun k => match k with
  | 0 => ("RingDraughts$Game", "board", "LRingDraughts$Board;", true)
  | 1 => ("RingDraughts$Game", "clocks", "[I", true)
  | 2 => ("RingDraughts$Game", "lost", "[I", true)
  | 3 => ("RingDraughts$Game", "positions", "[J", true)
  | 4 => ("RingDraughts$Game", "positionsKept", "I", false)
  | 5 => ("RingDraughts$Game", "clockSetting", "I", false)
  | 6 => ("RingDraughts$Game", "hopsMade", "I", false)
  | 7 => ("RingDraughts$Game", "quietHops", "I", false)
  | _ => ("RingDraughts$Game", "outcome", "I", false)
def tyX1 : Nat → FieldType := fun k => match k with
  | 0 => .object "RingDraughts$Board"
  | 1 => .array .int
  | 2 => .array .int
  | 3 => .array .long
  | 4 => .int
  | 5 => .int
  | 6 => .int
  | 7 => .int
  | _ => .int
abbrev wsX10 : List Cond := u_ws RX1 TX1 9
theorem nmX1 : ∀ a, a < 9 → ∀ b, b < 9 → a ≠ b → (TX1 a).2.1 ≠ (TX1 b).2.1 := by decide +kernel
theorem tyX1_ok : ∀ k, k < 9 → parseFieldDescriptor (TX1 k).2.2.1 = some (tyX1 k) := by decide +kernel
abbrev cX1_init : ByteArray := prog_3_method_1_code
def yX1_init : MethodName := ⟨RX1, "<init>", "()V"⟩
abbrev cX1_copyFrom : ByteArray := prog_3_method_2_code
def yX1_copyFrom : MethodName := ⟨RX1, "copyFrom", "(LRingDraughts$Game;)V"⟩
abbrev cX1_start : ByteArray := prog_3_method_3_code
def yX1_start : MethodName := ⟨RX1, "start", "(Z)V"⟩
abbrev cX1_startFromHere : ByteArray := prog_3_method_4_code
def yX1_startFromHere : MethodName := ⟨RX1, "startFromHere", "()V"⟩
abbrev cX1_makeHop : ByteArray := prog_3_method_5_code
def yX1_makeHop : MethodName := ⟨RX1, "makeHop", "(LRingDraughts$Hops;II)V"⟩
abbrev cX1_judge : ByteArray := prog_3_method_6_code
def yX1_judge : MethodName := ⟨RX1, "judge", "()V"⟩
abbrev cX1_keepPosition : ByteArray := prog_3_method_7_code
def yX1_keepPosition : MethodName := ⟨RX1, "keepPosition", "()V"⟩
abbrev cX1_timesOfNow : ByteArray := prog_3_method_8_code
def yX1_timesOfNow : MethodName := ⟨RX1, "timesOfNow", "()I"⟩
abbrev cX1_isSamePosition : ByteArray := prog_3_method_9_code
def yX1_isSamePosition : MethodName := ⟨RX1, "isSamePosition", "(II)Z"⟩
def RX2 : String := "RingDraughts$History"
def TX2 : u_T := fun k => match k with
  | 0 => ("RingDraughts$History", "states", "[LRingDraughts$Game;", true)
  | _ => ("RingDraughts$History", "size", "I", false)
def tyX2 : Nat → FieldType := fun k => match k with
  | 0 => .array (.object "RingDraughts$Game")
  | _ => .int
abbrev wsX20 : List Cond := u_ws RX2 TX2 2
theorem nmX2 : ∀ a, a < 2 → ∀ b, b < 2 → a ≠ b → (TX2 a).2.1 ≠ (TX2 b).2.1 := by decide +kernel
theorem tyX2_ok : ∀ k, k < 2 → parseFieldDescriptor (TX2 k).2.2.1 = some (tyX2 k) := by decide +kernel
abbrev cX2_init : ByteArray := prog_4_method_1_code
def yX2_init : MethodName := ⟨RX2, "<init>", "()V"⟩
abbrev cX2_keep : ByteArray := prog_4_method_2_code
def yX2_keep : MethodName := ⟨RX2, "keep", "(LRingDraughts$Game;)V"⟩
abbrev cX2_dropOldest : ByteArray := prog_4_method_3_code
def yX2_dropOldest : MethodName := ⟨RX2, "dropOldest", "()V"⟩
abbrev cX2_takeBack : ByteArray := prog_4_method_4_code
def yX2_takeBack : MethodName := ⟨RX2, "takeBack", "(LRingDraughts$Game;)V"⟩
def RX3 : String := "RingDraughts$Hops"
def TX3 : u_T := fun k => match k with
  | 0 => ("RingDraughts$Hops", "froms", "[I", true)
  | 1 => ("RingDraughts$Hops", "tos", "[I", true)
  | 2 => ("RingDraughts$Hops", "ways", "[I", true)
  | 3 => ("RingDraughts$Hops", "lengths", "[I", true)
  | 4 => ("RingDraughts$Hops", "takens", "[I", true)
  | _ => ("RingDraughts$Hops", "size", "I", false)
def tyX3 : Nat → FieldType := fun k => match k with
  | 0 => .array .int
  | 1 => .array .int
  | 2 => .array .int
  | 3 => .array .int
  | 4 => .array .int
  | _ => .int
abbrev wsX30 : List Cond := u_ws RX3 TX3 6
theorem nmX3 : ∀ a, a < 6 → ∀ b, b < 6 → a ≠ b → (TX3 a).2.1 ≠ (TX3 b).2.1 := by decide +kernel
theorem tyX3_ok : ∀ k, k < 6 → parseFieldDescriptor (TX3 k).2.2.1 = some (tyX3 k) := by decide +kernel
abbrev cX3_init : ByteArray := prog_5_method_1_code
def yX3_init : MethodName := ⟨RX3, "<init>", "()V"⟩
abbrev cX3_has : ByteArray := prog_5_method_2_code
def yX3_has : MethodName := ⟨RX3, "has", "(I)Z"⟩
abbrev cX3_from : ByteArray := prog_5_method_3_code
def yX3_from : MethodName := ⟨RX3, "from", "(I)I"⟩
abbrev cX3_to : ByteArray := prog_5_method_4_code
def yX3_to : MethodName := ⟨RX3, "to", "(I)I"⟩
abbrev cX3_way : ByteArray := prog_5_method_5_code
def yX3_way : MethodName := ⟨RX3, "way", "(I)I"⟩
abbrev cX3_steps : ByteArray := prog_5_method_6_code
def yX3_steps : MethodName := ⟨RX3, "steps", "(I)I"⟩
abbrev cX3_taken : ByteArray := prog_5_method_7_code
def yX3_taken : MethodName := ⟨RX3, "taken", "(I)I"⟩
abbrev cX3_find : ByteArray := prog_5_method_8_code
def yX3_find : MethodName := ⟨RX3, "find", "(II)I"⟩
abbrev cX3_numberFrom : ByteArray := prog_5_method_9_code
def yX3_numberFrom : MethodName := ⟨RX3, "numberFrom", "(I)I"⟩
abbrev cX3_takes : ByteArray := prog_5_method_10_code
def yX3_takes : MethodName := ⟨RX3, "takes", "(I)Z"⟩
abbrev cX3_list : ByteArray := prog_5_method_11_code
def yX3_list : MethodName := ⟨RX3, "list", "(LRingDraughts$Board;)V"⟩
abbrev cX3_listJumps : ByteArray := prog_5_method_12_code
def yX3_listJumps : MethodName := ⟨RX3, "listJumps", "(LRingDraughts$Board;II)V"⟩
abbrev cX3_listPlainHops : ByteArray := prog_5_method_13_code
def yX3_listPlainHops : MethodName := ⟨RX3, "listPlainHops", "(LRingDraughts$Board;)V"⟩
abbrev cX3_addLandings : ByteArray := prog_5_method_14_code
def yX3_addLandings : MethodName := ⟨RX3, "addLandings", "(LRingDraughts$Board;IIII)V"⟩
abbrev cX3_add : ByteArray := prog_5_method_15_code
def yX3_add : MethodName := ⟨RX3, "add", "(IIIII)V"⟩
def RX4 : String := "RingDraughts$Pad"
def TX4 : u_T := fun k => match k with
  | 0 => ("RingDraughts$Pad", "signs", "[C", true)
  | _ => ("RingDraughts$Pad", "length", "I", false)
def tyX4 : Nat → FieldType := fun k => match k with
  | 0 => .array .char
  | _ => .int
abbrev wsX40 : List Cond := u_ws RX4 TX4 2
theorem nmX4 : ∀ a, a < 2 → ∀ b, b < 2 → a ≠ b → (TX4 a).2.1 ≠ (TX4 b).2.1 := by decide +kernel
theorem tyX4_ok : ∀ k, k < 2 → parseFieldDescriptor (TX4 k).2.2.1 = some (tyX4 k) := by decide +kernel
abbrev cX4_init : ByteArray := prog_6_method_1_code
def yX4_init : MethodName := ⟨RX4, "<init>", "()V"⟩
abbrev cX4_numberOfSigns : ByteArray := prog_6_method_2_code
def yX4_numberOfSigns : MethodName := ⟨RX4, "numberOfSigns", "(J)I"⟩
abbrev cX4_append : ByteArray := prog_6_method_3_code
def yX4_append : MethodName := ⟨RX4, "append", "(JI)V"⟩
abbrev cX4_signAt : ByteArray := prog_6_method_4_code
def yX4_signAt : MethodName := ⟨RX4, "signAt", "(I)C"⟩
abbrev cX4_findFault : ByteArray := prog_6_method_5_code
def yX4_findFault : MethodName := ⟨RX4, "findFault", "()I"⟩
def RX5 : String := "RingDraughts$Ply"
def TX5 : u_T := fun k => match k with
  | 0 => ("RingDraughts$Ply", "board", "LRingDraughts$Board;", true)
  | 1 => ("RingDraughts$Ply", "hops", "LRingDraughts$Hops;", true)
  | _ => ("RingDraughts$Ply", "next", "LRingDraughts$Ply;", true)
def tyX5 : Nat → FieldType := fun k => match k with
  | 0 => .object "RingDraughts$Board"
  | 1 => .object "RingDraughts$Hops"
  | _ => .object "RingDraughts$Ply"
abbrev wsX50 : List Cond := u_ws RX5 TX5 3
theorem nmX5 : ∀ a, a < 3 → ∀ b, b < 3 → a ≠ b → (TX5 a).2.1 ≠ (TX5 b).2.1 := by decide +kernel
theorem tyX5_ok : ∀ k, k < 3 → parseFieldDescriptor (TX5 k).2.2.1 = some (tyX5 k) := by decide +kernel
abbrev cX5_init : ByteArray := prog_7_method_1_code
def yX5_init : MethodName := ⟨RX5, "<init>", "(LRingDraughts$Ply;)V"⟩
abbrev cX5_tryHop : ByteArray := prog_7_method_2_code
def yX5_tryHop : MethodName := ⟨RX5, "tryHop", "(I)V"⟩
def RX6 : String := "RingDraughts"
def TX6 : u_T := fun k => match k with
  | 0 => ("RingDraughts", "game", "LRingDraughts$Game;", true)
  | 1 => ("RingDraughts", "history", "LRingDraughts$History;", true)
  | 2 => ("RingDraughts", "slots", "[LRingDraughts$Game;", true)
  | 3 => ("RingDraughts", "pad", "LRingDraughts$Pad;", true)
  | _ => ("RingDraughts", "now", "LRingDraughts$Ply;", true)
def tyX6 : Nat → FieldType := fun k => match k with
  | 0 => .object "RingDraughts$Game"
  | 1 => .object "RingDraughts$History"
  | 2 => .array (.object "RingDraughts$Game")
  | 3 => .object "RingDraughts$Pad"
  | _ => .object "RingDraughts$Ply"
abbrev wsX60 : List Cond := u_ws RX6 TX6 5
theorem nmX6 : ∀ a, a < 5 → ∀ b, b < 5 → a ≠ b → (TX6 a).2.1 ≠ (TX6 b).2.1 := by decide +kernel
theorem tyX6_ok : ∀ k, k < 5 → parseFieldDescriptor (TX6 k).2.2.1 = some (tyX6 k) := by decide +kernel
abbrev cX6_init : ByteArray := prog_1_method_1_code
def yX6_init : MethodName := ⟨RX6, "<init>", "()V"⟩
abbrev cX6_clock : ByteArray := prog_1_method_2_code
def yX6_clock : MethodName := ⟨RX6, "clock", "(I)I"⟩
abbrev cX6_begin : ByteArray := prog_1_method_3_code
def yX6_begin : MethodName := ⟨RX6, "begin", "(Z)I"⟩
abbrev cX6_set : ByteArray := prog_1_method_4_code
def yX6_set : MethodName := ⟨RX6, "set", "(II)I"⟩
abbrev cX6_turn : ByteArray := prog_1_method_5_code
def yX6_turn : MethodName := ⟨RX6, "turn", "(I)I"⟩
abbrev cX6_hop : ByteArray := prog_1_method_6_code
def yX6_hop : MethodName := ⟨RX6, "hop", "(II)I"⟩
abbrev cX6_play : ByteArray := prog_1_method_7_code
def yX6_play : MethodName := ⟨RX6, "play", "(II)I"⟩
abbrev cX6_playAll : ByteArray := prog_1_method_8_code
def yX6_playAll : MethodName := ⟨RX6, "playAll", "()I"⟩
abbrev cX6_giveUp : ByteArray := prog_1_method_9_code
def yX6_giveUp : MethodName := ⟨RX6, "giveUp", "()I"⟩
abbrev cX6_square : ByteArray := prog_1_method_10_code
def yX6_square : MethodName := ⟨RX6, "square", "(II)I"⟩
abbrev cX6_step : ByteArray := prog_1_method_11_code
def yX6_step : MethodName := ⟨RX6, "step", "(II)I"⟩
abbrev cX6_ofHop : ByteArray := prog_1_method_12_code
def yX6_ofHop : MethodName := ⟨RX6, "ofHop", "(II)I"⟩
abbrev cX6_side : ByteArray := prog_1_method_13_code
def yX6_side : MethodName := ⟨RX6, "side", "(II)I"⟩
abbrev cX6_count : ByteArray := prog_1_method_14_code
def yX6_count : MethodName := ⟨RX6, "count", "(I)I"⟩
abbrev cX6_rows : ByteArray := prog_1_method_15_code
def yX6_rows : MethodName := ⟨RX6, "rows", "(I)I"⟩
abbrev cX6_worth : ByteArray := prog_1_method_16_code
def yX6_worth : MethodName := ⟨RX6, "worth", "(I)I"⟩
abbrev cX6_best : ByteArray := prog_1_method_17_code
def yX6_best : MethodName := ⟨RX6, "best", "(I)I"⟩
abbrev cX6_put : ByteArray := prog_1_method_18_code
def yX6_put : MethodName := ⟨RX6, "put", "(J)I"⟩
abbrev cX6_wipe : ByteArray := prog_1_method_19_code
def yX6_wipe : MethodName := ⟨RX6, "wipe", "()I"⟩
abbrev cX6_fault : ByteArray := prog_1_method_20_code
def yX6_fault : MethodName := ⟨RX6, "fault", "()I"⟩
abbrev cX6_undo : ByteArray := prog_1_method_21_code
def yX6_undo : MethodName := ⟨RX6, "undo", "()I"⟩
abbrev cX6_save : ByteArray := prog_1_method_22_code
def yX6_save : MethodName := ⟨RX6, "save", "(I)I"⟩
abbrev cX6_restore : ByteArray := prog_1_method_23_code
def yX6_restore : MethodName := ⟨RX6, "restore", "(I)I"⟩
abbrev cX6_hopsOfNow : ByteArray := prog_1_method_24_code
def yX6_hopsOfNow : MethodName := ⟨RX6, "hopsOfNow", "()LRingDraughts$Hops;"⟩
abbrev cX6_isOneTooMany : ByteArray := prog_1_method_25_code
def yX6_isOneTooMany : MethodName := ⟨RX6, "isOneTooMany", "(II)Z"⟩
abbrev cX6_isInDanger : ByteArray := prog_1_method_26_code
def yX6_isInDanger : MethodName := ⟨RX6, "isInDanger", "(I)Z"⟩
abbrev cX6_isJumpedOnBehind : ByteArray := prog_1_method_27_code
def yX6_isJumpedOnBehind : MethodName := ⟨RX6, "isJumpedOnBehind", "(I)Z"⟩
abbrev cX6_makeToldHop : ByteArray := prog_1_method_28_code
def yX6_makeToldHop : MethodName := ⟨RX6, "makeToldHop", "(IIZ)Z"⟩
abbrev cX6_numberOfRows : ByteArray := prog_1_method_29_code
def yX6_numberOfRows : MethodName := ⟨RX6, "numberOfRows", "(LRingDraughts$Ply;II)I"⟩
abbrev cX6_worthBehind : ByteArray := prog_1_method_30_code
def yX6_worthBehind : MethodName := ⟨RX6, "worthBehind", "(LRingDraughts$Ply;II)I"⟩
abbrev cX6_isSquare : ByteArray := prog_1_method_31_code
def yX6_isSquare : MethodName := ⟨RX6, "isSquare", "(I)Z"⟩
abbrev cX6_isSide : ByteArray := prog_1_method_32_code
def yX6_isSide : MethodName := ⟨RX6, "isSide", "(I)Z"⟩
abbrev cX6_isPiece : ByteArray := prog_1_method_33_code
def yX6_isPiece : MethodName := ⟨RX6, "isPiece", "(I)Z"⟩
abbrev cX6_isKing : ByteArray := prog_1_method_34_code
def yX6_isKing : MethodName := ⟨RX6, "isKing", "(I)Z"⟩
abbrev cX6_sideOf : ByteArray := prog_1_method_35_code
def yX6_sideOf : MethodName := ⟨RX6, "sideOf", "(I)I"⟩
abbrev cX6_kingOf : ByteArray := prog_1_method_36_code
def yX6_kingOf : MethodName := ⟨RX6, "kingOf", "(I)I"⟩
abbrev cX6_rowOf : ByteArray := prog_1_method_37_code
def yX6_rowOf : MethodName := ⟨RX6, "rowOf", "(I)I"⟩
abbrev cX6_columnOf : ByteArray := prog_1_method_38_code
def yX6_columnOf : MethodName := ⟨RX6, "columnOf", "(I)I"⟩
abbrev cX6_squareAfter : ByteArray := prog_1_method_39_code
def yX6_squareAfter : MethodName := ⟨RX6, "squareAfter", "(III)I"⟩
abbrev cX6_mayGo : ByteArray := prog_1_method_40_code
def yX6_mayGo : MethodName := ⟨RX6, "mayGo", "(II)Z"⟩
abbrev cX6_isCrowned : ByteArray := prog_1_method_41_code
def yX6_isCrowned : MethodName := ⟨RX6, "isCrowned", "(III)Z"⟩
abbrev cX6_wonBy : ByteArray := prog_1_method_42_code
def yX6_wonBy : MethodName := ⟨RX6, "wonBy", "(I)I"⟩
abbrev cX6_oneIf : ByteArray := prog_1_method_43_code
def yX6_oneIf : MethodName := ⟨RX6, "oneIf", "(Z)I"⟩
def RX7 : String := "RingDraughtsModel"
def TX7 : u_T := fun k => match k with
  | 0 => ("RingDraughtsModel", "z", "[I", true)
  | 1 => ("RingDraughtsModel", "past", "[I", true)
  | 2 => ("RingDraughtsModel", "slots", "[I", true)
  | 3 => ("RingDraughtsModel", "isSaved", "[Z", true)
  | 4 => ("RingDraughtsModel", "pastMany", "I", false)
  | 5 => ("RingDraughtsModel", "pad", "[C", true)
  | 6 => ("RingDraughtsModel", "typed", "I", false)
  | 7 => ("RingDraughtsModel", "boards", "[I", true)
  | 8 => ("RingDraughtsModel", "sides", "[I", true)
  | 9 => ("RingDraughtsModel", "chains", "[I", true)
  | 10 => ("RingDraughtsModel", "hopMany", "[I", true)
  | 11 => ("RingDraughtsModel", "froms", "[I", true)
  | 12 => ("RingDraughtsModel", "ways", "[I", true)
  | 13 => ("RingDraughtsModel", "steps", "[I", true)
  | 14 => ("RingDraughtsModel", "goals", "[I", true)
  | 15 => ("RingDraughtsModel", "takes", "[I", true)
  | 16 => ("RingDraughtsModel", "read", "[I", true)
  | 17 => ("RingDraughtsModel", "readMany", "I", false)
  | 18 => ("RingDraughtsModel", "spot", "I", false)
  | _ => ("RingDraughtsModel", "wrong", "I", false)
def tyX7 : Nat → FieldType := fun k => match k with
  | 0 => .array .int
  | 1 => .array .int
  | 2 => .array .int
  | 3 => .array .boolean
  | 4 => .int
  | 5 => .array .char
  | 6 => .int
  | 7 => .array .int
  | 8 => .array .int
  | 9 => .array .int
  | 10 => .array .int
  | 11 => .array .int
  | 12 => .array .int
  | 13 => .array .int
  | 14 => .array .int
  | 15 => .array .int
  | 16 => .array .int
  | 17 => .int
  | 18 => .int
  | _ => .int
abbrev wsX70 : List Cond := u_ws RX7 TX7 20
theorem nmX7 : ∀ a, a < 20 → ∀ b, b < 20 → a ≠ b → (TX7 a).2.1 ≠ (TX7 b).2.1 := by decide +kernel
theorem tyX7_ok : ∀ k, k < 20 → parseFieldDescriptor (TX7 k).2.2.1 = some (tyX7 k) := by decide +kernel
abbrev cX7_init : ByteArray := prog_9_method_1_code
def yX7_init : MethodName := ⟨RX7, "<init>", "()V"⟩
abbrev cX7_in : ByteArray := prog_9_method_2_code
def yX7_in : MethodName := ⟨RX7, "in", "(III)Z"⟩
abbrev cX7_isSquare : ByteArray := prog_9_method_3_code
def yX7_isSquare : MethodName := ⟨RX7, "isSquare", "(I)Z"⟩
abbrev cX7_rowOf : ByteArray := prog_9_method_4_code
def yX7_rowOf : MethodName := ⟨RX7, "rowOf", "(I)I"⟩
abbrev cX7_columnOf : ByteArray := prog_9_method_5_code
def yX7_columnOf : MethodName := ⟨RX7, "columnOf", "(I)I"⟩
abbrev cX7_next : ByteArray := prog_9_method_6_code
def yX7_next : MethodName := ⟨RX7, "next", "(II)I"⟩
abbrev cX7_isKing : ByteArray := prog_9_method_7_code
def yX7_isKing : MethodName := ⟨RX7, "isKing", "(I)Z"⟩
abbrev cX7_sideOf : ByteArray := prog_9_method_8_code
def yX7_sideOf : MethodName := ⟨RX7, "sideOf", "(I)I"⟩
abbrev cX7_record : ByteArray := prog_9_method_9_code
def yX7_record : MethodName := ⟨RX7, "record", "()V"⟩
abbrev cX7_undo : ByteArray := prog_9_method_10_code
def yX7_undo : MethodName := ⟨RX7, "undo", "()I"⟩
abbrev cX7_save : ByteArray := prog_9_method_11_code
def yX7_save : MethodName := ⟨RX7, "save", "(I)I"⟩
abbrev cX7_restore : ByteArray := prog_9_method_12_code
def yX7_restore : MethodName := ⟨RX7, "restore", "(I)I"⟩
abbrev cX7_pieceAt : ByteArray := prog_9_method_13_code
def yX7_pieceAt : MethodName := ⟨RX7, "pieceAt", "(II)I"⟩
abbrev cX7_isEmpty : ByteArray := prog_9_method_14_code
def yX7_isEmpty : MethodName := ⟨RX7, "isEmpty", "(II)Z"⟩
abbrev cX7_goesWay : ByteArray := prog_9_method_15_code
def yX7_goesWay : MethodName := ⟨RX7, "goesWay", "(II)Z"⟩
abbrev cX7_list : ByteArray := prog_9_method_16_code
def yX7_list : MethodName := ⟨RX7, "list", "(IIIIII)V"⟩
abbrev cX7_listJumps : ByteArray := prog_9_method_17_code
def yX7_listJumps : MethodName := ⟨RX7, "listJumps", "(III)V"⟩
abbrev cX7_listMoves : ByteArray := prog_9_method_18_code
def yX7_listMoves : MethodName := ⟨RX7, "listMoves", "(III)V"⟩
abbrev cX7_listAllJumps : ByteArray := prog_9_method_19_code
def yX7_listAllJumps : MethodName := ⟨RX7, "listAllJumps", "(III)V"⟩
abbrev cX7_listHops : ByteArray := prog_9_method_20_code
def yX7_listHops : MethodName := ⟨RX7, "listHops", "(I)V"⟩
abbrev cX7_becomesKing : ByteArray := prog_9_method_21_code
def yX7_becomesKing : MethodName := ⟨RX7, "becomesKing", "(II)Z"⟩
abbrev cX7_go : ByteArray := prog_9_method_22_code
def yX7_go : MethodName := ⟨RX7, "go", "(II)V"⟩
abbrev cX7_look : ByteArray := prog_9_method_23_code
def yX7_look : MethodName := ⟨RX7, "look", "()V"⟩
abbrev cX7_squaresOf : ByteArray := prog_9_method_24_code
def yX7_squaresOf : MethodName := ⟨RX7, "squaresOf", "(I)I"⟩
abbrev cX7_writePosition : ByteArray := prog_9_method_25_code
def yX7_writePosition : MethodName := ⟨RX7, "writePosition", "()V"⟩
abbrev cX7_timesCome : ByteArray := prog_9_method_26_code
def yX7_timesCome : MethodName := ⟨RX7, "timesCome", "()I"⟩
abbrev cX7_forgetPositions : ByteArray := prog_9_method_27_code
def yX7_forgetPositions : MethodName := ⟨RX7, "forgetPositions", "()V"⟩
abbrev cX7_judge : ByteArray := prog_9_method_28_code
def yX7_judge : MethodName := ⟨RX7, "judge", "()V"⟩
abbrev cX7_beginHere : ByteArray := prog_9_method_29_code
def yX7_beginHere : MethodName := ⟨RX7, "beginHere", "()V"⟩
abbrev cX7_start : ByteArray := prog_9_method_30_code
def yX7_start : MethodName := ⟨RX7, "start", "(Z)V"⟩
abbrev cX7_clock : ByteArray := prog_9_method_31_code
def yX7_clock : MethodName := ⟨RX7, "clock", "(I)I"⟩
abbrev cX7_pieces : ByteArray := prog_9_method_32_code
def yX7_pieces : MethodName := ⟨RX7, "pieces", "(II)I"⟩
abbrev cX7_all : ByteArray := prog_9_method_33_code
def yX7_all : MethodName := ⟨RX7, "all", "(I)I"⟩
abbrev cX7_begin : ByteArray := prog_9_method_34_code
def yX7_begin : MethodName := ⟨RX7, "begin", "(Z)I"⟩
abbrev cX7_set : ByteArray := prog_9_method_35_code
def yX7_set : MethodName := ⟨RX7, "set", "(II)I"⟩
abbrev cX7_turn : ByteArray := prog_9_method_36_code
def yX7_turn : MethodName := ⟨RX7, "turn", "(I)I"⟩
abbrev cX7_makeIt : ByteArray := prog_9_method_37_code
def yX7_makeIt : MethodName := ⟨RX7, "makeIt", "(I)V"⟩
abbrev cX7_hop : ByteArray := prog_9_method_38_code
def yX7_hop : MethodName := ⟨RX7, "hop", "(II)I"⟩
abbrev cX7_hopFrom : ByteArray := prog_9_method_39_code
def yX7_hopFrom : MethodName := ⟨RX7, "hopFrom", "(II)I"⟩
abbrev cX7_play : ByteArray := prog_9_method_40_code
def yX7_play : MethodName := ⟨RX7, "play", "(II)I"⟩
abbrev cX7_giveUp : ByteArray := prog_9_method_41_code
def yX7_giveUp : MethodName := ⟨RX7, "giveUp", "()I"⟩
abbrev cX7_isInDanger : ByteArray := prog_9_method_42_code
def yX7_isInDanger : MethodName := ⟨RX7, "isInDanger", "(I)Z"⟩
abbrev cX7_hopsFrom : ByteArray := prog_9_method_43_code
def yX7_hopsFrom : MethodName := ⟨RX7, "hopsFrom", "(I)I"⟩
abbrev cX7_square : ByteArray := prog_9_method_44_code
def yX7_square : MethodName := ⟨RX7, "square", "(II)I"⟩
abbrev cX7_step : ByteArray := prog_9_method_45_code
def yX7_step : MethodName := ⟨RX7, "step", "(II)I"⟩
abbrev cX7_goesOn : ByteArray := prog_9_method_46_code
def yX7_goesOn : MethodName := ⟨RX7, "goesOn", "(I)I"⟩
abbrev cX7_ofHop : ByteArray := prog_9_method_47_code
def yX7_ofHop : MethodName := ⟨RX7, "ofHop", "(II)I"⟩
abbrev cX7_side : ByteArray := prog_9_method_48_code
def yX7_side : MethodName := ⟨RX7, "side", "(II)I"⟩
abbrev cX7_hopsNow : ByteArray := prog_9_method_49_code
def yX7_hopsNow : MethodName := ⟨RX7, "hopsNow", "()I"⟩
abbrev cX7_count : ByteArray := prog_9_method_50_code
def yX7_count : MethodName := ⟨RX7, "count", "(I)I"⟩
abbrev cX7_rowsOfTwo : ByteArray := prog_9_method_51_code
def yX7_rowsOfTwo : MethodName := ⟨RX7, "rowsOfTwo", "(II)I"⟩
abbrev cX7_rowsOfThree : ByteArray := prog_9_method_52_code
def yX7_rowsOfThree : MethodName := ⟨RX7, "rowsOfThree", "()I"⟩
abbrev cX7_rows : ByteArray := prog_9_method_53_code
def yX7_rows : MethodName := ⟨RX7, "rows", "(I)I"⟩
abbrev cX7_worthNow : ByteArray := prog_9_method_54_code
def yX7_worthNow : MethodName := ⟨RX7, "worthNow", "(I)I"⟩
abbrev cX7_worthLost : ByteArray := prog_9_method_55_code
def yX7_worthLost : MethodName := ⟨RX7, "worthLost", "(I)I"⟩
abbrev cX7_isBetter : ByteArray := prog_9_method_56_code
def yX7_isBetter : MethodName := ⟨RX7, "isBetter", "(III)Z"⟩
abbrev cX7_worthOfOne : ByteArray := prog_9_method_57_code
def yX7_worthOfOne : MethodName := ⟨RX7, "worthOfOne", "(I)I"⟩
abbrev cX7_worthOfTwo : ByteArray := prog_9_method_58_code
def yX7_worthOfTwo : MethodName := ⟨RX7, "worthOfTwo", "()I"⟩
abbrev cX7_worth : ByteArray := prog_9_method_59_code
def yX7_worth : MethodName := ⟨RX7, "worth", "(I)I"⟩
abbrev cX7_best : ByteArray := prog_9_method_60_code
def yX7_best : MethodName := ⟨RX7, "best", "(I)I"⟩
abbrev cX7_put : ByteArray := prog_9_method_61_code
def yX7_put : MethodName := ⟨RX7, "put", "(J)I"⟩
abbrev cX7_wipe : ByteArray := prog_9_method_62_code
def yX7_wipe : MethodName := ⟨RX7, "wipe", "()I"⟩
abbrev cX7_letter : ByteArray := prog_9_method_63_code
def yX7_letter : MethodName := ⟨RX7, "letter", "()I"⟩
abbrev cX7_wants : ByteArray := prog_9_method_64_code
def yX7_wants : MethodName := ⟨RX7, "wants", "(Z)V"⟩
abbrev cX7_number : ByteArray := prog_9_method_65_code
def yX7_number : MethodName := ⟨RX7, "number", "()I"⟩
abbrev cX7_readHop : ByteArray := prog_9_method_66_code
def yX7_readHop : MethodName := ⟨RX7, "readHop", "()V"⟩
abbrev cX7_readPad : ByteArray := prog_9_method_67_code
def yX7_readPad : MethodName := ⟨RX7, "readPad", "()I"⟩
abbrev cX7_fault : ByteArray := prog_9_method_68_code
def yX7_fault : MethodName := ⟨RX7, "fault", "()I"⟩
abbrev cX7_plays : ByteArray := prog_9_method_69_code
def yX7_plays : MethodName := ⟨RX7, "plays", "(I)Z"⟩
abbrev cX7_playAll : ByteArray := prog_9_method_70_code
def yX7_playAll : MethodName := ⟨RX7, "playAll", "()I"⟩
def RJ9 : String := "java/lang/Math"
def TJ9 : u_T := fun k => match k with
  | _ => ("", "", "", false)
def tyJ9 : Nat → FieldType := fun k => match k with
  | _ => .int
abbrev wsJ90 : List Cond := u_ws RJ9 TJ9 0
theorem nmJ9 : ∀ a, a < 0 → ∀ b, b < 0 → a ≠ b → (TJ9 a).2.1 ≠ (TJ9 b).2.1 := by decide +kernel
theorem tyJ9_ok : ∀ k, k < 0 → parseFieldDescriptor (TJ9 k).2.2.1 = some (tyJ9 k) := by decide +kernel
abbrev cJ9_floorMod_7cf53 : ByteArray := prog_10_method_50_code
def yJ9_floorMod_7cf53 : MethodName := ⟨RJ9, "floorMod", "(II)I"⟩
abbrev cJ9_max_7cf53 : ByteArray := prog_10_method_65_code
def yJ9_max_7cf53 : MethodName := ⟨RJ9, "max", "(II)I"⟩
abbrev cJ9_min_7cf53 : ByteArray := prog_10_method_69_code
def yJ9_min_7cf53 : MethodName := ⟨RJ9, "min", "(II)I"⟩
def RJ10 : String := "java/lang/System"
def TJ10 : u_T := fun k => match k with
  | _ => ("", "", "", false)
def tyJ10 : Nat → FieldType := fun k => match k with
  | _ => .int
abbrev wsJ100 : List Cond := u_ws RJ10 TJ10 0
theorem nmJ10 : ∀ a, a < 0 → ∀ b, b < 0 → a ≠ b → (TJ10 a).2.1 ≠ (TJ10 b).2.1 := by decide +kernel
theorem tyJ10_ok : ∀ k, k < 0 → parseFieldDescriptor (TJ10 k).2.2.1 = some (tyJ10 k) := by decide +kernel
def RJ7 : String := "java/util/Arrays"
def TJ7 : u_T := fun k => match k with
  | _ => ("", "", "", false)
def tyJ7 : Nat → FieldType := fun k => match k with
  | _ => .int
abbrev wsJ70 : List Cond := u_ws RJ7 TJ7 0
theorem nmJ7 : ∀ a, a < 0 → ∀ b, b < 0 → a ≠ b → (TJ7 a).2.1 ≠ (TJ7 b).2.1 := by decide +kernel
theorem tyJ7_ok : ∀ k, k < 0 → parseFieldDescriptor (TJ7 k).2.2.1 = some (tyJ7 k) := by decide +kernel
abbrev cJ7_fill_53178 : ByteArray := prog_12_method_103_code
def yJ7_fill_53178 : MethodName := ⟨RJ7, "fill", "([II)V"⟩
def RL : String := "RingDraughtsLaw"
abbrev cL_law : ByteArray := code
def yL_law : MethodName := ⟨RL, "law", "([I)Z"⟩
abbrev vwCl : List vw_C := [(RX0, TX0, 4), (RX1, TX1, 9), (RX2, TX2, 2), (RX3, TX3, 6), (RX4, TX4, 2), (RX5, TX5, 3), (RX6, TX6, 5), (RX7, TX7, 20)]
end
section
theorem dX0_init_0 : decode cX0_init 0 = .ok (.aload_n 0, 1) := by decide +kernel
theorem dX0_init_1 : decode cX0_init 1 = .ok (.invokespecial 3, 3) := by decide +kernel
theorem dX0_init_4 : decode cX0_init 4 = .ok (.aload_n 0, 1) := by decide +kernel
theorem dX0_init_5 : decode cX0_init 5 = .ok (.bipush 48, 2) := by decide +kernel
theorem dX0_init_7 : decode cX0_init 7 = .ok (.newarray .int, 2) := by decide +kernel
theorem dX0_init_9 : decode cX0_init 9 = .ok (.putfield 9, 3) := by decide +kernel
theorem dX0_init_12 : decode cX0_init 12 = .ok (.aload_n 0, 1) := by decide +kernel
theorem dX0_init_13 : decode cX0_init 13 = .ok (.iconst 4, 1) := by decide +kernel
theorem dX0_init_14 : decode cX0_init 14 = .ok (.newarray .int, 2) := by decide +kernel
theorem dX0_init_16 : decode cX0_init 16 = .ok (.putfield 15, 3) := by decide +kernel
theorem dX0_init_19 : decode cX0_init 19 = .ok (.aload_n 0, 1) := by decide +kernel
theorem dX0_init_20 : decode cX0_init 20 = .ok (.iconst 0, 1) := by decide +kernel
theorem dX0_init_21 : decode cX0_init 21 = .ok (.putfield 18, 3) := by decide +kernel
theorem dX0_init_24 : decode cX0_init 24 = .ok (.aload_n 0, 1) := by decide +kernel
theorem dX0_init_25 : decode cX0_init 25 = .ok (.bipush (-6), 2) := by decide +kernel
theorem dX0_init_27 : decode cX0_init 27 = .ok (.putfield 22, 3) := by decide +kernel
theorem dX0_init_30 : decode cX0_init 30 = .ok (.aload_n 0, 1) := by decide +kernel
theorem dX0_init_31 : decode cX0_init 31 = .ok (.getfield 9, 3) := by decide +kernel
theorem dX0_init_34 : decode cX0_init 34 = .ok (.bipush (-6), 2) := by decide +kernel
theorem dX0_init_36 : decode cX0_init 36 = .ok (.invokestatic 25, 3) := by decide +kernel
theorem dX0_init_39 : decode cX0_init 39 = .ok (.return_, 1) := by decide +kernel
theorem dX0_copyFrom_0 : decode cX0_copyFrom 0 = .ok (.aload_n 1, 1) := by decide +kernel
theorem dX0_copyFrom_1 : decode cX0_copyFrom 1 = .ok (.getfield 9, 3) := by decide +kernel
theorem dX0_copyFrom_4 : decode cX0_copyFrom 4 = .ok (.iconst 0, 1) := by decide +kernel
theorem dX0_copyFrom_5 : decode cX0_copyFrom 5 = .ok (.aload_n 0, 1) := by decide +kernel
theorem dX0_copyFrom_6 : decode cX0_copyFrom 6 = .ok (.getfield 9, 3) := by decide +kernel
theorem dX0_copyFrom_9 : decode cX0_copyFrom 9 = .ok (.iconst 0, 1) := by decide +kernel
theorem dX0_copyFrom_10 : decode cX0_copyFrom 10 = .ok (.bipush 48, 2) := by decide +kernel
theorem dX0_copyFrom_12 : decode cX0_copyFrom 12 = .ok (.invokestatic 31, 3) := by decide +kernel
theorem dX0_copyFrom_15 : decode cX0_copyFrom 15 = .ok (.aload_n 1, 1) := by decide +kernel
theorem dX0_copyFrom_16 : decode cX0_copyFrom 16 = .ok (.getfield 15, 3) := by decide +kernel
theorem dX0_copyFrom_19 : decode cX0_copyFrom 19 = .ok (.iconst 0, 1) := by decide +kernel
theorem dX0_copyFrom_20 : decode cX0_copyFrom 20 = .ok (.aload_n 0, 1) := by decide +kernel
theorem dX0_copyFrom_21 : decode cX0_copyFrom 21 = .ok (.getfield 15, 3) := by decide +kernel
theorem dX0_copyFrom_24 : decode cX0_copyFrom 24 = .ok (.iconst 0, 1) := by decide +kernel
theorem dX0_copyFrom_25 : decode cX0_copyFrom 25 = .ok (.iconst 4, 1) := by decide +kernel
theorem dX0_copyFrom_26 : decode cX0_copyFrom 26 = .ok (.invokestatic 31, 3) := by decide +kernel
theorem dX0_copyFrom_29 : decode cX0_copyFrom 29 = .ok (.aload_n 0, 1) := by decide +kernel
theorem dX0_copyFrom_30 : decode cX0_copyFrom 30 = .ok (.aload_n 1, 1) := by decide +kernel
theorem dX0_copyFrom_31 : decode cX0_copyFrom 31 = .ok (.getfield 18, 3) := by decide +kernel
theorem dX0_copyFrom_34 : decode cX0_copyFrom 34 = .ok (.putfield 18, 3) := by decide +kernel
theorem dX0_copyFrom_37 : decode cX0_copyFrom 37 = .ok (.aload_n 0, 1) := by decide +kernel
theorem dX0_copyFrom_38 : decode cX0_copyFrom 38 = .ok (.aload_n 1, 1) := by decide +kernel
theorem dX0_copyFrom_39 : decode cX0_copyFrom 39 = .ok (.getfield 22, 3) := by decide +kernel
theorem dX0_copyFrom_42 : decode cX0_copyFrom 42 = .ok (.putfield 22, 3) := by decide +kernel
theorem dX0_copyFrom_45 : decode cX0_copyFrom 45 = .ok (.return_, 1) := by decide +kernel
theorem dX0_empty_0 : decode cX0_empty 0 = .ok (.aload_n 0, 1) := by decide +kernel
theorem dX0_empty_1 : decode cX0_empty 1 = .ok (.getfield 9, 3) := by decide +kernel
theorem dX0_empty_4 : decode cX0_empty 4 = .ok (.bipush (-6), 2) := by decide +kernel
theorem dX0_empty_6 : decode cX0_empty 6 = .ok (.invokestatic 25, 3) := by decide +kernel
theorem dX0_empty_9 : decode cX0_empty 9 = .ok (.aload_n 0, 1) := by decide +kernel
theorem dX0_empty_10 : decode cX0_empty 10 = .ok (.getfield 15, 3) := by decide +kernel
theorem dX0_empty_13 : decode cX0_empty 13 = .ok (.iconst 0, 1) := by decide +kernel
theorem dX0_empty_14 : decode cX0_empty 14 = .ok (.invokestatic 25, 3) := by decide +kernel
theorem dX0_empty_17 : decode cX0_empty 17 = .ok (.aload_n 0, 1) := by decide +kernel
theorem dX0_empty_18 : decode cX0_empty 18 = .ok (.iconst 0, 1) := by decide +kernel
theorem dX0_empty_19 : decode cX0_empty 19 = .ok (.putfield 18, 3) := by decide +kernel
theorem dX0_empty_22 : decode cX0_empty 22 = .ok (.aload_n 0, 1) := by decide +kernel
theorem dX0_empty_23 : decode cX0_empty 23 = .ok (.bipush (-6), 2) := by decide +kernel
theorem dX0_empty_25 : decode cX0_empty 25 = .ok (.putfield 22, 3) := by decide +kernel
theorem dX0_empty_28 : decode cX0_empty 28 = .ok (.return_, 1) := by decide +kernel
theorem dX0_fillRow_0 : decode cX0_fillRow 0 = .ok (.iconst 0, 1) := by decide +kernel
theorem dX0_fillRow_1 : decode cX0_fillRow 1 = .ok (.istore_n 3, 1) := by decide +kernel
theorem dX0_fillRow_2 : decode cX0_fillRow 2 = .ok (.iload_n 3, 1) := by decide +kernel
theorem dX0_fillRow_3 : decode cX0_fillRow 3 = .ok (.bipush 6, 2) := by decide +kernel
theorem dX0_fillRow_5 : decode cX0_fillRow 5 = .ok (.if_icmp .ge 20, 3) := by decide +kernel
theorem dX0_fillRow_8 : decode cX0_fillRow 8 = .ok (.aload_n 0, 1) := by decide +kernel
theorem dX0_fillRow_9 : decode cX0_fillRow 9 = .ok (.iload_n 1, 1) := by decide +kernel
theorem dX0_fillRow_10 : decode cX0_fillRow 10 = .ok (.bipush 6, 2) := by decide +kernel
theorem dX0_fillRow_12 : decode cX0_fillRow 12 = .ok (.imul, 1) := by decide +kernel
theorem dX0_fillRow_13 : decode cX0_fillRow 13 = .ok (.iload_n 3, 1) := by decide +kernel
theorem dX0_fillRow_14 : decode cX0_fillRow 14 = .ok (.iadd, 1) := by decide +kernel
theorem dX0_fillRow_15 : decode cX0_fillRow 15 = .ok (.iload_n 2, 1) := by decide +kernel
theorem dX0_fillRow_16 : decode cX0_fillRow 16 = .ok (.invokevirtual 37, 3) := by decide +kernel
theorem dX0_fillRow_19 : decode cX0_fillRow 19 = .ok (.iinc 3 1, 3) := by decide +kernel
theorem dX0_fillRow_22 : decode cX0_fillRow 22 = .ok (.goto (-20), 3) := by decide +kernel
theorem dX0_fillRow_25 : decode cX0_fillRow 25 = .ok (.return_, 1) := by decide +kernel
theorem dX0_pieceAt_0 : decode cX0_pieceAt 0 = .ok (.iload_n 1, 1) := by decide +kernel
theorem dX0_pieceAt_1 : decode cX0_pieceAt 1 = .ok (.ifCond .lt 21, 3) := by decide +kernel
theorem dX0_pieceAt_4 : decode cX0_pieceAt 4 = .ok (.iload_n 1, 1) := by decide +kernel
theorem dX0_pieceAt_5 : decode cX0_pieceAt 5 = .ok (.aload_n 0, 1) := by decide +kernel
theorem dX0_pieceAt_6 : decode cX0_pieceAt 6 = .ok (.getfield 9, 3) := by decide +kernel
theorem dX0_pieceAt_9 : decode cX0_pieceAt 9 = .ok (.arraylength, 1) := by decide +kernel
theorem dX0_pieceAt_10 : decode cX0_pieceAt 10 = .ok (.if_icmp .ge 12, 3) := by decide +kernel
theorem dX0_pieceAt_13 : decode cX0_pieceAt 13 = .ok (.aload_n 0, 1) := by decide +kernel
theorem dX0_pieceAt_14 : decode cX0_pieceAt 14 = .ok (.getfield 9, 3) := by decide +kernel
theorem dX0_pieceAt_17 : decode cX0_pieceAt 17 = .ok (.iload_n 1, 1) := by decide +kernel
theorem dX0_pieceAt_18 : decode cX0_pieceAt 18 = .ok (.iaload, 1) := by decide +kernel
theorem dX0_pieceAt_19 : decode cX0_pieceAt 19 = .ok (.goto 5, 3) := by decide +kernel
theorem dX0_pieceAt_22 : decode cX0_pieceAt 22 = .ok (.bipush (-6), 2) := by decide +kernel
theorem dX0_pieceAt_24 : decode cX0_pieceAt 24 = .ok (.ireturn, 1) := by decide +kernel
theorem dX0_place_0 : decode cX0_place 0 = .ok (.iload_n 1, 1) := by decide +kernel
theorem dX0_place_1 : decode cX0_place 1 = .ok (.ifCond .lt 12, 3) := by decide +kernel
theorem dX0_place_4 : decode cX0_place 4 = .ok (.iload_n 1, 1) := by decide +kernel
theorem dX0_place_5 : decode cX0_place 5 = .ok (.aload_n 0, 1) := by decide +kernel
theorem dX0_place_6 : decode cX0_place 6 = .ok (.getfield 9, 3) := by decide +kernel
theorem dX0_place_9 : decode cX0_place 9 = .ok (.arraylength, 1) := by decide +kernel
theorem dX0_place_10 : decode cX0_place 10 = .ok (.if_icmp .lt 4, 3) := by decide +kernel
theorem dX0_place_13 : decode cX0_place 13 = .ok (.return_, 1) := by decide +kernel
theorem dX0_place_14 : decode cX0_place 14 = .ok (.aload_n 0, 1) := by decide +kernel
theorem dX0_place_15 : decode cX0_place 15 = .ok (.aload_n 0, 1) := by decide +kernel
theorem dX0_place_16 : decode cX0_place 16 = .ok (.getfield 9, 3) := by decide +kernel
theorem dX0_place_19 : decode cX0_place 19 = .ok (.iload_n 1, 1) := by decide +kernel
theorem dX0_place_20 : decode cX0_place 20 = .ok (.iaload, 1) := by decide +kernel
theorem dX0_place_21 : decode cX0_place 21 = .ok (.iconst (-1), 1) := by decide +kernel
theorem dX0_place_22 : decode cX0_place 22 = .ok (.invokevirtual 41, 3) := by decide +kernel
theorem dX0_place_25 : decode cX0_place 25 = .ok (.aload_n 0, 1) := by decide +kernel
theorem dX0_place_26 : decode cX0_place 26 = .ok (.iload_n 2, 1) := by decide +kernel
theorem dX0_place_27 : decode cX0_place 27 = .ok (.iconst 1, 1) := by decide +kernel
theorem dX0_place_28 : decode cX0_place 28 = .ok (.invokevirtual 41, 3) := by decide +kernel
theorem dX0_place_31 : decode cX0_place 31 = .ok (.aload_n 0, 1) := by decide +kernel
theorem dX0_place_32 : decode cX0_place 32 = .ok (.getfield 9, 3) := by decide +kernel
theorem dX0_place_35 : decode cX0_place 35 = .ok (.iload_n 1, 1) := by decide +kernel
theorem dX0_place_36 : decode cX0_place 36 = .ok (.iload_n 2, 1) := by decide +kernel
theorem dX0_place_37 : decode cX0_place 37 = .ok (.iastore, 1) := by decide +kernel
theorem dX0_place_38 : decode cX0_place 38 = .ok (.return_, 1) := by decide +kernel
theorem dX0_addToNumber_0 : decode cX0_addToNumber 0 = .ok (.iload_n 1, 1) := by decide +kernel
theorem dX0_addToNumber_1 : decode cX0_addToNumber 1 = .ok (.ifCond .lt 22, 3) := by decide +kernel
theorem dX0_addToNumber_4 : decode cX0_addToNumber 4 = .ok (.iload_n 1, 1) := by decide +kernel
theorem dX0_addToNumber_5 : decode cX0_addToNumber 5 = .ok (.aload_n 0, 1) := by decide +kernel
theorem dX0_addToNumber_6 : decode cX0_addToNumber 6 = .ok (.getfield 15, 3) := by decide +kernel
theorem dX0_addToNumber_9 : decode cX0_addToNumber 9 = .ok (.arraylength, 1) := by decide +kernel
theorem dX0_addToNumber_10 : decode cX0_addToNumber 10 = .ok (.if_icmp .ge 13, 3) := by decide +kernel
theorem dX0_addToNumber_13 : decode cX0_addToNumber 13 = .ok (.aload_n 0, 1) := by decide +kernel
theorem dX0_addToNumber_14 : decode cX0_addToNumber 14 = .ok (.getfield 15, 3) := by decide +kernel
theorem dX0_addToNumber_17 : decode cX0_addToNumber 17 = .ok (.iload_n 1, 1) := by decide +kernel
theorem dX0_addToNumber_18 : decode cX0_addToNumber 18 = .ok (.dup2, 1) := by decide +kernel
theorem dX0_addToNumber_19 : decode cX0_addToNumber 19 = .ok (.iaload, 1) := by decide +kernel
theorem dX0_addToNumber_20 : decode cX0_addToNumber 20 = .ok (.iload_n 2, 1) := by decide +kernel
theorem dX0_addToNumber_21 : decode cX0_addToNumber 21 = .ok (.iadd, 1) := by decide +kernel
theorem dX0_addToNumber_22 : decode cX0_addToNumber 22 = .ok (.iastore, 1) := by decide +kernel
theorem dX0_addToNumber_23 : decode cX0_addToNumber 23 = .ok (.return_, 1) := by decide +kernel
theorem dX0_numberOf_0 : decode cX0_numberOf 0 = .ok (.iload_n 1, 1) := by decide +kernel
theorem dX0_numberOf_1 : decode cX0_numberOf 1 = .ok (.ifCond .lt 21, 3) := by decide +kernel
theorem dX0_numberOf_4 : decode cX0_numberOf 4 = .ok (.iload_n 1, 1) := by decide +kernel
theorem dX0_numberOf_5 : decode cX0_numberOf 5 = .ok (.aload_n 0, 1) := by decide +kernel
theorem dX0_numberOf_6 : decode cX0_numberOf 6 = .ok (.getfield 15, 3) := by decide +kernel
theorem dX0_numberOf_9 : decode cX0_numberOf 9 = .ok (.arraylength, 1) := by decide +kernel
theorem dX0_numberOf_10 : decode cX0_numberOf 10 = .ok (.if_icmp .ge 12, 3) := by decide +kernel
theorem dX0_numberOf_13 : decode cX0_numberOf 13 = .ok (.aload_n 0, 1) := by decide +kernel
theorem dX0_numberOf_14 : decode cX0_numberOf 14 = .ok (.getfield 15, 3) := by decide +kernel
theorem dX0_numberOf_17 : decode cX0_numberOf 17 = .ok (.iload_n 1, 1) := by decide +kernel
theorem dX0_numberOf_18 : decode cX0_numberOf 18 = .ok (.iaload, 1) := by decide +kernel
theorem dX0_numberOf_19 : decode cX0_numberOf 19 = .ok (.goto 4, 3) := by decide +kernel
theorem dX0_numberOf_22 : decode cX0_numberOf 22 = .ok (.iconst 0, 1) := by decide +kernel
theorem dX0_numberOf_23 : decode cX0_numberOf 23 = .ok (.ireturn, 1) := by decide +kernel
theorem dX0_menOf_0 : decode cX0_menOf 0 = .ok (.aload_n 0, 1) := by decide +kernel
theorem dX0_menOf_1 : decode cX0_menOf 1 = .ok (.iload_n 1, 1) := by decide +kernel
theorem dX0_menOf_2 : decode cX0_menOf 2 = .ok (.ifCond .ne 7, 3) := by decide +kernel
theorem dX0_menOf_5 : decode cX0_menOf 5 = .ok (.iconst 0, 1) := by decide +kernel
theorem dX0_menOf_6 : decode cX0_menOf 6 = .ok (.goto 4, 3) := by decide +kernel
theorem dX0_menOf_9 : decode cX0_menOf 9 = .ok (.iconst 2, 1) := by decide +kernel
theorem dX0_menOf_10 : decode cX0_menOf 10 = .ok (.invokevirtual 44, 3) := by decide +kernel
theorem dX0_menOf_13 : decode cX0_menOf 13 = .ok (.ireturn, 1) := by decide +kernel
theorem dX0_kingsOf_0 : decode cX0_kingsOf 0 = .ok (.aload_n 0, 1) := by decide +kernel
theorem dX0_kingsOf_1 : decode cX0_kingsOf 1 = .ok (.iload_n 1, 1) := by decide +kernel
theorem dX0_kingsOf_2 : decode cX0_kingsOf 2 = .ok (.invokestatic 48, 3) := by decide +kernel
theorem dX0_kingsOf_5 : decode cX0_kingsOf 5 = .ok (.invokevirtual 44, 3) := by decide +kernel
theorem dX0_kingsOf_8 : decode cX0_kingsOf 8 = .ok (.ireturn, 1) := by decide +kernel
theorem dX0_piecesOf_0 : decode cX0_piecesOf 0 = .ok (.aload_n 0, 1) := by decide +kernel
theorem dX0_piecesOf_1 : decode cX0_piecesOf 1 = .ok (.iload_n 1, 1) := by decide +kernel
theorem dX0_piecesOf_2 : decode cX0_piecesOf 2 = .ok (.invokevirtual 51, 3) := by decide +kernel
theorem dX0_piecesOf_5 : decode cX0_piecesOf 5 = .ok (.aload_n 0, 1) := by decide +kernel
theorem dX0_piecesOf_6 : decode cX0_piecesOf 6 = .ok (.iload_n 1, 1) := by decide +kernel
theorem dX0_piecesOf_7 : decode cX0_piecesOf 7 = .ok (.invokevirtual 54, 3) := by decide +kernel
theorem dX0_piecesOf_10 : decode cX0_piecesOf 10 = .ok (.iadd, 1) := by decide +kernel
theorem dX0_piecesOf_11 : decode cX0_piecesOf 11 = .ok (.ireturn, 1) := by decide +kernel
theorem dX0_worthOf_0 : decode cX0_worthOf 0 = .ok (.aload_n 0, 1) := by decide +kernel
theorem dX0_worthOf_1 : decode cX0_worthOf 1 = .ok (.iload_n 1, 1) := by decide +kernel
theorem dX0_worthOf_2 : decode cX0_worthOf 2 = .ok (.invokevirtual 51, 3) := by decide +kernel
theorem dX0_worthOf_5 : decode cX0_worthOf 5 = .ok (.iconst 3, 1) := by decide +kernel
theorem dX0_worthOf_6 : decode cX0_worthOf 6 = .ok (.aload_n 0, 1) := by decide +kernel
theorem dX0_worthOf_7 : decode cX0_worthOf 7 = .ok (.iload_n 1, 1) := by decide +kernel
theorem dX0_worthOf_8 : decode cX0_worthOf 8 = .ok (.invokevirtual 54, 3) := by decide +kernel
theorem dX0_worthOf_11 : decode cX0_worthOf 11 = .ok (.imul, 1) := by decide +kernel
theorem dX0_worthOf_12 : decode cX0_worthOf 12 = .ok (.iadd, 1) := by decide +kernel
theorem dX0_worthOf_13 : decode cX0_worthOf 13 = .ok (.ireturn, 1) := by decide +kernel
theorem dX0_stepsToPrey_0 : decode cX0_stepsToPrey 0 = .ok (.aload_n 0, 1) := by decide +kernel
theorem dX0_stepsToPrey_1 : decode cX0_stepsToPrey 1 = .ok (.iload_n 1, 1) := by decide +kernel
theorem dX0_stepsToPrey_2 : decode cX0_stepsToPrey 2 = .ok (.invokevirtual 57, 3) := by decide +kernel
theorem dX0_stepsToPrey_5 : decode cX0_stepsToPrey 5 = .ok (.istore_n 3, 1) := by decide +kernel
theorem dX0_stepsToPrey_6 : decode cX0_stepsToPrey 6 = .ok (.iload_n 3, 1) := by decide +kernel
theorem dX0_stepsToPrey_7 : decode cX0_stepsToPrey 7 = .ok (.iload_n 2, 1) := by decide +kernel
theorem dX0_stepsToPrey_8 : decode cX0_stepsToPrey 8 = .ok (.invokestatic 60, 3) := by decide +kernel
theorem dX0_stepsToPrey_11 : decode cX0_stepsToPrey 11 = .ok (.ifCond .ne 5, 3) := by decide +kernel
theorem dX0_stepsToPrey_14 : decode cX0_stepsToPrey 14 = .ok (.iconst 0, 1) := by decide +kernel
theorem dX0_stepsToPrey_15 : decode cX0_stepsToPrey 15 = .ok (.ireturn, 1) := by decide +kernel
theorem dX0_stepsToPrey_16 : decode cX0_stepsToPrey 16 = .ok (.iload_n 3, 1) := by decide +kernel
theorem dX0_stepsToPrey_17 : decode cX0_stepsToPrey 17 = .ok (.invokestatic 64, 3) := by decide +kernel
theorem dX0_stepsToPrey_20 : decode cX0_stepsToPrey 20 = .ok (.ifCond .eq 8, 3) := by decide +kernel
theorem dX0_stepsToPrey_23 : decode cX0_stepsToPrey 23 = .ok (.bipush 22, 2) := by decide +kernel
theorem dX0_stepsToPrey_25 : decode cX0_stepsToPrey 25 = .ok (.goto 4, 3) := by decide +kernel
theorem dX0_stepsToPrey_28 : decode cX0_stepsToPrey 28 = .ok (.iconst 1, 1) := by decide +kernel
theorem dX0_stepsToPrey_29 : decode cX0_stepsToPrey 29 = .ok (.istore 4, 2) := by decide +kernel
theorem dX0_stepsToPrey_31 : decode cX0_stepsToPrey 31 = .ok (.iconst 1, 1) := by decide +kernel
theorem dX0_stepsToPrey_32 : decode cX0_stepsToPrey 32 = .ok (.istore 5, 2) := by decide +kernel
theorem dX0_stepsToPrey_34 : decode cX0_stepsToPrey 34 = .ok (.iload_n 1, 1) := by decide +kernel
theorem dX0_stepsToPrey_35 : decode cX0_stepsToPrey 35 = .ok (.iload_n 2, 1) := by decide +kernel
theorem dX0_stepsToPrey_36 : decode cX0_stepsToPrey 36 = .ok (.iconst 1, 1) := by decide +kernel
theorem dX0_stepsToPrey_37 : decode cX0_stepsToPrey 37 = .ok (.invokestatic 68, 3) := by decide +kernel
theorem dX0_stepsToPrey_40 : decode cX0_stepsToPrey 40 = .ok (.istore 6, 2) := by decide +kernel
theorem dX0_stepsToPrey_42 : decode cX0_stepsToPrey 42 = .ok (.iload 5, 2) := by decide +kernel
theorem dX0_stepsToPrey_44 : decode cX0_stepsToPrey 44 = .ok (.iload 4, 2) := by decide +kernel
theorem dX0_stepsToPrey_46 : decode cX0_stepsToPrey 46 = .ok (.if_icmp .ge 29, 3) := by decide +kernel
theorem dX0_stepsToPrey_49 : decode cX0_stepsToPrey 49 = .ok (.aload_n 0, 1) := by decide +kernel
theorem dX0_stepsToPrey_50 : decode cX0_stepsToPrey 50 = .ok (.iload 6, 2) := by decide +kernel
theorem dX0_stepsToPrey_52 : decode cX0_stepsToPrey 52 = .ok (.invokevirtual 57, 3) := by decide +kernel
theorem dX0_stepsToPrey_55 : decode cX0_stepsToPrey 55 = .ok (.bipush (-6), 2) := by decide +kernel
theorem dX0_stepsToPrey_57 : decode cX0_stepsToPrey 57 = .ok (.if_icmp .ne 18, 3) := by decide +kernel
theorem dX0_stepsToPrey_60 : decode cX0_stepsToPrey 60 = .ok (.iload 6, 2) := by decide +kernel
theorem dX0_stepsToPrey_62 : decode cX0_stepsToPrey 62 = .ok (.iload_n 2, 1) := by decide +kernel
theorem dX0_stepsToPrey_63 : decode cX0_stepsToPrey 63 = .ok (.iconst 1, 1) := by decide +kernel
theorem dX0_stepsToPrey_64 : decode cX0_stepsToPrey 64 = .ok (.invokestatic 68, 3) := by decide +kernel
theorem dX0_stepsToPrey_67 : decode cX0_stepsToPrey 67 = .ok (.istore 6, 2) := by decide +kernel
theorem dX0_stepsToPrey_69 : decode cX0_stepsToPrey 69 = .ok (.iinc 5 1, 3) := by decide +kernel
theorem dX0_stepsToPrey_72 : decode cX0_stepsToPrey 72 = .ok (.goto (-30), 3) := by decide +kernel
theorem dX0_stepsToPrey_75 : decode cX0_stepsToPrey 75 = .ok (.aload_n 0, 1) := by decide +kernel
theorem dX0_stepsToPrey_76 : decode cX0_stepsToPrey 76 = .ok (.iload 6, 2) := by decide +kernel
theorem dX0_stepsToPrey_78 : decode cX0_stepsToPrey 78 = .ok (.invokevirtual 57, 3) := by decide +kernel
theorem dX0_stepsToPrey_81 : decode cX0_stepsToPrey 81 = .ok (.invokestatic 72, 3) := by decide +kernel
theorem dX0_stepsToPrey_84 : decode cX0_stepsToPrey 84 = .ok (.iconst 1, 1) := by decide +kernel
theorem dX0_stepsToPrey_85 : decode cX0_stepsToPrey 85 = .ok (.iload_n 3, 1) := by decide +kernel
theorem dX0_stepsToPrey_86 : decode cX0_stepsToPrey 86 = .ok (.invokestatic 72, 3) := by decide +kernel
theorem dX0_stepsToPrey_89 : decode cX0_stepsToPrey 89 = .ok (.isub, 1) := by decide +kernel
theorem dX0_stepsToPrey_90 : decode cX0_stepsToPrey 90 = .ok (.if_icmp .ne 7, 3) := by decide +kernel
theorem dX0_stepsToPrey_93 : decode cX0_stepsToPrey 93 = .ok (.iconst 1, 1) := by decide +kernel
theorem dX0_stepsToPrey_94 : decode cX0_stepsToPrey 94 = .ok (.goto 4, 3) := by decide +kernel
theorem dX0_stepsToPrey_97 : decode cX0_stepsToPrey 97 = .ok (.iconst 0, 1) := by decide +kernel
theorem dX0_stepsToPrey_98 : decode cX0_stepsToPrey 98 = .ok (.istore 7, 2) := by decide +kernel
theorem dX0_stepsToPrey_100 : decode cX0_stepsToPrey 100 = .ok (.iload 7, 2) := by decide +kernel
theorem dX0_stepsToPrey_102 : decode cX0_stepsToPrey 102 = .ok (.ifCond .eq 24, 3) := by decide +kernel
theorem dX0_stepsToPrey_105 : decode cX0_stepsToPrey 105 = .ok (.aload_n 0, 1) := by decide +kernel
theorem dX0_stepsToPrey_106 : decode cX0_stepsToPrey 106 = .ok (.iload 6, 2) := by decide +kernel
theorem dX0_stepsToPrey_108 : decode cX0_stepsToPrey 108 = .ok (.iload_n 2, 1) := by decide +kernel
theorem dX0_stepsToPrey_109 : decode cX0_stepsToPrey 109 = .ok (.iconst 1, 1) := by decide +kernel
theorem dX0_stepsToPrey_110 : decode cX0_stepsToPrey 110 = .ok (.invokestatic 68, 3) := by decide +kernel
theorem dX0_stepsToPrey_113 : decode cX0_stepsToPrey 113 = .ok (.invokevirtual 57, 3) := by decide +kernel
theorem dX0_stepsToPrey_116 : decode cX0_stepsToPrey 116 = .ok (.bipush (-6), 2) := by decide +kernel
theorem dX0_stepsToPrey_118 : decode cX0_stepsToPrey 118 = .ok (.if_icmp .ne 8, 3) := by decide +kernel
theorem dX0_stepsToPrey_121 : decode cX0_stepsToPrey 121 = .ok (.iload 5, 2) := by decide +kernel
theorem dX0_stepsToPrey_123 : decode cX0_stepsToPrey 123 = .ok (.goto 4, 3) := by decide +kernel
theorem dX0_stepsToPrey_126 : decode cX0_stepsToPrey 126 = .ok (.iconst 0, 1) := by decide +kernel
theorem dX0_stepsToPrey_127 : decode cX0_stepsToPrey 127 = .ok (.ireturn, 1) := by decide +kernel
theorem dX0_canJump_0 : decode cX0_canJump 0 = .ok (.iconst 0, 1) := by decide +kernel
theorem dX0_canJump_1 : decode cX0_canJump 1 = .ok (.istore_n 2, 1) := by decide +kernel
theorem dX0_canJump_2 : decode cX0_canJump 2 = .ok (.iload_n 2, 1) := by decide +kernel
theorem dX0_canJump_3 : decode cX0_canJump 3 = .ok (.iconst 4, 1) := by decide +kernel
theorem dX0_canJump_4 : decode cX0_canJump 4 = .ok (.if_icmp .ge 20, 3) := by decide +kernel
theorem dX0_canJump_7 : decode cX0_canJump 7 = .ok (.aload_n 0, 1) := by decide +kernel
theorem dX0_canJump_8 : decode cX0_canJump 8 = .ok (.iload_n 1, 1) := by decide +kernel
theorem dX0_canJump_9 : decode cX0_canJump 9 = .ok (.iload_n 2, 1) := by decide +kernel
theorem dX0_canJump_10 : decode cX0_canJump 10 = .ok (.invokevirtual 75, 3) := by decide +kernel
theorem dX0_canJump_13 : decode cX0_canJump 13 = .ok (.ifCond .le 5, 3) := by decide +kernel
theorem dX0_canJump_16 : decode cX0_canJump 16 = .ok (.iconst 1, 1) := by decide +kernel
theorem dX0_canJump_17 : decode cX0_canJump 17 = .ok (.ireturn, 1) := by decide +kernel
theorem dX0_canJump_18 : decode cX0_canJump 18 = .ok (.iinc 2 1, 3) := by decide +kernel
theorem dX0_canJump_21 : decode cX0_canJump 21 = .ok (.goto (-19), 3) := by decide +kernel
theorem dX0_canJump_24 : decode cX0_canJump 24 = .ok (.iconst 0, 1) := by decide +kernel
theorem dX0_canJump_25 : decode cX0_canJump 25 = .ok (.ireturn, 1) := by decide +kernel
theorem dX0_hasHop_0 : decode cX0_hasHop 0 = .ok (.iconst 0, 1) := by decide +kernel
theorem dX0_hasHop_1 : decode cX0_hasHop 1 = .ok (.istore_n 1, 1) := by decide +kernel
theorem dX0_hasHop_2 : decode cX0_hasHop 2 = .ok (.iload_n 1, 1) := by decide +kernel
theorem dX0_hasHop_3 : decode cX0_hasHop 3 = .ok (.bipush 48, 2) := by decide +kernel
theorem dX0_hasHop_5 : decode cX0_hasHop 5 = .ok (.if_icmp .ge 88, 3) := by decide +kernel
theorem dX0_hasHop_8 : decode cX0_hasHop 8 = .ok (.aload_n 0, 1) := by decide +kernel
theorem dX0_hasHop_9 : decode cX0_hasHop 9 = .ok (.iload_n 1, 1) := by decide +kernel
theorem dX0_hasHop_10 : decode cX0_hasHop 10 = .ok (.invokevirtual 57, 3) := by decide +kernel
theorem dX0_hasHop_13 : decode cX0_hasHop 13 = .ok (.istore_n 2, 1) := by decide +kernel
theorem dX0_hasHop_14 : decode cX0_hasHop 14 = .ok (.iload_n 2, 1) := by decide +kernel
theorem dX0_hasHop_15 : decode cX0_hasHop 15 = .ok (.invokestatic 72, 3) := by decide +kernel
theorem dX0_hasHop_18 : decode cX0_hasHop 18 = .ok (.aload_n 0, 1) := by decide +kernel
theorem dX0_hasHop_19 : decode cX0_hasHop 19 = .ok (.getfield 18, 3) := by decide +kernel
theorem dX0_hasHop_22 : decode cX0_hasHop 22 = .ok (.if_icmp .eq 6, 3) := by decide +kernel
theorem dX0_hasHop_25 : decode cX0_hasHop 25 = .ok (.goto 62, 3) := by decide +kernel
theorem dX0_hasHop_28 : decode cX0_hasHop 28 = .ok (.iconst 0, 1) := by decide +kernel
theorem dX0_hasHop_29 : decode cX0_hasHop 29 = .ok (.istore_n 3, 1) := by decide +kernel
theorem dX0_hasHop_30 : decode cX0_hasHop 30 = .ok (.iload_n 3, 1) := by decide +kernel
theorem dX0_hasHop_31 : decode cX0_hasHop 31 = .ok (.iconst 4, 1) := by decide +kernel
theorem dX0_hasHop_32 : decode cX0_hasHop 32 = .ok (.if_icmp .ge 55, 3) := by decide +kernel
theorem dX0_hasHop_35 : decode cX0_hasHop 35 = .ok (.iload_n 2, 1) := by decide +kernel
theorem dX0_hasHop_36 : decode cX0_hasHop 36 = .ok (.iload_n 3, 1) := by decide +kernel
theorem dX0_hasHop_37 : decode cX0_hasHop 37 = .ok (.invokestatic 60, 3) := by decide +kernel
theorem dX0_hasHop_40 : decode cX0_hasHop 40 = .ok (.ifCond .eq 22, 3) := by decide +kernel
theorem dX0_hasHop_43 : decode cX0_hasHop 43 = .ok (.aload_n 0, 1) := by decide +kernel
theorem dX0_hasHop_44 : decode cX0_hasHop 44 = .ok (.iload_n 1, 1) := by decide +kernel
theorem dX0_hasHop_45 : decode cX0_hasHop 45 = .ok (.iload_n 3, 1) := by decide +kernel
theorem dX0_hasHop_46 : decode cX0_hasHop 46 = .ok (.iconst 1, 1) := by decide +kernel
theorem dX0_hasHop_47 : decode cX0_hasHop 47 = .ok (.invokestatic 68, 3) := by decide +kernel
theorem dX0_hasHop_50 : decode cX0_hasHop 50 = .ok (.invokevirtual 57, 3) := by decide +kernel
theorem dX0_hasHop_53 : decode cX0_hasHop 53 = .ok (.bipush (-6), 2) := by decide +kernel
theorem dX0_hasHop_55 : decode cX0_hasHop 55 = .ok (.if_icmp .ne 7, 3) := by decide +kernel
theorem dX0_hasHop_58 : decode cX0_hasHop 58 = .ok (.iconst 1, 1) := by decide +kernel
theorem dX0_hasHop_59 : decode cX0_hasHop 59 = .ok (.goto 4, 3) := by decide +kernel
theorem dX0_hasHop_62 : decode cX0_hasHop 62 = .ok (.iconst 0, 1) := by decide +kernel
theorem dX0_hasHop_63 : decode cX0_hasHop 63 = .ok (.istore 4, 2) := by decide +kernel
theorem dX0_hasHop_65 : decode cX0_hasHop 65 = .ok (.iload 4, 2) := by decide +kernel
theorem dX0_hasHop_67 : decode cX0_hasHop 67 = .ok (.ifCond .ne 12, 3) := by decide +kernel
theorem dX0_hasHop_70 : decode cX0_hasHop 70 = .ok (.aload_n 0, 1) := by decide +kernel
theorem dX0_hasHop_71 : decode cX0_hasHop 71 = .ok (.iload_n 1, 1) := by decide +kernel
theorem dX0_hasHop_72 : decode cX0_hasHop 72 = .ok (.iload_n 3, 1) := by decide +kernel
theorem dX0_hasHop_73 : decode cX0_hasHop 73 = .ok (.invokevirtual 75, 3) := by decide +kernel
theorem dX0_hasHop_76 : decode cX0_hasHop 76 = .ok (.ifCond .le 5, 3) := by decide +kernel
theorem dX0_hasHop_79 : decode cX0_hasHop 79 = .ok (.iconst 1, 1) := by decide +kernel
theorem dX0_hasHop_80 : decode cX0_hasHop 80 = .ok (.ireturn, 1) := by decide +kernel
theorem dX0_hasHop_81 : decode cX0_hasHop 81 = .ok (.iinc 3 1, 3) := by decide +kernel
theorem dX0_hasHop_84 : decode cX0_hasHop 84 = .ok (.goto (-54), 3) := by decide +kernel
theorem dX0_hasHop_87 : decode cX0_hasHop 87 = .ok (.iinc 1 1, 3) := by decide +kernel
theorem dX0_hasHop_90 : decode cX0_hasHop 90 = .ok (.goto (-88), 3) := by decide +kernel
theorem dX0_hasHop_93 : decode cX0_hasHop 93 = .ok (.iconst 0, 1) := by decide +kernel
theorem dX0_hasHop_94 : decode cX0_hasHop 94 = .ok (.ireturn, 1) := by decide +kernel
theorem dX0_make_0 : decode cX0_make 0 = .ok (.aload_n 1, 1) := by decide +kernel
theorem dX0_make_1 : decode cX0_make 1 = .ok (.iload_n 2, 1) := by decide +kernel
theorem dX0_make_2 : decode cX0_make 2 = .ok (.invokevirtual 79, 3) := by decide +kernel
theorem dX0_make_5 : decode cX0_make 5 = .ok (.istore_n 3, 1) := by decide +kernel
theorem dX0_make_6 : decode cX0_make 6 = .ok (.aload_n 1, 1) := by decide +kernel
theorem dX0_make_7 : decode cX0_make 7 = .ok (.iload_n 2, 1) := by decide +kernel
theorem dX0_make_8 : decode cX0_make 8 = .ok (.invokevirtual 84, 3) := by decide +kernel
theorem dX0_make_11 : decode cX0_make 11 = .ok (.istore 4, 2) := by decide +kernel
theorem dX0_make_13 : decode cX0_make 13 = .ok (.aload_n 1, 1) := by decide +kernel
theorem dX0_make_14 : decode cX0_make 14 = .ok (.iload_n 2, 1) := by decide +kernel
theorem dX0_make_15 : decode cX0_make 15 = .ok (.invokevirtual 87, 3) := by decide +kernel
theorem dX0_make_18 : decode cX0_make 18 = .ok (.istore 5, 2) := by decide +kernel
theorem dX0_make_20 : decode cX0_make 20 = .ok (.aload_n 0, 1) := by decide +kernel
theorem dX0_make_21 : decode cX0_make 21 = .ok (.iload_n 3, 1) := by decide +kernel
theorem dX0_make_22 : decode cX0_make 22 = .ok (.invokevirtual 57, 3) := by decide +kernel
theorem dX0_make_25 : decode cX0_make 25 = .ok (.istore 6, 2) := by decide +kernel
theorem dX0_make_27 : decode cX0_make 27 = .ok (.iload 6, 2) := by decide +kernel
theorem dX0_make_29 : decode cX0_make 29 = .ok (.iload_n 3, 1) := by decide +kernel
theorem dX0_make_30 : decode cX0_make 30 = .ok (.aload_n 1, 1) := by decide +kernel
theorem dX0_make_31 : decode cX0_make 31 = .ok (.iload_n 2, 1) := by decide +kernel
theorem dX0_make_32 : decode cX0_make 32 = .ok (.invokevirtual 90, 3) := by decide +kernel
theorem dX0_make_35 : decode cX0_make 35 = .ok (.invokestatic 93, 3) := by decide +kernel
theorem dX0_make_38 : decode cX0_make 38 = .ok (.istore 7, 2) := by decide +kernel
theorem dX0_make_40 : decode cX0_make 40 = .ok (.aload_n 0, 1) := by decide +kernel
theorem dX0_make_41 : decode cX0_make 41 = .ok (.iload_n 3, 1) := by decide +kernel
theorem dX0_make_42 : decode cX0_make 42 = .ok (.bipush (-6), 2) := by decide +kernel
theorem dX0_make_44 : decode cX0_make 44 = .ok (.invokevirtual 37, 3) := by decide +kernel
theorem dX0_make_47 : decode cX0_make 47 = .ok (.aload_n 0, 1) := by decide +kernel
theorem dX0_make_48 : decode cX0_make 48 = .ok (.iload 5, 2) := by decide +kernel
theorem dX0_make_50 : decode cX0_make 50 = .ok (.bipush (-6), 2) := by decide +kernel
theorem dX0_make_52 : decode cX0_make 52 = .ok (.invokevirtual 37, 3) := by decide +kernel
theorem dX0_make_55 : decode cX0_make 55 = .ok (.aload_n 0, 1) := by decide +kernel
theorem dX0_make_56 : decode cX0_make 56 = .ok (.iload 4, 2) := by decide +kernel
theorem dX0_make_58 : decode cX0_make 58 = .ok (.iload 7, 2) := by decide +kernel
theorem dX0_make_60 : decode cX0_make 60 = .ok (.ifCond .eq 13, 3) := by decide +kernel
theorem dX0_make_63 : decode cX0_make 63 = .ok (.aload_n 0, 1) := by decide +kernel
theorem dX0_make_64 : decode cX0_make 64 = .ok (.getfield 18, 3) := by decide +kernel
theorem dX0_make_67 : decode cX0_make 67 = .ok (.invokestatic 48, 3) := by decide +kernel
theorem dX0_make_70 : decode cX0_make 70 = .ok (.goto 5, 3) := by decide +kernel
theorem dX0_make_73 : decode cX0_make 73 = .ok (.iload 6, 2) := by decide +kernel
theorem dX0_make_75 : decode cX0_make 75 = .ok (.invokevirtual 37, 3) := by decide +kernel
theorem dX0_make_78 : decode cX0_make 78 = .ok (.aload_n 0, 1) := by decide +kernel
theorem dX0_make_79 : decode cX0_make 79 = .ok (.iload 5, 2) := by decide +kernel
theorem dX0_make_81 : decode cX0_make 81 = .ok (.bipush (-6), 2) := by decide +kernel
theorem dX0_make_83 : decode cX0_make 83 = .ok (.if_icmp .eq 17, 3) := by decide +kernel
theorem dX0_make_86 : decode cX0_make 86 = .ok (.aload_n 0, 1) := by decide +kernel
theorem dX0_make_87 : decode cX0_make 87 = .ok (.iload 4, 2) := by decide +kernel
theorem dX0_make_89 : decode cX0_make 89 = .ok (.invokevirtual 97, 3) := by decide +kernel
theorem dX0_make_92 : decode cX0_make 92 = .ok (.ifCond .eq 8, 3) := by decide +kernel
theorem dX0_make_95 : decode cX0_make 95 = .ok (.iload 4, 2) := by decide +kernel
theorem dX0_make_97 : decode cX0_make 97 = .ok (.goto 5, 3) := by decide +kernel
theorem dX0_make_100 : decode cX0_make 100 = .ok (.bipush (-6), 2) := by decide +kernel
theorem dX0_make_102 : decode cX0_make 102 = .ok (.putfield 22, 3) := by decide +kernel
theorem dX0_make_105 : decode cX0_make 105 = .ok (.aload_n 0, 1) := by decide +kernel
theorem dX0_make_106 : decode cX0_make 106 = .ok (.getfield 22, 3) := by decide +kernel
theorem dX0_make_109 : decode cX0_make 109 = .ok (.bipush (-6), 2) := by decide +kernel
theorem dX0_make_111 : decode cX0_make 111 = .ok (.if_icmp .ne 13, 3) := by decide +kernel
theorem dX0_make_114 : decode cX0_make 114 = .ok (.aload_n 0, 1) := by decide +kernel
theorem dX0_make_115 : decode cX0_make 115 = .ok (.iconst 1, 1) := by decide +kernel
theorem dX0_make_116 : decode cX0_make 116 = .ok (.aload_n 0, 1) := by decide +kernel
theorem dX0_make_117 : decode cX0_make 117 = .ok (.getfield 18, 3) := by decide +kernel
theorem dX0_make_120 : decode cX0_make 120 = .ok (.isub, 1) := by decide +kernel
theorem dX0_make_121 : decode cX0_make 121 = .ok (.putfield 18, 3) := by decide +kernel
theorem dX0_make_124 : decode cX0_make 124 = .ok (.return_, 1) := by decide +kernel
theorem dX0_third_0 : decode cX0_third 0 = .ok (.iload_n 1, 1) := by decide +kernel
theorem dX0_third_1 : decode cX0_third 1 = .ok (.bipush 16, 2) := by decide +kernel
theorem dX0_third_3 : decode cX0_third 3 = .ok (.imul, 1) := by decide +kernel
theorem dX0_third_4 : decode cX0_third 4 = .ok (.istore_n 2, 1) := by decide +kernel
theorem dX0_third_5 : decode cX0_third 5 = .ok (.iload_n 1, 1) := by decide +kernel
theorem dX0_third_6 : decode cX0_third 6 = .ok (.ifCond .ne 11, 3) := by decide +kernel
theorem dX0_third_9 : decode cX0_third 9 = .ok (.aload_n 0, 1) := by decide +kernel
theorem dX0_third_10 : decode cX0_third 10 = .ok (.getfield 18, 3) := by decide +kernel
theorem dX0_third_13 : decode cX0_third 13 = .ok (.i2l, 1) := by decide +kernel
theorem dX0_third_14 : decode cX0_third 14 = .ok (.goto 20, 3) := by decide +kernel
theorem dX0_third_17 : decode cX0_third 17 = .ok (.iload_n 1, 1) := by decide +kernel
theorem dX0_third_18 : decode cX0_third 18 = .ok (.iconst 1, 1) := by decide +kernel
theorem dX0_third_19 : decode cX0_third 19 = .ok (.if_icmp .ne 14, 3) := by decide +kernel
theorem dX0_third_22 : decode cX0_third 22 = .ok (.aload_n 0, 1) := by decide +kernel
theorem dX0_third_23 : decode cX0_third 23 = .ok (.getfield 22, 3) := by decide +kernel
theorem dX0_third_26 : decode cX0_third 26 = .ok (.bipush (-6), 2) := by decide +kernel
theorem dX0_third_28 : decode cX0_third 28 = .ok (.isub, 1) := by decide +kernel
theorem dX0_third_29 : decode cX0_third 29 = .ok (.i2l, 1) := by decide +kernel
theorem dX0_third_30 : decode cX0_third 30 = .ok (.goto 4, 3) := by decide +kernel
theorem dX0_third_33 : decode cX0_third 33 = .ok (.lconst 0, 1) := by decide +kernel
theorem dX0_third_34 : decode cX0_third 34 = .ok (.lstore_n 3, 1) := by decide +kernel
theorem dX0_third_35 : decode cX0_third 35 = .ok (.iload_n 2, 1) := by decide +kernel
theorem dX0_third_36 : decode cX0_third 36 = .ok (.istore 5, 2) := by decide +kernel
theorem dX0_third_38 : decode cX0_third 38 = .ok (.iload 5, 2) := by decide +kernel
theorem dX0_third_40 : decode cX0_third 40 = .ok (.iload_n 2, 1) := by decide +kernel
theorem dX0_third_41 : decode cX0_third 41 = .ok (.bipush 16, 2) := by decide +kernel
theorem dX0_third_43 : decode cX0_third 43 = .ok (.iadd, 1) := by decide +kernel
theorem dX0_third_44 : decode cX0_third 44 = .ok (.if_icmp .ge 36, 3) := by decide +kernel
theorem dX0_third_47 : decode cX0_third 47 = .ok (.aload_n 0, 1) := by decide +kernel
theorem dX0_third_48 : decode cX0_third 48 = .ok (.iload 5, 2) := by decide +kernel
theorem dX0_third_50 : decode cX0_third 50 = .ok (.invokevirtual 57, 3) := by decide +kernel
theorem dX0_third_53 : decode cX0_third 53 = .ok (.istore 6, 2) := by decide +kernel
theorem dX0_third_55 : decode cX0_third 55 = .ok (.lload_n 3, 1) := by decide +kernel
theorem dX0_third_56 : decode cX0_third 56 = .ok (.iconst 3, 1) := by decide +kernel
theorem dX0_third_57 : decode cX0_third 57 = .ok (.lshl, 1) := by decide +kernel
theorem dX0_third_58 : decode cX0_third 58 = .ok (.iload 6, 2) := by decide +kernel
theorem dX0_third_60 : decode cX0_third 60 = .ok (.bipush (-6), 2) := by decide +kernel
theorem dX0_third_62 : decode cX0_third 62 = .ok (.if_icmp .ne 7, 3) := by decide +kernel
theorem dX0_third_65 : decode cX0_third 65 = .ok (.iconst 4, 1) := by decide +kernel
theorem dX0_third_66 : decode cX0_third 66 = .ok (.goto 5, 3) := by decide +kernel
theorem dX0_third_69 : decode cX0_third 69 = .ok (.iload 6, 2) := by decide +kernel
theorem dX0_third_71 : decode cX0_third 71 = .ok (.i2l, 1) := by decide +kernel
theorem dX0_third_72 : decode cX0_third 72 = .ok (.lor, 1) := by decide +kernel
theorem dX0_third_73 : decode cX0_third 73 = .ok (.lstore_n 3, 1) := by decide +kernel
theorem dX0_third_74 : decode cX0_third 74 = .ok (.iinc 5 1, 3) := by decide +kernel
theorem dX0_third_77 : decode cX0_third 77 = .ok (.goto (-39), 3) := by decide +kernel
theorem dX0_third_80 : decode cX0_third 80 = .ok (.lload_n 3, 1) := by decide +kernel
theorem dX0_third_81 : decode cX0_third 81 = .ok (.lreturn, 1) := by decide +kernel
theorem dX1_init_0 : decode cX1_init 0 = .ok (.aload_n 0, 1) := by decide +kernel
theorem dX1_init_1 : decode cX1_init 1 = .ok (.invokespecial 3, 3) := by decide +kernel
theorem dX1_init_4 : decode cX1_init 4 = .ok (.aload_n 0, 1) := by decide +kernel
theorem dX1_init_5 : decode cX1_init 5 = .ok (.new 9, 3) := by decide +kernel
theorem dX1_init_8 : decode cX1_init 8 = .ok (.dup, 1) := by decide +kernel
theorem dX1_init_9 : decode cX1_init 9 = .ok (.invokespecial 11, 3) := by decide +kernel
theorem dX1_init_12 : decode cX1_init 12 = .ok (.putfield 12, 3) := by decide +kernel
theorem dX1_init_15 : decode cX1_init 15 = .ok (.aload_n 0, 1) := by decide +kernel
theorem dX1_init_16 : decode cX1_init 16 = .ok (.iconst 2, 1) := by decide +kernel
theorem dX1_init_17 : decode cX1_init 17 = .ok (.newarray .int, 2) := by decide +kernel
theorem dX1_init_19 : decode cX1_init 19 = .ok (.putfield 18, 3) := by decide +kernel
theorem dX1_init_22 : decode cX1_init 22 = .ok (.aload_n 0, 1) := by decide +kernel
theorem dX1_init_23 : decode cX1_init 23 = .ok (.iconst 2, 1) := by decide +kernel
theorem dX1_init_24 : decode cX1_init 24 = .ok (.newarray .int, 2) := by decide +kernel
theorem dX1_init_26 : decode cX1_init 26 = .ok (.putfield 22, 3) := by decide +kernel
theorem dX1_init_29 : decode cX1_init 29 = .ok (.aload_n 0, 1) := by decide +kernel
theorem dX1_init_30 : decode cX1_init 30 = .ok (.sipush 183, 3) := by decide +kernel
theorem dX1_init_33 : decode cX1_init 33 = .ok (.newarray .long, 2) := by decide +kernel
theorem dX1_init_35 : decode cX1_init 35 = .ok (.putfield 25, 3) := by decide +kernel
theorem dX1_init_38 : decode cX1_init 38 = .ok (.aload_n 0, 1) := by decide +kernel
theorem dX1_init_39 : decode cX1_init 39 = .ok (.iconst 0, 1) := by decide +kernel
theorem dX1_init_40 : decode cX1_init 40 = .ok (.putfield 29, 3) := by decide +kernel
theorem dX1_init_43 : decode cX1_init 43 = .ok (.aload_n 0, 1) := by decide +kernel
theorem dX1_init_44 : decode cX1_init 44 = .ok (.sipush 600, 3) := by decide +kernel
theorem dX1_init_47 : decode cX1_init 47 = .ok (.putfield 33, 3) := by decide +kernel
theorem dX1_init_50 : decode cX1_init 50 = .ok (.aload_n 0, 1) := by decide +kernel
theorem dX1_init_51 : decode cX1_init 51 = .ok (.iconst 0, 1) := by decide +kernel
theorem dX1_init_52 : decode cX1_init 52 = .ok (.putfield 36, 3) := by decide +kernel
theorem dX1_init_55 : decode cX1_init 55 = .ok (.aload_n 0, 1) := by decide +kernel
theorem dX1_init_56 : decode cX1_init 56 = .ok (.iconst 0, 1) := by decide +kernel
theorem dX1_init_57 : decode cX1_init 57 = .ok (.putfield 39, 3) := by decide +kernel
theorem dX1_init_60 : decode cX1_init 60 = .ok (.aload_n 0, 1) := by decide +kernel
theorem dX1_init_61 : decode cX1_init 61 = .ok (.iconst 0, 1) := by decide +kernel
theorem dX1_init_62 : decode cX1_init 62 = .ok (.putfield 42, 3) := by decide +kernel
theorem dX1_init_65 : decode cX1_init 65 = .ok (.return_, 1) := by decide +kernel
theorem dX1_copyFrom_0 : decode cX1_copyFrom 0 = .ok (.aload_n 0, 1) := by decide +kernel
theorem dX1_copyFrom_1 : decode cX1_copyFrom 1 = .ok (.getfield 12, 3) := by decide +kernel
theorem dX1_copyFrom_4 : decode cX1_copyFrom 4 = .ok (.aload_n 1, 1) := by decide +kernel
theorem dX1_copyFrom_5 : decode cX1_copyFrom 5 = .ok (.getfield 12, 3) := by decide +kernel
theorem dX1_copyFrom_8 : decode cX1_copyFrom 8 = .ok (.invokevirtual 45, 3) := by decide +kernel
theorem dX1_copyFrom_11 : decode cX1_copyFrom 11 = .ok (.aload_n 1, 1) := by decide +kernel
theorem dX1_copyFrom_12 : decode cX1_copyFrom 12 = .ok (.getfield 18, 3) := by decide +kernel
theorem dX1_copyFrom_15 : decode cX1_copyFrom 15 = .ok (.iconst 0, 1) := by decide +kernel
theorem dX1_copyFrom_16 : decode cX1_copyFrom 16 = .ok (.aload_n 0, 1) := by decide +kernel
theorem dX1_copyFrom_17 : decode cX1_copyFrom 17 = .ok (.getfield 18, 3) := by decide +kernel
theorem dX1_copyFrom_20 : decode cX1_copyFrom 20 = .ok (.iconst 0, 1) := by decide +kernel
theorem dX1_copyFrom_21 : decode cX1_copyFrom 21 = .ok (.iconst 2, 1) := by decide +kernel
theorem dX1_copyFrom_22 : decode cX1_copyFrom 22 = .ok (.invokestatic 49, 3) := by decide +kernel
theorem dX1_copyFrom_25 : decode cX1_copyFrom 25 = .ok (.aload_n 1, 1) := by decide +kernel
theorem dX1_copyFrom_26 : decode cX1_copyFrom 26 = .ok (.getfield 22, 3) := by decide +kernel
theorem dX1_copyFrom_29 : decode cX1_copyFrom 29 = .ok (.iconst 0, 1) := by decide +kernel
theorem dX1_copyFrom_30 : decode cX1_copyFrom 30 = .ok (.aload_n 0, 1) := by decide +kernel
theorem dX1_copyFrom_31 : decode cX1_copyFrom 31 = .ok (.getfield 22, 3) := by decide +kernel
theorem dX1_copyFrom_34 : decode cX1_copyFrom 34 = .ok (.iconst 0, 1) := by decide +kernel
theorem dX1_copyFrom_35 : decode cX1_copyFrom 35 = .ok (.iconst 2, 1) := by decide +kernel
theorem dX1_copyFrom_36 : decode cX1_copyFrom 36 = .ok (.invokestatic 49, 3) := by decide +kernel
theorem dX1_copyFrom_39 : decode cX1_copyFrom 39 = .ok (.aload_n 1, 1) := by decide +kernel
theorem dX1_copyFrom_40 : decode cX1_copyFrom 40 = .ok (.getfield 25, 3) := by decide +kernel
theorem dX1_copyFrom_43 : decode cX1_copyFrom 43 = .ok (.iconst 0, 1) := by decide +kernel
theorem dX1_copyFrom_44 : decode cX1_copyFrom 44 = .ok (.aload_n 0, 1) := by decide +kernel
theorem dX1_copyFrom_45 : decode cX1_copyFrom 45 = .ok (.getfield 25, 3) := by decide +kernel
theorem dX1_copyFrom_48 : decode cX1_copyFrom 48 = .ok (.iconst 0, 1) := by decide +kernel
theorem dX1_copyFrom_49 : decode cX1_copyFrom 49 = .ok (.sipush 183, 3) := by decide +kernel
theorem dX1_copyFrom_52 : decode cX1_copyFrom 52 = .ok (.invokestatic 49, 3) := by decide +kernel
theorem dX1_copyFrom_55 : decode cX1_copyFrom 55 = .ok (.aload_n 0, 1) := by decide +kernel
theorem dX1_copyFrom_56 : decode cX1_copyFrom 56 = .ok (.aload_n 1, 1) := by decide +kernel
theorem dX1_copyFrom_57 : decode cX1_copyFrom 57 = .ok (.getfield 29, 3) := by decide +kernel
theorem dX1_copyFrom_60 : decode cX1_copyFrom 60 = .ok (.putfield 29, 3) := by decide +kernel
theorem dX1_copyFrom_63 : decode cX1_copyFrom 63 = .ok (.aload_n 0, 1) := by decide +kernel
theorem dX1_copyFrom_64 : decode cX1_copyFrom 64 = .ok (.aload_n 1, 1) := by decide +kernel
theorem dX1_copyFrom_65 : decode cX1_copyFrom 65 = .ok (.getfield 33, 3) := by decide +kernel
theorem dX1_copyFrom_68 : decode cX1_copyFrom 68 = .ok (.putfield 33, 3) := by decide +kernel
theorem dX1_copyFrom_71 : decode cX1_copyFrom 71 = .ok (.aload_n 0, 1) := by decide +kernel
theorem dX1_copyFrom_72 : decode cX1_copyFrom 72 = .ok (.aload_n 1, 1) := by decide +kernel
theorem dX1_copyFrom_73 : decode cX1_copyFrom 73 = .ok (.getfield 36, 3) := by decide +kernel
theorem dX1_copyFrom_76 : decode cX1_copyFrom 76 = .ok (.putfield 36, 3) := by decide +kernel
theorem dX1_copyFrom_79 : decode cX1_copyFrom 79 = .ok (.aload_n 0, 1) := by decide +kernel
theorem dX1_copyFrom_80 : decode cX1_copyFrom 80 = .ok (.aload_n 1, 1) := by decide +kernel
theorem dX1_copyFrom_81 : decode cX1_copyFrom 81 = .ok (.getfield 39, 3) := by decide +kernel
theorem dX1_copyFrom_84 : decode cX1_copyFrom 84 = .ok (.putfield 39, 3) := by decide +kernel
theorem dX1_copyFrom_87 : decode cX1_copyFrom 87 = .ok (.aload_n 0, 1) := by decide +kernel
theorem dX1_copyFrom_88 : decode cX1_copyFrom 88 = .ok (.aload_n 1, 1) := by decide +kernel
theorem dX1_copyFrom_89 : decode cX1_copyFrom 89 = .ok (.getfield 42, 3) := by decide +kernel
theorem dX1_copyFrom_92 : decode cX1_copyFrom 92 = .ok (.putfield 42, 3) := by decide +kernel
theorem dX1_copyFrom_95 : decode cX1_copyFrom 95 = .ok (.return_, 1) := by decide +kernel
theorem dX1_start_0 : decode cX1_start 0 = .ok (.aload_n 0, 1) := by decide +kernel
theorem dX1_start_1 : decode cX1_start 1 = .ok (.getfield 12, 3) := by decide +kernel
theorem dX1_start_4 : decode cX1_start 4 = .ok (.invokevirtual 55, 3) := by decide +kernel
theorem dX1_start_7 : decode cX1_start 7 = .ok (.iload_n 1, 1) := by decide +kernel
theorem dX1_start_8 : decode cX1_start 8 = .ok (.ifCond .ne 40, 3) := by decide +kernel
theorem dX1_start_11 : decode cX1_start 11 = .ok (.aload_n 0, 1) := by decide +kernel
theorem dX1_start_12 : decode cX1_start 12 = .ok (.getfield 12, 3) := by decide +kernel
theorem dX1_start_15 : decode cX1_start 15 = .ok (.iconst 1, 1) := by decide +kernel
theorem dX1_start_16 : decode cX1_start 16 = .ok (.iconst 0, 1) := by decide +kernel
theorem dX1_start_17 : decode cX1_start 17 = .ok (.invokevirtual 58, 3) := by decide +kernel
theorem dX1_start_20 : decode cX1_start 20 = .ok (.aload_n 0, 1) := by decide +kernel
theorem dX1_start_21 : decode cX1_start 21 = .ok (.getfield 12, 3) := by decide +kernel
theorem dX1_start_24 : decode cX1_start 24 = .ok (.iconst 2, 1) := by decide +kernel
theorem dX1_start_25 : decode cX1_start 25 = .ok (.iconst 0, 1) := by decide +kernel
theorem dX1_start_26 : decode cX1_start 26 = .ok (.invokevirtual 58, 3) := by decide +kernel
theorem dX1_start_29 : decode cX1_start 29 = .ok (.aload_n 0, 1) := by decide +kernel
theorem dX1_start_30 : decode cX1_start 30 = .ok (.getfield 12, 3) := by decide +kernel
theorem dX1_start_33 : decode cX1_start 33 = .ok (.iconst 5, 1) := by decide +kernel
theorem dX1_start_34 : decode cX1_start 34 = .ok (.iconst 2, 1) := by decide +kernel
theorem dX1_start_35 : decode cX1_start 35 = .ok (.invokevirtual 58, 3) := by decide +kernel
theorem dX1_start_38 : decode cX1_start 38 = .ok (.aload_n 0, 1) := by decide +kernel
theorem dX1_start_39 : decode cX1_start 39 = .ok (.getfield 12, 3) := by decide +kernel
theorem dX1_start_42 : decode cX1_start 42 = .ok (.bipush 6, 2) := by decide +kernel
theorem dX1_start_44 : decode cX1_start 44 = .ok (.iconst 2, 1) := by decide +kernel
theorem dX1_start_45 : decode cX1_start 45 = .ok (.invokevirtual 58, 3) := by decide +kernel
theorem dX1_start_48 : decode cX1_start 48 = .ok (.aload_n 0, 1) := by decide +kernel
theorem dX1_start_49 : decode cX1_start 49 = .ok (.getfield 18, 3) := by decide +kernel
theorem dX1_start_52 : decode cX1_start 52 = .ok (.aload_n 0, 1) := by decide +kernel
theorem dX1_start_53 : decode cX1_start 53 = .ok (.getfield 33, 3) := by decide +kernel
theorem dX1_start_56 : decode cX1_start 56 = .ok (.invokestatic 62, 3) := by decide +kernel
theorem dX1_start_59 : decode cX1_start 59 = .ok (.aload_n 0, 1) := by decide +kernel
theorem dX1_start_60 : decode cX1_start 60 = .ok (.invokevirtual 68, 3) := by decide +kernel
theorem dX1_start_63 : decode cX1_start 63 = .ok (.return_, 1) := by decide +kernel
theorem dX1_startFromHere_0 : decode cX1_startFromHere 0 = .ok (.aload_n 0, 1) := by decide +kernel
theorem dX1_startFromHere_1 : decode cX1_startFromHere 1 = .ok (.getfield 12, 3) := by decide +kernel
theorem dX1_startFromHere_4 : decode cX1_startFromHere 4 = .ok (.bipush (-6), 2) := by decide +kernel
theorem dX1_startFromHere_6 : decode cX1_startFromHere 6 = .ok (.putfield 71, 3) := by decide +kernel
theorem dX1_startFromHere_9 : decode cX1_startFromHere 9 = .ok (.aload_n 0, 1) := by decide +kernel
theorem dX1_startFromHere_10 : decode cX1_startFromHere 10 = .ok (.getfield 22, 3) := by decide +kernel
theorem dX1_startFromHere_13 : decode cX1_startFromHere 13 = .ok (.iconst 0, 1) := by decide +kernel
theorem dX1_startFromHere_14 : decode cX1_startFromHere 14 = .ok (.invokestatic 62, 3) := by decide +kernel
theorem dX1_startFromHere_17 : decode cX1_startFromHere 17 = .ok (.aload_n 0, 1) := by decide +kernel
theorem dX1_startFromHere_18 : decode cX1_startFromHere 18 = .ok (.iconst 0, 1) := by decide +kernel
theorem dX1_startFromHere_19 : decode cX1_startFromHere 19 = .ok (.putfield 36, 3) := by decide +kernel
theorem dX1_startFromHere_22 : decode cX1_startFromHere 22 = .ok (.aload_n 0, 1) := by decide +kernel
theorem dX1_startFromHere_23 : decode cX1_startFromHere 23 = .ok (.iconst 0, 1) := by decide +kernel
theorem dX1_startFromHere_24 : decode cX1_startFromHere 24 = .ok (.putfield 39, 3) := by decide +kernel
theorem dX1_startFromHere_27 : decode cX1_startFromHere 27 = .ok (.aload_n 0, 1) := by decide +kernel
theorem dX1_startFromHere_28 : decode cX1_startFromHere 28 = .ok (.iconst 0, 1) := by decide +kernel
theorem dX1_startFromHere_29 : decode cX1_startFromHere 29 = .ok (.putfield 29, 3) := by decide +kernel
theorem dX1_startFromHere_32 : decode cX1_startFromHere 32 = .ok (.aload_n 0, 1) := by decide +kernel
theorem dX1_startFromHere_33 : decode cX1_startFromHere 33 = .ok (.invokevirtual 74, 3) := by decide +kernel
theorem dX1_startFromHere_36 : decode cX1_startFromHere 36 = .ok (.aload_n 0, 1) := by decide +kernel
theorem dX1_startFromHere_37 : decode cX1_startFromHere 37 = .ok (.invokevirtual 77, 3) := by decide +kernel
theorem dX1_startFromHere_40 : decode cX1_startFromHere 40 = .ok (.return_, 1) := by decide +kernel
theorem dX1_makeHop_0 : decode cX1_makeHop 0 = .ok (.aload_n 0, 1) := by decide +kernel
theorem dX1_makeHop_1 : decode cX1_makeHop 1 = .ok (.getfield 12, 3) := by decide +kernel
theorem dX1_makeHop_4 : decode cX1_makeHop 4 = .ok (.getfield 80, 3) := by decide +kernel
theorem dX1_makeHop_7 : decode cX1_makeHop 7 = .ok (.istore 4, 2) := by decide +kernel
theorem dX1_makeHop_9 : decode cX1_makeHop 9 = .ok (.iload 4, 2) := by decide +kernel
theorem dX1_makeHop_11 : decode cX1_makeHop 11 = .ok (.invokestatic 83, 3) := by decide +kernel
theorem dX1_makeHop_14 : decode cX1_makeHop 14 = .ok (.ifCond .ne 4, 3) := by decide +kernel
theorem dX1_makeHop_17 : decode cX1_makeHop 17 = .ok (.return_, 1) := by decide +kernel
theorem dX1_makeHop_18 : decode cX1_makeHop 18 = .ok (.iload_n 3, 1) := by decide +kernel
theorem dX1_makeHop_19 : decode cX1_makeHop 19 = .ok (.aload_n 0, 1) := by decide +kernel
theorem dX1_makeHop_20 : decode cX1_makeHop 20 = .ok (.getfield 18, 3) := by decide +kernel
theorem dX1_makeHop_23 : decode cX1_makeHop 23 = .ok (.iload 4, 2) := by decide +kernel
theorem dX1_makeHop_25 : decode cX1_makeHop 25 = .ok (.iaload, 1) := by decide +kernel
theorem dX1_makeHop_26 : decode cX1_makeHop 26 = .ok (.if_icmp .le 23, 3) := by decide +kernel
theorem dX1_makeHop_29 : decode cX1_makeHop 29 = .ok (.aload_n 0, 1) := by decide +kernel
theorem dX1_makeHop_30 : decode cX1_makeHop 30 = .ok (.getfield 18, 3) := by decide +kernel
theorem dX1_makeHop_33 : decode cX1_makeHop 33 = .ok (.iload 4, 2) := by decide +kernel
theorem dX1_makeHop_35 : decode cX1_makeHop 35 = .ok (.iconst 0, 1) := by decide +kernel
theorem dX1_makeHop_36 : decode cX1_makeHop 36 = .ok (.iastore, 1) := by decide +kernel
theorem dX1_makeHop_37 : decode cX1_makeHop 37 = .ok (.aload_n 0, 1) := by decide +kernel
theorem dX1_makeHop_38 : decode cX1_makeHop 38 = .ok (.iconst 1, 1) := by decide +kernel
theorem dX1_makeHop_39 : decode cX1_makeHop 39 = .ok (.iload 4, 2) := by decide +kernel
theorem dX1_makeHop_41 : decode cX1_makeHop 41 = .ok (.isub, 1) := by decide +kernel
theorem dX1_makeHop_42 : decode cX1_makeHop 42 = .ok (.invokestatic 87, 3) := by decide +kernel
theorem dX1_makeHop_45 : decode cX1_makeHop 45 = .ok (.putfield 42, 3) := by decide +kernel
theorem dX1_makeHop_48 : decode cX1_makeHop 48 = .ok (.return_, 1) := by decide +kernel
theorem dX1_makeHop_49 : decode cX1_makeHop 49 = .ok (.aload_n 0, 1) := by decide +kernel
theorem dX1_makeHop_50 : decode cX1_makeHop 50 = .ok (.getfield 18, 3) := by decide +kernel
theorem dX1_makeHop_53 : decode cX1_makeHop 53 = .ok (.iload 4, 2) := by decide +kernel
theorem dX1_makeHop_55 : decode cX1_makeHop 55 = .ok (.dup2, 1) := by decide +kernel
theorem dX1_makeHop_56 : decode cX1_makeHop 56 = .ok (.iaload, 1) := by decide +kernel
theorem dX1_makeHop_57 : decode cX1_makeHop 57 = .ok (.iload_n 3, 1) := by decide +kernel
theorem dX1_makeHop_58 : decode cX1_makeHop 58 = .ok (.isub, 1) := by decide +kernel
theorem dX1_makeHop_59 : decode cX1_makeHop 59 = .ok (.iastore, 1) := by decide +kernel
theorem dX1_makeHop_60 : decode cX1_makeHop 60 = .ok (.aload_n 1, 1) := by decide +kernel
theorem dX1_makeHop_61 : decode cX1_makeHop 61 = .ok (.iload_n 2, 1) := by decide +kernel
theorem dX1_makeHop_62 : decode cX1_makeHop 62 = .ok (.invokevirtual 91, 3) := by decide +kernel
theorem dX1_makeHop_65 : decode cX1_makeHop 65 = .ok (.bipush (-6), 2) := by decide +kernel
theorem dX1_makeHop_67 : decode cX1_makeHop 67 = .ok (.if_icmp .eq 7, 3) := by decide +kernel
theorem dX1_makeHop_70 : decode cX1_makeHop 70 = .ok (.iconst 1, 1) := by decide +kernel
theorem dX1_makeHop_71 : decode cX1_makeHop 71 = .ok (.goto 4, 3) := by decide +kernel
theorem dX1_makeHop_74 : decode cX1_makeHop 74 = .ok (.iconst 0, 1) := by decide +kernel
theorem dX1_makeHop_75 : decode cX1_makeHop 75 = .ok (.istore 5, 2) := by decide +kernel
theorem dX1_makeHop_77 : decode cX1_makeHop 77 = .ok (.aload_n 0, 1) := by decide +kernel
theorem dX1_makeHop_78 : decode cX1_makeHop 78 = .ok (.getfield 12, 3) := by decide +kernel
theorem dX1_makeHop_81 : decode cX1_makeHop 81 = .ok (.aload_n 1, 1) := by decide +kernel
theorem dX1_makeHop_82 : decode cX1_makeHop 82 = .ok (.iload_n 2, 1) := by decide +kernel
theorem dX1_makeHop_83 : decode cX1_makeHop 83 = .ok (.invokevirtual 96, 3) := by decide +kernel
theorem dX1_makeHop_86 : decode cX1_makeHop 86 = .ok (.invokevirtual 99, 3) := by decide +kernel
theorem dX1_makeHop_89 : decode cX1_makeHop 89 = .ok (.invokestatic 102, 3) := by decide +kernel
theorem dX1_makeHop_92 : decode cX1_makeHop 92 = .ok (.ifCond .eq 12, 3) := by decide +kernel
theorem dX1_makeHop_95 : decode cX1_makeHop 95 = .ok (.iload 5, 2) := by decide +kernel
theorem dX1_makeHop_97 : decode cX1_makeHop 97 = .ok (.ifCond .ne 7, 3) := by decide +kernel
theorem dX1_makeHop_100 : decode cX1_makeHop 100 = .ok (.iconst 1, 1) := by decide +kernel
theorem dX1_makeHop_101 : decode cX1_makeHop 101 = .ok (.goto 4, 3) := by decide +kernel
theorem dX1_makeHop_104 : decode cX1_makeHop 104 = .ok (.iconst 0, 1) := by decide +kernel
theorem dX1_makeHop_105 : decode cX1_makeHop 105 = .ok (.istore 6, 2) := by decide +kernel
theorem dX1_makeHop_107 : decode cX1_makeHop 107 = .ok (.iload 5, 2) := by decide +kernel
theorem dX1_makeHop_109 : decode cX1_makeHop 109 = .ok (.ifCond .eq 16, 3) := by decide +kernel
theorem dX1_makeHop_112 : decode cX1_makeHop 112 = .ok (.aload_n 0, 1) := by decide +kernel
theorem dX1_makeHop_113 : decode cX1_makeHop 113 = .ok (.getfield 22, 3) := by decide +kernel
theorem dX1_makeHop_116 : decode cX1_makeHop 116 = .ok (.iconst 1, 1) := by decide +kernel
theorem dX1_makeHop_117 : decode cX1_makeHop 117 = .ok (.iload 4, 2) := by decide +kernel
theorem dX1_makeHop_119 : decode cX1_makeHop 119 = .ok (.isub, 1) := by decide +kernel
theorem dX1_makeHop_120 : decode cX1_makeHop 120 = .ok (.dup2, 1) := by decide +kernel
theorem dX1_makeHop_121 : decode cX1_makeHop 121 = .ok (.iaload, 1) := by decide +kernel
theorem dX1_makeHop_122 : decode cX1_makeHop 122 = .ok (.iconst 1, 1) := by decide +kernel
theorem dX1_makeHop_123 : decode cX1_makeHop 123 = .ok (.iadd, 1) := by decide +kernel
theorem dX1_makeHop_124 : decode cX1_makeHop 124 = .ok (.iastore, 1) := by decide +kernel
theorem dX1_makeHop_125 : decode cX1_makeHop 125 = .ok (.aload_n 0, 1) := by decide +kernel
theorem dX1_makeHop_126 : decode cX1_makeHop 126 = .ok (.getfield 12, 3) := by decide +kernel
theorem dX1_makeHop_129 : decode cX1_makeHop 129 = .ok (.aload_n 1, 1) := by decide +kernel
theorem dX1_makeHop_130 : decode cX1_makeHop 130 = .ok (.iload_n 2, 1) := by decide +kernel
theorem dX1_makeHop_131 : decode cX1_makeHop 131 = .ok (.invokevirtual 105, 3) := by decide +kernel
theorem dX1_makeHop_134 : decode cX1_makeHop 134 = .ok (.aload_n 0, 1) := by decide +kernel
theorem dX1_makeHop_135 : decode cX1_makeHop 135 = .ok (.dup, 1) := by decide +kernel
theorem dX1_makeHop_136 : decode cX1_makeHop 136 = .ok (.getfield 36, 3) := by decide +kernel
theorem dX1_makeHop_139 : decode cX1_makeHop 139 = .ok (.iconst 1, 1) := by decide +kernel
theorem dX1_makeHop_140 : decode cX1_makeHop 140 = .ok (.iadd, 1) := by decide +kernel
theorem dX1_makeHop_141 : decode cX1_makeHop 141 = .ok (.putfield 36, 3) := by decide +kernel
theorem dX1_makeHop_144 : decode cX1_makeHop 144 = .ok (.aload_n 0, 1) := by decide +kernel
theorem dX1_makeHop_145 : decode cX1_makeHop 145 = .ok (.iload 6, 2) := by decide +kernel
theorem dX1_makeHop_147 : decode cX1_makeHop 147 = .ok (.ifCond .eq 12, 3) := by decide +kernel
theorem dX1_makeHop_150 : decode cX1_makeHop 150 = .ok (.aload_n 0, 1) := by decide +kernel
theorem dX1_makeHop_151 : decode cX1_makeHop 151 = .ok (.getfield 39, 3) := by decide +kernel
theorem dX1_makeHop_154 : decode cX1_makeHop 154 = .ok (.iconst 1, 1) := by decide +kernel
theorem dX1_makeHop_155 : decode cX1_makeHop 155 = .ok (.iadd, 1) := by decide +kernel
theorem dX1_makeHop_156 : decode cX1_makeHop 156 = .ok (.goto 4, 3) := by decide +kernel
theorem dX1_makeHop_159 : decode cX1_makeHop 159 = .ok (.iconst 0, 1) := by decide +kernel
theorem dX1_makeHop_160 : decode cX1_makeHop 160 = .ok (.putfield 39, 3) := by decide +kernel
theorem dX1_makeHop_163 : decode cX1_makeHop 163 = .ok (.iload 6, 2) := by decide +kernel
theorem dX1_makeHop_165 : decode cX1_makeHop 165 = .ok (.ifCond .ne 8, 3) := by decide +kernel
theorem dX1_makeHop_168 : decode cX1_makeHop 168 = .ok (.aload_n 0, 1) := by decide +kernel
theorem dX1_makeHop_169 : decode cX1_makeHop 169 = .ok (.iconst 0, 1) := by decide +kernel
theorem dX1_makeHop_170 : decode cX1_makeHop 170 = .ok (.putfield 29, 3) := by decide +kernel
theorem dX1_makeHop_173 : decode cX1_makeHop 173 = .ok (.aload_n 0, 1) := by decide +kernel
theorem dX1_makeHop_174 : decode cX1_makeHop 174 = .ok (.invokevirtual 74, 3) := by decide +kernel
theorem dX1_makeHop_177 : decode cX1_makeHop 177 = .ok (.aload_n 0, 1) := by decide +kernel
theorem dX1_makeHop_178 : decode cX1_makeHop 178 = .ok (.invokevirtual 77, 3) := by decide +kernel
theorem dX1_makeHop_181 : decode cX1_makeHop 181 = .ok (.return_, 1) := by decide +kernel
theorem dX1_judge_0 : decode cX1_judge 0 = .ok (.aload_n 0, 1) := by decide +kernel
theorem dX1_judge_1 : decode cX1_judge 1 = .ok (.getfield 12, 3) := by decide +kernel
theorem dX1_judge_4 : decode cX1_judge 4 = .ok (.invokevirtual 109, 3) := by decide +kernel
theorem dX1_judge_7 : decode cX1_judge 7 = .ok (.ifCond .ne 22, 3) := by decide +kernel
theorem dX1_judge_10 : decode cX1_judge 10 = .ok (.aload_n 0, 1) := by decide +kernel
theorem dX1_judge_11 : decode cX1_judge 11 = .ok (.iconst 1, 1) := by decide +kernel
theorem dX1_judge_12 : decode cX1_judge 12 = .ok (.aload_n 0, 1) := by decide +kernel
theorem dX1_judge_13 : decode cX1_judge 13 = .ok (.getfield 12, 3) := by decide +kernel
theorem dX1_judge_16 : decode cX1_judge 16 = .ok (.getfield 80, 3) := by decide +kernel
theorem dX1_judge_19 : decode cX1_judge 19 = .ok (.isub, 1) := by decide +kernel
theorem dX1_judge_20 : decode cX1_judge 20 = .ok (.invokestatic 87, 3) := by decide +kernel
theorem dX1_judge_23 : decode cX1_judge 23 = .ok (.putfield 42, 3) := by decide +kernel
theorem dX1_judge_26 : decode cX1_judge 26 = .ok (.goto 33, 3) := by decide +kernel
theorem dX1_judge_29 : decode cX1_judge 29 = .ok (.aload_n 0, 1) := by decide +kernel
theorem dX1_judge_30 : decode cX1_judge 30 = .ok (.invokevirtual 113, 3) := by decide +kernel
theorem dX1_judge_33 : decode cX1_judge 33 = .ok (.iconst 3, 1) := by decide +kernel
theorem dX1_judge_34 : decode cX1_judge 34 = .ok (.if_icmp .ge 12, 3) := by decide +kernel
theorem dX1_judge_37 : decode cX1_judge 37 = .ok (.aload_n 0, 1) := by decide +kernel
theorem dX1_judge_38 : decode cX1_judge 38 = .ok (.getfield 39, 3) := by decide +kernel
theorem dX1_judge_41 : decode cX1_judge 41 = .ok (.bipush 60, 2) := by decide +kernel
theorem dX1_judge_43 : decode cX1_judge 43 = .ok (.if_icmp .lt 11, 3) := by decide +kernel
theorem dX1_judge_46 : decode cX1_judge 46 = .ok (.aload_n 0, 1) := by decide +kernel
theorem dX1_judge_47 : decode cX1_judge 47 = .ok (.iconst 3, 1) := by decide +kernel
theorem dX1_judge_48 : decode cX1_judge 48 = .ok (.putfield 42, 3) := by decide +kernel
theorem dX1_judge_51 : decode cX1_judge 51 = .ok (.goto 8, 3) := by decide +kernel
theorem dX1_judge_54 : decode cX1_judge 54 = .ok (.aload_n 0, 1) := by decide +kernel
theorem dX1_judge_55 : decode cX1_judge 55 = .ok (.iconst 0, 1) := by decide +kernel
theorem dX1_judge_56 : decode cX1_judge 56 = .ok (.putfield 42, 3) := by decide +kernel
theorem dX1_judge_59 : decode cX1_judge 59 = .ok (.return_, 1) := by decide +kernel
theorem dX1_keepPosition_0 : decode cX1_keepPosition 0 = .ok (.aload_n 0, 1) := by decide +kernel
theorem dX1_keepPosition_1 : decode cX1_keepPosition 1 = .ok (.getfield 29, 3) := by decide +kernel
theorem dX1_keepPosition_4 : decode cX1_keepPosition 4 = .ok (.iconst 3, 1) := by decide +kernel
theorem dX1_keepPosition_5 : decode cX1_keepPosition 5 = .ok (.imul, 1) := by decide +kernel
theorem dX1_keepPosition_6 : decode cX1_keepPosition 6 = .ok (.istore_n 1, 1) := by decide +kernel
theorem dX1_keepPosition_7 : decode cX1_keepPosition 7 = .ok (.iload_n 1, 1) := by decide +kernel
theorem dX1_keepPosition_8 : decode cX1_keepPosition 8 = .ok (.ifCond .lt 14, 3) := by decide +kernel
theorem dX1_keepPosition_11 : decode cX1_keepPosition 11 = .ok (.iload_n 1, 1) := by decide +kernel
theorem dX1_keepPosition_12 : decode cX1_keepPosition 12 = .ok (.iconst 3, 1) := by decide +kernel
theorem dX1_keepPosition_13 : decode cX1_keepPosition 13 = .ok (.iadd, 1) := by decide +kernel
theorem dX1_keepPosition_14 : decode cX1_keepPosition 14 = .ok (.aload_n 0, 1) := by decide +kernel
theorem dX1_keepPosition_15 : decode cX1_keepPosition 15 = .ok (.getfield 25, 3) := by decide +kernel
theorem dX1_keepPosition_18 : decode cX1_keepPosition 18 = .ok (.arraylength, 1) := by decide +kernel
theorem dX1_keepPosition_19 : decode cX1_keepPosition 19 = .ok (.if_icmp .le 4, 3) := by decide +kernel
theorem dX1_keepPosition_22 : decode cX1_keepPosition 22 = .ok (.return_, 1) := by decide +kernel
theorem dX1_keepPosition_23 : decode cX1_keepPosition 23 = .ok (.iconst 0, 1) := by decide +kernel
theorem dX1_keepPosition_24 : decode cX1_keepPosition 24 = .ok (.istore_n 2, 1) := by decide +kernel
theorem dX1_keepPosition_25 : decode cX1_keepPosition 25 = .ok (.iload_n 2, 1) := by decide +kernel
theorem dX1_keepPosition_26 : decode cX1_keepPosition 26 = .ok (.iconst 3, 1) := by decide +kernel
theorem dX1_keepPosition_27 : decode cX1_keepPosition 27 = .ok (.if_icmp .ge 25, 3) := by decide +kernel
theorem dX1_keepPosition_30 : decode cX1_keepPosition 30 = .ok (.aload_n 0, 1) := by decide +kernel
theorem dX1_keepPosition_31 : decode cX1_keepPosition 31 = .ok (.getfield 25, 3) := by decide +kernel
theorem dX1_keepPosition_34 : decode cX1_keepPosition 34 = .ok (.iload_n 1, 1) := by decide +kernel
theorem dX1_keepPosition_35 : decode cX1_keepPosition 35 = .ok (.iload_n 2, 1) := by decide +kernel
theorem dX1_keepPosition_36 : decode cX1_keepPosition 36 = .ok (.iadd, 1) := by decide +kernel
theorem dX1_keepPosition_37 : decode cX1_keepPosition 37 = .ok (.aload_n 0, 1) := by decide +kernel
theorem dX1_keepPosition_38 : decode cX1_keepPosition 38 = .ok (.getfield 12, 3) := by decide +kernel
theorem dX1_keepPosition_41 : decode cX1_keepPosition 41 = .ok (.iload_n 2, 1) := by decide +kernel
theorem dX1_keepPosition_42 : decode cX1_keepPosition 42 = .ok (.invokevirtual 117, 3) := by decide +kernel
theorem dX1_keepPosition_45 : decode cX1_keepPosition 45 = .ok (.lastore, 1) := by decide +kernel
theorem dX1_keepPosition_46 : decode cX1_keepPosition 46 = .ok (.iinc 2 1, 3) := by decide +kernel
theorem dX1_keepPosition_49 : decode cX1_keepPosition 49 = .ok (.goto (-24), 3) := by decide +kernel
theorem dX1_keepPosition_52 : decode cX1_keepPosition 52 = .ok (.aload_n 0, 1) := by decide +kernel
theorem dX1_keepPosition_53 : decode cX1_keepPosition 53 = .ok (.dup, 1) := by decide +kernel
theorem dX1_keepPosition_54 : decode cX1_keepPosition 54 = .ok (.getfield 29, 3) := by decide +kernel
theorem dX1_keepPosition_57 : decode cX1_keepPosition 57 = .ok (.iconst 1, 1) := by decide +kernel
theorem dX1_keepPosition_58 : decode cX1_keepPosition 58 = .ok (.iadd, 1) := by decide +kernel
theorem dX1_keepPosition_59 : decode cX1_keepPosition 59 = .ok (.putfield 29, 3) := by decide +kernel
theorem dX1_keepPosition_62 : decode cX1_keepPosition 62 = .ok (.return_, 1) := by decide +kernel
theorem dX1_timesOfNow_0 : decode cX1_timesOfNow 0 = .ok (.iconst 0, 1) := by decide +kernel
theorem dX1_timesOfNow_1 : decode cX1_timesOfNow 1 = .ok (.istore_n 1, 1) := by decide +kernel
theorem dX1_timesOfNow_2 : decode cX1_timesOfNow 2 = .ok (.iconst 0, 1) := by decide +kernel
theorem dX1_timesOfNow_3 : decode cX1_timesOfNow 3 = .ok (.istore_n 2, 1) := by decide +kernel
theorem dX1_timesOfNow_4 : decode cX1_timesOfNow 4 = .ok (.iload_n 2, 1) := by decide +kernel
theorem dX1_timesOfNow_5 : decode cX1_timesOfNow 5 = .ok (.aload_n 0, 1) := by decide +kernel
theorem dX1_timesOfNow_6 : decode cX1_timesOfNow 6 = .ok (.getfield 29, 3) := by decide +kernel
theorem dX1_timesOfNow_9 : decode cX1_timesOfNow 9 = .ok (.if_icmp .ge 26, 3) := by decide +kernel
theorem dX1_timesOfNow_12 : decode cX1_timesOfNow 12 = .ok (.aload_n 0, 1) := by decide +kernel
theorem dX1_timesOfNow_13 : decode cX1_timesOfNow 13 = .ok (.iload_n 2, 1) := by decide +kernel
theorem dX1_timesOfNow_14 : decode cX1_timesOfNow 14 = .ok (.aload_n 0, 1) := by decide +kernel
theorem dX1_timesOfNow_15 : decode cX1_timesOfNow 15 = .ok (.getfield 29, 3) := by decide +kernel
theorem dX1_timesOfNow_18 : decode cX1_timesOfNow 18 = .ok (.iconst 1, 1) := by decide +kernel
theorem dX1_timesOfNow_19 : decode cX1_timesOfNow 19 = .ok (.isub, 1) := by decide +kernel
theorem dX1_timesOfNow_20 : decode cX1_timesOfNow 20 = .ok (.invokevirtual 121, 3) := by decide +kernel
theorem dX1_timesOfNow_23 : decode cX1_timesOfNow 23 = .ok (.ifCond .eq 6, 3) := by decide +kernel
theorem dX1_timesOfNow_26 : decode cX1_timesOfNow 26 = .ok (.iinc 1 1, 3) := by decide +kernel
theorem dX1_timesOfNow_29 : decode cX1_timesOfNow 29 = .ok (.iinc 2 1, 3) := by decide +kernel
theorem dX1_timesOfNow_32 : decode cX1_timesOfNow 32 = .ok (.goto (-28), 3) := by decide +kernel
theorem dX1_timesOfNow_35 : decode cX1_timesOfNow 35 = .ok (.iload_n 1, 1) := by decide +kernel
theorem dX1_timesOfNow_36 : decode cX1_timesOfNow 36 = .ok (.ireturn, 1) := by decide +kernel
theorem dX1_isSamePosition_0 : decode cX1_isSamePosition 0 = .ok (.iload_n 1, 1) := by decide +kernel
theorem dX1_isSamePosition_1 : decode cX1_isSamePosition 1 = .ok (.iload_n 2, 1) := by decide +kernel
theorem dX1_isSamePosition_2 : decode cX1_isSamePosition 2 = .ok (.invokestatic 125, 3) := by decide +kernel
theorem dX1_isSamePosition_5 : decode cX1_isSamePosition 5 = .ok (.iconst 3, 1) := by decide +kernel
theorem dX1_isSamePosition_6 : decode cX1_isSamePosition 6 = .ok (.imul, 1) := by decide +kernel
theorem dX1_isSamePosition_7 : decode cX1_isSamePosition 7 = .ok (.istore_n 3, 1) := by decide +kernel
theorem dX1_isSamePosition_8 : decode cX1_isSamePosition 8 = .ok (.iload_n 1, 1) := by decide +kernel
theorem dX1_isSamePosition_9 : decode cX1_isSamePosition 9 = .ok (.iload_n 2, 1) := by decide +kernel
theorem dX1_isSamePosition_10 : decode cX1_isSamePosition 10 = .ok (.invokestatic 131, 3) := by decide +kernel
theorem dX1_isSamePosition_13 : decode cX1_isSamePosition 13 = .ok (.iconst 3, 1) := by decide +kernel
theorem dX1_isSamePosition_14 : decode cX1_isSamePosition 14 = .ok (.imul, 1) := by decide +kernel
theorem dX1_isSamePosition_15 : decode cX1_isSamePosition 15 = .ok (.istore 4, 2) := by decide +kernel
theorem dX1_isSamePosition_17 : decode cX1_isSamePosition 17 = .ok (.iload_n 3, 1) := by decide +kernel
theorem dX1_isSamePosition_18 : decode cX1_isSamePosition 18 = .ok (.ifCond .lt 15, 3) := by decide +kernel
theorem dX1_isSamePosition_21 : decode cX1_isSamePosition 21 = .ok (.iload 4, 2) := by decide +kernel
theorem dX1_isSamePosition_23 : decode cX1_isSamePosition 23 = .ok (.iconst 3, 1) := by decide +kernel
theorem dX1_isSamePosition_24 : decode cX1_isSamePosition 24 = .ok (.iadd, 1) := by decide +kernel
theorem dX1_isSamePosition_25 : decode cX1_isSamePosition 25 = .ok (.aload_n 0, 1) := by decide +kernel
theorem dX1_isSamePosition_26 : decode cX1_isSamePosition 26 = .ok (.getfield 25, 3) := by decide +kernel
theorem dX1_isSamePosition_29 : decode cX1_isSamePosition 29 = .ok (.arraylength, 1) := by decide +kernel
theorem dX1_isSamePosition_30 : decode cX1_isSamePosition 30 = .ok (.if_icmp .le 5, 3) := by decide +kernel
theorem dX1_isSamePosition_33 : decode cX1_isSamePosition 33 = .ok (.iconst 0, 1) := by decide +kernel
theorem dX1_isSamePosition_34 : decode cX1_isSamePosition 34 = .ok (.ireturn, 1) := by decide +kernel
theorem dX1_isSamePosition_35 : decode cX1_isSamePosition 35 = .ok (.iconst 0, 1) := by decide +kernel
theorem dX1_isSamePosition_36 : decode cX1_isSamePosition 36 = .ok (.istore 5, 2) := by decide +kernel
theorem dX1_isSamePosition_38 : decode cX1_isSamePosition 38 = .ok (.iload 5, 2) := by decide +kernel
theorem dX1_isSamePosition_40 : decode cX1_isSamePosition 40 = .ok (.iconst 3, 1) := by decide +kernel
theorem dX1_isSamePosition_41 : decode cX1_isSamePosition 41 = .ok (.if_icmp .ge 34, 3) := by decide +kernel
theorem dX1_isSamePosition_44 : decode cX1_isSamePosition 44 = .ok (.aload_n 0, 1) := by decide +kernel
theorem dX1_isSamePosition_45 : decode cX1_isSamePosition 45 = .ok (.getfield 25, 3) := by decide +kernel
theorem dX1_isSamePosition_48 : decode cX1_isSamePosition 48 = .ok (.iload_n 3, 1) := by decide +kernel
theorem dX1_isSamePosition_49 : decode cX1_isSamePosition 49 = .ok (.iload 5, 2) := by decide +kernel
theorem dX1_isSamePosition_51 : decode cX1_isSamePosition 51 = .ok (.iadd, 1) := by decide +kernel
theorem dX1_isSamePosition_52 : decode cX1_isSamePosition 52 = .ok (.laload, 1) := by decide +kernel
theorem dX1_isSamePosition_53 : decode cX1_isSamePosition 53 = .ok (.aload_n 0, 1) := by decide +kernel
theorem dX1_isSamePosition_54 : decode cX1_isSamePosition 54 = .ok (.getfield 25, 3) := by decide +kernel
theorem dX1_isSamePosition_57 : decode cX1_isSamePosition 57 = .ok (.iload 4, 2) := by decide +kernel
theorem dX1_isSamePosition_59 : decode cX1_isSamePosition 59 = .ok (.iload 5, 2) := by decide +kernel
theorem dX1_isSamePosition_61 : decode cX1_isSamePosition 61 = .ok (.iadd, 1) := by decide +kernel
theorem dX1_isSamePosition_62 : decode cX1_isSamePosition 62 = .ok (.laload, 1) := by decide +kernel
theorem dX1_isSamePosition_63 : decode cX1_isSamePosition 63 = .ok (.lcmp, 1) := by decide +kernel
theorem dX1_isSamePosition_64 : decode cX1_isSamePosition 64 = .ok (.ifCond .eq 5, 3) := by decide +kernel
theorem dX1_isSamePosition_67 : decode cX1_isSamePosition 67 = .ok (.iconst 0, 1) := by decide +kernel
theorem dX1_isSamePosition_68 : decode cX1_isSamePosition 68 = .ok (.ireturn, 1) := by decide +kernel
theorem dX1_isSamePosition_69 : decode cX1_isSamePosition 69 = .ok (.iinc 5 1, 3) := by decide +kernel
theorem dX1_isSamePosition_72 : decode cX1_isSamePosition 72 = .ok (.goto (-34), 3) := by decide +kernel
theorem dX1_isSamePosition_75 : decode cX1_isSamePosition 75 = .ok (.iconst 1, 1) := by decide +kernel
theorem dX1_isSamePosition_76 : decode cX1_isSamePosition 76 = .ok (.ireturn, 1) := by decide +kernel
theorem dX2_init_0 : decode cX2_init 0 = .ok (.aload_n 0, 1) := by decide +kernel
theorem dX2_init_1 : decode cX2_init 1 = .ok (.invokespecial 3, 3) := by decide +kernel
theorem dX2_init_4 : decode cX2_init 4 = .ok (.aload_n 0, 1) := by decide +kernel
theorem dX2_init_5 : decode cX2_init 5 = .ok (.bipush 6, 2) := by decide +kernel
theorem dX2_init_7 : decode cX2_init 7 = .ok (.anewarray 9, 3) := by decide +kernel
theorem dX2_init_10 : decode cX2_init 10 = .ok (.putfield 11, 3) := by decide +kernel
theorem dX2_init_13 : decode cX2_init 13 = .ok (.aload_n 0, 1) := by decide +kernel
theorem dX2_init_14 : decode cX2_init 14 = .ok (.iconst 0, 1) := by decide +kernel
theorem dX2_init_15 : decode cX2_init 15 = .ok (.putfield 17, 3) := by decide +kernel
theorem dX2_init_18 : decode cX2_init 18 = .ok (.return_, 1) := by decide +kernel
theorem dX2_keep_0 : decode cX2_keep 0 = .ok (.aload_n 0, 1) := by decide +kernel
theorem dX2_keep_1 : decode cX2_keep 1 = .ok (.getfield 17, 3) := by decide +kernel
theorem dX2_keep_4 : decode cX2_keep 4 = .ok (.bipush 6, 2) := by decide +kernel
theorem dX2_keep_6 : decode cX2_keep 6 = .ok (.if_icmp .lt 7, 3) := by decide +kernel
theorem dX2_keep_9 : decode cX2_keep 9 = .ok (.aload_n 0, 1) := by decide +kernel
theorem dX2_keep_10 : decode cX2_keep 10 = .ok (.invokevirtual 21, 3) := by decide +kernel
theorem dX2_keep_13 : decode cX2_keep 13 = .ok (.aload_n 0, 1) := by decide +kernel
theorem dX2_keep_14 : decode cX2_keep 14 = .ok (.getfield 17, 3) := by decide +kernel
theorem dX2_keep_17 : decode cX2_keep 17 = .ok (.ifCond .lt 12, 3) := by decide +kernel
theorem dX2_keep_20 : decode cX2_keep 20 = .ok (.aload_n 0, 1) := by decide +kernel
theorem dX2_keep_21 : decode cX2_keep 21 = .ok (.getfield 17, 3) := by decide +kernel
theorem dX2_keep_24 : decode cX2_keep 24 = .ok (.bipush 6, 2) := by decide +kernel
theorem dX2_keep_26 : decode cX2_keep 26 = .ok (.if_icmp .lt 4, 3) := by decide +kernel
theorem dX2_keep_29 : decode cX2_keep 29 = .ok (.return_, 1) := by decide +kernel
theorem dX2_keep_30 : decode cX2_keep 30 = .ok (.aload_n 0, 1) := by decide +kernel
theorem dX2_keep_31 : decode cX2_keep 31 = .ok (.getfield 11, 3) := by decide +kernel
theorem dX2_keep_34 : decode cX2_keep 34 = .ok (.aload_n 0, 1) := by decide +kernel
theorem dX2_keep_35 : decode cX2_keep 35 = .ok (.getfield 17, 3) := by decide +kernel
theorem dX2_keep_38 : decode cX2_keep 38 = .ok (.aaload, 1) := by decide +kernel
theorem dX2_keep_39 : decode cX2_keep 39 = .ok (.astore_n 2, 1) := by decide +kernel
theorem dX2_keep_40 : decode cX2_keep 40 = .ok (.aload_n 2, 1) := by decide +kernel
theorem dX2_keep_41 : decode cX2_keep 41 = .ok (.ifnonnull 21, 3) := by decide +kernel
theorem dX2_keep_44 : decode cX2_keep 44 = .ok (.new 9, 3) := by decide +kernel
theorem dX2_keep_47 : decode cX2_keep 47 = .ok (.dup, 1) := by decide +kernel
theorem dX2_keep_48 : decode cX2_keep 48 = .ok (.invokespecial 24, 3) := by decide +kernel
theorem dX2_keep_51 : decode cX2_keep 51 = .ok (.astore_n 2, 1) := by decide +kernel
theorem dX2_keep_52 : decode cX2_keep 52 = .ok (.aload_n 0, 1) := by decide +kernel
theorem dX2_keep_53 : decode cX2_keep 53 = .ok (.getfield 11, 3) := by decide +kernel
theorem dX2_keep_56 : decode cX2_keep 56 = .ok (.aload_n 0, 1) := by decide +kernel
theorem dX2_keep_57 : decode cX2_keep 57 = .ok (.getfield 17, 3) := by decide +kernel
theorem dX2_keep_60 : decode cX2_keep 60 = .ok (.aload_n 2, 1) := by decide +kernel
theorem dX2_keep_61 : decode cX2_keep 61 = .ok (.aastore, 1) := by decide +kernel
theorem dX2_keep_62 : decode cX2_keep 62 = .ok (.aload_n 2, 1) := by decide +kernel
theorem dX2_keep_63 : decode cX2_keep 63 = .ok (.aload_n 1, 1) := by decide +kernel
theorem dX2_keep_64 : decode cX2_keep 64 = .ok (.invokevirtual 25, 3) := by decide +kernel
theorem dX2_keep_67 : decode cX2_keep 67 = .ok (.aload_n 0, 1) := by decide +kernel
theorem dX2_keep_68 : decode cX2_keep 68 = .ok (.dup, 1) := by decide +kernel
theorem dX2_keep_69 : decode cX2_keep 69 = .ok (.getfield 17, 3) := by decide +kernel
theorem dX2_keep_72 : decode cX2_keep 72 = .ok (.iconst 1, 1) := by decide +kernel
theorem dX2_keep_73 : decode cX2_keep 73 = .ok (.iadd, 1) := by decide +kernel
theorem dX2_keep_74 : decode cX2_keep 74 = .ok (.putfield 17, 3) := by decide +kernel
theorem dX2_keep_77 : decode cX2_keep 77 = .ok (.return_, 1) := by decide +kernel
theorem dX2_dropOldest_0 : decode cX2_dropOldest 0 = .ok (.aload_n 0, 1) := by decide +kernel
theorem dX2_dropOldest_1 : decode cX2_dropOldest 1 = .ok (.getfield 11, 3) := by decide +kernel
theorem dX2_dropOldest_4 : decode cX2_dropOldest 4 = .ok (.iconst 0, 1) := by decide +kernel
theorem dX2_dropOldest_5 : decode cX2_dropOldest 5 = .ok (.aaload, 1) := by decide +kernel
theorem dX2_dropOldest_6 : decode cX2_dropOldest 6 = .ok (.astore_n 1, 1) := by decide +kernel
theorem dX2_dropOldest_7 : decode cX2_dropOldest 7 = .ok (.iconst 1, 1) := by decide +kernel
theorem dX2_dropOldest_8 : decode cX2_dropOldest 8 = .ok (.istore_n 2, 1) := by decide +kernel
theorem dX2_dropOldest_9 : decode cX2_dropOldest 9 = .ok (.iload_n 2, 1) := by decide +kernel
theorem dX2_dropOldest_10 : decode cX2_dropOldest 10 = .ok (.bipush 6, 2) := by decide +kernel
theorem dX2_dropOldest_12 : decode cX2_dropOldest 12 = .ok (.if_icmp .ge 23, 3) := by decide +kernel
theorem dX2_dropOldest_15 : decode cX2_dropOldest 15 = .ok (.aload_n 0, 1) := by decide +kernel
theorem dX2_dropOldest_16 : decode cX2_dropOldest 16 = .ok (.getfield 11, 3) := by decide +kernel
theorem dX2_dropOldest_19 : decode cX2_dropOldest 19 = .ok (.iload_n 2, 1) := by decide +kernel
theorem dX2_dropOldest_20 : decode cX2_dropOldest 20 = .ok (.iconst 1, 1) := by decide +kernel
theorem dX2_dropOldest_21 : decode cX2_dropOldest 21 = .ok (.isub, 1) := by decide +kernel
theorem dX2_dropOldest_22 : decode cX2_dropOldest 22 = .ok (.aload_n 0, 1) := by decide +kernel
theorem dX2_dropOldest_23 : decode cX2_dropOldest 23 = .ok (.getfield 11, 3) := by decide +kernel
theorem dX2_dropOldest_26 : decode cX2_dropOldest 26 = .ok (.iload_n 2, 1) := by decide +kernel
theorem dX2_dropOldest_27 : decode cX2_dropOldest 27 = .ok (.aaload, 1) := by decide +kernel
theorem dX2_dropOldest_28 : decode cX2_dropOldest 28 = .ok (.aastore, 1) := by decide +kernel
theorem dX2_dropOldest_29 : decode cX2_dropOldest 29 = .ok (.iinc 2 1, 3) := by decide +kernel
theorem dX2_dropOldest_32 : decode cX2_dropOldest 32 = .ok (.goto (-23), 3) := by decide +kernel
theorem dX2_dropOldest_35 : decode cX2_dropOldest 35 = .ok (.aload_n 0, 1) := by decide +kernel
theorem dX2_dropOldest_36 : decode cX2_dropOldest 36 = .ok (.getfield 11, 3) := by decide +kernel
theorem dX2_dropOldest_39 : decode cX2_dropOldest 39 = .ok (.iconst 5, 1) := by decide +kernel
theorem dX2_dropOldest_40 : decode cX2_dropOldest 40 = .ok (.aload_n 1, 1) := by decide +kernel
theorem dX2_dropOldest_41 : decode cX2_dropOldest 41 = .ok (.aastore, 1) := by decide +kernel
theorem dX2_dropOldest_42 : decode cX2_dropOldest 42 = .ok (.aload_n 0, 1) := by decide +kernel
theorem dX2_dropOldest_43 : decode cX2_dropOldest 43 = .ok (.iconst 5, 1) := by decide +kernel
theorem dX2_dropOldest_44 : decode cX2_dropOldest 44 = .ok (.putfield 17, 3) := by decide +kernel
theorem dX2_dropOldest_47 : decode cX2_dropOldest 47 = .ok (.return_, 1) := by decide +kernel
theorem dX2_takeBack_0 : decode cX2_takeBack 0 = .ok (.aload_n 0, 1) := by decide +kernel
theorem dX2_takeBack_1 : decode cX2_takeBack 1 = .ok (.getfield 17, 3) := by decide +kernel
theorem dX2_takeBack_4 : decode cX2_takeBack 4 = .ok (.iconst 1, 1) := by decide +kernel
theorem dX2_takeBack_5 : decode cX2_takeBack 5 = .ok (.if_icmp .lt 12, 3) := by decide +kernel
theorem dX2_takeBack_8 : decode cX2_takeBack 8 = .ok (.aload_n 0, 1) := by decide +kernel
theorem dX2_takeBack_9 : decode cX2_takeBack 9 = .ok (.getfield 17, 3) := by decide +kernel
theorem dX2_takeBack_12 : decode cX2_takeBack 12 = .ok (.bipush 6, 2) := by decide +kernel
theorem dX2_takeBack_14 : decode cX2_takeBack 14 = .ok (.if_icmp .le 4, 3) := by decide +kernel
theorem dX2_takeBack_17 : decode cX2_takeBack 17 = .ok (.return_, 1) := by decide +kernel
theorem dX2_takeBack_18 : decode cX2_takeBack 18 = .ok (.aload_n 0, 1) := by decide +kernel
theorem dX2_takeBack_19 : decode cX2_takeBack 19 = .ok (.getfield 11, 3) := by decide +kernel
theorem dX2_takeBack_22 : decode cX2_takeBack 22 = .ok (.aload_n 0, 1) := by decide +kernel
theorem dX2_takeBack_23 : decode cX2_takeBack 23 = .ok (.getfield 17, 3) := by decide +kernel
theorem dX2_takeBack_26 : decode cX2_takeBack 26 = .ok (.iconst 1, 1) := by decide +kernel
theorem dX2_takeBack_27 : decode cX2_takeBack 27 = .ok (.isub, 1) := by decide +kernel
theorem dX2_takeBack_28 : decode cX2_takeBack 28 = .ok (.aaload, 1) := by decide +kernel
theorem dX2_takeBack_29 : decode cX2_takeBack 29 = .ok (.astore_n 2, 1) := by decide +kernel
theorem dX2_takeBack_30 : decode cX2_takeBack 30 = .ok (.aload_n 2, 1) := by decide +kernel
theorem dX2_takeBack_31 : decode cX2_takeBack 31 = .ok (.ifnonnull 4, 3) := by decide +kernel
theorem dX2_takeBack_34 : decode cX2_takeBack 34 = .ok (.return_, 1) := by decide +kernel
theorem dX2_takeBack_35 : decode cX2_takeBack 35 = .ok (.aload_n 1, 1) := by decide +kernel
theorem dX2_takeBack_36 : decode cX2_takeBack 36 = .ok (.aload_n 2, 1) := by decide +kernel
theorem dX2_takeBack_37 : decode cX2_takeBack 37 = .ok (.invokevirtual 25, 3) := by decide +kernel
theorem dX2_takeBack_40 : decode cX2_takeBack 40 = .ok (.aload_n 0, 1) := by decide +kernel
theorem dX2_takeBack_41 : decode cX2_takeBack 41 = .ok (.dup, 1) := by decide +kernel
theorem dX2_takeBack_42 : decode cX2_takeBack 42 = .ok (.getfield 17, 3) := by decide +kernel
theorem dX2_takeBack_45 : decode cX2_takeBack 45 = .ok (.iconst 1, 1) := by decide +kernel
theorem dX2_takeBack_46 : decode cX2_takeBack 46 = .ok (.isub, 1) := by decide +kernel
theorem dX2_takeBack_47 : decode cX2_takeBack 47 = .ok (.putfield 17, 3) := by decide +kernel
theorem dX2_takeBack_50 : decode cX2_takeBack 50 = .ok (.return_, 1) := by decide +kernel
theorem dX3_init_0 : decode cX3_init 0 = .ok (.aload_n 0, 1) := by decide +kernel
theorem dX3_init_1 : decode cX3_init 1 = .ok (.invokespecial 3, 3) := by decide +kernel
theorem dX3_init_4 : decode cX3_init 4 = .ok (.aload_n 0, 1) := by decide +kernel
theorem dX3_init_5 : decode cX3_init 5 = .ok (.sipush 192, 3) := by decide +kernel
theorem dX3_init_8 : decode cX3_init 8 = .ok (.newarray .int, 2) := by decide +kernel
theorem dX3_init_10 : decode cX3_init 10 = .ok (.putfield 11, 3) := by decide +kernel
theorem dX3_init_13 : decode cX3_init 13 = .ok (.aload_n 0, 1) := by decide +kernel
theorem dX3_init_14 : decode cX3_init 14 = .ok (.sipush 192, 3) := by decide +kernel
theorem dX3_init_17 : decode cX3_init 17 = .ok (.newarray .int, 2) := by decide +kernel
theorem dX3_init_19 : decode cX3_init 19 = .ok (.putfield 15, 3) := by decide +kernel
theorem dX3_init_22 : decode cX3_init 22 = .ok (.aload_n 0, 1) := by decide +kernel
theorem dX3_init_23 : decode cX3_init 23 = .ok (.sipush 192, 3) := by decide +kernel
theorem dX3_init_26 : decode cX3_init 26 = .ok (.newarray .int, 2) := by decide +kernel
theorem dX3_init_28 : decode cX3_init 28 = .ok (.putfield 18, 3) := by decide +kernel
theorem dX3_init_31 : decode cX3_init 31 = .ok (.aload_n 0, 1) := by decide +kernel
theorem dX3_init_32 : decode cX3_init 32 = .ok (.sipush 192, 3) := by decide +kernel
theorem dX3_init_35 : decode cX3_init 35 = .ok (.newarray .int, 2) := by decide +kernel
theorem dX3_init_37 : decode cX3_init 37 = .ok (.putfield 21, 3) := by decide +kernel
theorem dX3_init_40 : decode cX3_init 40 = .ok (.aload_n 0, 1) := by decide +kernel
theorem dX3_init_41 : decode cX3_init 41 = .ok (.sipush 192, 3) := by decide +kernel
theorem dX3_init_44 : decode cX3_init 44 = .ok (.newarray .int, 2) := by decide +kernel
theorem dX3_init_46 : decode cX3_init 46 = .ok (.putfield 24, 3) := by decide +kernel
theorem dX3_init_49 : decode cX3_init 49 = .ok (.aload_n 0, 1) := by decide +kernel
theorem dX3_init_50 : decode cX3_init 50 = .ok (.iconst 0, 1) := by decide +kernel
theorem dX3_init_51 : decode cX3_init 51 = .ok (.putfield 27, 3) := by decide +kernel
theorem dX3_init_54 : decode cX3_init 54 = .ok (.return_, 1) := by decide +kernel
theorem dX3_has_0 : decode cX3_has 0 = .ok (.iload_n 1, 1) := by decide +kernel
theorem dX3_has_1 : decode cX3_has 1 = .ok (.ifCond .lt 22, 3) := by decide +kernel
theorem dX3_has_4 : decode cX3_has 4 = .ok (.iload_n 1, 1) := by decide +kernel
theorem dX3_has_5 : decode cX3_has 5 = .ok (.aload_n 0, 1) := by decide +kernel
theorem dX3_has_6 : decode cX3_has 6 = .ok (.getfield 27, 3) := by decide +kernel
theorem dX3_has_9 : decode cX3_has 9 = .ok (.if_icmp .ge 14, 3) := by decide +kernel
theorem dX3_has_12 : decode cX3_has 12 = .ok (.iload_n 1, 1) := by decide +kernel
theorem dX3_has_13 : decode cX3_has 13 = .ok (.sipush 192, 3) := by decide +kernel
theorem dX3_has_16 : decode cX3_has 16 = .ok (.if_icmp .ge 7, 3) := by decide +kernel
theorem dX3_has_19 : decode cX3_has 19 = .ok (.iconst 1, 1) := by decide +kernel
theorem dX3_has_20 : decode cX3_has 20 = .ok (.goto 4, 3) := by decide +kernel
theorem dX3_has_23 : decode cX3_has 23 = .ok (.iconst 0, 1) := by decide +kernel
theorem dX3_has_24 : decode cX3_has 24 = .ok (.ireturn, 1) := by decide +kernel
theorem dX3_from_0 : decode cX3_from 0 = .ok (.aload_n 0, 1) := by decide +kernel
theorem dX3_from_1 : decode cX3_from 1 = .ok (.iload_n 1, 1) := by decide +kernel
theorem dX3_from_2 : decode cX3_from 2 = .ok (.invokevirtual 31, 3) := by decide +kernel
theorem dX3_from_5 : decode cX3_from 5 = .ok (.ifCond .eq 12, 3) := by decide +kernel
theorem dX3_from_8 : decode cX3_from 8 = .ok (.aload_n 0, 1) := by decide +kernel
theorem dX3_from_9 : decode cX3_from 9 = .ok (.getfield 11, 3) := by decide +kernel
theorem dX3_from_12 : decode cX3_from 12 = .ok (.iload_n 1, 1) := by decide +kernel
theorem dX3_from_13 : decode cX3_from 13 = .ok (.iaload, 1) := by decide +kernel
theorem dX3_from_14 : decode cX3_from 14 = .ok (.goto 5, 3) := by decide +kernel
theorem dX3_from_17 : decode cX3_from 17 = .ok (.bipush (-6), 2) := by decide +kernel
theorem dX3_from_19 : decode cX3_from 19 = .ok (.ireturn, 1) := by decide +kernel
theorem dX3_to_0 : decode cX3_to 0 = .ok (.aload_n 0, 1) := by decide +kernel
theorem dX3_to_1 : decode cX3_to 1 = .ok (.iload_n 1, 1) := by decide +kernel
theorem dX3_to_2 : decode cX3_to 2 = .ok (.invokevirtual 31, 3) := by decide +kernel
theorem dX3_to_5 : decode cX3_to 5 = .ok (.ifCond .eq 12, 3) := by decide +kernel
theorem dX3_to_8 : decode cX3_to 8 = .ok (.aload_n 0, 1) := by decide +kernel
theorem dX3_to_9 : decode cX3_to 9 = .ok (.getfield 15, 3) := by decide +kernel
theorem dX3_to_12 : decode cX3_to 12 = .ok (.iload_n 1, 1) := by decide +kernel
theorem dX3_to_13 : decode cX3_to 13 = .ok (.iaload, 1) := by decide +kernel
theorem dX3_to_14 : decode cX3_to 14 = .ok (.goto 5, 3) := by decide +kernel
theorem dX3_to_17 : decode cX3_to 17 = .ok (.bipush (-6), 2) := by decide +kernel
theorem dX3_to_19 : decode cX3_to 19 = .ok (.ireturn, 1) := by decide +kernel
theorem dX3_way_0 : decode cX3_way 0 = .ok (.aload_n 0, 1) := by decide +kernel
theorem dX3_way_1 : decode cX3_way 1 = .ok (.iload_n 1, 1) := by decide +kernel
theorem dX3_way_2 : decode cX3_way 2 = .ok (.invokevirtual 31, 3) := by decide +kernel
theorem dX3_way_5 : decode cX3_way 5 = .ok (.ifCond .eq 12, 3) := by decide +kernel
theorem dX3_way_8 : decode cX3_way 8 = .ok (.aload_n 0, 1) := by decide +kernel
theorem dX3_way_9 : decode cX3_way 9 = .ok (.getfield 18, 3) := by decide +kernel
theorem dX3_way_12 : decode cX3_way 12 = .ok (.iload_n 1, 1) := by decide +kernel
theorem dX3_way_13 : decode cX3_way 13 = .ok (.iaload, 1) := by decide +kernel
theorem dX3_way_14 : decode cX3_way 14 = .ok (.goto 5, 3) := by decide +kernel
theorem dX3_way_17 : decode cX3_way 17 = .ok (.bipush (-6), 2) := by decide +kernel
theorem dX3_way_19 : decode cX3_way 19 = .ok (.ireturn, 1) := by decide +kernel
theorem dX3_steps_0 : decode cX3_steps 0 = .ok (.aload_n 0, 1) := by decide +kernel
theorem dX3_steps_1 : decode cX3_steps 1 = .ok (.iload_n 1, 1) := by decide +kernel
theorem dX3_steps_2 : decode cX3_steps 2 = .ok (.invokevirtual 31, 3) := by decide +kernel
theorem dX3_steps_5 : decode cX3_steps 5 = .ok (.ifCond .eq 12, 3) := by decide +kernel
theorem dX3_steps_8 : decode cX3_steps 8 = .ok (.aload_n 0, 1) := by decide +kernel
theorem dX3_steps_9 : decode cX3_steps 9 = .ok (.getfield 21, 3) := by decide +kernel
theorem dX3_steps_12 : decode cX3_steps 12 = .ok (.iload_n 1, 1) := by decide +kernel
theorem dX3_steps_13 : decode cX3_steps 13 = .ok (.iaload, 1) := by decide +kernel
theorem dX3_steps_14 : decode cX3_steps 14 = .ok (.goto 4, 3) := by decide +kernel
theorem dX3_steps_17 : decode cX3_steps 17 = .ok (.iconst 0, 1) := by decide +kernel
theorem dX3_steps_18 : decode cX3_steps 18 = .ok (.ireturn, 1) := by decide +kernel
theorem dX3_taken_0 : decode cX3_taken 0 = .ok (.aload_n 0, 1) := by decide +kernel
theorem dX3_taken_1 : decode cX3_taken 1 = .ok (.iload_n 1, 1) := by decide +kernel
theorem dX3_taken_2 : decode cX3_taken 2 = .ok (.invokevirtual 31, 3) := by decide +kernel
theorem dX3_taken_5 : decode cX3_taken 5 = .ok (.ifCond .eq 12, 3) := by decide +kernel
theorem dX3_taken_8 : decode cX3_taken 8 = .ok (.aload_n 0, 1) := by decide +kernel
theorem dX3_taken_9 : decode cX3_taken 9 = .ok (.getfield 24, 3) := by decide +kernel
theorem dX3_taken_12 : decode cX3_taken 12 = .ok (.iload_n 1, 1) := by decide +kernel
theorem dX3_taken_13 : decode cX3_taken 13 = .ok (.iaload, 1) := by decide +kernel
theorem dX3_taken_14 : decode cX3_taken 14 = .ok (.goto 5, 3) := by decide +kernel
theorem dX3_taken_17 : decode cX3_taken 17 = .ok (.bipush (-6), 2) := by decide +kernel
theorem dX3_taken_19 : decode cX3_taken 19 = .ok (.ireturn, 1) := by decide +kernel
theorem dX3_find_0 : decode cX3_find 0 = .ok (.iconst 0, 1) := by decide +kernel
theorem dX3_find_1 : decode cX3_find 1 = .ok (.istore_n 3, 1) := by decide +kernel
theorem dX3_find_2 : decode cX3_find 2 = .ok (.iload_n 3, 1) := by decide +kernel
theorem dX3_find_3 : decode cX3_find 3 = .ok (.aload_n 0, 1) := by decide +kernel
theorem dX3_find_4 : decode cX3_find 4 = .ok (.getfield 27, 3) := by decide +kernel
theorem dX3_find_7 : decode cX3_find 7 = .ok (.if_icmp .ge 29, 3) := by decide +kernel
theorem dX3_find_10 : decode cX3_find 10 = .ok (.aload_n 0, 1) := by decide +kernel
theorem dX3_find_11 : decode cX3_find 11 = .ok (.iload_n 3, 1) := by decide +kernel
theorem dX3_find_12 : decode cX3_find 12 = .ok (.invokevirtual 35, 3) := by decide +kernel
theorem dX3_find_15 : decode cX3_find 15 = .ok (.iload_n 1, 1) := by decide +kernel
theorem dX3_find_16 : decode cX3_find 16 = .ok (.if_icmp .ne 14, 3) := by decide +kernel
theorem dX3_find_19 : decode cX3_find 19 = .ok (.aload_n 0, 1) := by decide +kernel
theorem dX3_find_20 : decode cX3_find 20 = .ok (.iload_n 3, 1) := by decide +kernel
theorem dX3_find_21 : decode cX3_find 21 = .ok (.invokevirtual 39, 3) := by decide +kernel
theorem dX3_find_24 : decode cX3_find 24 = .ok (.iload_n 2, 1) := by decide +kernel
theorem dX3_find_25 : decode cX3_find 25 = .ok (.if_icmp .ne 5, 3) := by decide +kernel
theorem dX3_find_28 : decode cX3_find 28 = .ok (.iload_n 3, 1) := by decide +kernel
theorem dX3_find_29 : decode cX3_find 29 = .ok (.ireturn, 1) := by decide +kernel
theorem dX3_find_30 : decode cX3_find 30 = .ok (.iinc 3 1, 3) := by decide +kernel
theorem dX3_find_33 : decode cX3_find 33 = .ok (.goto (-31), 3) := by decide +kernel
theorem dX3_find_36 : decode cX3_find 36 = .ok (.bipush (-6), 2) := by decide +kernel
theorem dX3_find_38 : decode cX3_find 38 = .ok (.ireturn, 1) := by decide +kernel
theorem dX3_numberFrom_0 : decode cX3_numberFrom 0 = .ok (.iconst 0, 1) := by decide +kernel
theorem dX3_numberFrom_1 : decode cX3_numberFrom 1 = .ok (.istore_n 2, 1) := by decide +kernel
theorem dX3_numberFrom_2 : decode cX3_numberFrom 2 = .ok (.iconst 0, 1) := by decide +kernel
theorem dX3_numberFrom_3 : decode cX3_numberFrom 3 = .ok (.istore_n 3, 1) := by decide +kernel
theorem dX3_numberFrom_4 : decode cX3_numberFrom 4 = .ok (.iload_n 3, 1) := by decide +kernel
theorem dX3_numberFrom_5 : decode cX3_numberFrom 5 = .ok (.aload_n 0, 1) := by decide +kernel
theorem dX3_numberFrom_6 : decode cX3_numberFrom 6 = .ok (.getfield 27, 3) := by decide +kernel
theorem dX3_numberFrom_9 : decode cX3_numberFrom 9 = .ok (.if_icmp .ge 21, 3) := by decide +kernel
theorem dX3_numberFrom_12 : decode cX3_numberFrom 12 = .ok (.aload_n 0, 1) := by decide +kernel
theorem dX3_numberFrom_13 : decode cX3_numberFrom 13 = .ok (.iload_n 3, 1) := by decide +kernel
theorem dX3_numberFrom_14 : decode cX3_numberFrom 14 = .ok (.invokevirtual 35, 3) := by decide +kernel
theorem dX3_numberFrom_17 : decode cX3_numberFrom 17 = .ok (.iload_n 1, 1) := by decide +kernel
theorem dX3_numberFrom_18 : decode cX3_numberFrom 18 = .ok (.if_icmp .ne 6, 3) := by decide +kernel
theorem dX3_numberFrom_21 : decode cX3_numberFrom 21 = .ok (.iinc 2 1, 3) := by decide +kernel
theorem dX3_numberFrom_24 : decode cX3_numberFrom 24 = .ok (.iinc 3 1, 3) := by decide +kernel
theorem dX3_numberFrom_27 : decode cX3_numberFrom 27 = .ok (.goto (-23), 3) := by decide +kernel
theorem dX3_numberFrom_30 : decode cX3_numberFrom 30 = .ok (.iload_n 2, 1) := by decide +kernel
theorem dX3_numberFrom_31 : decode cX3_numberFrom 31 = .ok (.ireturn, 1) := by decide +kernel
theorem dX3_takes_0 : decode cX3_takes 0 = .ok (.iconst 0, 1) := by decide +kernel
theorem dX3_takes_1 : decode cX3_takes 1 = .ok (.istore_n 2, 1) := by decide +kernel
theorem dX3_takes_2 : decode cX3_takes 2 = .ok (.iload_n 2, 1) := by decide +kernel
theorem dX3_takes_3 : decode cX3_takes 3 = .ok (.aload_n 0, 1) := by decide +kernel
theorem dX3_takes_4 : decode cX3_takes 4 = .ok (.getfield 27, 3) := by decide +kernel
theorem dX3_takes_7 : decode cX3_takes 7 = .ok (.if_icmp .ge 20, 3) := by decide +kernel
theorem dX3_takes_10 : decode cX3_takes 10 = .ok (.aload_n 0, 1) := by decide +kernel
theorem dX3_takes_11 : decode cX3_takes 11 = .ok (.iload_n 2, 1) := by decide +kernel
theorem dX3_takes_12 : decode cX3_takes 12 = .ok (.invokevirtual 42, 3) := by decide +kernel
theorem dX3_takes_15 : decode cX3_takes 15 = .ok (.iload_n 1, 1) := by decide +kernel
theorem dX3_takes_16 : decode cX3_takes 16 = .ok (.if_icmp .ne 5, 3) := by decide +kernel
theorem dX3_takes_19 : decode cX3_takes 19 = .ok (.iconst 1, 1) := by decide +kernel
theorem dX3_takes_20 : decode cX3_takes 20 = .ok (.ireturn, 1) := by decide +kernel
theorem dX3_takes_21 : decode cX3_takes 21 = .ok (.iinc 2 1, 3) := by decide +kernel
theorem dX3_takes_24 : decode cX3_takes 24 = .ok (.goto (-22), 3) := by decide +kernel
theorem dX3_takes_27 : decode cX3_takes 27 = .ok (.iconst 0, 1) := by decide +kernel
theorem dX3_takes_28 : decode cX3_takes 28 = .ok (.ireturn, 1) := by decide +kernel
theorem dX3_list_0 : decode cX3_list 0 = .ok (.aload_n 0, 1) := by decide +kernel
theorem dX3_list_1 : decode cX3_list 1 = .ok (.aload_n 1, 1) := by decide +kernel
theorem dX3_list_2 : decode cX3_list 2 = .ok (.aload_n 1, 1) := by decide +kernel
theorem dX3_list_3 : decode cX3_list 3 = .ok (.getfield 45, 3) := by decide +kernel
theorem dX3_list_6 : decode cX3_list 6 = .ok (.aload_n 1, 1) := by decide +kernel
theorem dX3_list_7 : decode cX3_list 7 = .ok (.getfield 50, 3) := by decide +kernel
theorem dX3_list_10 : decode cX3_list 10 = .ok (.invokevirtual 53, 3) := by decide +kernel
theorem dX3_list_13 : decode cX3_list 13 = .ok (.aload_n 0, 1) := by decide +kernel
theorem dX3_list_14 : decode cX3_list 14 = .ok (.getfield 27, 3) := by decide +kernel
theorem dX3_list_17 : decode cX3_list 17 = .ok (.ifCond .ne 8, 3) := by decide +kernel
theorem dX3_list_20 : decode cX3_list 20 = .ok (.aload_n 0, 1) := by decide +kernel
theorem dX3_list_21 : decode cX3_list 21 = .ok (.aload_n 1, 1) := by decide +kernel
theorem dX3_list_22 : decode cX3_list 22 = .ok (.invokevirtual 57, 3) := by decide +kernel
theorem dX3_list_25 : decode cX3_list 25 = .ok (.return_, 1) := by decide +kernel
theorem dX3_listJumps_0 : decode cX3_listJumps 0 = .ok (.aload_n 0, 1) := by decide +kernel
theorem dX3_listJumps_1 : decode cX3_listJumps 1 = .ok (.iconst 0, 1) := by decide +kernel
theorem dX3_listJumps_2 : decode cX3_listJumps 2 = .ok (.putfield 27, 3) := by decide +kernel
theorem dX3_listJumps_5 : decode cX3_listJumps 5 = .ok (.iconst 0, 1) := by decide +kernel
theorem dX3_listJumps_6 : decode cX3_listJumps 6 = .ok (.istore 4, 2) := by decide +kernel
theorem dX3_listJumps_8 : decode cX3_listJumps 8 = .ok (.iload 4, 2) := by decide +kernel
theorem dX3_listJumps_10 : decode cX3_listJumps 10 = .ok (.bipush 48, 2) := by decide +kernel
theorem dX3_listJumps_12 : decode cX3_listJumps 12 = .ok (.if_icmp .ge 100, 3) := by decide +kernel
theorem dX3_listJumps_15 : decode cX3_listJumps 15 = .ok (.aload_n 1, 1) := by decide +kernel
theorem dX3_listJumps_16 : decode cX3_listJumps 16 = .ok (.iload 4, 2) := by decide +kernel
theorem dX3_listJumps_18 : decode cX3_listJumps 18 = .ok (.invokevirtual 61, 3) := by decide +kernel
theorem dX3_listJumps_21 : decode cX3_listJumps 21 = .ok (.istore 5, 2) := by decide +kernel
theorem dX3_listJumps_23 : decode cX3_listJumps 23 = .ok (.iload 5, 2) := by decide +kernel
theorem dX3_listJumps_25 : decode cX3_listJumps 25 = .ok (.invokestatic 64, 3) := by decide +kernel
theorem dX3_listJumps_28 : decode cX3_listJumps 28 = .ok (.iload_n 2, 1) := by decide +kernel
theorem dX3_listJumps_29 : decode cX3_listJumps 29 = .ok (.if_icmp .ne 77, 3) := by decide +kernel
theorem dX3_listJumps_32 : decode cX3_listJumps 32 = .ok (.iload_n 3, 1) := by decide +kernel
theorem dX3_listJumps_33 : decode cX3_listJumps 33 = .ok (.bipush (-6), 2) := by decide +kernel
theorem dX3_listJumps_35 : decode cX3_listJumps 35 = .ok (.if_icmp .eq 12, 3) := by decide +kernel
theorem dX3_listJumps_38 : decode cX3_listJumps 38 = .ok (.iload_n 3, 1) := by decide +kernel
theorem dX3_listJumps_39 : decode cX3_listJumps 39 = .ok (.iload 4, 2) := by decide +kernel
theorem dX3_listJumps_41 : decode cX3_listJumps 41 = .ok (.if_icmp .eq 6, 3) := by decide +kernel
theorem dX3_listJumps_44 : decode cX3_listJumps 44 = .ok (.goto 62, 3) := by decide +kernel
theorem dX3_listJumps_47 : decode cX3_listJumps 47 = .ok (.iload 5, 2) := by decide +kernel
theorem dX3_listJumps_49 : decode cX3_listJumps 49 = .ok (.invokestatic 67, 3) := by decide +kernel
theorem dX3_listJumps_52 : decode cX3_listJumps 52 = .ok (.ifCond .eq 8, 3) := by decide +kernel
theorem dX3_listJumps_55 : decode cX3_listJumps 55 = .ok (.bipush 23, 2) := by decide +kernel
theorem dX3_listJumps_57 : decode cX3_listJumps 57 = .ok (.goto 4, 3) := by decide +kernel
theorem dX3_listJumps_60 : decode cX3_listJumps 60 = .ok (.iconst 2, 1) := by decide +kernel
theorem dX3_listJumps_61 : decode cX3_listJumps 61 = .ok (.istore 6, 2) := by decide +kernel
theorem dX3_listJumps_63 : decode cX3_listJumps 63 = .ok (.iconst 0, 1) := by decide +kernel
theorem dX3_listJumps_64 : decode cX3_listJumps 64 = .ok (.istore 7, 2) := by decide +kernel
theorem dX3_listJumps_66 : decode cX3_listJumps 66 = .ok (.iload 7, 2) := by decide +kernel
theorem dX3_listJumps_68 : decode cX3_listJumps 68 = .ok (.iconst 4, 1) := by decide +kernel
theorem dX3_listJumps_69 : decode cX3_listJumps 69 = .ok (.if_icmp .ge 37, 3) := by decide +kernel
theorem dX3_listJumps_72 : decode cX3_listJumps 72 = .ok (.aload_n 1, 1) := by decide +kernel
theorem dX3_listJumps_73 : decode cX3_listJumps 73 = .ok (.iload 4, 2) := by decide +kernel
theorem dX3_listJumps_75 : decode cX3_listJumps 75 = .ok (.iload 7, 2) := by decide +kernel
theorem dX3_listJumps_77 : decode cX3_listJumps 77 = .ok (.invokevirtual 70, 3) := by decide +kernel
theorem dX3_listJumps_80 : decode cX3_listJumps 80 = .ok (.istore 8, 2) := by decide +kernel
theorem dX3_listJumps_82 : decode cX3_listJumps 82 = .ok (.iload 8, 2) := by decide +kernel
theorem dX3_listJumps_84 : decode cX3_listJumps 84 = .ok (.ifCond .le 16, 3) := by decide +kernel
theorem dX3_listJumps_87 : decode cX3_listJumps 87 = .ok (.aload_n 0, 1) := by decide +kernel
theorem dX3_listJumps_88 : decode cX3_listJumps 88 = .ok (.aload_n 1, 1) := by decide +kernel
theorem dX3_listJumps_89 : decode cX3_listJumps 89 = .ok (.iload 4, 2) := by decide +kernel
theorem dX3_listJumps_91 : decode cX3_listJumps 91 = .ok (.iload 7, 2) := by decide +kernel
theorem dX3_listJumps_93 : decode cX3_listJumps 93 = .ok (.iload 8, 2) := by decide +kernel
theorem dX3_listJumps_95 : decode cX3_listJumps 95 = .ok (.iload 6, 2) := by decide +kernel
theorem dX3_listJumps_97 : decode cX3_listJumps 97 = .ok (.invokevirtual 74, 3) := by decide +kernel
theorem dX3_listJumps_100 : decode cX3_listJumps 100 = .ok (.iinc 7 1, 3) := by decide +kernel
theorem dX3_listJumps_103 : decode cX3_listJumps 103 = .ok (.goto (-37), 3) := by decide +kernel
theorem dX3_listJumps_106 : decode cX3_listJumps 106 = .ok (.iinc 4 1, 3) := by decide +kernel
theorem dX3_listJumps_109 : decode cX3_listJumps 109 = .ok (.goto (-101), 3) := by decide +kernel
theorem dX3_listJumps_112 : decode cX3_listJumps 112 = .ok (.return_, 1) := by decide +kernel
theorem dX3_listPlainHops_0 : decode cX3_listPlainHops 0 = .ok (.aload_n 0, 1) := by decide +kernel
theorem dX3_listPlainHops_1 : decode cX3_listPlainHops 1 = .ok (.iconst 0, 1) := by decide +kernel
theorem dX3_listPlainHops_2 : decode cX3_listPlainHops 2 = .ok (.putfield 27, 3) := by decide +kernel
theorem dX3_listPlainHops_5 : decode cX3_listPlainHops 5 = .ok (.iconst 0, 1) := by decide +kernel
theorem dX3_listPlainHops_6 : decode cX3_listPlainHops 6 = .ok (.istore_n 2, 1) := by decide +kernel
theorem dX3_listPlainHops_7 : decode cX3_listPlainHops 7 = .ok (.iload_n 2, 1) := by decide +kernel
theorem dX3_listPlainHops_8 : decode cX3_listPlainHops 8 = .ok (.bipush 48, 2) := by decide +kernel
theorem dX3_listPlainHops_10 : decode cX3_listPlainHops 10 = .ok (.if_icmp .ge 79, 3) := by decide +kernel
theorem dX3_listPlainHops_13 : decode cX3_listPlainHops 13 = .ok (.aload_n 1, 1) := by decide +kernel
theorem dX3_listPlainHops_14 : decode cX3_listPlainHops 14 = .ok (.iload_n 2, 1) := by decide +kernel
theorem dX3_listPlainHops_15 : decode cX3_listPlainHops 15 = .ok (.invokevirtual 61, 3) := by decide +kernel
theorem dX3_listPlainHops_18 : decode cX3_listPlainHops 18 = .ok (.istore_n 3, 1) := by decide +kernel
theorem dX3_listPlainHops_19 : decode cX3_listPlainHops 19 = .ok (.iload_n 3, 1) := by decide +kernel
theorem dX3_listPlainHops_20 : decode cX3_listPlainHops 20 = .ok (.invokestatic 64, 3) := by decide +kernel
theorem dX3_listPlainHops_23 : decode cX3_listPlainHops 23 = .ok (.aload_n 1, 1) := by decide +kernel
theorem dX3_listPlainHops_24 : decode cX3_listPlainHops 24 = .ok (.getfield 45, 3) := by decide +kernel
theorem dX3_listPlainHops_27 : decode cX3_listPlainHops 27 = .ok (.if_icmp .eq 6, 3) := by decide +kernel
theorem dX3_listPlainHops_30 : decode cX3_listPlainHops 30 = .ok (.goto 53, 3) := by decide +kernel
theorem dX3_listPlainHops_33 : decode cX3_listPlainHops 33 = .ok (.iload_n 3, 1) := by decide +kernel
theorem dX3_listPlainHops_34 : decode cX3_listPlainHops 34 = .ok (.invokestatic 67, 3) := by decide +kernel
theorem dX3_listPlainHops_37 : decode cX3_listPlainHops 37 = .ok (.ifCond .eq 8, 3) := by decide +kernel
theorem dX3_listPlainHops_40 : decode cX3_listPlainHops 40 = .ok (.bipush 23, 2) := by decide +kernel
theorem dX3_listPlainHops_42 : decode cX3_listPlainHops 42 = .ok (.goto 4, 3) := by decide +kernel
theorem dX3_listPlainHops_45 : decode cX3_listPlainHops 45 = .ok (.iconst 1, 1) := by decide +kernel
theorem dX3_listPlainHops_46 : decode cX3_listPlainHops 46 = .ok (.istore 4, 2) := by decide +kernel
theorem dX3_listPlainHops_48 : decode cX3_listPlainHops 48 = .ok (.iconst 0, 1) := by decide +kernel
theorem dX3_listPlainHops_49 : decode cX3_listPlainHops 49 = .ok (.istore 5, 2) := by decide +kernel
theorem dX3_listPlainHops_51 : decode cX3_listPlainHops 51 = .ok (.iload 5, 2) := by decide +kernel
theorem dX3_listPlainHops_53 : decode cX3_listPlainHops 53 = .ok (.iconst 4, 1) := by decide +kernel
theorem dX3_listPlainHops_54 : decode cX3_listPlainHops 54 = .ok (.if_icmp .ge 29, 3) := by decide +kernel
theorem dX3_listPlainHops_57 : decode cX3_listPlainHops 57 = .ok (.iload_n 3, 1) := by decide +kernel
theorem dX3_listPlainHops_58 : decode cX3_listPlainHops 58 = .ok (.iload 5, 2) := by decide +kernel
theorem dX3_listPlainHops_60 : decode cX3_listPlainHops 60 = .ok (.invokestatic 78, 3) := by decide +kernel
theorem dX3_listPlainHops_63 : decode cX3_listPlainHops 63 = .ok (.ifCond .eq 14, 3) := by decide +kernel
theorem dX3_listPlainHops_66 : decode cX3_listPlainHops 66 = .ok (.aload_n 0, 1) := by decide +kernel
theorem dX3_listPlainHops_67 : decode cX3_listPlainHops 67 = .ok (.aload_n 1, 1) := by decide +kernel
theorem dX3_listPlainHops_68 : decode cX3_listPlainHops 68 = .ok (.iload_n 2, 1) := by decide +kernel
theorem dX3_listPlainHops_69 : decode cX3_listPlainHops 69 = .ok (.iload 5, 2) := by decide +kernel
theorem dX3_listPlainHops_71 : decode cX3_listPlainHops 71 = .ok (.iconst 0, 1) := by decide +kernel
theorem dX3_listPlainHops_72 : decode cX3_listPlainHops 72 = .ok (.iload 4, 2) := by decide +kernel
theorem dX3_listPlainHops_74 : decode cX3_listPlainHops 74 = .ok (.invokevirtual 74, 3) := by decide +kernel
theorem dX3_listPlainHops_77 : decode cX3_listPlainHops 77 = .ok (.iinc 5 1, 3) := by decide +kernel
theorem dX3_listPlainHops_80 : decode cX3_listPlainHops 80 = .ok (.goto (-29), 3) := by decide +kernel
theorem dX3_listPlainHops_83 : decode cX3_listPlainHops 83 = .ok (.iinc 2 1, 3) := by decide +kernel
theorem dX3_listPlainHops_86 : decode cX3_listPlainHops 86 = .ok (.goto (-79), 3) := by decide +kernel
theorem dX3_listPlainHops_89 : decode cX3_listPlainHops 89 = .ok (.return_, 1) := by decide +kernel
theorem dX3_addLandings_0 : decode cX3_addLandings 0 = .ok (.iload_n 2, 1) := by decide +kernel
theorem dX3_addLandings_1 : decode cX3_addLandings 1 = .ok (.iload_n 3, 1) := by decide +kernel
theorem dX3_addLandings_2 : decode cX3_addLandings 2 = .ok (.iload 4, 2) := by decide +kernel
theorem dX3_addLandings_4 : decode cX3_addLandings 4 = .ok (.invokestatic 82, 3) := by decide +kernel
theorem dX3_addLandings_7 : decode cX3_addLandings 7 = .ok (.istore 6, 2) := by decide +kernel
theorem dX3_addLandings_9 : decode cX3_addLandings 9 = .ok (.iload 4, 2) := by decide +kernel
theorem dX3_addLandings_11 : decode cX3_addLandings 11 = .ok (.ifCond .le 8, 3) := by decide +kernel
theorem dX3_addLandings_14 : decode cX3_addLandings 14 = .ok (.iload 6, 2) := by decide +kernel
theorem dX3_addLandings_16 : decode cX3_addLandings 16 = .ok (.goto 5, 3) := by decide +kernel
theorem dX3_addLandings_19 : decode cX3_addLandings 19 = .ok (.bipush (-6), 2) := by decide +kernel
theorem dX3_addLandings_21 : decode cX3_addLandings 21 = .ok (.istore 7, 2) := by decide +kernel
theorem dX3_addLandings_23 : decode cX3_addLandings 23 = .ok (.iload 6, 2) := by decide +kernel
theorem dX3_addLandings_25 : decode cX3_addLandings 25 = .ok (.iload_n 3, 1) := by decide +kernel
theorem dX3_addLandings_26 : decode cX3_addLandings 26 = .ok (.iconst 1, 1) := by decide +kernel
theorem dX3_addLandings_27 : decode cX3_addLandings 27 = .ok (.invokestatic 82, 3) := by decide +kernel
theorem dX3_addLandings_30 : decode cX3_addLandings 30 = .ok (.istore 8, 2) := by decide +kernel
theorem dX3_addLandings_32 : decode cX3_addLandings 32 = .ok (.iload 4, 2) := by decide +kernel
theorem dX3_addLandings_34 : decode cX3_addLandings 34 = .ok (.iconst 1, 1) := by decide +kernel
theorem dX3_addLandings_35 : decode cX3_addLandings 35 = .ok (.iadd, 1) := by decide +kernel
theorem dX3_addLandings_36 : decode cX3_addLandings 36 = .ok (.istore 9, 2) := by decide +kernel
theorem dX3_addLandings_38 : decode cX3_addLandings 38 = .ok (.iload 9, 2) := by decide +kernel
theorem dX3_addLandings_40 : decode cX3_addLandings 40 = .ok (.iload 5, 2) := by decide +kernel
theorem dX3_addLandings_42 : decode cX3_addLandings 42 = .ok (.if_icmp .gt 41, 3) := by decide +kernel
theorem dX3_addLandings_45 : decode cX3_addLandings 45 = .ok (.aload_n 1, 1) := by decide +kernel
theorem dX3_addLandings_46 : decode cX3_addLandings 46 = .ok (.iload 8, 2) := by decide +kernel
theorem dX3_addLandings_48 : decode cX3_addLandings 48 = .ok (.invokevirtual 61, 3) := by decide +kernel
theorem dX3_addLandings_51 : decode cX3_addLandings 51 = .ok (.bipush (-6), 2) := by decide +kernel
theorem dX3_addLandings_53 : decode cX3_addLandings 53 = .ok (.if_icmp .ne 30, 3) := by decide +kernel
theorem dX3_addLandings_56 : decode cX3_addLandings 56 = .ok (.aload_n 0, 1) := by decide +kernel
theorem dX3_addLandings_57 : decode cX3_addLandings 57 = .ok (.iload_n 2, 1) := by decide +kernel
theorem dX3_addLandings_58 : decode cX3_addLandings 58 = .ok (.iload 8, 2) := by decide +kernel
theorem dX3_addLandings_60 : decode cX3_addLandings 60 = .ok (.iload_n 3, 1) := by decide +kernel
theorem dX3_addLandings_61 : decode cX3_addLandings 61 = .ok (.iload 9, 2) := by decide +kernel
theorem dX3_addLandings_63 : decode cX3_addLandings 63 = .ok (.iload 7, 2) := by decide +kernel
theorem dX3_addLandings_65 : decode cX3_addLandings 65 = .ok (.invokevirtual 86, 3) := by decide +kernel
theorem dX3_addLandings_68 : decode cX3_addLandings 68 = .ok (.iload 8, 2) := by decide +kernel
theorem dX3_addLandings_70 : decode cX3_addLandings 70 = .ok (.iload_n 3, 1) := by decide +kernel
theorem dX3_addLandings_71 : decode cX3_addLandings 71 = .ok (.iconst 1, 1) := by decide +kernel
theorem dX3_addLandings_72 : decode cX3_addLandings 72 = .ok (.invokestatic 82, 3) := by decide +kernel
theorem dX3_addLandings_75 : decode cX3_addLandings 75 = .ok (.istore 8, 2) := by decide +kernel
theorem dX3_addLandings_77 : decode cX3_addLandings 77 = .ok (.iinc 9 1, 3) := by decide +kernel
theorem dX3_addLandings_80 : decode cX3_addLandings 80 = .ok (.goto (-42), 3) := by decide +kernel
theorem dX3_addLandings_83 : decode cX3_addLandings 83 = .ok (.return_, 1) := by decide +kernel
theorem dX3_add_0 : decode cX3_add 0 = .ok (.aload_n 0, 1) := by decide +kernel
theorem dX3_add_1 : decode cX3_add 1 = .ok (.getfield 27, 3) := by decide +kernel
theorem dX3_add_4 : decode cX3_add 4 = .ok (.ifCond .lt 13, 3) := by decide +kernel
theorem dX3_add_7 : decode cX3_add 7 = .ok (.aload_n 0, 1) := by decide +kernel
theorem dX3_add_8 : decode cX3_add 8 = .ok (.getfield 27, 3) := by decide +kernel
theorem dX3_add_11 : decode cX3_add 11 = .ok (.sipush 192, 3) := by decide +kernel
theorem dX3_add_14 : decode cX3_add 14 = .ok (.if_icmp .lt 4, 3) := by decide +kernel
theorem dX3_add_17 : decode cX3_add 17 = .ok (.return_, 1) := by decide +kernel
theorem dX3_add_18 : decode cX3_add 18 = .ok (.aload_n 0, 1) := by decide +kernel
theorem dX3_add_19 : decode cX3_add 19 = .ok (.getfield 11, 3) := by decide +kernel
theorem dX3_add_22 : decode cX3_add 22 = .ok (.aload_n 0, 1) := by decide +kernel
theorem dX3_add_23 : decode cX3_add 23 = .ok (.getfield 27, 3) := by decide +kernel
theorem dX3_add_26 : decode cX3_add 26 = .ok (.iload_n 1, 1) := by decide +kernel
theorem dX3_add_27 : decode cX3_add 27 = .ok (.iastore, 1) := by decide +kernel
theorem dX3_add_28 : decode cX3_add 28 = .ok (.aload_n 0, 1) := by decide +kernel
theorem dX3_add_29 : decode cX3_add 29 = .ok (.getfield 15, 3) := by decide +kernel
theorem dX3_add_32 : decode cX3_add 32 = .ok (.aload_n 0, 1) := by decide +kernel
theorem dX3_add_33 : decode cX3_add 33 = .ok (.getfield 27, 3) := by decide +kernel
theorem dX3_add_36 : decode cX3_add 36 = .ok (.iload_n 2, 1) := by decide +kernel
theorem dX3_add_37 : decode cX3_add 37 = .ok (.iastore, 1) := by decide +kernel
theorem dX3_add_38 : decode cX3_add 38 = .ok (.aload_n 0, 1) := by decide +kernel
theorem dX3_add_39 : decode cX3_add 39 = .ok (.getfield 18, 3) := by decide +kernel
theorem dX3_add_42 : decode cX3_add 42 = .ok (.aload_n 0, 1) := by decide +kernel
theorem dX3_add_43 : decode cX3_add 43 = .ok (.getfield 27, 3) := by decide +kernel
theorem dX3_add_46 : decode cX3_add 46 = .ok (.iload_n 3, 1) := by decide +kernel
theorem dX3_add_47 : decode cX3_add 47 = .ok (.iastore, 1) := by decide +kernel
theorem dX3_add_48 : decode cX3_add 48 = .ok (.aload_n 0, 1) := by decide +kernel
theorem dX3_add_49 : decode cX3_add 49 = .ok (.getfield 21, 3) := by decide +kernel
theorem dX3_add_52 : decode cX3_add 52 = .ok (.aload_n 0, 1) := by decide +kernel
theorem dX3_add_53 : decode cX3_add 53 = .ok (.getfield 27, 3) := by decide +kernel
theorem dX3_add_56 : decode cX3_add 56 = .ok (.iload 4, 2) := by decide +kernel
theorem dX3_add_58 : decode cX3_add 58 = .ok (.iastore, 1) := by decide +kernel
theorem dX3_add_59 : decode cX3_add 59 = .ok (.aload_n 0, 1) := by decide +kernel
theorem dX3_add_60 : decode cX3_add 60 = .ok (.getfield 24, 3) := by decide +kernel
theorem dX3_add_63 : decode cX3_add 63 = .ok (.aload_n 0, 1) := by decide +kernel
theorem dX3_add_64 : decode cX3_add 64 = .ok (.getfield 27, 3) := by decide +kernel
theorem dX3_add_67 : decode cX3_add 67 = .ok (.iload 5, 2) := by decide +kernel
theorem dX3_add_69 : decode cX3_add 69 = .ok (.iastore, 1) := by decide +kernel
theorem dX3_add_70 : decode cX3_add 70 = .ok (.aload_n 0, 1) := by decide +kernel
theorem dX3_add_71 : decode cX3_add 71 = .ok (.dup, 1) := by decide +kernel
theorem dX3_add_72 : decode cX3_add 72 = .ok (.getfield 27, 3) := by decide +kernel
theorem dX3_add_75 : decode cX3_add 75 = .ok (.iconst 1, 1) := by decide +kernel
theorem dX3_add_76 : decode cX3_add 76 = .ok (.iadd, 1) := by decide +kernel
theorem dX3_add_77 : decode cX3_add 77 = .ok (.putfield 27, 3) := by decide +kernel
theorem dX3_add_80 : decode cX3_add 80 = .ok (.return_, 1) := by decide +kernel
theorem dX4_init_0 : decode cX4_init 0 = .ok (.aload_n 0, 1) := by decide +kernel
theorem dX4_init_1 : decode cX4_init 1 = .ok (.invokespecial 3, 3) := by decide +kernel
theorem dX4_init_4 : decode cX4_init 4 = .ok (.aload_n 0, 1) := by decide +kernel
theorem dX4_init_5 : decode cX4_init 5 = .ok (.bipush 60, 2) := by decide +kernel
theorem dX4_init_7 : decode cX4_init 7 = .ok (.newarray .char, 2) := by decide +kernel
theorem dX4_init_9 : decode cX4_init 9 = .ok (.putfield 11, 3) := by decide +kernel
theorem dX4_init_12 : decode cX4_init 12 = .ok (.aload_n 0, 1) := by decide +kernel
theorem dX4_init_13 : decode cX4_init 13 = .ok (.iconst 0, 1) := by decide +kernel
theorem dX4_init_14 : decode cX4_init 14 = .ok (.putfield 15, 3) := by decide +kernel
theorem dX4_init_17 : decode cX4_init 17 = .ok (.return_, 1) := by decide +kernel
theorem dX4_numberOfSigns_0 : decode cX4_numberOfSigns 0 = .ok (.iconst 0, 1) := by decide +kernel
theorem dX4_numberOfSigns_1 : decode cX4_numberOfSigns 1 = .ok (.istore_n 2, 1) := by decide +kernel
theorem dX4_numberOfSigns_2 : decode cX4_numberOfSigns 2 = .ok (.lload_n 0, 1) := by decide +kernel
theorem dX4_numberOfSigns_3 : decode cX4_numberOfSigns 3 = .ok (.lstore_n 3, 1) := by decide +kernel
theorem dX4_numberOfSigns_4 : decode cX4_numberOfSigns 4 = .ok (.iload_n 2, 1) := by decide +kernel
theorem dX4_numberOfSigns_5 : decode cX4_numberOfSigns 5 = .ok (.bipush 8, 2) := by decide +kernel
theorem dX4_numberOfSigns_7 : decode cX4_numberOfSigns 7 = .ok (.if_icmp .ge 47, 3) := by decide +kernel
theorem dX4_numberOfSigns_10 : decode cX4_numberOfSigns 10 = .ok (.lload_n 3, 1) := by decide +kernel
theorem dX4_numberOfSigns_11 : decode cX4_numberOfSigns 11 = .ok (.lconst 0, 1) := by decide +kernel
theorem dX4_numberOfSigns_12 : decode cX4_numberOfSigns 12 = .ok (.lcmp, 1) := by decide +kernel
theorem dX4_numberOfSigns_13 : decode cX4_numberOfSigns 13 = .ok (.ifCond .eq 41, 3) := by decide +kernel
theorem dX4_numberOfSigns_16 : decode cX4_numberOfSigns 16 = .ok (.lload_n 3, 1) := by decide +kernel
theorem dX4_numberOfSigns_17 : decode cX4_numberOfSigns 17 = .ok (.ldc2_w 19, 3) := by decide +kernel
theorem dX4_numberOfSigns_20 : decode cX4_numberOfSigns 20 = .ok (.land, 1) := by decide +kernel
theorem dX4_numberOfSigns_21 : decode cX4_numberOfSigns 21 = .ok (.lstore 5, 2) := by decide +kernel
theorem dX4_numberOfSigns_23 : decode cX4_numberOfSigns 23 = .ok (.lload 5, 2) := by decide +kernel
theorem dX4_numberOfSigns_25 : decode cX4_numberOfSigns 25 = .ok (.ldc2_w 21, 3) := by decide +kernel
theorem dX4_numberOfSigns_28 : decode cX4_numberOfSigns 28 = .ok (.lcmp, 1) := by decide +kernel
theorem dX4_numberOfSigns_29 : decode cX4_numberOfSigns 29 = .ok (.ifCond .lt 12, 3) := by decide +kernel
theorem dX4_numberOfSigns_32 : decode cX4_numberOfSigns 32 = .ok (.lload 5, 2) := by decide +kernel
theorem dX4_numberOfSigns_34 : decode cX4_numberOfSigns 34 = .ok (.ldc2_w 23, 3) := by decide +kernel
theorem dX4_numberOfSigns_37 : decode cX4_numberOfSigns 37 = .ok (.lcmp, 1) := by decide +kernel
theorem dX4_numberOfSigns_38 : decode cX4_numberOfSigns 38 = .ok (.ifCond .le 5, 3) := by decide +kernel
theorem dX4_numberOfSigns_41 : decode cX4_numberOfSigns 41 = .ok (.iconst 0, 1) := by decide +kernel
theorem dX4_numberOfSigns_42 : decode cX4_numberOfSigns 42 = .ok (.ireturn, 1) := by decide +kernel
theorem dX4_numberOfSigns_43 : decode cX4_numberOfSigns 43 = .ok (.lload_n 3, 1) := by decide +kernel
theorem dX4_numberOfSigns_44 : decode cX4_numberOfSigns 44 = .ok (.bipush 8, 2) := by decide +kernel
theorem dX4_numberOfSigns_46 : decode cX4_numberOfSigns 46 = .ok (.lushr, 1) := by decide +kernel
theorem dX4_numberOfSigns_47 : decode cX4_numberOfSigns 47 = .ok (.lstore_n 3, 1) := by decide +kernel
theorem dX4_numberOfSigns_48 : decode cX4_numberOfSigns 48 = .ok (.iinc 2 1, 3) := by decide +kernel
theorem dX4_numberOfSigns_51 : decode cX4_numberOfSigns 51 = .ok (.goto (-47), 3) := by decide +kernel
theorem dX4_numberOfSigns_54 : decode cX4_numberOfSigns 54 = .ok (.iload_n 2, 1) := by decide +kernel
theorem dX4_numberOfSigns_55 : decode cX4_numberOfSigns 55 = .ok (.ireturn, 1) := by decide +kernel
theorem dX4_append_0 : decode cX4_append 0 = .ok (.iload_n 3, 1) := by decide +kernel
theorem dX4_append_1 : decode cX4_append 1 = .ok (.iconst 1, 1) := by decide +kernel
theorem dX4_append_2 : decode cX4_append 2 = .ok (.isub, 1) := by decide +kernel
theorem dX4_append_3 : decode cX4_append 3 = .ok (.istore 4, 2) := by decide +kernel
theorem dX4_append_5 : decode cX4_append 5 = .ok (.iload 4, 2) := by decide +kernel
theorem dX4_append_7 : decode cX4_append 7 = .ok (.ifCond .lt 58, 3) := by decide +kernel
theorem dX4_append_10 : decode cX4_append 10 = .ok (.aload_n 0, 1) := by decide +kernel
theorem dX4_append_11 : decode cX4_append 11 = .ok (.getfield 15, 3) := by decide +kernel
theorem dX4_append_14 : decode cX4_append 14 = .ok (.ifCond .lt 12, 3) := by decide +kernel
theorem dX4_append_17 : decode cX4_append 17 = .ok (.aload_n 0, 1) := by decide +kernel
theorem dX4_append_18 : decode cX4_append 18 = .ok (.getfield 15, 3) := by decide +kernel
theorem dX4_append_21 : decode cX4_append 21 = .ok (.bipush 60, 2) := by decide +kernel
theorem dX4_append_23 : decode cX4_append 23 = .ok (.if_icmp .lt 4, 3) := by decide +kernel
theorem dX4_append_26 : decode cX4_append 26 = .ok (.return_, 1) := by decide +kernel
theorem dX4_append_27 : decode cX4_append 27 = .ok (.aload_n 0, 1) := by decide +kernel
theorem dX4_append_28 : decode cX4_append 28 = .ok (.getfield 11, 3) := by decide +kernel
theorem dX4_append_31 : decode cX4_append 31 = .ok (.aload_n 0, 1) := by decide +kernel
theorem dX4_append_32 : decode cX4_append 32 = .ok (.getfield 15, 3) := by decide +kernel
theorem dX4_append_35 : decode cX4_append 35 = .ok (.lload_n 1, 1) := by decide +kernel
theorem dX4_append_36 : decode cX4_append 36 = .ok (.bipush 8, 2) := by decide +kernel
theorem dX4_append_38 : decode cX4_append 38 = .ok (.iload 4, 2) := by decide +kernel
theorem dX4_append_40 : decode cX4_append 40 = .ok (.imul, 1) := by decide +kernel
theorem dX4_append_41 : decode cX4_append 41 = .ok (.lushr, 1) := by decide +kernel
theorem dX4_append_42 : decode cX4_append 42 = .ok (.ldc2_w 19, 3) := by decide +kernel
theorem dX4_append_45 : decode cX4_append 45 = .ok (.land, 1) := by decide +kernel
theorem dX4_append_46 : decode cX4_append 46 = .ok (.l2i, 1) := by decide +kernel
theorem dX4_append_47 : decode cX4_append 47 = .ok (.i2c, 1) := by decide +kernel
theorem dX4_append_48 : decode cX4_append 48 = .ok (.castore, 1) := by decide +kernel
theorem dX4_append_49 : decode cX4_append 49 = .ok (.aload_n 0, 1) := by decide +kernel
theorem dX4_append_50 : decode cX4_append 50 = .ok (.dup, 1) := by decide +kernel
theorem dX4_append_51 : decode cX4_append 51 = .ok (.getfield 15, 3) := by decide +kernel
theorem dX4_append_54 : decode cX4_append 54 = .ok (.iconst 1, 1) := by decide +kernel
theorem dX4_append_55 : decode cX4_append 55 = .ok (.iadd, 1) := by decide +kernel
theorem dX4_append_56 : decode cX4_append 56 = .ok (.putfield 15, 3) := by decide +kernel
theorem dX4_append_59 : decode cX4_append 59 = .ok (.iinc 4 (-1), 3) := by decide +kernel
theorem dX4_append_62 : decode cX4_append 62 = .ok (.goto (-57), 3) := by decide +kernel
theorem dX4_append_65 : decode cX4_append 65 = .ok (.return_, 1) := by decide +kernel
theorem dX4_signAt_0 : decode cX4_signAt 0 = .ok (.iload_n 1, 1) := by decide +kernel
theorem dX4_signAt_1 : decode cX4_signAt 1 = .ok (.ifCond .lt 26, 3) := by decide +kernel
theorem dX4_signAt_4 : decode cX4_signAt 4 = .ok (.iload_n 1, 1) := by decide +kernel
theorem dX4_signAt_5 : decode cX4_signAt 5 = .ok (.aload_n 0, 1) := by decide +kernel
theorem dX4_signAt_6 : decode cX4_signAt 6 = .ok (.getfield 15, 3) := by decide +kernel
theorem dX4_signAt_9 : decode cX4_signAt 9 = .ok (.if_icmp .ge 18, 3) := by decide +kernel
theorem dX4_signAt_12 : decode cX4_signAt 12 = .ok (.iload_n 1, 1) := by decide +kernel
theorem dX4_signAt_13 : decode cX4_signAt 13 = .ok (.bipush 60, 2) := by decide +kernel
theorem dX4_signAt_15 : decode cX4_signAt 15 = .ok (.if_icmp .ge 12, 3) := by decide +kernel
theorem dX4_signAt_18 : decode cX4_signAt 18 = .ok (.aload_n 0, 1) := by decide +kernel
theorem dX4_signAt_19 : decode cX4_signAt 19 = .ok (.getfield 11, 3) := by decide +kernel
theorem dX4_signAt_22 : decode cX4_signAt 22 = .ok (.iload_n 1, 1) := by decide +kernel
theorem dX4_signAt_23 : decode cX4_signAt 23 = .ok (.caload, 1) := by decide +kernel
theorem dX4_signAt_24 : decode cX4_signAt 24 = .ok (.goto 5, 3) := by decide +kernel
theorem dX4_signAt_27 : decode cX4_signAt 27 = .ok (.bipush 44, 2) := by decide +kernel
theorem dX4_signAt_29 : decode cX4_signAt 29 = .ok (.ireturn, 1) := by decide +kernel
theorem dX4_findFault_0 : decode cX4_findFault 0 = .ok (.iconst 0, 1) := by decide +kernel
theorem dX4_findFault_1 : decode cX4_findFault 1 = .ok (.istore_n 1, 1) := by decide +kernel
theorem dX4_findFault_2 : decode cX4_findFault 2 = .ok (.iconst 0, 1) := by decide +kernel
theorem dX4_findFault_3 : decode cX4_findFault 3 = .ok (.istore_n 2, 1) := by decide +kernel
theorem dX4_findFault_4 : decode cX4_findFault 4 = .ok (.iconst 0, 1) := by decide +kernel
theorem dX4_findFault_5 : decode cX4_findFault 5 = .ok (.istore_n 3, 1) := by decide +kernel
theorem dX4_findFault_6 : decode cX4_findFault 6 = .ok (.iload_n 3, 1) := by decide +kernel
theorem dX4_findFault_7 : decode cX4_findFault 7 = .ok (.aload_n 0, 1) := by decide +kernel
theorem dX4_findFault_8 : decode cX4_findFault 8 = .ok (.getfield 15, 3) := by decide +kernel
theorem dX4_findFault_11 : decode cX4_findFault 11 = .ok (.if_icmp .ge 140, 3) := by decide +kernel
theorem dX4_findFault_14 : decode cX4_findFault 14 = .ok (.aload_n 0, 1) := by decide +kernel
theorem dX4_findFault_15 : decode cX4_findFault 15 = .ok (.iload_n 3, 1) := by decide +kernel
theorem dX4_findFault_16 : decode cX4_findFault 16 = .ok (.invokevirtual 25, 3) := by decide +kernel
theorem dX4_findFault_19 : decode cX4_findFault 19 = .ok (.istore 4, 2) := by decide +kernel
theorem dX4_findFault_21 : decode cX4_findFault 21 = .ok (.iload 4, 2) := by decide +kernel
theorem dX4_findFault_23 : decode cX4_findFault 23 = .ok (.bipush 48, 2) := by decide +kernel
theorem dX4_findFault_25 : decode cX4_findFault 25 = .ok (.if_icmp .lt 77, 3) := by decide +kernel
theorem dX4_findFault_28 : decode cX4_findFault 28 = .ok (.iload 4, 2) := by decide +kernel
theorem dX4_findFault_30 : decode cX4_findFault 30 = .ok (.bipush 57, 2) := by decide +kernel
theorem dX4_findFault_32 : decode cX4_findFault 32 = .ok (.if_icmp .gt 70, 3) := by decide +kernel
theorem dX4_findFault_35 : decode cX4_findFault 35 = .ok (.iload_n 1, 1) := by decide +kernel
theorem dX4_findFault_36 : decode cX4_findFault 36 = .ok (.ifCond .eq 8, 3) := by decide +kernel
theorem dX4_findFault_39 : decode cX4_findFault 39 = .ok (.iload_n 1, 1) := by decide +kernel
theorem dX4_findFault_40 : decode cX4_findFault 40 = .ok (.iconst 2, 1) := by decide +kernel
theorem dX4_findFault_41 : decode cX4_findFault 41 = .ok (.if_icmp .ne 7, 3) := by decide +kernel
theorem dX4_findFault_44 : decode cX4_findFault 44 = .ok (.iconst 1, 1) := by decide +kernel
theorem dX4_findFault_45 : decode cX4_findFault 45 = .ok (.goto 4, 3) := by decide +kernel
theorem dX4_findFault_48 : decode cX4_findFault 48 = .ok (.iconst 0, 1) := by decide +kernel
theorem dX4_findFault_49 : decode cX4_findFault 49 = .ok (.istore 5, 2) := by decide +kernel
theorem dX4_findFault_51 : decode cX4_findFault 51 = .ok (.iload 5, 2) := by decide +kernel
theorem dX4_findFault_53 : decode cX4_findFault 53 = .ok (.ifCond .ne 9, 3) := by decide +kernel
theorem dX4_findFault_56 : decode cX4_findFault 56 = .ok (.iload_n 2, 1) := by decide +kernel
theorem dX4_findFault_57 : decode cX4_findFault 57 = .ok (.ifCond .ne 5, 3) := by decide +kernel
theorem dX4_findFault_60 : decode cX4_findFault 60 = .ok (.iload_n 3, 1) := by decide +kernel
theorem dX4_findFault_61 : decode cX4_findFault 61 = .ok (.ireturn, 1) := by decide +kernel
theorem dX4_findFault_62 : decode cX4_findFault 62 = .ok (.iload 5, 2) := by decide +kernel
theorem dX4_findFault_64 : decode cX4_findFault 64 = .ok (.ifCond .eq 7, 3) := by decide +kernel
theorem dX4_findFault_67 : decode cX4_findFault 67 = .ok (.iconst 0, 1) := by decide +kernel
theorem dX4_findFault_68 : decode cX4_findFault 68 = .ok (.goto 7, 3) := by decide +kernel
theorem dX4_findFault_71 : decode cX4_findFault 71 = .ok (.iload_n 2, 1) := by decide +kernel
theorem dX4_findFault_72 : decode cX4_findFault 72 = .ok (.bipush 10, 2) := by decide +kernel
theorem dX4_findFault_74 : decode cX4_findFault 74 = .ok (.imul, 1) := by decide +kernel
theorem dX4_findFault_75 : decode cX4_findFault 75 = .ok (.iload 4, 2) := by decide +kernel
theorem dX4_findFault_77 : decode cX4_findFault 77 = .ok (.bipush 48, 2) := by decide +kernel
theorem dX4_findFault_79 : decode cX4_findFault 79 = .ok (.isub, 1) := by decide +kernel
theorem dX4_findFault_80 : decode cX4_findFault 80 = .ok (.iadd, 1) := by decide +kernel
theorem dX4_findFault_81 : decode cX4_findFault 81 = .ok (.istore_n 2, 1) := by decide +kernel
theorem dX4_findFault_82 : decode cX4_findFault 82 = .ok (.iload_n 2, 1) := by decide +kernel
theorem dX4_findFault_83 : decode cX4_findFault 83 = .ok (.invokestatic 29, 3) := by decide +kernel
theorem dX4_findFault_86 : decode cX4_findFault 86 = .ok (.ifCond .ne 5, 3) := by decide +kernel
theorem dX4_findFault_89 : decode cX4_findFault 89 = .ok (.iload_n 3, 1) := by decide +kernel
theorem dX4_findFault_90 : decode cX4_findFault 90 = .ok (.ireturn, 1) := by decide +kernel
theorem dX4_findFault_91 : decode cX4_findFault 91 = .ok (.iload 5, 2) := by decide +kernel
theorem dX4_findFault_93 : decode cX4_findFault 93 = .ok (.ifCond .eq 6, 3) := by decide +kernel
theorem dX4_findFault_96 : decode cX4_findFault 96 = .ok (.iinc 1 1, 3) := by decide +kernel
theorem dX4_findFault_99 : decode cX4_findFault 99 = .ok (.goto 46, 3) := by decide +kernel
theorem dX4_findFault_102 : decode cX4_findFault 102 = .ok (.iload_n 1, 1) := by decide +kernel
theorem dX4_findFault_103 : decode cX4_findFault 103 = .ok (.iconst 1, 1) := by decide +kernel
theorem dX4_findFault_104 : decode cX4_findFault 104 = .ok (.if_icmp .ne 22, 3) := by decide +kernel
theorem dX4_findFault_107 : decode cX4_findFault 107 = .ok (.iload 4, 2) := by decide +kernel
theorem dX4_findFault_109 : decode cX4_findFault 109 = .ok (.bipush 45, 2) := by decide +kernel
theorem dX4_findFault_111 : decode cX4_findFault 111 = .ok (.if_icmp .eq 10, 3) := by decide +kernel
theorem dX4_findFault_114 : decode cX4_findFault 114 = .ok (.iload 4, 2) := by decide +kernel
theorem dX4_findFault_116 : decode cX4_findFault 116 = .ok (.bipush 120, 2) := by decide +kernel
theorem dX4_findFault_118 : decode cX4_findFault 118 = .ok (.if_icmp .ne 8, 3) := by decide +kernel
theorem dX4_findFault_121 : decode cX4_findFault 121 = .ok (.iconst 2, 1) := by decide +kernel
theorem dX4_findFault_122 : decode cX4_findFault 122 = .ok (.istore_n 1, 1) := by decide +kernel
theorem dX4_findFault_123 : decode cX4_findFault 123 = .ok (.goto 22, 3) := by decide +kernel
theorem dX4_findFault_126 : decode cX4_findFault 126 = .ok (.iload_n 1, 1) := by decide +kernel
theorem dX4_findFault_127 : decode cX4_findFault 127 = .ok (.iconst 3, 1) := by decide +kernel
theorem dX4_findFault_128 : decode cX4_findFault 128 = .ok (.if_icmp .ne 15, 3) := by decide +kernel
theorem dX4_findFault_131 : decode cX4_findFault 131 = .ok (.iload 4, 2) := by decide +kernel
theorem dX4_findFault_133 : decode cX4_findFault 133 = .ok (.bipush 44, 2) := by decide +kernel
theorem dX4_findFault_135 : decode cX4_findFault 135 = .ok (.if_icmp .ne 8, 3) := by decide +kernel
theorem dX4_findFault_138 : decode cX4_findFault 138 = .ok (.iconst 0, 1) := by decide +kernel
theorem dX4_findFault_139 : decode cX4_findFault 139 = .ok (.istore_n 1, 1) := by decide +kernel
theorem dX4_findFault_140 : decode cX4_findFault 140 = .ok (.goto 5, 3) := by decide +kernel
theorem dX4_findFault_143 : decode cX4_findFault 143 = .ok (.iload_n 3, 1) := by decide +kernel
theorem dX4_findFault_144 : decode cX4_findFault 144 = .ok (.ireturn, 1) := by decide +kernel
theorem dX4_findFault_145 : decode cX4_findFault 145 = .ok (.iinc 3 1, 3) := by decide +kernel
theorem dX4_findFault_148 : decode cX4_findFault 148 = .ok (.goto (-142), 3) := by decide +kernel
theorem dX4_findFault_151 : decode cX4_findFault 151 = .ok (.iload_n 1, 1) := by decide +kernel
theorem dX4_findFault_152 : decode cX4_findFault 152 = .ok (.iconst 3, 1) := by decide +kernel
theorem dX4_findFault_153 : decode cX4_findFault 153 = .ok (.if_icmp .ne 8, 3) := by decide +kernel
theorem dX4_findFault_156 : decode cX4_findFault 156 = .ok (.bipush (-6), 2) := by decide +kernel
theorem dX4_findFault_158 : decode cX4_findFault 158 = .ok (.goto 7, 3) := by decide +kernel
theorem dX4_findFault_161 : decode cX4_findFault 161 = .ok (.aload_n 0, 1) := by decide +kernel
theorem dX4_findFault_162 : decode cX4_findFault 162 = .ok (.getfield 15, 3) := by decide +kernel
theorem dX4_findFault_165 : decode cX4_findFault 165 = .ok (.ireturn, 1) := by decide +kernel
theorem dX5_init_0 : decode cX5_init 0 = .ok (.aload_n 0, 1) := by decide +kernel
theorem dX5_init_1 : decode cX5_init 1 = .ok (.invokespecial 1, 3) := by decide +kernel
theorem dX5_init_4 : decode cX5_init 4 = .ok (.aload_n 0, 1) := by decide +kernel
theorem dX5_init_5 : decode cX5_init 5 = .ok (.new 7, 3) := by decide +kernel
theorem dX5_init_8 : decode cX5_init 8 = .ok (.dup, 1) := by decide +kernel
theorem dX5_init_9 : decode cX5_init 9 = .ok (.invokespecial 9, 3) := by decide +kernel
theorem dX5_init_12 : decode cX5_init 12 = .ok (.putfield 10, 3) := by decide +kernel
theorem dX5_init_15 : decode cX5_init 15 = .ok (.aload_n 0, 1) := by decide +kernel
theorem dX5_init_16 : decode cX5_init 16 = .ok (.new 16, 3) := by decide +kernel
theorem dX5_init_19 : decode cX5_init 19 = .ok (.dup, 1) := by decide +kernel
theorem dX5_init_20 : decode cX5_init 20 = .ok (.invokespecial 18, 3) := by decide +kernel
theorem dX5_init_23 : decode cX5_init 23 = .ok (.putfield 19, 3) := by decide +kernel
theorem dX5_init_26 : decode cX5_init 26 = .ok (.aload_n 0, 1) := by decide +kernel
theorem dX5_init_27 : decode cX5_init 27 = .ok (.aload_n 1, 1) := by decide +kernel
theorem dX5_init_28 : decode cX5_init 28 = .ok (.putfield 23, 3) := by decide +kernel
theorem dX5_init_31 : decode cX5_init 31 = .ok (.return_, 1) := by decide +kernel
theorem dX5_tryHop_0 : decode cX5_tryHop 0 = .ok (.aload_n 0, 1) := by decide +kernel
theorem dX5_tryHop_1 : decode cX5_tryHop 1 = .ok (.getfield 23, 3) := by decide +kernel
theorem dX5_tryHop_4 : decode cX5_tryHop 4 = .ok (.ifnull 14, 3) := by decide +kernel
theorem dX5_tryHop_7 : decode cX5_tryHop 7 = .ok (.aload_n 0, 1) := by decide +kernel
theorem dX5_tryHop_8 : decode cX5_tryHop 8 = .ok (.getfield 19, 3) := by decide +kernel
theorem dX5_tryHop_11 : decode cX5_tryHop 11 = .ok (.iload_n 1, 1) := by decide +kernel
theorem dX5_tryHop_12 : decode cX5_tryHop 12 = .ok (.invokevirtual 27, 3) := by decide +kernel
theorem dX5_tryHop_15 : decode cX5_tryHop 15 = .ok (.ifCond .ne 4, 3) := by decide +kernel
theorem dX5_tryHop_18 : decode cX5_tryHop 18 = .ok (.return_, 1) := by decide +kernel
theorem dX5_tryHop_19 : decode cX5_tryHop 19 = .ok (.aload_n 0, 1) := by decide +kernel
theorem dX5_tryHop_20 : decode cX5_tryHop 20 = .ok (.getfield 23, 3) := by decide +kernel
theorem dX5_tryHop_23 : decode cX5_tryHop 23 = .ok (.getfield 10, 3) := by decide +kernel
theorem dX5_tryHop_26 : decode cX5_tryHop 26 = .ok (.aload_n 0, 1) := by decide +kernel
theorem dX5_tryHop_27 : decode cX5_tryHop 27 = .ok (.getfield 10, 3) := by decide +kernel
theorem dX5_tryHop_30 : decode cX5_tryHop 30 = .ok (.invokevirtual 31, 3) := by decide +kernel
theorem dX5_tryHop_33 : decode cX5_tryHop 33 = .ok (.aload_n 0, 1) := by decide +kernel
theorem dX5_tryHop_34 : decode cX5_tryHop 34 = .ok (.getfield 23, 3) := by decide +kernel
theorem dX5_tryHop_37 : decode cX5_tryHop 37 = .ok (.getfield 10, 3) := by decide +kernel
theorem dX5_tryHop_40 : decode cX5_tryHop 40 = .ok (.aload_n 0, 1) := by decide +kernel
theorem dX5_tryHop_41 : decode cX5_tryHop 41 = .ok (.getfield 19, 3) := by decide +kernel
theorem dX5_tryHop_44 : decode cX5_tryHop 44 = .ok (.iload_n 1, 1) := by decide +kernel
theorem dX5_tryHop_45 : decode cX5_tryHop 45 = .ok (.invokevirtual 35, 3) := by decide +kernel
theorem dX5_tryHop_48 : decode cX5_tryHop 48 = .ok (.return_, 1) := by decide +kernel
theorem dX6_init_0 : decode cX6_init 0 = .ok (.aload_n 0, 1) := by decide +kernel
theorem dX6_init_1 : decode cX6_init 1 = .ok (.invokespecial 1, 3) := by decide +kernel
theorem dX6_init_4 : decode cX6_init 4 = .ok (.aload_n 0, 1) := by decide +kernel
theorem dX6_init_5 : decode cX6_init 5 = .ok (.new 7, 3) := by decide +kernel
theorem dX6_init_8 : decode cX6_init 8 = .ok (.dup, 1) := by decide +kernel
theorem dX6_init_9 : decode cX6_init 9 = .ok (.invokespecial 9, 3) := by decide +kernel
theorem dX6_init_12 : decode cX6_init 12 = .ok (.putfield 10, 3) := by decide +kernel
theorem dX6_init_15 : decode cX6_init 15 = .ok (.aload_n 0, 1) := by decide +kernel
theorem dX6_init_16 : decode cX6_init 16 = .ok (.new 16, 3) := by decide +kernel
theorem dX6_init_19 : decode cX6_init 19 = .ok (.dup, 1) := by decide +kernel
theorem dX6_init_20 : decode cX6_init 20 = .ok (.invokespecial 18, 3) := by decide +kernel
theorem dX6_init_23 : decode cX6_init 23 = .ok (.putfield 19, 3) := by decide +kernel
theorem dX6_init_26 : decode cX6_init 26 = .ok (.aload_n 0, 1) := by decide +kernel
theorem dX6_init_27 : decode cX6_init 27 = .ok (.iconst 2, 1) := by decide +kernel
theorem dX6_init_28 : decode cX6_init 28 = .ok (.anewarray 7, 3) := by decide +kernel
theorem dX6_init_31 : decode cX6_init 31 = .ok (.putfield 23, 3) := by decide +kernel
theorem dX6_init_34 : decode cX6_init 34 = .ok (.aload_n 0, 1) := by decide +kernel
theorem dX6_init_35 : decode cX6_init 35 = .ok (.new 27, 3) := by decide +kernel
theorem dX6_init_38 : decode cX6_init 38 = .ok (.dup, 1) := by decide +kernel
theorem dX6_init_39 : decode cX6_init 39 = .ok (.invokespecial 29, 3) := by decide +kernel
theorem dX6_init_42 : decode cX6_init 42 = .ok (.putfield 30, 3) := by decide +kernel
theorem dX6_init_45 : decode cX6_init 45 = .ok (.aload_n 0, 1) := by decide +kernel
theorem dX6_init_46 : decode cX6_init 46 = .ok (.new 34, 3) := by decide +kernel
theorem dX6_init_49 : decode cX6_init 49 = .ok (.dup, 1) := by decide +kernel
theorem dX6_init_50 : decode cX6_init 50 = .ok (.new 34, 3) := by decide +kernel
theorem dX6_init_53 : decode cX6_init 53 = .ok (.dup, 1) := by decide +kernel
theorem dX6_init_54 : decode cX6_init 54 = .ok (.new 34, 3) := by decide +kernel
theorem dX6_init_57 : decode cX6_init 57 = .ok (.dup, 1) := by decide +kernel
theorem dX6_init_58 : decode cX6_init 58 = .ok (.aconst_null, 1) := by decide +kernel
theorem dX6_init_59 : decode cX6_init 59 = .ok (.invokespecial 36, 3) := by decide +kernel
theorem dX6_init_62 : decode cX6_init 62 = .ok (.invokespecial 36, 3) := by decide +kernel
theorem dX6_init_65 : decode cX6_init 65 = .ok (.invokespecial 36, 3) := by decide +kernel
theorem dX6_init_68 : decode cX6_init 68 = .ok (.putfield 39, 3) := by decide +kernel
theorem dX6_init_71 : decode cX6_init 71 = .ok (.aload_n 0, 1) := by decide +kernel
theorem dX6_init_72 : decode cX6_init 72 = .ok (.getfield 10, 3) := by decide +kernel
theorem dX6_init_75 : decode cX6_init 75 = .ok (.iconst 0, 1) := by decide +kernel
theorem dX6_init_76 : decode cX6_init 76 = .ok (.invokevirtual 43, 3) := by decide +kernel
theorem dX6_init_79 : decode cX6_init 79 = .ok (.return_, 1) := by decide +kernel
theorem dX6_clock_0 : decode cX6_clock 0 = .ok (.iload_n 1, 1) := by decide +kernel
theorem dX6_clock_1 : decode cX6_clock 1 = .ok (.bipush 10, 2) := by decide +kernel
theorem dX6_clock_3 : decode cX6_clock 3 = .ok (.if_icmp .lt 10, 3) := by decide +kernel
theorem dX6_clock_6 : decode cX6_clock 6 = .ok (.iload_n 1, 1) := by decide +kernel
theorem dX6_clock_7 : decode cX6_clock 7 = .ok (.sipush 9999, 3) := by decide +kernel
theorem dX6_clock_10 : decode cX6_clock 10 = .ok (.if_icmp .le 6, 3) := by decide +kernel
theorem dX6_clock_13 : decode cX6_clock 13 = .ok (.bipush (-2), 2) := by decide +kernel
theorem dX6_clock_15 : decode cX6_clock 15 = .ok (.ireturn, 1) := by decide +kernel
theorem dX6_clock_16 : decode cX6_clock 16 = .ok (.aload_n 0, 1) := by decide +kernel
theorem dX6_clock_17 : decode cX6_clock 17 = .ok (.getfield 19, 3) := by decide +kernel
theorem dX6_clock_20 : decode cX6_clock 20 = .ok (.aload_n 0, 1) := by decide +kernel
theorem dX6_clock_21 : decode cX6_clock 21 = .ok (.getfield 10, 3) := by decide +kernel
theorem dX6_clock_24 : decode cX6_clock 24 = .ok (.invokevirtual 47, 3) := by decide +kernel
theorem dX6_clock_27 : decode cX6_clock 27 = .ok (.aload_n 0, 1) := by decide +kernel
theorem dX6_clock_28 : decode cX6_clock 28 = .ok (.getfield 10, 3) := by decide +kernel
theorem dX6_clock_31 : decode cX6_clock 31 = .ok (.getfield 51, 3) := by decide +kernel
theorem dX6_clock_34 : decode cX6_clock 34 = .ok (.istore_n 2, 1) := by decide +kernel
theorem dX6_clock_35 : decode cX6_clock 35 = .ok (.aload_n 0, 1) := by decide +kernel
theorem dX6_clock_36 : decode cX6_clock 36 = .ok (.getfield 10, 3) := by decide +kernel
theorem dX6_clock_39 : decode cX6_clock 39 = .ok (.iload_n 1, 1) := by decide +kernel
theorem dX6_clock_40 : decode cX6_clock 40 = .ok (.putfield 51, 3) := by decide +kernel
theorem dX6_clock_43 : decode cX6_clock 43 = .ok (.iload_n 2, 1) := by decide +kernel
theorem dX6_clock_44 : decode cX6_clock 44 = .ok (.ireturn, 1) := by decide +kernel
theorem dX6_begin_0 : decode cX6_begin 0 = .ok (.aload_n 0, 1) := by decide +kernel
theorem dX6_begin_1 : decode cX6_begin 1 = .ok (.getfield 19, 3) := by decide +kernel
theorem dX6_begin_4 : decode cX6_begin 4 = .ok (.aload_n 0, 1) := by decide +kernel
theorem dX6_begin_5 : decode cX6_begin 5 = .ok (.getfield 10, 3) := by decide +kernel
theorem dX6_begin_8 : decode cX6_begin 8 = .ok (.invokevirtual 47, 3) := by decide +kernel
theorem dX6_begin_11 : decode cX6_begin 11 = .ok (.aload_n 0, 1) := by decide +kernel
theorem dX6_begin_12 : decode cX6_begin 12 = .ok (.getfield 10, 3) := by decide +kernel
theorem dX6_begin_15 : decode cX6_begin 15 = .ok (.iload_n 1, 1) := by decide +kernel
theorem dX6_begin_16 : decode cX6_begin 16 = .ok (.invokevirtual 43, 3) := by decide +kernel
theorem dX6_begin_19 : decode cX6_begin 19 = .ok (.aload_n 0, 1) := by decide +kernel
theorem dX6_begin_20 : decode cX6_begin 20 = .ok (.getfield 10, 3) := by decide +kernel
theorem dX6_begin_23 : decode cX6_begin 23 = .ok (.getfield 55, 3) := by decide +kernel
theorem dX6_begin_26 : decode cX6_begin 26 = .ok (.iconst 0, 1) := by decide +kernel
theorem dX6_begin_27 : decode cX6_begin 27 = .ok (.invokevirtual 59, 3) := by decide +kernel
theorem dX6_begin_30 : decode cX6_begin 30 = .ok (.aload_n 0, 1) := by decide +kernel
theorem dX6_begin_31 : decode cX6_begin 31 = .ok (.getfield 10, 3) := by decide +kernel
theorem dX6_begin_34 : decode cX6_begin 34 = .ok (.getfield 55, 3) := by decide +kernel
theorem dX6_begin_37 : decode cX6_begin 37 = .ok (.iconst 1, 1) := by decide +kernel
theorem dX6_begin_38 : decode cX6_begin 38 = .ok (.invokevirtual 59, 3) := by decide +kernel
theorem dX6_begin_41 : decode cX6_begin 41 = .ok (.iadd, 1) := by decide +kernel
theorem dX6_begin_42 : decode cX6_begin 42 = .ok (.ireturn, 1) := by decide +kernel
theorem dX6_set_0 : decode cX6_set 0 = .ok (.iload_n 1, 1) := by decide +kernel
theorem dX6_set_1 : decode cX6_set 1 = .ok (.invokestatic 65, 3) := by decide +kernel
theorem dX6_set_4 : decode cX6_set 4 = .ok (.ifCond .ne 5, 3) := by decide +kernel
theorem dX6_set_7 : decode cX6_set 7 = .ok (.iconst (-1), 1) := by decide +kernel
theorem dX6_set_8 : decode cX6_set 8 = .ok (.ireturn, 1) := by decide +kernel
theorem dX6_set_9 : decode cX6_set 9 = .ok (.iload_n 2, 1) := by decide +kernel
theorem dX6_set_10 : decode cX6_set 10 = .ok (.bipush (-6), 2) := by decide +kernel
theorem dX6_set_12 : decode cX6_set 12 = .ok (.if_icmp .eq 13, 3) := by decide +kernel
theorem dX6_set_15 : decode cX6_set 15 = .ok (.iload_n 2, 1) := by decide +kernel
theorem dX6_set_16 : decode cX6_set 16 = .ok (.invokestatic 69, 3) := by decide +kernel
theorem dX6_set_19 : decode cX6_set 19 = .ok (.ifCond .ne 6, 3) := by decide +kernel
theorem dX6_set_22 : decode cX6_set 22 = .ok (.bipush (-2), 2) := by decide +kernel
theorem dX6_set_24 : decode cX6_set 24 = .ok (.ireturn, 1) := by decide +kernel
theorem dX6_set_25 : decode cX6_set 25 = .ok (.aload_n 0, 1) := by decide +kernel
theorem dX6_set_26 : decode cX6_set 26 = .ok (.getfield 10, 3) := by decide +kernel
theorem dX6_set_29 : decode cX6_set 29 = .ok (.getfield 55, 3) := by decide +kernel
theorem dX6_set_32 : decode cX6_set 32 = .ok (.iload_n 1, 1) := by decide +kernel
theorem dX6_set_33 : decode cX6_set 33 = .ok (.invokevirtual 72, 3) := by decide +kernel
theorem dX6_set_36 : decode cX6_set 36 = .ok (.istore_n 3, 1) := by decide +kernel
theorem dX6_set_37 : decode cX6_set 37 = .ok (.aload_n 0, 1) := by decide +kernel
theorem dX6_set_38 : decode cX6_set 38 = .ok (.iload_n 2, 1) := by decide +kernel
theorem dX6_set_39 : decode cX6_set 39 = .ok (.iload_n 3, 1) := by decide +kernel
theorem dX6_set_40 : decode cX6_set 40 = .ok (.invokevirtual 75, 3) := by decide +kernel
theorem dX6_set_43 : decode cX6_set 43 = .ok (.ifCond .eq 6, 3) := by decide +kernel
theorem dX6_set_46 : decode cX6_set 46 = .ok (.bipush (-4), 2) := by decide +kernel
theorem dX6_set_48 : decode cX6_set 48 = .ok (.ireturn, 1) := by decide +kernel
theorem dX6_set_49 : decode cX6_set 49 = .ok (.aload_n 0, 1) := by decide +kernel
theorem dX6_set_50 : decode cX6_set 50 = .ok (.getfield 19, 3) := by decide +kernel
theorem dX6_set_53 : decode cX6_set 53 = .ok (.aload_n 0, 1) := by decide +kernel
theorem dX6_set_54 : decode cX6_set 54 = .ok (.getfield 10, 3) := by decide +kernel
theorem dX6_set_57 : decode cX6_set 57 = .ok (.invokevirtual 47, 3) := by decide +kernel
theorem dX6_set_60 : decode cX6_set 60 = .ok (.aload_n 0, 1) := by decide +kernel
theorem dX6_set_61 : decode cX6_set 61 = .ok (.getfield 10, 3) := by decide +kernel
theorem dX6_set_64 : decode cX6_set 64 = .ok (.getfield 55, 3) := by decide +kernel
theorem dX6_set_67 : decode cX6_set 67 = .ok (.iload_n 1, 1) := by decide +kernel
theorem dX6_set_68 : decode cX6_set 68 = .ok (.iload_n 2, 1) := by decide +kernel
theorem dX6_set_69 : decode cX6_set 69 = .ok (.invokevirtual 79, 3) := by decide +kernel
theorem dX6_set_72 : decode cX6_set 72 = .ok (.aload_n 0, 1) := by decide +kernel
theorem dX6_set_73 : decode cX6_set 73 = .ok (.getfield 10, 3) := by decide +kernel
theorem dX6_set_76 : decode cX6_set 76 = .ok (.invokevirtual 83, 3) := by decide +kernel
theorem dX6_set_79 : decode cX6_set 79 = .ok (.iload_n 3, 1) := by decide +kernel
theorem dX6_set_80 : decode cX6_set 80 = .ok (.ireturn, 1) := by decide +kernel
theorem dX6_turn_0 : decode cX6_turn 0 = .ok (.iload_n 1, 1) := by decide +kernel
theorem dX6_turn_1 : decode cX6_turn 1 = .ok (.invokestatic 86, 3) := by decide +kernel
theorem dX6_turn_4 : decode cX6_turn 4 = .ok (.ifCond .ne 6, 3) := by decide +kernel
theorem dX6_turn_7 : decode cX6_turn 7 = .ok (.bipush (-2), 2) := by decide +kernel
theorem dX6_turn_9 : decode cX6_turn 9 = .ok (.ireturn, 1) := by decide +kernel
theorem dX6_turn_10 : decode cX6_turn 10 = .ok (.aload_n 0, 1) := by decide +kernel
theorem dX6_turn_11 : decode cX6_turn 11 = .ok (.getfield 19, 3) := by decide +kernel
theorem dX6_turn_14 : decode cX6_turn 14 = .ok (.aload_n 0, 1) := by decide +kernel
theorem dX6_turn_15 : decode cX6_turn 15 = .ok (.getfield 10, 3) := by decide +kernel
theorem dX6_turn_18 : decode cX6_turn 18 = .ok (.invokevirtual 47, 3) := by decide +kernel
theorem dX6_turn_21 : decode cX6_turn 21 = .ok (.aload_n 0, 1) := by decide +kernel
theorem dX6_turn_22 : decode cX6_turn 22 = .ok (.getfield 10, 3) := by decide +kernel
theorem dX6_turn_25 : decode cX6_turn 25 = .ok (.getfield 55, 3) := by decide +kernel
theorem dX6_turn_28 : decode cX6_turn 28 = .ok (.getfield 89, 3) := by decide +kernel
theorem dX6_turn_31 : decode cX6_turn 31 = .ok (.istore_n 2, 1) := by decide +kernel
theorem dX6_turn_32 : decode cX6_turn 32 = .ok (.aload_n 0, 1) := by decide +kernel
theorem dX6_turn_33 : decode cX6_turn 33 = .ok (.getfield 10, 3) := by decide +kernel
theorem dX6_turn_36 : decode cX6_turn 36 = .ok (.getfield 55, 3) := by decide +kernel
theorem dX6_turn_39 : decode cX6_turn 39 = .ok (.iload_n 1, 1) := by decide +kernel
theorem dX6_turn_40 : decode cX6_turn 40 = .ok (.putfield 89, 3) := by decide +kernel
theorem dX6_turn_43 : decode cX6_turn 43 = .ok (.aload_n 0, 1) := by decide +kernel
theorem dX6_turn_44 : decode cX6_turn 44 = .ok (.getfield 10, 3) := by decide +kernel
theorem dX6_turn_47 : decode cX6_turn 47 = .ok (.invokevirtual 83, 3) := by decide +kernel
theorem dX6_turn_50 : decode cX6_turn 50 = .ok (.iload_n 2, 1) := by decide +kernel
theorem dX6_turn_51 : decode cX6_turn 51 = .ok (.ireturn, 1) := by decide +kernel
theorem dX6_hop_0 : decode cX6_hop 0 = .ok (.aload_n 0, 1) := by decide +kernel
theorem dX6_hop_1 : decode cX6_hop 1 = .ok (.invokevirtual 92, 3) := by decide +kernel
theorem dX6_hop_4 : decode cX6_hop 4 = .ok (.astore_n 3, 1) := by decide +kernel
theorem dX6_hop_5 : decode cX6_hop 5 = .ok (.aload_n 3, 1) := by decide +kernel
theorem dX6_hop_6 : decode cX6_hop 6 = .ok (.iload_n 1, 1) := by decide +kernel
theorem dX6_hop_7 : decode cX6_hop 7 = .ok (.invokevirtual 96, 3) := by decide +kernel
theorem dX6_hop_10 : decode cX6_hop 10 = .ok (.ifCond .ne 5, 3) := by decide +kernel
theorem dX6_hop_13 : decode cX6_hop 13 = .ok (.iconst (-1), 1) := by decide +kernel
theorem dX6_hop_14 : decode cX6_hop 14 = .ok (.ireturn, 1) := by decide +kernel
theorem dX6_hop_15 : decode cX6_hop 15 = .ok (.iload_n 2, 1) := by decide +kernel
theorem dX6_hop_16 : decode cX6_hop 16 = .ok (.ifCond .lt 10, 3) := by decide +kernel
theorem dX6_hop_19 : decode cX6_hop 19 = .ok (.iload_n 2, 1) := by decide +kernel
theorem dX6_hop_20 : decode cX6_hop 20 = .ok (.sipush 9999, 3) := by decide +kernel
theorem dX6_hop_23 : decode cX6_hop 23 = .ok (.if_icmp .le 6, 3) := by decide +kernel
theorem dX6_hop_26 : decode cX6_hop 26 = .ok (.bipush (-2), 2) := by decide +kernel
theorem dX6_hop_28 : decode cX6_hop 28 = .ok (.ireturn, 1) := by decide +kernel
theorem dX6_hop_29 : decode cX6_hop 29 = .ok (.aload_n 0, 1) := by decide +kernel
theorem dX6_hop_30 : decode cX6_hop 30 = .ok (.getfield 19, 3) := by decide +kernel
theorem dX6_hop_33 : decode cX6_hop 33 = .ok (.aload_n 0, 1) := by decide +kernel
theorem dX6_hop_34 : decode cX6_hop 34 = .ok (.getfield 10, 3) := by decide +kernel
theorem dX6_hop_37 : decode cX6_hop 37 = .ok (.invokevirtual 47, 3) := by decide +kernel
theorem dX6_hop_40 : decode cX6_hop 40 = .ok (.aload_n 0, 1) := by decide +kernel
theorem dX6_hop_41 : decode cX6_hop 41 = .ok (.getfield 10, 3) := by decide +kernel
theorem dX6_hop_44 : decode cX6_hop 44 = .ok (.aload_n 3, 1) := by decide +kernel
theorem dX6_hop_45 : decode cX6_hop 45 = .ok (.iload_n 1, 1) := by decide +kernel
theorem dX6_hop_46 : decode cX6_hop 46 = .ok (.iload_n 2, 1) := by decide +kernel
theorem dX6_hop_47 : decode cX6_hop 47 = .ok (.invokevirtual 101, 3) := by decide +kernel
theorem dX6_hop_50 : decode cX6_hop 50 = .ok (.aload_n 0, 1) := by decide +kernel
theorem dX6_hop_51 : decode cX6_hop 51 = .ok (.getfield 10, 3) := by decide +kernel
theorem dX6_hop_54 : decode cX6_hop 54 = .ok (.getfield 105, 3) := by decide +kernel
theorem dX6_hop_57 : decode cX6_hop 57 = .ok (.ireturn, 1) := by decide +kernel
theorem dX6_play_0 : decode cX6_play 0 = .ok (.iload_n 1, 1) := by decide +kernel
theorem dX6_play_1 : decode cX6_play 1 = .ok (.invokestatic 65, 3) := by decide +kernel
theorem dX6_play_4 : decode cX6_play 4 = .ok (.ifCond .eq 10, 3) := by decide +kernel
theorem dX6_play_7 : decode cX6_play 7 = .ok (.iload_n 2, 1) := by decide +kernel
theorem dX6_play_8 : decode cX6_play 8 = .ok (.invokestatic 65, 3) := by decide +kernel
theorem dX6_play_11 : decode cX6_play 11 = .ok (.ifCond .ne 5, 3) := by decide +kernel
theorem dX6_play_14 : decode cX6_play 14 = .ok (.iconst (-1), 1) := by decide +kernel
theorem dX6_play_15 : decode cX6_play 15 = .ok (.ireturn, 1) := by decide +kernel
theorem dX6_play_16 : decode cX6_play 16 = .ok (.aload_n 0, 1) := by decide +kernel
theorem dX6_play_17 : decode cX6_play 17 = .ok (.invokevirtual 92, 3) := by decide +kernel
theorem dX6_play_20 : decode cX6_play 20 = .ok (.astore_n 3, 1) := by decide +kernel
theorem dX6_play_21 : decode cX6_play 21 = .ok (.aload_n 3, 1) := by decide +kernel
theorem dX6_play_22 : decode cX6_play 22 = .ok (.iload_n 1, 1) := by decide +kernel
theorem dX6_play_23 : decode cX6_play 23 = .ok (.iload_n 2, 1) := by decide +kernel
theorem dX6_play_24 : decode cX6_play 24 = .ok (.invokevirtual 108, 3) := by decide +kernel
theorem dX6_play_27 : decode cX6_play 27 = .ok (.istore 4, 2) := by decide +kernel
theorem dX6_play_29 : decode cX6_play 29 = .ok (.iload 4, 2) := by decide +kernel
theorem dX6_play_31 : decode cX6_play 31 = .ok (.bipush (-6), 2) := by decide +kernel
theorem dX6_play_33 : decode cX6_play 33 = .ok (.if_icmp .ne 6, 3) := by decide +kernel
theorem dX6_play_36 : decode cX6_play 36 = .ok (.bipush (-5), 2) := by decide +kernel
theorem dX6_play_38 : decode cX6_play 38 = .ok (.ireturn, 1) := by decide +kernel
theorem dX6_play_39 : decode cX6_play 39 = .ok (.aload_n 0, 1) := by decide +kernel
theorem dX6_play_40 : decode cX6_play 40 = .ok (.getfield 19, 3) := by decide +kernel
theorem dX6_play_43 : decode cX6_play 43 = .ok (.aload_n 0, 1) := by decide +kernel
theorem dX6_play_44 : decode cX6_play 44 = .ok (.getfield 10, 3) := by decide +kernel
theorem dX6_play_47 : decode cX6_play 47 = .ok (.invokevirtual 47, 3) := by decide +kernel
theorem dX6_play_50 : decode cX6_play 50 = .ok (.aload_n 0, 1) := by decide +kernel
theorem dX6_play_51 : decode cX6_play 51 = .ok (.getfield 10, 3) := by decide +kernel
theorem dX6_play_54 : decode cX6_play 54 = .ok (.aload_n 3, 1) := by decide +kernel
theorem dX6_play_55 : decode cX6_play 55 = .ok (.iload 4, 2) := by decide +kernel
theorem dX6_play_57 : decode cX6_play 57 = .ok (.iconst 0, 1) := by decide +kernel
theorem dX6_play_58 : decode cX6_play 58 = .ok (.invokevirtual 101, 3) := by decide +kernel
theorem dX6_play_61 : decode cX6_play 61 = .ok (.aload_n 0, 1) := by decide +kernel
theorem dX6_play_62 : decode cX6_play 62 = .ok (.getfield 10, 3) := by decide +kernel
theorem dX6_play_65 : decode cX6_play 65 = .ok (.getfield 105, 3) := by decide +kernel
theorem dX6_play_68 : decode cX6_play 68 = .ok (.ireturn, 1) := by decide +kernel
theorem dX6_playAll_0 : decode cX6_playAll 0 = .ok (.aload_n 0, 1) := by decide +kernel
theorem dX6_playAll_1 : decode cX6_playAll 1 = .ok (.getfield 30, 3) := by decide +kernel
theorem dX6_playAll_4 : decode cX6_playAll 4 = .ok (.invokevirtual 112, 3) := by decide +kernel
theorem dX6_playAll_7 : decode cX6_playAll 7 = .ok (.bipush (-6), 2) := by decide +kernel
theorem dX6_playAll_9 : decode cX6_playAll 9 = .ok (.if_icmp .eq 6, 3) := by decide +kernel
theorem dX6_playAll_12 : decode cX6_playAll 12 = .ok (.bipush (-3), 2) := by decide +kernel
theorem dX6_playAll_14 : decode cX6_playAll 14 = .ok (.ireturn, 1) := by decide +kernel
theorem dX6_playAll_15 : decode cX6_playAll 15 = .ok (.aload_n 0, 1) := by decide +kernel
theorem dX6_playAll_16 : decode cX6_playAll 16 = .ok (.getfield 19, 3) := by decide +kernel
theorem dX6_playAll_19 : decode cX6_playAll 19 = .ok (.aload_n 0, 1) := by decide +kernel
theorem dX6_playAll_20 : decode cX6_playAll 20 = .ok (.getfield 10, 3) := by decide +kernel
theorem dX6_playAll_23 : decode cX6_playAll 23 = .ok (.invokevirtual 47, 3) := by decide +kernel
theorem dX6_playAll_26 : decode cX6_playAll 26 = .ok (.iconst 0, 1) := by decide +kernel
theorem dX6_playAll_27 : decode cX6_playAll 27 = .ok (.istore_n 1, 1) := by decide +kernel
theorem dX6_playAll_28 : decode cX6_playAll 28 = .ok (.iconst 0, 1) := by decide +kernel
theorem dX6_playAll_29 : decode cX6_playAll 29 = .ok (.istore_n 2, 1) := by decide +kernel
theorem dX6_playAll_30 : decode cX6_playAll 30 = .ok (.iconst 0, 1) := by decide +kernel
theorem dX6_playAll_31 : decode cX6_playAll 31 = .ok (.istore_n 3, 1) := by decide +kernel
theorem dX6_playAll_32 : decode cX6_playAll 32 = .ok (.iconst 0, 1) := by decide +kernel
theorem dX6_playAll_33 : decode cX6_playAll 33 = .ok (.istore 4, 2) := by decide +kernel
theorem dX6_playAll_35 : decode cX6_playAll 35 = .ok (.iconst 0, 1) := by decide +kernel
theorem dX6_playAll_36 : decode cX6_playAll 36 = .ok (.istore 5, 2) := by decide +kernel
theorem dX6_playAll_38 : decode cX6_playAll 38 = .ok (.iload 5, 2) := by decide +kernel
theorem dX6_playAll_40 : decode cX6_playAll 40 = .ok (.aload_n 0, 1) := by decide +kernel
theorem dX6_playAll_41 : decode cX6_playAll 41 = .ok (.getfield 30, 3) := by decide +kernel
theorem dX6_playAll_44 : decode cX6_playAll 44 = .ok (.getfield 116, 3) := by decide +kernel
theorem dX6_playAll_47 : decode cX6_playAll 47 = .ok (.if_icmp .gt 95, 3) := by decide +kernel
theorem dX6_playAll_50 : decode cX6_playAll 50 = .ok (.aload_n 0, 1) := by decide +kernel
theorem dX6_playAll_51 : decode cX6_playAll 51 = .ok (.getfield 30, 3) := by decide +kernel
theorem dX6_playAll_54 : decode cX6_playAll 54 = .ok (.iload 5, 2) := by decide +kernel
theorem dX6_playAll_56 : decode cX6_playAll 56 = .ok (.invokevirtual 119, 3) := by decide +kernel
theorem dX6_playAll_59 : decode cX6_playAll 59 = .ok (.istore 6, 2) := by decide +kernel
theorem dX6_playAll_61 : decode cX6_playAll 61 = .ok (.iload 6, 2) := by decide +kernel
theorem dX6_playAll_63 : decode cX6_playAll 63 = .ok (.bipush 44, 2) := by decide +kernel
theorem dX6_playAll_65 : decode cX6_playAll 65 = .ok (.if_icmp .ne 25, 3) := by decide +kernel
theorem dX6_playAll_68 : decode cX6_playAll 68 = .ok (.aload_n 0, 1) := by decide +kernel
theorem dX6_playAll_69 : decode cX6_playAll 69 = .ok (.iload_n 2, 1) := by decide +kernel
theorem dX6_playAll_70 : decode cX6_playAll 70 = .ok (.iload_n 3, 1) := by decide +kernel
theorem dX6_playAll_71 : decode cX6_playAll 71 = .ok (.iload 4, 2) := by decide +kernel
theorem dX6_playAll_73 : decode cX6_playAll 73 = .ok (.invokevirtual 123, 3) := by decide +kernel
theorem dX6_playAll_76 : decode cX6_playAll 76 = .ok (.ifCond .ne 6, 3) := by decide +kernel
theorem dX6_playAll_79 : decode cX6_playAll 79 = .ok (.goto 63, 3) := by decide +kernel
theorem dX6_playAll_82 : decode cX6_playAll 82 = .ok (.iinc 1 1, 3) := by decide +kernel
theorem dX6_playAll_85 : decode cX6_playAll 85 = .ok (.iconst 0, 1) := by decide +kernel
theorem dX6_playAll_86 : decode cX6_playAll 86 = .ok (.istore_n 3, 1) := by decide +kernel
theorem dX6_playAll_87 : decode cX6_playAll 87 = .ok (.goto 49, 3) := by decide +kernel
theorem dX6_playAll_90 : decode cX6_playAll 90 = .ok (.iload 6, 2) := by decide +kernel
theorem dX6_playAll_92 : decode cX6_playAll 92 = .ok (.bipush 45, 2) := by decide +kernel
theorem dX6_playAll_94 : decode cX6_playAll 94 = .ok (.if_icmp .eq 10, 3) := by decide +kernel
theorem dX6_playAll_97 : decode cX6_playAll 97 = .ok (.iload 6, 2) := by decide +kernel
theorem dX6_playAll_99 : decode cX6_playAll 99 = .ok (.bipush 120, 2) := by decide +kernel
theorem dX6_playAll_101 : decode cX6_playAll 101 = .ok (.if_icmp .ne 24, 3) := by decide +kernel
theorem dX6_playAll_104 : decode cX6_playAll 104 = .ok (.iload_n 3, 1) := by decide +kernel
theorem dX6_playAll_105 : decode cX6_playAll 105 = .ok (.istore_n 2, 1) := by decide +kernel
theorem dX6_playAll_106 : decode cX6_playAll 106 = .ok (.iload 6, 2) := by decide +kernel
theorem dX6_playAll_108 : decode cX6_playAll 108 = .ok (.bipush 120, 2) := by decide +kernel
theorem dX6_playAll_110 : decode cX6_playAll 110 = .ok (.if_icmp .ne 7, 3) := by decide +kernel
theorem dX6_playAll_113 : decode cX6_playAll 113 = .ok (.iconst 1, 1) := by decide +kernel
theorem dX6_playAll_114 : decode cX6_playAll 114 = .ok (.goto 4, 3) := by decide +kernel
theorem dX6_playAll_117 : decode cX6_playAll 117 = .ok (.iconst 0, 1) := by decide +kernel
theorem dX6_playAll_118 : decode cX6_playAll 118 = .ok (.istore 4, 2) := by decide +kernel
theorem dX6_playAll_120 : decode cX6_playAll 120 = .ok (.iconst 0, 1) := by decide +kernel
theorem dX6_playAll_121 : decode cX6_playAll 121 = .ok (.istore_n 3, 1) := by decide +kernel
theorem dX6_playAll_122 : decode cX6_playAll 122 = .ok (.goto 14, 3) := by decide +kernel
theorem dX6_playAll_125 : decode cX6_playAll 125 = .ok (.iload_n 3, 1) := by decide +kernel
theorem dX6_playAll_126 : decode cX6_playAll 126 = .ok (.bipush 10, 2) := by decide +kernel
theorem dX6_playAll_128 : decode cX6_playAll 128 = .ok (.imul, 1) := by decide +kernel
theorem dX6_playAll_129 : decode cX6_playAll 129 = .ok (.iload 6, 2) := by decide +kernel
theorem dX6_playAll_131 : decode cX6_playAll 131 = .ok (.bipush 48, 2) := by decide +kernel
theorem dX6_playAll_133 : decode cX6_playAll 133 = .ok (.isub, 1) := by decide +kernel
theorem dX6_playAll_134 : decode cX6_playAll 134 = .ok (.iadd, 1) := by decide +kernel
theorem dX6_playAll_135 : decode cX6_playAll 135 = .ok (.istore_n 3, 1) := by decide +kernel
theorem dX6_playAll_136 : decode cX6_playAll 136 = .ok (.iinc 5 1, 3) := by decide +kernel
theorem dX6_playAll_139 : decode cX6_playAll 139 = .ok (.goto (-101), 3) := by decide +kernel
theorem dX6_playAll_142 : decode cX6_playAll 142 = .ok (.aload_n 0, 1) := by decide +kernel
theorem dX6_playAll_143 : decode cX6_playAll 143 = .ok (.getfield 30, 3) := by decide +kernel
theorem dX6_playAll_146 : decode cX6_playAll 146 = .ok (.iconst 0, 1) := by decide +kernel
theorem dX6_playAll_147 : decode cX6_playAll 147 = .ok (.putfield 116, 3) := by decide +kernel
theorem dX6_playAll_150 : decode cX6_playAll 150 = .ok (.iload_n 1, 1) := by decide +kernel
theorem dX6_playAll_151 : decode cX6_playAll 151 = .ok (.ireturn, 1) := by decide +kernel
theorem dX6_giveUp_0 : decode cX6_giveUp 0 = .ok (.aload_n 0, 1) := by decide +kernel
theorem dX6_giveUp_1 : decode cX6_giveUp 1 = .ok (.getfield 10, 3) := by decide +kernel
theorem dX6_giveUp_4 : decode cX6_giveUp 4 = .ok (.getfield 105, 3) := by decide +kernel
theorem dX6_giveUp_7 : decode cX6_giveUp 7 = .ok (.ifCond .eq 6, 3) := by decide +kernel
theorem dX6_giveUp_10 : decode cX6_giveUp 10 = .ok (.bipush (-5), 2) := by decide +kernel
theorem dX6_giveUp_12 : decode cX6_giveUp 12 = .ok (.ireturn, 1) := by decide +kernel
theorem dX6_giveUp_13 : decode cX6_giveUp 13 = .ok (.aload_n 0, 1) := by decide +kernel
theorem dX6_giveUp_14 : decode cX6_giveUp 14 = .ok (.getfield 19, 3) := by decide +kernel
theorem dX6_giveUp_17 : decode cX6_giveUp 17 = .ok (.aload_n 0, 1) := by decide +kernel
theorem dX6_giveUp_18 : decode cX6_giveUp 18 = .ok (.getfield 10, 3) := by decide +kernel
theorem dX6_giveUp_21 : decode cX6_giveUp 21 = .ok (.invokevirtual 47, 3) := by decide +kernel
theorem dX6_giveUp_24 : decode cX6_giveUp 24 = .ok (.aload_n 0, 1) := by decide +kernel
theorem dX6_giveUp_25 : decode cX6_giveUp 25 = .ok (.getfield 10, 3) := by decide +kernel
theorem dX6_giveUp_28 : decode cX6_giveUp 28 = .ok (.iconst 1, 1) := by decide +kernel
theorem dX6_giveUp_29 : decode cX6_giveUp 29 = .ok (.aload_n 0, 1) := by decide +kernel
theorem dX6_giveUp_30 : decode cX6_giveUp 30 = .ok (.getfield 10, 3) := by decide +kernel
theorem dX6_giveUp_33 : decode cX6_giveUp 33 = .ok (.getfield 55, 3) := by decide +kernel
theorem dX6_giveUp_36 : decode cX6_giveUp 36 = .ok (.getfield 89, 3) := by decide +kernel
theorem dX6_giveUp_39 : decode cX6_giveUp 39 = .ok (.isub, 1) := by decide +kernel
theorem dX6_giveUp_40 : decode cX6_giveUp 40 = .ok (.invokestatic 127, 3) := by decide +kernel
theorem dX6_giveUp_43 : decode cX6_giveUp 43 = .ok (.putfield 105, 3) := by decide +kernel
theorem dX6_giveUp_46 : decode cX6_giveUp 46 = .ok (.aload_n 0, 1) := by decide +kernel
theorem dX6_giveUp_47 : decode cX6_giveUp 47 = .ok (.getfield 10, 3) := by decide +kernel
theorem dX6_giveUp_50 : decode cX6_giveUp 50 = .ok (.getfield 105, 3) := by decide +kernel
theorem dX6_giveUp_53 : decode cX6_giveUp 53 = .ok (.ireturn, 1) := by decide +kernel
theorem dX6_square_0 : decode cX6_square 0 = .ok (.iload_n 1, 1) := by decide +kernel
theorem dX6_square_1 : decode cX6_square 1 = .ok (.invokestatic 65, 3) := by decide +kernel
theorem dX6_square_4 : decode cX6_square 4 = .ok (.ifCond .ne 5, 3) := by decide +kernel
theorem dX6_square_7 : decode cX6_square 7 = .ok (.iconst (-1), 1) := by decide +kernel
theorem dX6_square_8 : decode cX6_square 8 = .ok (.ireturn, 1) := by decide +kernel
theorem dX6_square_9 : decode cX6_square 9 = .ok (.iload_n 2, 1) := by decide +kernel
theorem dX6_square_10 : decode cX6_square 10 = .ok (.tableswitch 74 0 4 #[34, 46, 51, 56, 65], 34) := by decide +kernel
theorem dX6_square_44 : decode cX6_square 44 = .ok (.aload_n 0, 1) := by decide +kernel
theorem dX6_square_45 : decode cX6_square 45 = .ok (.getfield 10, 3) := by decide +kernel
theorem dX6_square_48 : decode cX6_square 48 = .ok (.getfield 55, 3) := by decide +kernel
theorem dX6_square_51 : decode cX6_square 51 = .ok (.iload_n 1, 1) := by decide +kernel
theorem dX6_square_52 : decode cX6_square 52 = .ok (.invokevirtual 72, 3) := by decide +kernel
theorem dX6_square_55 : decode cX6_square 55 = .ok (.ireturn, 1) := by decide +kernel
theorem dX6_square_56 : decode cX6_square 56 = .ok (.iload_n 1, 1) := by decide +kernel
theorem dX6_square_57 : decode cX6_square 57 = .ok (.invokestatic 130, 3) := by decide +kernel
theorem dX6_square_60 : decode cX6_square 60 = .ok (.ireturn, 1) := by decide +kernel
theorem dX6_square_61 : decode cX6_square 61 = .ok (.iload_n 1, 1) := by decide +kernel
theorem dX6_square_62 : decode cX6_square 62 = .ok (.invokestatic 133, 3) := by decide +kernel
theorem dX6_square_65 : decode cX6_square 65 = .ok (.ireturn, 1) := by decide +kernel
theorem dX6_square_66 : decode cX6_square 66 = .ok (.aload_n 0, 1) := by decide +kernel
theorem dX6_square_67 : decode cX6_square 67 = .ok (.iload_n 1, 1) := by decide +kernel
theorem dX6_square_68 : decode cX6_square 68 = .ok (.invokevirtual 136, 3) := by decide +kernel
theorem dX6_square_71 : decode cX6_square 71 = .ok (.invokestatic 139, 3) := by decide +kernel
theorem dX6_square_74 : decode cX6_square 74 = .ok (.ireturn, 1) := by decide +kernel
theorem dX6_square_75 : decode cX6_square 75 = .ok (.aload_n 0, 1) := by decide +kernel
theorem dX6_square_76 : decode cX6_square 76 = .ok (.invokevirtual 92, 3) := by decide +kernel
theorem dX6_square_79 : decode cX6_square 79 = .ok (.iload_n 1, 1) := by decide +kernel
theorem dX6_square_80 : decode cX6_square 80 = .ok (.invokevirtual 143, 3) := by decide +kernel
theorem dX6_square_83 : decode cX6_square 83 = .ok (.ireturn, 1) := by decide +kernel
theorem dX6_square_84 : decode cX6_square 84 = .ok (.bipush (-2), 2) := by decide +kernel
theorem dX6_square_86 : decode cX6_square 86 = .ok (.ireturn, 1) := by decide +kernel
theorem dX6_step_0 : decode cX6_step 0 = .ok (.iload_n 1, 1) := by decide +kernel
theorem dX6_step_1 : decode cX6_step 1 = .ok (.invokestatic 65, 3) := by decide +kernel
theorem dX6_step_4 : decode cX6_step 4 = .ok (.ifCond .ne 5, 3) := by decide +kernel
theorem dX6_step_7 : decode cX6_step 7 = .ok (.iconst (-1), 1) := by decide +kernel
theorem dX6_step_8 : decode cX6_step 8 = .ok (.ireturn, 1) := by decide +kernel
theorem dX6_step_9 : decode cX6_step 9 = .ok (.iload_n 2, 1) := by decide +kernel
theorem dX6_step_10 : decode cX6_step 10 = .ok (.ifCond .lt 8, 3) := by decide +kernel
theorem dX6_step_13 : decode cX6_step 13 = .ok (.iload_n 2, 1) := by decide +kernel
theorem dX6_step_14 : decode cX6_step 14 = .ok (.iconst 4, 1) := by decide +kernel
theorem dX6_step_15 : decode cX6_step 15 = .ok (.if_icmp .lt 6, 3) := by decide +kernel
theorem dX6_step_18 : decode cX6_step 18 = .ok (.bipush (-2), 2) := by decide +kernel
theorem dX6_step_20 : decode cX6_step 20 = .ok (.ireturn, 1) := by decide +kernel
theorem dX6_step_21 : decode cX6_step 21 = .ok (.iload_n 1, 1) := by decide +kernel
theorem dX6_step_22 : decode cX6_step 22 = .ok (.iload_n 2, 1) := by decide +kernel
theorem dX6_step_23 : decode cX6_step 23 = .ok (.iconst 1, 1) := by decide +kernel
theorem dX6_step_24 : decode cX6_step 24 = .ok (.invokestatic 146, 3) := by decide +kernel
theorem dX6_step_27 : decode cX6_step 27 = .ok (.ireturn, 1) := by decide +kernel
theorem dX6_ofHop_0 : decode cX6_ofHop 0 = .ok (.aload_n 0, 1) := by decide +kernel
theorem dX6_ofHop_1 : decode cX6_ofHop 1 = .ok (.invokevirtual 92, 3) := by decide +kernel
theorem dX6_ofHop_4 : decode cX6_ofHop 4 = .ok (.astore_n 3, 1) := by decide +kernel
theorem dX6_ofHop_5 : decode cX6_ofHop 5 = .ok (.aload_n 3, 1) := by decide +kernel
theorem dX6_ofHop_6 : decode cX6_ofHop 6 = .ok (.iload_n 1, 1) := by decide +kernel
theorem dX6_ofHop_7 : decode cX6_ofHop 7 = .ok (.invokevirtual 96, 3) := by decide +kernel
theorem dX6_ofHop_10 : decode cX6_ofHop 10 = .ok (.ifCond .ne 5, 3) := by decide +kernel
theorem dX6_ofHop_13 : decode cX6_ofHop 13 = .ok (.iconst (-1), 1) := by decide +kernel
theorem dX6_ofHop_14 : decode cX6_ofHop 14 = .ok (.ireturn, 1) := by decide +kernel
theorem dX6_ofHop_15 : decode cX6_ofHop 15 = .ok (.iload_n 2, 1) := by decide +kernel
theorem dX6_ofHop_16 : decode cX6_ofHop 16 = .ok (.tableswitch 115 0 6 #[44, 50, 56, 62, 68, 74, 106], 44) := by decide +kernel
theorem dX6_ofHop_60 : decode cX6_ofHop 60 = .ok (.aload_n 3, 1) := by decide +kernel
theorem dX6_ofHop_61 : decode cX6_ofHop 61 = .ok (.iload_n 1, 1) := by decide +kernel
theorem dX6_ofHop_62 : decode cX6_ofHop 62 = .ok (.invokevirtual 150, 3) := by decide +kernel
theorem dX6_ofHop_65 : decode cX6_ofHop 65 = .ok (.ireturn, 1) := by decide +kernel
theorem dX6_ofHop_66 : decode cX6_ofHop 66 = .ok (.aload_n 3, 1) := by decide +kernel
theorem dX6_ofHop_67 : decode cX6_ofHop 67 = .ok (.iload_n 1, 1) := by decide +kernel
theorem dX6_ofHop_68 : decode cX6_ofHop 68 = .ok (.invokevirtual 153, 3) := by decide +kernel
theorem dX6_ofHop_71 : decode cX6_ofHop 71 = .ok (.ireturn, 1) := by decide +kernel
theorem dX6_ofHop_72 : decode cX6_ofHop 72 = .ok (.aload_n 3, 1) := by decide +kernel
theorem dX6_ofHop_73 : decode cX6_ofHop 73 = .ok (.iload_n 1, 1) := by decide +kernel
theorem dX6_ofHop_74 : decode cX6_ofHop 74 = .ok (.invokevirtual 156, 3) := by decide +kernel
theorem dX6_ofHop_77 : decode cX6_ofHop 77 = .ok (.ireturn, 1) := by decide +kernel
theorem dX6_ofHop_78 : decode cX6_ofHop 78 = .ok (.aload_n 3, 1) := by decide +kernel
theorem dX6_ofHop_79 : decode cX6_ofHop 79 = .ok (.iload_n 1, 1) := by decide +kernel
theorem dX6_ofHop_80 : decode cX6_ofHop 80 = .ok (.invokevirtual 159, 3) := by decide +kernel
theorem dX6_ofHop_83 : decode cX6_ofHop 83 = .ok (.ireturn, 1) := by decide +kernel
theorem dX6_ofHop_84 : decode cX6_ofHop 84 = .ok (.aload_n 3, 1) := by decide +kernel
theorem dX6_ofHop_85 : decode cX6_ofHop 85 = .ok (.iload_n 1, 1) := by decide +kernel
theorem dX6_ofHop_86 : decode cX6_ofHop 86 = .ok (.invokevirtual 162, 3) := by decide +kernel
theorem dX6_ofHop_89 : decode cX6_ofHop 89 = .ok (.ireturn, 1) := by decide +kernel
theorem dX6_ofHop_90 : decode cX6_ofHop 90 = .ok (.aload_n 0, 1) := by decide +kernel
theorem dX6_ofHop_91 : decode cX6_ofHop 91 = .ok (.getfield 10, 3) := by decide +kernel
theorem dX6_ofHop_94 : decode cX6_ofHop 94 = .ok (.getfield 55, 3) := by decide +kernel
theorem dX6_ofHop_97 : decode cX6_ofHop 97 = .ok (.aload_n 3, 1) := by decide +kernel
theorem dX6_ofHop_98 : decode cX6_ofHop 98 = .ok (.iload_n 1, 1) := by decide +kernel
theorem dX6_ofHop_99 : decode cX6_ofHop 99 = .ok (.invokevirtual 150, 3) := by decide +kernel
theorem dX6_ofHop_102 : decode cX6_ofHop 102 = .ok (.invokevirtual 72, 3) := by decide +kernel
theorem dX6_ofHop_105 : decode cX6_ofHop 105 = .ok (.aload_n 3, 1) := by decide +kernel
theorem dX6_ofHop_106 : decode cX6_ofHop 106 = .ok (.iload_n 1, 1) := by decide +kernel
theorem dX6_ofHop_107 : decode cX6_ofHop 107 = .ok (.invokevirtual 150, 3) := by decide +kernel
theorem dX6_ofHop_110 : decode cX6_ofHop 110 = .ok (.aload_n 3, 1) := by decide +kernel
theorem dX6_ofHop_111 : decode cX6_ofHop 111 = .ok (.iload_n 1, 1) := by decide +kernel
theorem dX6_ofHop_112 : decode cX6_ofHop 112 = .ok (.invokevirtual 159, 3) := by decide +kernel
theorem dX6_ofHop_115 : decode cX6_ofHop 115 = .ok (.invokestatic 165, 3) := by decide +kernel
theorem dX6_ofHop_118 : decode cX6_ofHop 118 = .ok (.invokestatic 139, 3) := by decide +kernel
theorem dX6_ofHop_121 : decode cX6_ofHop 121 = .ok (.ireturn, 1) := by decide +kernel
theorem dX6_ofHop_122 : decode cX6_ofHop 122 = .ok (.aload_n 0, 1) := by decide +kernel
theorem dX6_ofHop_123 : decode cX6_ofHop 123 = .ok (.iload_n 1, 1) := by decide +kernel
theorem dX6_ofHop_124 : decode cX6_ofHop 124 = .ok (.invokevirtual 169, 3) := by decide +kernel
theorem dX6_ofHop_127 : decode cX6_ofHop 127 = .ok (.invokestatic 139, 3) := by decide +kernel
theorem dX6_ofHop_130 : decode cX6_ofHop 130 = .ok (.ireturn, 1) := by decide +kernel
theorem dX6_ofHop_131 : decode cX6_ofHop 131 = .ok (.bipush (-2), 2) := by decide +kernel
theorem dX6_ofHop_133 : decode cX6_ofHop 133 = .ok (.ireturn, 1) := by decide +kernel
theorem dX6_side_0 : decode cX6_side 0 = .ok (.iload_n 1, 1) := by decide +kernel
theorem dX6_side_1 : decode cX6_side 1 = .ok (.invokestatic 86, 3) := by decide +kernel
theorem dX6_side_4 : decode cX6_side 4 = .ok (.ifCond .ne 6, 3) := by decide +kernel
theorem dX6_side_7 : decode cX6_side 7 = .ok (.bipush (-2), 2) := by decide +kernel
theorem dX6_side_9 : decode cX6_side 9 = .ok (.ireturn, 1) := by decide +kernel
theorem dX6_side_10 : decode cX6_side 10 = .ok (.iload_n 2, 1) := by decide +kernel
theorem dX6_side_11 : decode cX6_side 11 = .ok (.tableswitch 89 0 4 #[33, 45, 57, 67, 77], 33) := by decide +kernel
theorem dX6_side_44 : decode cX6_side 44 = .ok (.aload_n 0, 1) := by decide +kernel
theorem dX6_side_45 : decode cX6_side 45 = .ok (.getfield 10, 3) := by decide +kernel
theorem dX6_side_48 : decode cX6_side 48 = .ok (.getfield 55, 3) := by decide +kernel
theorem dX6_side_51 : decode cX6_side 51 = .ok (.iload_n 1, 1) := by decide +kernel
theorem dX6_side_52 : decode cX6_side 52 = .ok (.invokevirtual 172, 3) := by decide +kernel
theorem dX6_side_55 : decode cX6_side 55 = .ok (.ireturn, 1) := by decide +kernel
theorem dX6_side_56 : decode cX6_side 56 = .ok (.aload_n 0, 1) := by decide +kernel
theorem dX6_side_57 : decode cX6_side 57 = .ok (.getfield 10, 3) := by decide +kernel
end
section
theorem dX6_side_60 : decode cX6_side 60 = .ok (.getfield 55, 3) := by decide +kernel
theorem dX6_side_63 : decode cX6_side 63 = .ok (.iload_n 1, 1) := by decide +kernel
theorem dX6_side_64 : decode cX6_side 64 = .ok (.invokevirtual 175, 3) := by decide +kernel
theorem dX6_side_67 : decode cX6_side 67 = .ok (.ireturn, 1) := by decide +kernel
theorem dX6_side_68 : decode cX6_side 68 = .ok (.aload_n 0, 1) := by decide +kernel
theorem dX6_side_69 : decode cX6_side 69 = .ok (.getfield 10, 3) := by decide +kernel
theorem dX6_side_72 : decode cX6_side 72 = .ok (.getfield 178, 3) := by decide +kernel
theorem dX6_side_75 : decode cX6_side 75 = .ok (.iload_n 1, 1) := by decide +kernel
theorem dX6_side_76 : decode cX6_side 76 = .ok (.iaload, 1) := by decide +kernel
theorem dX6_side_77 : decode cX6_side 77 = .ok (.ireturn, 1) := by decide +kernel
theorem dX6_side_78 : decode cX6_side 78 = .ok (.aload_n 0, 1) := by decide +kernel
theorem dX6_side_79 : decode cX6_side 79 = .ok (.getfield 10, 3) := by decide +kernel
theorem dX6_side_82 : decode cX6_side 82 = .ok (.getfield 182, 3) := by decide +kernel
theorem dX6_side_85 : decode cX6_side 85 = .ok (.iload_n 1, 1) := by decide +kernel
theorem dX6_side_86 : decode cX6_side 86 = .ok (.iaload, 1) := by decide +kernel
theorem dX6_side_87 : decode cX6_side 87 = .ok (.ireturn, 1) := by decide +kernel
theorem dX6_side_88 : decode cX6_side 88 = .ok (.aload_n 0, 1) := by decide +kernel
theorem dX6_side_89 : decode cX6_side 89 = .ok (.getfield 10, 3) := by decide +kernel
theorem dX6_side_92 : decode cX6_side 92 = .ok (.getfield 55, 3) := by decide +kernel
theorem dX6_side_95 : decode cX6_side 95 = .ok (.iload_n 1, 1) := by decide +kernel
theorem dX6_side_96 : decode cX6_side 96 = .ok (.invokevirtual 185, 3) := by decide +kernel
theorem dX6_side_99 : decode cX6_side 99 = .ok (.ireturn, 1) := by decide +kernel
theorem dX6_side_100 : decode cX6_side 100 = .ok (.bipush (-2), 2) := by decide +kernel
theorem dX6_side_102 : decode cX6_side 102 = .ok (.ireturn, 1) := by decide +kernel
theorem dX6_count_0 : decode cX6_count 0 = .ok (.iload_n 1, 1) := by decide +kernel
theorem dX6_count_1 : decode cX6_count 1 = .ok (.tableswitch 141 0 9 #[55, 63, 74, 82, 90, 101, 109, 117, 125, 133], 55) := by decide +kernel
theorem dX6_count_56 : decode cX6_count 56 = .ok (.aload_n 0, 1) := by decide +kernel
theorem dX6_count_57 : decode cX6_count 57 = .ok (.getfield 10, 3) := by decide +kernel
theorem dX6_count_60 : decode cX6_count 60 = .ok (.getfield 105, 3) := by decide +kernel
theorem dX6_count_63 : decode cX6_count 63 = .ok (.ireturn, 1) := by decide +kernel
theorem dX6_count_64 : decode cX6_count 64 = .ok (.aload_n 0, 1) := by decide +kernel
theorem dX6_count_65 : decode cX6_count 65 = .ok (.getfield 10, 3) := by decide +kernel
theorem dX6_count_68 : decode cX6_count 68 = .ok (.getfield 55, 3) := by decide +kernel
theorem dX6_count_71 : decode cX6_count 71 = .ok (.getfield 89, 3) := by decide +kernel
theorem dX6_count_74 : decode cX6_count 74 = .ok (.ireturn, 1) := by decide +kernel
theorem dX6_count_75 : decode cX6_count 75 = .ok (.aload_n 0, 1) := by decide +kernel
theorem dX6_count_76 : decode cX6_count 76 = .ok (.invokevirtual 92, 3) := by decide +kernel
theorem dX6_count_79 : decode cX6_count 79 = .ok (.getfield 188, 3) := by decide +kernel
theorem dX6_count_82 : decode cX6_count 82 = .ok (.ireturn, 1) := by decide +kernel
theorem dX6_count_83 : decode cX6_count 83 = .ok (.aload_n 0, 1) := by decide +kernel
theorem dX6_count_84 : decode cX6_count 84 = .ok (.getfield 10, 3) := by decide +kernel
theorem dX6_count_87 : decode cX6_count 87 = .ok (.getfield 191, 3) := by decide +kernel
theorem dX6_count_90 : decode cX6_count 90 = .ok (.ireturn, 1) := by decide +kernel
theorem dX6_count_91 : decode cX6_count 91 = .ok (.aload_n 0, 1) := by decide +kernel
theorem dX6_count_92 : decode cX6_count 92 = .ok (.getfield 10, 3) := by decide +kernel
theorem dX6_count_95 : decode cX6_count 95 = .ok (.getfield 55, 3) := by decide +kernel
theorem dX6_count_98 : decode cX6_count 98 = .ok (.getfield 194, 3) := by decide +kernel
theorem dX6_count_101 : decode cX6_count 101 = .ok (.ireturn, 1) := by decide +kernel
theorem dX6_count_102 : decode cX6_count 102 = .ok (.aload_n 0, 1) := by decide +kernel
theorem dX6_count_103 : decode cX6_count 103 = .ok (.getfield 10, 3) := by decide +kernel
theorem dX6_count_106 : decode cX6_count 106 = .ok (.invokevirtual 197, 3) := by decide +kernel
theorem dX6_count_109 : decode cX6_count 109 = .ok (.ireturn, 1) := by decide +kernel
theorem dX6_count_110 : decode cX6_count 110 = .ok (.aload_n 0, 1) := by decide +kernel
theorem dX6_count_111 : decode cX6_count 111 = .ok (.getfield 10, 3) := by decide +kernel
theorem dX6_count_114 : decode cX6_count 114 = .ok (.getfield 200, 3) := by decide +kernel
theorem dX6_count_117 : decode cX6_count 117 = .ok (.ireturn, 1) := by decide +kernel
theorem dX6_count_118 : decode cX6_count 118 = .ok (.aload_n 0, 1) := by decide +kernel
theorem dX6_count_119 : decode cX6_count 119 = .ok (.getfield 10, 3) := by decide +kernel
theorem dX6_count_122 : decode cX6_count 122 = .ok (.getfield 51, 3) := by decide +kernel
theorem dX6_count_125 : decode cX6_count 125 = .ok (.ireturn, 1) := by decide +kernel
theorem dX6_count_126 : decode cX6_count 126 = .ok (.aload_n 0, 1) := by decide +kernel
theorem dX6_count_127 : decode cX6_count 127 = .ok (.getfield 30, 3) := by decide +kernel
theorem dX6_count_130 : decode cX6_count 130 = .ok (.getfield 116, 3) := by decide +kernel
theorem dX6_count_133 : decode cX6_count 133 = .ok (.ireturn, 1) := by decide +kernel
theorem dX6_count_134 : decode cX6_count 134 = .ok (.aload_n 0, 1) := by decide +kernel
theorem dX6_count_135 : decode cX6_count 135 = .ok (.getfield 19, 3) := by decide +kernel
theorem dX6_count_138 : decode cX6_count 138 = .ok (.getfield 203, 3) := by decide +kernel
theorem dX6_count_141 : decode cX6_count 141 = .ok (.ireturn, 1) := by decide +kernel
theorem dX6_count_142 : decode cX6_count 142 = .ok (.bipush (-2), 2) := by decide +kernel
theorem dX6_count_144 : decode cX6_count 144 = .ok (.ireturn, 1) := by decide +kernel
theorem dX6_rows_0 : decode cX6_rows 0 = .ok (.iload_n 1, 1) := by decide +kernel
theorem dX6_rows_1 : decode cX6_rows 1 = .ok (.iconst 1, 1) := by decide +kernel
theorem dX6_rows_2 : decode cX6_rows 2 = .ok (.if_icmp .lt 8, 3) := by decide +kernel
theorem dX6_rows_5 : decode cX6_rows 5 = .ok (.iload_n 1, 1) := by decide +kernel
theorem dX6_rows_6 : decode cX6_rows 6 = .ok (.iconst 3, 1) := by decide +kernel
theorem dX6_rows_7 : decode cX6_rows 7 = .ok (.if_icmp .le 6, 3) := by decide +kernel
theorem dX6_rows_10 : decode cX6_rows 10 = .ok (.bipush (-2), 2) := by decide +kernel
theorem dX6_rows_12 : decode cX6_rows 12 = .ok (.ireturn, 1) := by decide +kernel
theorem dX6_rows_13 : decode cX6_rows 13 = .ok (.aload_n 0, 1) := by decide +kernel
theorem dX6_rows_14 : decode cX6_rows 14 = .ok (.getfield 10, 3) := by decide +kernel
theorem dX6_rows_17 : decode cX6_rows 17 = .ok (.getfield 105, 3) := by decide +kernel
theorem dX6_rows_20 : decode cX6_rows 20 = .ok (.ifCond .eq 5, 3) := by decide +kernel
theorem dX6_rows_23 : decode cX6_rows 23 = .ok (.iconst 0, 1) := by decide +kernel
theorem dX6_rows_24 : decode cX6_rows 24 = .ok (.ireturn, 1) := by decide +kernel
theorem dX6_rows_25 : decode cX6_rows 25 = .ok (.aload_n 0, 1) := by decide +kernel
theorem dX6_rows_26 : decode cX6_rows 26 = .ok (.getfield 39, 3) := by decide +kernel
theorem dX6_rows_29 : decode cX6_rows 29 = .ok (.getfield 204, 3) := by decide +kernel
theorem dX6_rows_32 : decode cX6_rows 32 = .ok (.aload_n 0, 1) := by decide +kernel
theorem dX6_rows_33 : decode cX6_rows 33 = .ok (.getfield 10, 3) := by decide +kernel
theorem dX6_rows_36 : decode cX6_rows 36 = .ok (.getfield 55, 3) := by decide +kernel
theorem dX6_rows_39 : decode cX6_rows 39 = .ok (.invokevirtual 205, 3) := by decide +kernel
theorem dX6_rows_42 : decode cX6_rows 42 = .ok (.aload_n 0, 1) := by decide +kernel
theorem dX6_rows_43 : decode cX6_rows 43 = .ok (.getfield 39, 3) := by decide +kernel
theorem dX6_rows_46 : decode cX6_rows 46 = .ok (.iload_n 1, 1) := by decide +kernel
theorem dX6_rows_47 : decode cX6_rows 47 = .ok (.sipush 20000, 3) := by decide +kernel
theorem dX6_rows_50 : decode cX6_rows 50 = .ok (.invokestatic 209, 3) := by decide +kernel
theorem dX6_rows_53 : decode cX6_rows 53 = .ok (.ireturn, 1) := by decide +kernel
theorem dX6_worth_0 : decode cX6_worth 0 = .ok (.iload_n 1, 1) := by decide +kernel
theorem dX6_worth_1 : decode cX6_worth 1 = .ok (.ifCond .lt 8, 3) := by decide +kernel
theorem dX6_worth_4 : decode cX6_worth 4 = .ok (.iload_n 1, 1) := by decide +kernel
theorem dX6_worth_5 : decode cX6_worth 5 = .ok (.iconst 2, 1) := by decide +kernel
theorem dX6_worth_6 : decode cX6_worth 6 = .ok (.if_icmp .le 6, 3) := by decide +kernel
theorem dX6_worth_9 : decode cX6_worth 9 = .ok (.bipush (-2), 2) := by decide +kernel
theorem dX6_worth_11 : decode cX6_worth 11 = .ok (.ireturn, 1) := by decide +kernel
theorem dX6_worth_12 : decode cX6_worth 12 = .ok (.aload_n 0, 1) := by decide +kernel
theorem dX6_worth_13 : decode cX6_worth 13 = .ok (.getfield 10, 3) := by decide +kernel
theorem dX6_worth_16 : decode cX6_worth 16 = .ok (.getfield 105, 3) := by decide +kernel
theorem dX6_worth_19 : decode cX6_worth 19 = .ok (.ifCond .eq 6, 3) := by decide +kernel
theorem dX6_worth_22 : decode cX6_worth 22 = .ok (.bipush (-5), 2) := by decide +kernel
theorem dX6_worth_24 : decode cX6_worth 24 = .ok (.ireturn, 1) := by decide +kernel
theorem dX6_worth_25 : decode cX6_worth 25 = .ok (.aload_n 0, 1) := by decide +kernel
theorem dX6_worth_26 : decode cX6_worth 26 = .ok (.getfield 39, 3) := by decide +kernel
theorem dX6_worth_29 : decode cX6_worth 29 = .ok (.getfield 204, 3) := by decide +kernel
theorem dX6_worth_32 : decode cX6_worth 32 = .ok (.aload_n 0, 1) := by decide +kernel
theorem dX6_worth_33 : decode cX6_worth 33 = .ok (.getfield 10, 3) := by decide +kernel
theorem dX6_worth_36 : decode cX6_worth 36 = .ok (.getfield 55, 3) := by decide +kernel
theorem dX6_worth_39 : decode cX6_worth 39 = .ok (.invokevirtual 205, 3) := by decide +kernel
theorem dX6_worth_42 : decode cX6_worth 42 = .ok (.sipush 1000, 3) := by decide +kernel
theorem dX6_worth_45 : decode cX6_worth 45 = .ok (.aload_n 0, 1) := by decide +kernel
theorem dX6_worth_46 : decode cX6_worth 46 = .ok (.getfield 39, 3) := by decide +kernel
theorem dX6_worth_49 : decode cX6_worth 49 = .ok (.iload_n 1, 1) := by decide +kernel
theorem dX6_worth_50 : decode cX6_worth 50 = .ok (.aload_n 0, 1) := by decide +kernel
theorem dX6_worth_51 : decode cX6_worth 51 = .ok (.getfield 39, 3) := by decide +kernel
theorem dX6_worth_54 : decode cX6_worth 54 = .ok (.getfield 204, 3) := by decide +kernel
theorem dX6_worth_57 : decode cX6_worth 57 = .ok (.getfield 89, 3) := by decide +kernel
theorem dX6_worth_60 : decode cX6_worth 60 = .ok (.invokestatic 213, 3) := by decide +kernel
theorem dX6_worth_63 : decode cX6_worth 63 = .ok (.iadd, 1) := by decide +kernel
theorem dX6_worth_64 : decode cX6_worth 64 = .ok (.ireturn, 1) := by decide +kernel
theorem dX6_best_0 : decode cX6_best 0 = .ok (.iload_n 1, 1) := by decide +kernel
theorem dX6_best_1 : decode cX6_best 1 = .ok (.iconst 1, 1) := by decide +kernel
theorem dX6_best_2 : decode cX6_best 2 = .ok (.if_icmp .lt 8, 3) := by decide +kernel
theorem dX6_best_5 : decode cX6_best 5 = .ok (.iload_n 1, 1) := by decide +kernel
theorem dX6_best_6 : decode cX6_best 6 = .ok (.iconst 2, 1) := by decide +kernel
theorem dX6_best_7 : decode cX6_best 7 = .ok (.if_icmp .le 6, 3) := by decide +kernel
theorem dX6_best_10 : decode cX6_best 10 = .ok (.bipush (-2), 2) := by decide +kernel
theorem dX6_best_12 : decode cX6_best 12 = .ok (.ireturn, 1) := by decide +kernel
theorem dX6_best_13 : decode cX6_best 13 = .ok (.aload_n 0, 1) := by decide +kernel
theorem dX6_best_14 : decode cX6_best 14 = .ok (.getfield 10, 3) := by decide +kernel
theorem dX6_best_17 : decode cX6_best 17 = .ok (.getfield 105, 3) := by decide +kernel
theorem dX6_best_20 : decode cX6_best 20 = .ok (.ifCond .eq 6, 3) := by decide +kernel
theorem dX6_best_23 : decode cX6_best 23 = .ok (.bipush (-5), 2) := by decide +kernel
theorem dX6_best_25 : decode cX6_best 25 = .ok (.ireturn, 1) := by decide +kernel
theorem dX6_best_26 : decode cX6_best 26 = .ok (.iconst 0, 1) := by decide +kernel
theorem dX6_best_27 : decode cX6_best 27 = .ok (.istore_n 2, 1) := by decide +kernel
theorem dX6_best_28 : decode cX6_best 28 = .ok (.iconst 0, 1) := by decide +kernel
theorem dX6_best_29 : decode cX6_best 29 = .ok (.istore_n 3, 1) := by decide +kernel
theorem dX6_best_30 : decode cX6_best 30 = .ok (.aload_n 0, 1) := by decide +kernel
theorem dX6_best_31 : decode cX6_best 31 = .ok (.invokevirtual 92, 3) := by decide +kernel
theorem dX6_best_34 : decode cX6_best 34 = .ok (.getfield 188, 3) := by decide +kernel
theorem dX6_best_37 : decode cX6_best 37 = .ok (.istore 4, 2) := by decide +kernel
theorem dX6_best_39 : decode cX6_best 39 = .ok (.iconst 0, 1) := by decide +kernel
theorem dX6_best_40 : decode cX6_best 40 = .ok (.istore 5, 2) := by decide +kernel
theorem dX6_best_42 : decode cX6_best 42 = .ok (.iload 5, 2) := by decide +kernel
theorem dX6_best_44 : decode cX6_best 44 = .ok (.iload 4, 2) := by decide +kernel
theorem dX6_best_46 : decode cX6_best 46 = .ok (.if_icmp .ge 60, 3) := by decide +kernel
theorem dX6_best_49 : decode cX6_best 49 = .ok (.aload_n 0, 1) := by decide +kernel
theorem dX6_best_50 : decode cX6_best 50 = .ok (.getfield 39, 3) := by decide +kernel
theorem dX6_best_53 : decode cX6_best 53 = .ok (.iload 5, 2) := by decide +kernel
theorem dX6_best_55 : decode cX6_best 55 = .ok (.invokevirtual 216, 3) := by decide +kernel
theorem dX6_best_58 : decode cX6_best 58 = .ok (.aload_n 0, 1) := by decide +kernel
theorem dX6_best_59 : decode cX6_best 59 = .ok (.getfield 39, 3) := by decide +kernel
theorem dX6_best_62 : decode cX6_best 62 = .ok (.getfield 220, 3) := by decide +kernel
theorem dX6_best_65 : decode cX6_best 65 = .ok (.iload_n 1, 1) := by decide +kernel
theorem dX6_best_66 : decode cX6_best 66 = .ok (.iconst 1, 1) := by decide +kernel
theorem dX6_best_67 : decode cX6_best 67 = .ok (.isub, 1) := by decide +kernel
theorem dX6_best_68 : decode cX6_best 68 = .ok (.aload_n 0, 1) := by decide +kernel
theorem dX6_best_69 : decode cX6_best 69 = .ok (.getfield 39, 3) := by decide +kernel
theorem dX6_best_72 : decode cX6_best 72 = .ok (.getfield 204, 3) := by decide +kernel
theorem dX6_best_75 : decode cX6_best 75 = .ok (.getfield 89, 3) := by decide +kernel
theorem dX6_best_78 : decode cX6_best 78 = .ok (.invokestatic 213, 3) := by decide +kernel
theorem dX6_best_81 : decode cX6_best 81 = .ok (.istore 6, 2) := by decide +kernel
theorem dX6_best_83 : decode cX6_best 83 = .ok (.iload 5, 2) := by decide +kernel
theorem dX6_best_85 : decode cX6_best 85 = .ok (.ifCond .eq 9, 3) := by decide +kernel
theorem dX6_best_88 : decode cX6_best 88 = .ok (.iload 6, 2) := by decide +kernel
theorem dX6_best_90 : decode cX6_best 90 = .ok (.iload_n 3, 1) := by decide +kernel
theorem dX6_best_91 : decode cX6_best 91 = .ok (.if_icmp .le 9, 3) := by decide +kernel
theorem dX6_best_94 : decode cX6_best 94 = .ok (.iload 5, 2) := by decide +kernel
theorem dX6_best_96 : decode cX6_best 96 = .ok (.istore_n 2, 1) := by decide +kernel
theorem dX6_best_97 : decode cX6_best 97 = .ok (.iload 6, 2) := by decide +kernel
theorem dX6_best_99 : decode cX6_best 99 = .ok (.istore_n 3, 1) := by decide +kernel
theorem dX6_best_100 : decode cX6_best 100 = .ok (.iinc 5 1, 3) := by decide +kernel
theorem dX6_best_103 : decode cX6_best 103 = .ok (.goto (-61), 3) := by decide +kernel
theorem dX6_best_106 : decode cX6_best 106 = .ok (.iload_n 2, 1) := by decide +kernel
theorem dX6_best_107 : decode cX6_best 107 = .ok (.ireturn, 1) := by decide +kernel
theorem dX6_put_0 : decode cX6_put 0 = .ok (.lload_n 1, 1) := by decide +kernel
theorem dX6_put_1 : decode cX6_put 1 = .ok (.invokestatic 223, 3) := by decide +kernel
theorem dX6_put_4 : decode cX6_put 4 = .ok (.istore_n 3, 1) := by decide +kernel
theorem dX6_put_5 : decode cX6_put 5 = .ok (.iload_n 3, 1) := by decide +kernel
theorem dX6_put_6 : decode cX6_put 6 = .ok (.ifCond .ne 6, 3) := by decide +kernel
theorem dX6_put_9 : decode cX6_put 9 = .ok (.bipush (-2), 2) := by decide +kernel
theorem dX6_put_11 : decode cX6_put 11 = .ok (.ireturn, 1) := by decide +kernel
theorem dX6_put_12 : decode cX6_put 12 = .ok (.aload_n 0, 1) := by decide +kernel
theorem dX6_put_13 : decode cX6_put 13 = .ok (.getfield 30, 3) := by decide +kernel
theorem dX6_put_16 : decode cX6_put 16 = .ok (.getfield 116, 3) := by decide +kernel
theorem dX6_put_19 : decode cX6_put 19 = .ok (.iload_n 3, 1) := by decide +kernel
theorem dX6_put_20 : decode cX6_put 20 = .ok (.iadd, 1) := by decide +kernel
theorem dX6_put_21 : decode cX6_put 21 = .ok (.bipush 60, 2) := by decide +kernel
theorem dX6_put_23 : decode cX6_put 23 = .ok (.if_icmp .le 6, 3) := by decide +kernel
theorem dX6_put_26 : decode cX6_put 26 = .ok (.bipush (-4), 2) := by decide +kernel
theorem dX6_put_28 : decode cX6_put 28 = .ok (.ireturn, 1) := by decide +kernel
theorem dX6_put_29 : decode cX6_put 29 = .ok (.aload_n 0, 1) := by decide +kernel
theorem dX6_put_30 : decode cX6_put 30 = .ok (.getfield 30, 3) := by decide +kernel
theorem dX6_put_33 : decode cX6_put 33 = .ok (.lload_n 1, 1) := by decide +kernel
theorem dX6_put_34 : decode cX6_put 34 = .ok (.iload_n 3, 1) := by decide +kernel
theorem dX6_put_35 : decode cX6_put 35 = .ok (.invokevirtual 227, 3) := by decide +kernel
theorem dX6_put_38 : decode cX6_put 38 = .ok (.aload_n 0, 1) := by decide +kernel
theorem dX6_put_39 : decode cX6_put 39 = .ok (.getfield 30, 3) := by decide +kernel
theorem dX6_put_42 : decode cX6_put 42 = .ok (.getfield 116, 3) := by decide +kernel
theorem dX6_put_45 : decode cX6_put 45 = .ok (.ireturn, 1) := by decide +kernel
theorem dX6_wipe_0 : decode cX6_wipe 0 = .ok (.aload_n 0, 1) := by decide +kernel
theorem dX6_wipe_1 : decode cX6_wipe 1 = .ok (.getfield 30, 3) := by decide +kernel
theorem dX6_wipe_4 : decode cX6_wipe 4 = .ok (.getfield 116, 3) := by decide +kernel
theorem dX6_wipe_7 : decode cX6_wipe 7 = .ok (.istore_n 1, 1) := by decide +kernel
theorem dX6_wipe_8 : decode cX6_wipe 8 = .ok (.aload_n 0, 1) := by decide +kernel
theorem dX6_wipe_9 : decode cX6_wipe 9 = .ok (.getfield 30, 3) := by decide +kernel
theorem dX6_wipe_12 : decode cX6_wipe 12 = .ok (.iconst 0, 1) := by decide +kernel
theorem dX6_wipe_13 : decode cX6_wipe 13 = .ok (.putfield 116, 3) := by decide +kernel
theorem dX6_wipe_16 : decode cX6_wipe 16 = .ok (.iload_n 1, 1) := by decide +kernel
theorem dX6_wipe_17 : decode cX6_wipe 17 = .ok (.ireturn, 1) := by decide +kernel
theorem dX6_fault_0 : decode cX6_fault 0 = .ok (.aload_n 0, 1) := by decide +kernel
theorem dX6_fault_1 : decode cX6_fault 1 = .ok (.getfield 30, 3) := by decide +kernel
theorem dX6_fault_4 : decode cX6_fault 4 = .ok (.invokevirtual 112, 3) := by decide +kernel
theorem dX6_fault_7 : decode cX6_fault 7 = .ok (.ireturn, 1) := by decide +kernel
theorem dX6_undo_0 : decode cX6_undo 0 = .ok (.aload_n 0, 1) := by decide +kernel
theorem dX6_undo_1 : decode cX6_undo 1 = .ok (.getfield 19, 3) := by decide +kernel
theorem dX6_undo_4 : decode cX6_undo 4 = .ok (.getfield 203, 3) := by decide +kernel
theorem dX6_undo_7 : decode cX6_undo 7 = .ok (.ifCond .ne 6, 3) := by decide +kernel
theorem dX6_undo_10 : decode cX6_undo 10 = .ok (.bipush (-5), 2) := by decide +kernel
theorem dX6_undo_12 : decode cX6_undo 12 = .ok (.ireturn, 1) := by decide +kernel
theorem dX6_undo_13 : decode cX6_undo 13 = .ok (.aload_n 0, 1) := by decide +kernel
theorem dX6_undo_14 : decode cX6_undo 14 = .ok (.getfield 19, 3) := by decide +kernel
theorem dX6_undo_17 : decode cX6_undo 17 = .ok (.aload_n 0, 1) := by decide +kernel
theorem dX6_undo_18 : decode cX6_undo 18 = .ok (.getfield 10, 3) := by decide +kernel
theorem dX6_undo_21 : decode cX6_undo 21 = .ok (.invokevirtual 231, 3) := by decide +kernel
theorem dX6_undo_24 : decode cX6_undo 24 = .ok (.aload_n 0, 1) := by decide +kernel
theorem dX6_undo_25 : decode cX6_undo 25 = .ok (.getfield 19, 3) := by decide +kernel
theorem dX6_undo_28 : decode cX6_undo 28 = .ok (.getfield 203, 3) := by decide +kernel
theorem dX6_undo_31 : decode cX6_undo 31 = .ok (.ireturn, 1) := by decide +kernel
theorem dX6_save_0 : decode cX6_save 0 = .ok (.iload_n 1, 1) := by decide +kernel
theorem dX6_save_1 : decode cX6_save 1 = .ok (.ifCond .lt 12, 3) := by decide +kernel
theorem dX6_save_4 : decode cX6_save 4 = .ok (.iload_n 1, 1) := by decide +kernel
theorem dX6_save_5 : decode cX6_save 5 = .ok (.aload_n 0, 1) := by decide +kernel
theorem dX6_save_6 : decode cX6_save 6 = .ok (.getfield 23, 3) := by decide +kernel
theorem dX6_save_9 : decode cX6_save 9 = .ok (.arraylength, 1) := by decide +kernel
theorem dX6_save_10 : decode cX6_save 10 = .ok (.if_icmp .lt 6, 3) := by decide +kernel
theorem dX6_save_13 : decode cX6_save 13 = .ok (.bipush (-2), 2) := by decide +kernel
theorem dX6_save_15 : decode cX6_save 15 = .ok (.ireturn, 1) := by decide +kernel
theorem dX6_save_16 : decode cX6_save 16 = .ok (.aload_n 0, 1) := by decide +kernel
theorem dX6_save_17 : decode cX6_save 17 = .ok (.getfield 23, 3) := by decide +kernel
theorem dX6_save_20 : decode cX6_save 20 = .ok (.iload_n 1, 1) := by decide +kernel
theorem dX6_save_21 : decode cX6_save 21 = .ok (.aaload, 1) := by decide +kernel
theorem dX6_save_22 : decode cX6_save 22 = .ok (.astore_n 2, 1) := by decide +kernel
theorem dX6_save_23 : decode cX6_save 23 = .ok (.aload_n 2, 1) := by decide +kernel
theorem dX6_save_24 : decode cX6_save 24 = .ok (.ifnonnull 18, 3) := by decide +kernel
theorem dX6_save_27 : decode cX6_save 27 = .ok (.new 7, 3) := by decide +kernel
theorem dX6_save_30 : decode cX6_save 30 = .ok (.dup, 1) := by decide +kernel
theorem dX6_save_31 : decode cX6_save 31 = .ok (.invokespecial 9, 3) := by decide +kernel
theorem dX6_save_34 : decode cX6_save 34 = .ok (.astore_n 2, 1) := by decide +kernel
theorem dX6_save_35 : decode cX6_save 35 = .ok (.aload_n 0, 1) := by decide +kernel
theorem dX6_save_36 : decode cX6_save 36 = .ok (.getfield 23, 3) := by decide +kernel
theorem dX6_save_39 : decode cX6_save 39 = .ok (.iload_n 1, 1) := by decide +kernel
theorem dX6_save_40 : decode cX6_save 40 = .ok (.aload_n 2, 1) := by decide +kernel
theorem dX6_save_41 : decode cX6_save 41 = .ok (.aastore, 1) := by decide +kernel
theorem dX6_save_42 : decode cX6_save 42 = .ok (.aload_n 2, 1) := by decide +kernel
theorem dX6_save_43 : decode cX6_save 43 = .ok (.aload_n 0, 1) := by decide +kernel
theorem dX6_save_44 : decode cX6_save 44 = .ok (.getfield 10, 3) := by decide +kernel
theorem dX6_save_47 : decode cX6_save 47 = .ok (.invokevirtual 234, 3) := by decide +kernel
theorem dX6_save_50 : decode cX6_save 50 = .ok (.aload_n 0, 1) := by decide +kernel
theorem dX6_save_51 : decode cX6_save 51 = .ok (.getfield 10, 3) := by decide +kernel
theorem dX6_save_54 : decode cX6_save 54 = .ok (.getfield 191, 3) := by decide +kernel
theorem dX6_save_57 : decode cX6_save 57 = .ok (.ireturn, 1) := by decide +kernel
theorem dX6_restore_0 : decode cX6_restore 0 = .ok (.iload_n 1, 1) := by decide +kernel
theorem dX6_restore_1 : decode cX6_restore 1 = .ok (.ifCond .lt 12, 3) := by decide +kernel
theorem dX6_restore_4 : decode cX6_restore 4 = .ok (.iload_n 1, 1) := by decide +kernel
theorem dX6_restore_5 : decode cX6_restore 5 = .ok (.aload_n 0, 1) := by decide +kernel
theorem dX6_restore_6 : decode cX6_restore 6 = .ok (.getfield 23, 3) := by decide +kernel
theorem dX6_restore_9 : decode cX6_restore 9 = .ok (.arraylength, 1) := by decide +kernel
theorem dX6_restore_10 : decode cX6_restore 10 = .ok (.if_icmp .lt 6, 3) := by decide +kernel
theorem dX6_restore_13 : decode cX6_restore 13 = .ok (.bipush (-2), 2) := by decide +kernel
theorem dX6_restore_15 : decode cX6_restore 15 = .ok (.ireturn, 1) := by decide +kernel
theorem dX6_restore_16 : decode cX6_restore 16 = .ok (.aload_n 0, 1) := by decide +kernel
theorem dX6_restore_17 : decode cX6_restore 17 = .ok (.getfield 23, 3) := by decide +kernel
theorem dX6_restore_20 : decode cX6_restore 20 = .ok (.iload_n 1, 1) := by decide +kernel
theorem dX6_restore_21 : decode cX6_restore 21 = .ok (.aaload, 1) := by decide +kernel
theorem dX6_restore_22 : decode cX6_restore 22 = .ok (.astore_n 2, 1) := by decide +kernel
theorem dX6_restore_23 : decode cX6_restore 23 = .ok (.aload_n 2, 1) := by decide +kernel
theorem dX6_restore_24 : decode cX6_restore 24 = .ok (.ifnonnull 6, 3) := by decide +kernel
theorem dX6_restore_27 : decode cX6_restore 27 = .ok (.bipush (-5), 2) := by decide +kernel
theorem dX6_restore_29 : decode cX6_restore 29 = .ok (.ireturn, 1) := by decide +kernel
theorem dX6_restore_30 : decode cX6_restore 30 = .ok (.aload_n 0, 1) := by decide +kernel
theorem dX6_restore_31 : decode cX6_restore 31 = .ok (.getfield 19, 3) := by decide +kernel
theorem dX6_restore_34 : decode cX6_restore 34 = .ok (.aload_n 0, 1) := by decide +kernel
theorem dX6_restore_35 : decode cX6_restore 35 = .ok (.getfield 10, 3) := by decide +kernel
theorem dX6_restore_38 : decode cX6_restore 38 = .ok (.invokevirtual 47, 3) := by decide +kernel
theorem dX6_restore_41 : decode cX6_restore 41 = .ok (.aload_n 0, 1) := by decide +kernel
theorem dX6_restore_42 : decode cX6_restore 42 = .ok (.getfield 10, 3) := by decide +kernel
theorem dX6_restore_45 : decode cX6_restore 45 = .ok (.aload_n 2, 1) := by decide +kernel
theorem dX6_restore_46 : decode cX6_restore 46 = .ok (.invokevirtual 234, 3) := by decide +kernel
theorem dX6_restore_49 : decode cX6_restore 49 = .ok (.aload_n 0, 1) := by decide +kernel
theorem dX6_restore_50 : decode cX6_restore 50 = .ok (.getfield 10, 3) := by decide +kernel
theorem dX6_restore_53 : decode cX6_restore 53 = .ok (.getfield 191, 3) := by decide +kernel
theorem dX6_restore_56 : decode cX6_restore 56 = .ok (.ireturn, 1) := by decide +kernel
theorem dX6_hopsOfNow_0 : decode cX6_hopsOfNow 0 = .ok (.aload_n 0, 1) := by decide +kernel
theorem dX6_hopsOfNow_1 : decode cX6_hopsOfNow 1 = .ok (.getfield 39, 3) := by decide +kernel
theorem dX6_hopsOfNow_4 : decode cX6_hopsOfNow 4 = .ok (.getfield 204, 3) := by decide +kernel
theorem dX6_hopsOfNow_7 : decode cX6_hopsOfNow 7 = .ok (.aload_n 0, 1) := by decide +kernel
theorem dX6_hopsOfNow_8 : decode cX6_hopsOfNow 8 = .ok (.getfield 10, 3) := by decide +kernel
theorem dX6_hopsOfNow_11 : decode cX6_hopsOfNow 11 = .ok (.getfield 55, 3) := by decide +kernel
theorem dX6_hopsOfNow_14 : decode cX6_hopsOfNow 14 = .ok (.invokevirtual 205, 3) := by decide +kernel
theorem dX6_hopsOfNow_17 : decode cX6_hopsOfNow 17 = .ok (.aload_n 0, 1) := by decide +kernel
theorem dX6_hopsOfNow_18 : decode cX6_hopsOfNow 18 = .ok (.getfield 39, 3) := by decide +kernel
theorem dX6_hopsOfNow_21 : decode cX6_hopsOfNow 21 = .ok (.getfield 236, 3) := by decide +kernel
theorem dX6_hopsOfNow_24 : decode cX6_hopsOfNow 24 = .ok (.iconst 0, 1) := by decide +kernel
theorem dX6_hopsOfNow_25 : decode cX6_hopsOfNow 25 = .ok (.putfield 188, 3) := by decide +kernel
theorem dX6_hopsOfNow_28 : decode cX6_hopsOfNow 28 = .ok (.aload_n 0, 1) := by decide +kernel
theorem dX6_hopsOfNow_29 : decode cX6_hopsOfNow 29 = .ok (.getfield 10, 3) := by decide +kernel
theorem dX6_hopsOfNow_32 : decode cX6_hopsOfNow 32 = .ok (.getfield 105, 3) := by decide +kernel
theorem dX6_hopsOfNow_35 : decode cX6_hopsOfNow 35 = .ok (.ifCond .ne 20, 3) := by decide +kernel
theorem dX6_hopsOfNow_38 : decode cX6_hopsOfNow 38 = .ok (.aload_n 0, 1) := by decide +kernel
theorem dX6_hopsOfNow_39 : decode cX6_hopsOfNow 39 = .ok (.getfield 39, 3) := by decide +kernel
theorem dX6_hopsOfNow_42 : decode cX6_hopsOfNow 42 = .ok (.getfield 236, 3) := by decide +kernel
theorem dX6_hopsOfNow_45 : decode cX6_hopsOfNow 45 = .ok (.aload_n 0, 1) := by decide +kernel
theorem dX6_hopsOfNow_46 : decode cX6_hopsOfNow 46 = .ok (.getfield 39, 3) := by decide +kernel
theorem dX6_hopsOfNow_49 : decode cX6_hopsOfNow 49 = .ok (.getfield 204, 3) := by decide +kernel
theorem dX6_hopsOfNow_52 : decode cX6_hopsOfNow 52 = .ok (.invokevirtual 240, 3) := by decide +kernel
theorem dX6_hopsOfNow_55 : decode cX6_hopsOfNow 55 = .ok (.aload_n 0, 1) := by decide +kernel
theorem dX6_hopsOfNow_56 : decode cX6_hopsOfNow 56 = .ok (.getfield 39, 3) := by decide +kernel
theorem dX6_hopsOfNow_59 : decode cX6_hopsOfNow 59 = .ok (.getfield 236, 3) := by decide +kernel
theorem dX6_hopsOfNow_62 : decode cX6_hopsOfNow 62 = .ok (.areturn, 1) := by decide +kernel
theorem dX6_isOneTooMany_0 : decode cX6_isOneTooMany 0 = .ok (.iload_n 1, 1) := by decide +kernel
theorem dX6_isOneTooMany_1 : decode cX6_isOneTooMany 1 = .ok (.bipush (-6), 2) := by decide +kernel
theorem dX6_isOneTooMany_3 : decode cX6_isOneTooMany 3 = .ok (.if_icmp .eq 14, 3) := by decide +kernel
theorem dX6_isOneTooMany_6 : decode cX6_isOneTooMany 6 = .ok (.iload_n 1, 1) := by decide +kernel
theorem dX6_isOneTooMany_7 : decode cX6_isOneTooMany 7 = .ok (.invokestatic 243, 3) := by decide +kernel
theorem dX6_isOneTooMany_10 : decode cX6_isOneTooMany 10 = .ok (.iload_n 2, 1) := by decide +kernel
theorem dX6_isOneTooMany_11 : decode cX6_isOneTooMany 11 = .ok (.invokestatic 243, 3) := by decide +kernel
theorem dX6_isOneTooMany_14 : decode cX6_isOneTooMany 14 = .ok (.if_icmp .ne 5, 3) := by decide +kernel
theorem dX6_isOneTooMany_17 : decode cX6_isOneTooMany 17 = .ok (.iconst 0, 1) := by decide +kernel
theorem dX6_isOneTooMany_18 : decode cX6_isOneTooMany 18 = .ok (.ireturn, 1) := by decide +kernel
theorem dX6_isOneTooMany_19 : decode cX6_isOneTooMany 19 = .ok (.aload_n 0, 1) := by decide +kernel
theorem dX6_isOneTooMany_20 : decode cX6_isOneTooMany 20 = .ok (.getfield 10, 3) := by decide +kernel
theorem dX6_isOneTooMany_23 : decode cX6_isOneTooMany 23 = .ok (.getfield 55, 3) := by decide +kernel
theorem dX6_isOneTooMany_26 : decode cX6_isOneTooMany 26 = .ok (.iload_n 1, 1) := by decide +kernel
theorem dX6_isOneTooMany_27 : decode cX6_isOneTooMany 27 = .ok (.invokestatic 243, 3) := by decide +kernel
theorem dX6_isOneTooMany_30 : decode cX6_isOneTooMany 30 = .ok (.invokevirtual 59, 3) := by decide +kernel
theorem dX6_isOneTooMany_33 : decode cX6_isOneTooMany 33 = .ok (.bipush 16, 2) := by decide +kernel
theorem dX6_isOneTooMany_35 : decode cX6_isOneTooMany 35 = .ok (.if_icmp .lt 7, 3) := by decide +kernel
theorem dX6_isOneTooMany_38 : decode cX6_isOneTooMany 38 = .ok (.iconst 1, 1) := by decide +kernel
theorem dX6_isOneTooMany_39 : decode cX6_isOneTooMany 39 = .ok (.goto 4, 3) := by decide +kernel
theorem dX6_isOneTooMany_42 : decode cX6_isOneTooMany 42 = .ok (.iconst 0, 1) := by decide +kernel
theorem dX6_isOneTooMany_43 : decode cX6_isOneTooMany 43 = .ok (.ireturn, 1) := by decide +kernel
theorem dX6_isInDanger_0 : decode cX6_isInDanger 0 = .ok (.aload_n 0, 1) := by decide +kernel
theorem dX6_isInDanger_1 : decode cX6_isInDanger 1 = .ok (.getfield 10, 3) := by decide +kernel
theorem dX6_isInDanger_4 : decode cX6_isInDanger 4 = .ok (.getfield 55, 3) := by decide +kernel
theorem dX6_isInDanger_7 : decode cX6_isInDanger 7 = .ok (.iload_n 1, 1) := by decide +kernel
theorem dX6_isInDanger_8 : decode cX6_isInDanger 8 = .ok (.invokevirtual 72, 3) := by decide +kernel
theorem dX6_isInDanger_11 : decode cX6_isInDanger 11 = .ok (.invokestatic 243, 3) := by decide +kernel
theorem dX6_isInDanger_14 : decode cX6_isInDanger 14 = .ok (.istore_n 2, 1) := by decide +kernel
theorem dX6_isInDanger_15 : decode cX6_isInDanger 15 = .ok (.iload_n 2, 1) := by decide +kernel
theorem dX6_isInDanger_16 : decode cX6_isInDanger 16 = .ok (.bipush (-6), 2) := by decide +kernel
theorem dX6_isInDanger_18 : decode cX6_isInDanger 18 = .ok (.if_icmp .ne 5, 3) := by decide +kernel
theorem dX6_isInDanger_21 : decode cX6_isInDanger 21 = .ok (.iconst 0, 1) := by decide +kernel
theorem dX6_isInDanger_22 : decode cX6_isInDanger 22 = .ok (.ireturn, 1) := by decide +kernel
theorem dX6_isInDanger_23 : decode cX6_isInDanger 23 = .ok (.aload_n 0, 1) := by decide +kernel
theorem dX6_isInDanger_24 : decode cX6_isInDanger 24 = .ok (.getfield 39, 3) := by decide +kernel
theorem dX6_isInDanger_27 : decode cX6_isInDanger 27 = .ok (.getfield 236, 3) := by decide +kernel
theorem dX6_isInDanger_30 : decode cX6_isInDanger 30 = .ok (.aload_n 0, 1) := by decide +kernel
theorem dX6_isInDanger_31 : decode cX6_isInDanger 31 = .ok (.getfield 10, 3) := by decide +kernel
theorem dX6_isInDanger_34 : decode cX6_isInDanger 34 = .ok (.getfield 55, 3) := by decide +kernel
theorem dX6_isInDanger_37 : decode cX6_isInDanger 37 = .ok (.iconst 1, 1) := by decide +kernel
theorem dX6_isInDanger_38 : decode cX6_isInDanger 38 = .ok (.iload_n 2, 1) := by decide +kernel
theorem dX6_isInDanger_39 : decode cX6_isInDanger 39 = .ok (.isub, 1) := by decide +kernel
theorem dX6_isInDanger_40 : decode cX6_isInDanger 40 = .ok (.bipush (-6), 2) := by decide +kernel
theorem dX6_isInDanger_42 : decode cX6_isInDanger 42 = .ok (.invokevirtual 246, 3) := by decide +kernel
theorem dX6_isInDanger_45 : decode cX6_isInDanger 45 = .ok (.aload_n 0, 1) := by decide +kernel
theorem dX6_isInDanger_46 : decode cX6_isInDanger 46 = .ok (.getfield 39, 3) := by decide +kernel
theorem dX6_isInDanger_49 : decode cX6_isInDanger 49 = .ok (.getfield 236, 3) := by decide +kernel
theorem dX6_isInDanger_52 : decode cX6_isInDanger 52 = .ok (.iload_n 1, 1) := by decide +kernel
theorem dX6_isInDanger_53 : decode cX6_isInDanger 53 = .ok (.invokevirtual 250, 3) := by decide +kernel
theorem dX6_isInDanger_56 : decode cX6_isInDanger 56 = .ok (.ireturn, 1) := by decide +kernel
theorem dX6_isJumpedOnBehind_0 : decode cX6_isJumpedOnBehind 0 = .ok (.aload_n 0, 1) := by decide +kernel
theorem dX6_isJumpedOnBehind_1 : decode cX6_isJumpedOnBehind 1 = .ok (.getfield 39, 3) := by decide +kernel
theorem dX6_isJumpedOnBehind_4 : decode cX6_isJumpedOnBehind 4 = .ok (.iload_n 1, 1) := by decide +kernel
theorem dX6_isJumpedOnBehind_5 : decode cX6_isJumpedOnBehind 5 = .ok (.invokevirtual 216, 3) := by decide +kernel
theorem dX6_isJumpedOnBehind_8 : decode cX6_isJumpedOnBehind 8 = .ok (.aload_n 0, 1) := by decide +kernel
theorem dX6_isJumpedOnBehind_9 : decode cX6_isJumpedOnBehind 9 = .ok (.getfield 39, 3) := by decide +kernel
theorem dX6_isJumpedOnBehind_12 : decode cX6_isJumpedOnBehind 12 = .ok (.getfield 220, 3) := by decide +kernel
theorem dX6_isJumpedOnBehind_15 : decode cX6_isJumpedOnBehind 15 = .ok (.ifnull 25, 3) := by decide +kernel
theorem dX6_isJumpedOnBehind_18 : decode cX6_isJumpedOnBehind 18 = .ok (.aload_n 0, 1) := by decide +kernel
theorem dX6_isJumpedOnBehind_19 : decode cX6_isJumpedOnBehind 19 = .ok (.getfield 39, 3) := by decide +kernel
theorem dX6_isJumpedOnBehind_22 : decode cX6_isJumpedOnBehind 22 = .ok (.getfield 220, 3) := by decide +kernel
theorem dX6_isJumpedOnBehind_25 : decode cX6_isJumpedOnBehind 25 = .ok (.getfield 204, 3) := by decide +kernel
theorem dX6_isJumpedOnBehind_28 : decode cX6_isJumpedOnBehind 28 = .ok (.getfield 194, 3) := by decide +kernel
theorem dX6_isJumpedOnBehind_31 : decode cX6_isJumpedOnBehind 31 = .ok (.bipush (-6), 2) := by decide +kernel
theorem dX6_isJumpedOnBehind_33 : decode cX6_isJumpedOnBehind 33 = .ok (.if_icmp .eq 7, 3) := by decide +kernel
theorem dX6_isJumpedOnBehind_36 : decode cX6_isJumpedOnBehind 36 = .ok (.iconst 1, 1) := by decide +kernel
theorem dX6_isJumpedOnBehind_37 : decode cX6_isJumpedOnBehind 37 = .ok (.goto 4, 3) := by decide +kernel
theorem dX6_isJumpedOnBehind_40 : decode cX6_isJumpedOnBehind 40 = .ok (.iconst 0, 1) := by decide +kernel
theorem dX6_isJumpedOnBehind_41 : decode cX6_isJumpedOnBehind 41 = .ok (.ireturn, 1) := by decide +kernel
theorem dX6_makeToldHop_0 : decode cX6_makeToldHop 0 = .ok (.aload_n 0, 1) := by decide +kernel
theorem dX6_makeToldHop_1 : decode cX6_makeToldHop 1 = .ok (.invokevirtual 92, 3) := by decide +kernel
theorem dX6_makeToldHop_4 : decode cX6_makeToldHop 4 = .ok (.astore 4, 2) := by decide +kernel
theorem dX6_makeToldHop_6 : decode cX6_makeToldHop 6 = .ok (.aload 4, 2) := by decide +kernel
theorem dX6_makeToldHop_8 : decode cX6_makeToldHop 8 = .ok (.iload_n 1, 1) := by decide +kernel
theorem dX6_makeToldHop_9 : decode cX6_makeToldHop 9 = .ok (.iload_n 2, 1) := by decide +kernel
theorem dX6_makeToldHop_10 : decode cX6_makeToldHop 10 = .ok (.invokevirtual 108, 3) := by decide +kernel
theorem dX6_makeToldHop_13 : decode cX6_makeToldHop 13 = .ok (.istore 5, 2) := by decide +kernel
theorem dX6_makeToldHop_15 : decode cX6_makeToldHop 15 = .ok (.iload 5, 2) := by decide +kernel
theorem dX6_makeToldHop_17 : decode cX6_makeToldHop 17 = .ok (.bipush (-6), 2) := by decide +kernel
theorem dX6_makeToldHop_19 : decode cX6_makeToldHop 19 = .ok (.if_icmp .eq 24, 3) := by decide +kernel
theorem dX6_makeToldHop_22 : decode cX6_makeToldHop 22 = .ok (.aload 4, 2) := by decide +kernel
theorem dX6_makeToldHop_24 : decode cX6_makeToldHop 24 = .ok (.iload 5, 2) := by decide +kernel
theorem dX6_makeToldHop_26 : decode cX6_makeToldHop 26 = .ok (.invokevirtual 162, 3) := by decide +kernel
theorem dX6_makeToldHop_29 : decode cX6_makeToldHop 29 = .ok (.bipush (-6), 2) := by decide +kernel
theorem dX6_makeToldHop_31 : decode cX6_makeToldHop 31 = .ok (.if_icmp .eq 7, 3) := by decide +kernel
theorem dX6_makeToldHop_34 : decode cX6_makeToldHop 34 = .ok (.iconst 1, 1) := by decide +kernel
theorem dX6_makeToldHop_35 : decode cX6_makeToldHop 35 = .ok (.goto 4, 3) := by decide +kernel
theorem dX6_makeToldHop_38 : decode cX6_makeToldHop 38 = .ok (.iconst 0, 1) := by decide +kernel
theorem dX6_makeToldHop_39 : decode cX6_makeToldHop 39 = .ok (.iload_n 3, 1) := by decide +kernel
theorem dX6_makeToldHop_40 : decode cX6_makeToldHop 40 = .ok (.if_icmp .eq 5, 3) := by decide +kernel
theorem dX6_makeToldHop_43 : decode cX6_makeToldHop 43 = .ok (.iconst 0, 1) := by decide +kernel
theorem dX6_makeToldHop_44 : decode cX6_makeToldHop 44 = .ok (.ireturn, 1) := by decide +kernel
theorem dX6_makeToldHop_45 : decode cX6_makeToldHop 45 = .ok (.aload_n 0, 1) := by decide +kernel
theorem dX6_makeToldHop_46 : decode cX6_makeToldHop 46 = .ok (.getfield 10, 3) := by decide +kernel
theorem dX6_makeToldHop_49 : decode cX6_makeToldHop 49 = .ok (.aload 4, 2) := by decide +kernel
theorem dX6_makeToldHop_51 : decode cX6_makeToldHop 51 = .ok (.iload 5, 2) := by decide +kernel
theorem dX6_makeToldHop_53 : decode cX6_makeToldHop 53 = .ok (.iconst 0, 1) := by decide +kernel
theorem dX6_makeToldHop_54 : decode cX6_makeToldHop 54 = .ok (.invokevirtual 101, 3) := by decide +kernel
theorem dX6_makeToldHop_57 : decode cX6_makeToldHop 57 = .ok (.iconst 1, 1) := by decide +kernel
theorem dX6_makeToldHop_58 : decode cX6_makeToldHop 58 = .ok (.ireturn, 1) := by decide +kernel
theorem dX6_numberOfRows_0 : decode cX6_numberOfRows 0 = .ok (.aload_n 0, 1) := by decide +kernel
theorem dX6_numberOfRows_1 : decode cX6_numberOfRows 1 = .ok (.ifnonnull 5, 3) := by decide +kernel
theorem dX6_numberOfRows_4 : decode cX6_numberOfRows 4 = .ok (.iconst 0, 1) := by decide +kernel
theorem dX6_numberOfRows_5 : decode cX6_numberOfRows 5 = .ok (.ireturn, 1) := by decide +kernel
theorem dX6_numberOfRows_6 : decode cX6_numberOfRows 6 = .ok (.aload_n 0, 1) := by decide +kernel
theorem dX6_numberOfRows_7 : decode cX6_numberOfRows 7 = .ok (.getfield 236, 3) := by decide +kernel
theorem dX6_numberOfRows_10 : decode cX6_numberOfRows 10 = .ok (.aload_n 0, 1) := by decide +kernel
theorem dX6_numberOfRows_11 : decode cX6_numberOfRows 11 = .ok (.getfield 204, 3) := by decide +kernel
theorem dX6_numberOfRows_14 : decode cX6_numberOfRows 14 = .ok (.invokevirtual 240, 3) := by decide +kernel
theorem dX6_numberOfRows_17 : decode cX6_numberOfRows 17 = .ok (.iload_n 1, 1) := by decide +kernel
theorem dX6_numberOfRows_18 : decode cX6_numberOfRows 18 = .ok (.iconst 1, 1) := by decide +kernel
theorem dX6_numberOfRows_19 : decode cX6_numberOfRows 19 = .ok (.if_icmp .gt 15, 3) := by decide +kernel
theorem dX6_numberOfRows_22 : decode cX6_numberOfRows 22 = .ok (.aload_n 0, 1) := by decide +kernel
theorem dX6_numberOfRows_23 : decode cX6_numberOfRows 23 = .ok (.getfield 236, 3) := by decide +kernel
theorem dX6_numberOfRows_26 : decode cX6_numberOfRows 26 = .ok (.getfield 188, 3) := by decide +kernel
theorem dX6_numberOfRows_29 : decode cX6_numberOfRows 29 = .ok (.iload_n 2, 1) := by decide +kernel
theorem dX6_numberOfRows_30 : decode cX6_numberOfRows 30 = .ok (.invokestatic 253, 3) := by decide +kernel
theorem dX6_numberOfRows_33 : decode cX6_numberOfRows 33 = .ok (.ireturn, 1) := by decide +kernel
theorem dX6_numberOfRows_34 : decode cX6_numberOfRows 34 = .ok (.iconst 0, 1) := by decide +kernel
theorem dX6_numberOfRows_35 : decode cX6_numberOfRows 35 = .ok (.istore_n 3, 1) := by decide +kernel
theorem dX6_numberOfRows_36 : decode cX6_numberOfRows 36 = .ok (.iconst 0, 1) := by decide +kernel
theorem dX6_numberOfRows_37 : decode cX6_numberOfRows 37 = .ok (.istore 4, 2) := by decide +kernel
theorem dX6_numberOfRows_39 : decode cX6_numberOfRows 39 = .ok (.iload 4, 2) := by decide +kernel
theorem dX6_numberOfRows_41 : decode cX6_numberOfRows 41 = .ok (.aload_n 0, 1) := by decide +kernel
theorem dX6_numberOfRows_42 : decode cX6_numberOfRows 42 = .ok (.getfield 236, 3) := by decide +kernel
theorem dX6_numberOfRows_45 : decode cX6_numberOfRows 45 = .ok (.getfield 188, 3) := by decide +kernel
theorem dX6_numberOfRows_48 : decode cX6_numberOfRows 48 = .ok (.if_icmp .ge 36, 3) := by decide +kernel
theorem dX6_numberOfRows_51 : decode cX6_numberOfRows 51 = .ok (.iload_n 3, 1) := by decide +kernel
theorem dX6_numberOfRows_52 : decode cX6_numberOfRows 52 = .ok (.iload_n 2, 1) := by decide +kernel
theorem dX6_numberOfRows_53 : decode cX6_numberOfRows 53 = .ok (.if_icmp .ge 31, 3) := by decide +kernel
theorem dX6_numberOfRows_56 : decode cX6_numberOfRows 56 = .ok (.aload_n 0, 1) := by decide +kernel
theorem dX6_numberOfRows_57 : decode cX6_numberOfRows 57 = .ok (.iload 4, 2) := by decide +kernel
theorem dX6_numberOfRows_59 : decode cX6_numberOfRows 59 = .ok (.invokevirtual 216, 3) := by decide +kernel
theorem dX6_numberOfRows_62 : decode cX6_numberOfRows 62 = .ok (.iload_n 3, 1) := by decide +kernel
theorem dX6_numberOfRows_63 : decode cX6_numberOfRows 63 = .ok (.aload_n 0, 1) := by decide +kernel
theorem dX6_numberOfRows_64 : decode cX6_numberOfRows 64 = .ok (.getfield 220, 3) := by decide +kernel
theorem dX6_numberOfRows_67 : decode cX6_numberOfRows 67 = .ok (.iload_n 1, 1) := by decide +kernel
theorem dX6_numberOfRows_68 : decode cX6_numberOfRows 68 = .ok (.iconst 1, 1) := by decide +kernel
theorem dX6_numberOfRows_69 : decode cX6_numberOfRows 69 = .ok (.isub, 1) := by decide +kernel
theorem dX6_numberOfRows_70 : decode cX6_numberOfRows 70 = .ok (.iload_n 2, 1) := by decide +kernel
theorem dX6_numberOfRows_71 : decode cX6_numberOfRows 71 = .ok (.iload_n 3, 1) := by decide +kernel
theorem dX6_numberOfRows_72 : decode cX6_numberOfRows 72 = .ok (.isub, 1) := by decide +kernel
theorem dX6_numberOfRows_73 : decode cX6_numberOfRows 73 = .ok (.invokestatic 209, 3) := by decide +kernel
theorem dX6_numberOfRows_76 : decode cX6_numberOfRows 76 = .ok (.iadd, 1) := by decide +kernel
theorem dX6_numberOfRows_77 : decode cX6_numberOfRows 77 = .ok (.istore_n 3, 1) := by decide +kernel
theorem dX6_numberOfRows_78 : decode cX6_numberOfRows 78 = .ok (.iinc 4 1, 3) := by decide +kernel
theorem dX6_numberOfRows_81 : decode cX6_numberOfRows 81 = .ok (.goto (-42), 3) := by decide +kernel
theorem dX6_numberOfRows_84 : decode cX6_numberOfRows 84 = .ok (.iload_n 3, 1) := by decide +kernel
theorem dX6_numberOfRows_85 : decode cX6_numberOfRows 85 = .ok (.ireturn, 1) := by decide +kernel
theorem dX6_worthBehind_0 : decode cX6_worthBehind 0 = .ok (.aload_n 0, 1) := by decide +kernel
theorem dX6_worthBehind_1 : decode cX6_worthBehind 1 = .ok (.ifnonnull 5, 3) := by decide +kernel
theorem dX6_worthBehind_4 : decode cX6_worthBehind 4 = .ok (.iconst 0, 1) := by decide +kernel
theorem dX6_worthBehind_5 : decode cX6_worthBehind 5 = .ok (.ireturn, 1) := by decide +kernel
theorem dX6_worthBehind_6 : decode cX6_worthBehind 6 = .ok (.aload_n 0, 1) := by decide +kernel
theorem dX6_worthBehind_7 : decode cX6_worthBehind 7 = .ok (.getfield 204, 3) := by decide +kernel
theorem dX6_worthBehind_10 : decode cX6_worthBehind 10 = .ok (.astore_n 3, 1) := by decide +kernel
theorem dX6_worthBehind_11 : decode cX6_worthBehind 11 = .ok (.aload_n 3, 1) := by decide +kernel
theorem dX6_worthBehind_12 : decode cX6_worthBehind 12 = .ok (.iload_n 2, 1) := by decide +kernel
theorem dX6_worthBehind_13 : decode cX6_worthBehind 13 = .ok (.invokevirtual 185, 3) := by decide +kernel
theorem dX6_worthBehind_16 : decode cX6_worthBehind 16 = .ok (.aload_n 3, 1) := by decide +kernel
theorem dX6_worthBehind_17 : decode cX6_worthBehind 17 = .ok (.iconst 1, 1) := by decide +kernel
theorem dX6_worthBehind_18 : decode cX6_worthBehind 18 = .ok (.iload_n 2, 1) := by decide +kernel
theorem dX6_worthBehind_19 : decode cX6_worthBehind 19 = .ok (.isub, 1) := by decide +kernel
theorem dX6_worthBehind_20 : decode cX6_worthBehind 20 = .ok (.invokevirtual 185, 3) := by decide +kernel
theorem dX6_worthBehind_23 : decode cX6_worthBehind 23 = .ok (.isub, 1) := by decide +kernel
theorem dX6_worthBehind_24 : decode cX6_worthBehind 24 = .ok (.istore 4, 2) := by decide +kernel
theorem dX6_worthBehind_26 : decode cX6_worthBehind 26 = .ok (.iload_n 1, 1) := by decide +kernel
theorem dX6_worthBehind_27 : decode cX6_worthBehind 27 = .ok (.ifCond .gt 6, 3) := by decide +kernel
theorem dX6_worthBehind_30 : decode cX6_worthBehind 30 = .ok (.iload 4, 2) := by decide +kernel
theorem dX6_worthBehind_32 : decode cX6_worthBehind 32 = .ok (.ireturn, 1) := by decide +kernel
theorem dX6_worthBehind_33 : decode cX6_worthBehind 33 = .ok (.aload_n 3, 1) := by decide +kernel
theorem dX6_worthBehind_34 : decode cX6_worthBehind 34 = .ok (.getfield 89, 3) := by decide +kernel
theorem dX6_worthBehind_37 : decode cX6_worthBehind 37 = .ok (.iload_n 2, 1) := by decide +kernel
theorem dX6_worthBehind_38 : decode cX6_worthBehind 38 = .ok (.if_icmp .ne 7, 3) := by decide +kernel
theorem dX6_worthBehind_41 : decode cX6_worthBehind 41 = .ok (.iconst 1, 1) := by decide +kernel
theorem dX6_worthBehind_42 : decode cX6_worthBehind 42 = .ok (.goto 4, 3) := by decide +kernel
theorem dX6_worthBehind_45 : decode cX6_worthBehind 45 = .ok (.iconst 0, 1) := by decide +kernel
theorem dX6_worthBehind_46 : decode cX6_worthBehind 46 = .ok (.istore 5, 2) := by decide +kernel
theorem dX6_worthBehind_48 : decode cX6_worthBehind 48 = .ok (.aload_n 0, 1) := by decide +kernel
theorem dX6_worthBehind_49 : decode cX6_worthBehind 49 = .ok (.getfield 236, 3) := by decide +kernel
theorem dX6_worthBehind_52 : decode cX6_worthBehind 52 = .ok (.aload_n 3, 1) := by decide +kernel
theorem dX6_worthBehind_53 : decode cX6_worthBehind 53 = .ok (.invokevirtual 240, 3) := by decide +kernel
theorem dX6_worthBehind_56 : decode cX6_worthBehind 56 = .ok (.aload_n 0, 1) := by decide +kernel
theorem dX6_worthBehind_57 : decode cX6_worthBehind 57 = .ok (.getfield 236, 3) := by decide +kernel
theorem dX6_worthBehind_60 : decode cX6_worthBehind 60 = .ok (.getfield 188, 3) := by decide +kernel
theorem dX6_worthBehind_63 : decode cX6_worthBehind 63 = .ok (.ifCond .ne 22, 3) := by decide +kernel
theorem dX6_worthBehind_66 : decode cX6_worthBehind 66 = .ok (.iload 5, 2) := by decide +kernel
theorem dX6_worthBehind_68 : decode cX6_worthBehind 68 = .ok (.ifCond .eq 11, 3) := by decide +kernel
theorem dX6_worthBehind_71 : decode cX6_worthBehind 71 = .ok (.iload 4, 2) := by decide +kernel
theorem dX6_worthBehind_73 : decode cX6_worthBehind 73 = .ok (.bipush 100, 2) := by decide +kernel
theorem dX6_worthBehind_75 : decode cX6_worthBehind 75 = .ok (.isub, 1) := by decide +kernel
theorem dX6_worthBehind_76 : decode cX6_worthBehind 76 = .ok (.goto 8, 3) := by decide +kernel
theorem dX6_worthBehind_79 : decode cX6_worthBehind 79 = .ok (.iload 4, 2) := by decide +kernel
theorem dX6_worthBehind_81 : decode cX6_worthBehind 81 = .ok (.bipush 100, 2) := by decide +kernel
theorem dX6_worthBehind_83 : decode cX6_worthBehind 83 = .ok (.iadd, 1) := by decide +kernel
theorem dX6_worthBehind_84 : decode cX6_worthBehind 84 = .ok (.ireturn, 1) := by decide +kernel
theorem dX6_worthBehind_85 : decode cX6_worthBehind 85 = .ok (.iconst 0, 1) := by decide +kernel
theorem dX6_worthBehind_86 : decode cX6_worthBehind 86 = .ok (.istore 6, 2) := by decide +kernel
theorem dX6_worthBehind_88 : decode cX6_worthBehind 88 = .ok (.iconst 0, 1) := by decide +kernel
theorem dX6_worthBehind_89 : decode cX6_worthBehind 89 = .ok (.istore 7, 2) := by decide +kernel
theorem dX6_worthBehind_91 : decode cX6_worthBehind 91 = .ok (.iload 7, 2) := by decide +kernel
theorem dX6_worthBehind_93 : decode cX6_worthBehind 93 = .ok (.aload_n 0, 1) := by decide +kernel
theorem dX6_worthBehind_94 : decode cX6_worthBehind 94 = .ok (.getfield 236, 3) := by decide +kernel
theorem dX6_worthBehind_97 : decode cX6_worthBehind 97 = .ok (.getfield 188, 3) := by decide +kernel
theorem dX6_worthBehind_100 : decode cX6_worthBehind 100 = .ok (.if_icmp .ge 59, 3) := by decide +kernel
theorem dX6_worthBehind_103 : decode cX6_worthBehind 103 = .ok (.aload_n 0, 1) := by decide +kernel
theorem dX6_worthBehind_104 : decode cX6_worthBehind 104 = .ok (.iload 7, 2) := by decide +kernel
theorem dX6_worthBehind_106 : decode cX6_worthBehind 106 = .ok (.invokevirtual 216, 3) := by decide +kernel
theorem dX6_worthBehind_109 : decode cX6_worthBehind 109 = .ok (.aload_n 0, 1) := by decide +kernel
theorem dX6_worthBehind_110 : decode cX6_worthBehind 110 = .ok (.getfield 220, 3) := by decide +kernel
theorem dX6_worthBehind_113 : decode cX6_worthBehind 113 = .ok (.iload_n 1, 1) := by decide +kernel
theorem dX6_worthBehind_114 : decode cX6_worthBehind 114 = .ok (.iconst 1, 1) := by decide +kernel
theorem dX6_worthBehind_115 : decode cX6_worthBehind 115 = .ok (.isub, 1) := by decide +kernel
theorem dX6_worthBehind_116 : decode cX6_worthBehind 116 = .ok (.iload_n 2, 1) := by decide +kernel
theorem dX6_worthBehind_117 : decode cX6_worthBehind 117 = .ok (.invokestatic 213, 3) := by decide +kernel
theorem dX6_worthBehind_120 : decode cX6_worthBehind 120 = .ok (.istore 8, 2) := by decide +kernel
theorem dX6_worthBehind_122 : decode cX6_worthBehind 122 = .ok (.iload 7, 2) := by decide +kernel
theorem dX6_worthBehind_124 : decode cX6_worthBehind 124 = .ok (.ifCond .eq 25, 3) := by decide +kernel
theorem dX6_worthBehind_127 : decode cX6_worthBehind 127 = .ok (.iload 5, 2) := by decide +kernel
theorem dX6_worthBehind_129 : decode cX6_worthBehind 129 = .ok (.ifCond .eq 13, 3) := by decide +kernel
theorem dX6_worthBehind_132 : decode cX6_worthBehind 132 = .ok (.iload 8, 2) := by decide +kernel
theorem dX6_worthBehind_134 : decode cX6_worthBehind 134 = .ok (.iload 6, 2) := by decide +kernel
theorem dX6_worthBehind_136 : decode cX6_worthBehind 136 = .ok (.if_icmp .le 17, 3) := by decide +kernel
theorem dX6_worthBehind_139 : decode cX6_worthBehind 139 = .ok (.goto 10, 3) := by decide +kernel
theorem dX6_worthBehind_142 : decode cX6_worthBehind 142 = .ok (.iload 8, 2) := by decide +kernel
theorem dX6_worthBehind_144 : decode cX6_worthBehind 144 = .ok (.iload 6, 2) := by decide +kernel
theorem dX6_worthBehind_146 : decode cX6_worthBehind 146 = .ok (.if_icmp .ge 7, 3) := by decide +kernel
theorem dX6_worthBehind_149 : decode cX6_worthBehind 149 = .ok (.iload 8, 2) := by decide +kernel
theorem dX6_worthBehind_151 : decode cX6_worthBehind 151 = .ok (.istore 6, 2) := by decide +kernel
theorem dX6_worthBehind_153 : decode cX6_worthBehind 153 = .ok (.iinc 7 1, 3) := by decide +kernel
theorem dX6_worthBehind_156 : decode cX6_worthBehind 156 = .ok (.goto (-65), 3) := by decide +kernel
theorem dX6_worthBehind_159 : decode cX6_worthBehind 159 = .ok (.iload 6, 2) := by decide +kernel
theorem dX6_worthBehind_161 : decode cX6_worthBehind 161 = .ok (.ireturn, 1) := by decide +kernel
theorem dX6_isSquare_0 : decode cX6_isSquare 0 = .ok (.iload_n 0, 1) := by decide +kernel
theorem dX6_isSquare_1 : decode cX6_isSquare 1 = .ok (.ifCond .lt 13, 3) := by decide +kernel
theorem dX6_isSquare_4 : decode cX6_isSquare 4 = .ok (.iload_n 0, 1) := by decide +kernel
theorem dX6_isSquare_5 : decode cX6_isSquare 5 = .ok (.bipush 48, 2) := by decide +kernel
theorem dX6_isSquare_7 : decode cX6_isSquare 7 = .ok (.if_icmp .ge 7, 3) := by decide +kernel
theorem dX6_isSquare_10 : decode cX6_isSquare 10 = .ok (.iconst 1, 1) := by decide +kernel
theorem dX6_isSquare_11 : decode cX6_isSquare 11 = .ok (.goto 4, 3) := by decide +kernel
theorem dX6_isSquare_14 : decode cX6_isSquare 14 = .ok (.iconst 0, 1) := by decide +kernel
theorem dX6_isSquare_15 : decode cX6_isSquare 15 = .ok (.ireturn, 1) := by decide +kernel
theorem dX6_isSide_0 : decode cX6_isSide 0 = .ok (.iload_n 0, 1) := by decide +kernel
theorem dX6_isSide_1 : decode cX6_isSide 1 = .ok (.ifCond .eq 8, 3) := by decide +kernel
theorem dX6_isSide_4 : decode cX6_isSide 4 = .ok (.iload_n 0, 1) := by decide +kernel
theorem dX6_isSide_5 : decode cX6_isSide 5 = .ok (.iconst 1, 1) := by decide +kernel
theorem dX6_isSide_6 : decode cX6_isSide 6 = .ok (.if_icmp .ne 7, 3) := by decide +kernel
theorem dX6_isSide_9 : decode cX6_isSide 9 = .ok (.iconst 1, 1) := by decide +kernel
theorem dX6_isSide_10 : decode cX6_isSide 10 = .ok (.goto 4, 3) := by decide +kernel
theorem dX6_isSide_13 : decode cX6_isSide 13 = .ok (.iconst 0, 1) := by decide +kernel
theorem dX6_isSide_14 : decode cX6_isSide 14 = .ok (.ireturn, 1) := by decide +kernel
theorem dX6_isPiece_0 : decode cX6_isPiece 0 = .ok (.iload_n 0, 1) := by decide +kernel
theorem dX6_isPiece_1 : decode cX6_isPiece 1 = .ok (.ifCond .lt 12, 3) := by decide +kernel
theorem dX6_isPiece_4 : decode cX6_isPiece 4 = .ok (.iload_n 0, 1) := by decide +kernel
theorem dX6_isPiece_5 : decode cX6_isPiece 5 = .ok (.iconst 4, 1) := by decide +kernel
theorem dX6_isPiece_6 : decode cX6_isPiece 6 = .ok (.if_icmp .ge 7, 3) := by decide +kernel
theorem dX6_isPiece_9 : decode cX6_isPiece 9 = .ok (.iconst 1, 1) := by decide +kernel
theorem dX6_isPiece_10 : decode cX6_isPiece 10 = .ok (.goto 4, 3) := by decide +kernel
theorem dX6_isPiece_13 : decode cX6_isPiece 13 = .ok (.iconst 0, 1) := by decide +kernel
theorem dX6_isPiece_14 : decode cX6_isPiece 14 = .ok (.ireturn, 1) := by decide +kernel
theorem dX6_isKing_0 : decode cX6_isKing 0 = .ok (.iload_n 0, 1) := by decide +kernel
theorem dX6_isKing_1 : decode cX6_isKing 1 = .ok (.iconst 1, 1) := by decide +kernel
theorem dX6_isKing_2 : decode cX6_isKing 2 = .ok (.if_icmp .eq 8, 3) := by decide +kernel
theorem dX6_isKing_5 : decode cX6_isKing 5 = .ok (.iload_n 0, 1) := by decide +kernel
theorem dX6_isKing_6 : decode cX6_isKing 6 = .ok (.iconst 3, 1) := by decide +kernel
theorem dX6_isKing_7 : decode cX6_isKing 7 = .ok (.if_icmp .ne 7, 3) := by decide +kernel
theorem dX6_isKing_10 : decode cX6_isKing 10 = .ok (.iconst 1, 1) := by decide +kernel
theorem dX6_isKing_11 : decode cX6_isKing 11 = .ok (.goto 4, 3) := by decide +kernel
theorem dX6_isKing_14 : decode cX6_isKing 14 = .ok (.iconst 0, 1) := by decide +kernel
theorem dX6_isKing_15 : decode cX6_isKing 15 = .ok (.ireturn, 1) := by decide +kernel
theorem dX6_sideOf_0 : decode cX6_sideOf 0 = .ok (.iload_n 0, 1) := by decide +kernel
theorem dX6_sideOf_1 : decode cX6_sideOf 1 = .ok (.ifCond .eq 8, 3) := by decide +kernel
theorem dX6_sideOf_4 : decode cX6_sideOf 4 = .ok (.iload_n 0, 1) := by decide +kernel
theorem dX6_sideOf_5 : decode cX6_sideOf 5 = .ok (.iconst 1, 1) := by decide +kernel
theorem dX6_sideOf_6 : decode cX6_sideOf 6 = .ok (.if_icmp .ne 5, 3) := by decide +kernel
theorem dX6_sideOf_9 : decode cX6_sideOf 9 = .ok (.iconst 0, 1) := by decide +kernel
theorem dX6_sideOf_10 : decode cX6_sideOf 10 = .ok (.ireturn, 1) := by decide +kernel
theorem dX6_sideOf_11 : decode cX6_sideOf 11 = .ok (.iload_n 0, 1) := by decide +kernel
theorem dX6_sideOf_12 : decode cX6_sideOf 12 = .ok (.iconst 2, 1) := by decide +kernel
theorem dX6_sideOf_13 : decode cX6_sideOf 13 = .ok (.if_icmp .eq 8, 3) := by decide +kernel
theorem dX6_sideOf_16 : decode cX6_sideOf 16 = .ok (.iload_n 0, 1) := by decide +kernel
theorem dX6_sideOf_17 : decode cX6_sideOf 17 = .ok (.iconst 3, 1) := by decide +kernel
theorem dX6_sideOf_18 : decode cX6_sideOf 18 = .ok (.if_icmp .ne 7, 3) := by decide +kernel
theorem dX6_sideOf_21 : decode cX6_sideOf 21 = .ok (.iconst 1, 1) := by decide +kernel
theorem dX6_sideOf_22 : decode cX6_sideOf 22 = .ok (.goto 5, 3) := by decide +kernel
theorem dX6_sideOf_25 : decode cX6_sideOf 25 = .ok (.bipush (-6), 2) := by decide +kernel
theorem dX6_sideOf_27 : decode cX6_sideOf 27 = .ok (.ireturn, 1) := by decide +kernel
theorem dX6_kingOf_0 : decode cX6_kingOf 0 = .ok (.iload_n 0, 1) := by decide +kernel
theorem dX6_kingOf_1 : decode cX6_kingOf 1 = .ok (.ifCond .ne 7, 3) := by decide +kernel
theorem dX6_kingOf_4 : decode cX6_kingOf 4 = .ok (.iconst 1, 1) := by decide +kernel
theorem dX6_kingOf_5 : decode cX6_kingOf 5 = .ok (.goto 4, 3) := by decide +kernel
theorem dX6_kingOf_8 : decode cX6_kingOf 8 = .ok (.iconst 3, 1) := by decide +kernel
theorem dX6_kingOf_9 : decode cX6_kingOf 9 = .ok (.ireturn, 1) := by decide +kernel
theorem dX6_rowOf_0 : decode cX6_rowOf 0 = .ok (.iload_n 0, 1) := by decide +kernel
theorem dX6_rowOf_1 : decode cX6_rowOf 1 = .ok (.bipush 6, 2) := by decide +kernel
theorem dX6_rowOf_3 : decode cX6_rowOf 3 = .ok (.idiv, 1) := by decide +kernel
theorem dX6_rowOf_4 : decode cX6_rowOf 4 = .ok (.ireturn, 1) := by decide +kernel
theorem dX6_columnOf_0 : decode cX6_columnOf 0 = .ok (.iload_n 0, 1) := by decide +kernel
theorem dX6_columnOf_1 : decode cX6_columnOf 1 = .ok (.bipush 6, 2) := by decide +kernel
theorem dX6_columnOf_3 : decode cX6_columnOf 3 = .ok (.irem, 1) := by decide +kernel
theorem dX6_columnOf_4 : decode cX6_columnOf 4 = .ok (.iconst 2, 1) := by decide +kernel
theorem dX6_columnOf_5 : decode cX6_columnOf 5 = .ok (.imul, 1) := by decide +kernel
theorem dX6_columnOf_6 : decode cX6_columnOf 6 = .ok (.iload_n 0, 1) := by decide +kernel
theorem dX6_columnOf_7 : decode cX6_columnOf 7 = .ok (.bipush 6, 2) := by decide +kernel
theorem dX6_columnOf_9 : decode cX6_columnOf 9 = .ok (.idiv, 1) := by decide +kernel
theorem dX6_columnOf_10 : decode cX6_columnOf 10 = .ok (.iconst 2, 1) := by decide +kernel
theorem dX6_columnOf_11 : decode cX6_columnOf 11 = .ok (.irem, 1) := by decide +kernel
theorem dX6_columnOf_12 : decode cX6_columnOf 12 = .ok (.iadd, 1) := by decide +kernel
theorem dX6_columnOf_13 : decode cX6_columnOf 13 = .ok (.ireturn, 1) := by decide +kernel
theorem dX6_squareAfter_0 : decode cX6_squareAfter 0 = .ok (.iload_n 0, 1) := by decide +kernel
theorem dX6_squareAfter_1 : decode cX6_squareAfter 1 = .ok (.invokestatic 133, 3) := by decide +kernel
theorem dX6_squareAfter_4 : decode cX6_squareAfter 4 = .ok (.iload_n 1, 1) := by decide +kernel
theorem dX6_squareAfter_5 : decode cX6_squareAfter 5 = .ok (.iconst 2, 1) := by decide +kernel
theorem dX6_squareAfter_6 : decode cX6_squareAfter 6 = .ok (.if_icmp .ge 7, 3) := by decide +kernel
theorem dX6_squareAfter_9 : decode cX6_squareAfter 9 = .ok (.iload_n 2, 1) := by decide +kernel
theorem dX6_squareAfter_10 : decode cX6_squareAfter 10 = .ok (.goto 5, 3) := by decide +kernel
theorem dX6_squareAfter_13 : decode cX6_squareAfter 13 = .ok (.iload_n 2, 1) := by decide +kernel
theorem dX6_squareAfter_14 : decode cX6_squareAfter 14 = .ok (.ineg, 1) := by decide +kernel
theorem dX6_squareAfter_15 : decode cX6_squareAfter 15 = .ok (.iadd, 1) := by decide +kernel
theorem dX6_squareAfter_16 : decode cX6_squareAfter 16 = .ok (.istore_n 3, 1) := by decide +kernel
theorem dX6_squareAfter_17 : decode cX6_squareAfter 17 = .ok (.iload_n 0, 1) := by decide +kernel
theorem dX6_squareAfter_18 : decode cX6_squareAfter 18 = .ok (.invokestatic 130, 3) := by decide +kernel
theorem dX6_squareAfter_21 : decode cX6_squareAfter 21 = .ok (.iload_n 1, 1) := by decide +kernel
theorem dX6_squareAfter_22 : decode cX6_squareAfter 22 = .ok (.iconst 2, 1) := by decide +kernel
theorem dX6_squareAfter_23 : decode cX6_squareAfter 23 = .ok (.irem, 1) := by decide +kernel
theorem dX6_squareAfter_24 : decode cX6_squareAfter 24 = .ok (.ifCond .ne 7, 3) := by decide +kernel
theorem dX6_squareAfter_27 : decode cX6_squareAfter 27 = .ok (.iload_n 2, 1) := by decide +kernel
theorem dX6_squareAfter_28 : decode cX6_squareAfter 28 = .ok (.goto 5, 3) := by decide +kernel
theorem dX6_squareAfter_31 : decode cX6_squareAfter 31 = .ok (.iload_n 2, 1) := by decide +kernel
theorem dX6_squareAfter_32 : decode cX6_squareAfter 32 = .ok (.ineg, 1) := by decide +kernel
theorem dX6_squareAfter_33 : decode cX6_squareAfter 33 = .ok (.iadd, 1) := by decide +kernel
theorem dX6_squareAfter_34 : decode cX6_squareAfter 34 = .ok (.istore 4, 2) := by decide +kernel
theorem dX6_squareAfter_36 : decode cX6_squareAfter 36 = .ok (.iload_n 3, 1) := by decide +kernel
theorem dX6_squareAfter_37 : decode cX6_squareAfter 37 = .ok (.bipush 8, 2) := by decide +kernel
theorem dX6_squareAfter_39 : decode cX6_squareAfter 39 = .ok (.invokestatic 258, 3) := by decide +kernel
theorem dX6_squareAfter_42 : decode cX6_squareAfter 42 = .ok (.bipush 6, 2) := by decide +kernel
theorem dX6_squareAfter_44 : decode cX6_squareAfter 44 = .ok (.imul, 1) := by decide +kernel
theorem dX6_squareAfter_45 : decode cX6_squareAfter 45 = .ok (.iload 4, 2) := by decide +kernel
theorem dX6_squareAfter_47 : decode cX6_squareAfter 47 = .ok (.bipush 12, 2) := by decide +kernel
theorem dX6_squareAfter_49 : decode cX6_squareAfter 49 = .ok (.invokestatic 258, 3) := by decide +kernel
theorem dX6_squareAfter_52 : decode cX6_squareAfter 52 = .ok (.iconst 2, 1) := by decide +kernel
theorem dX6_squareAfter_53 : decode cX6_squareAfter 53 = .ok (.idiv, 1) := by decide +kernel
theorem dX6_squareAfter_54 : decode cX6_squareAfter 54 = .ok (.iadd, 1) := by decide +kernel
theorem dX6_squareAfter_55 : decode cX6_squareAfter 55 = .ok (.ireturn, 1) := by decide +kernel
theorem dX6_mayGo_0 : decode cX6_mayGo 0 = .ok (.iload_n 0, 1) := by decide +kernel
theorem dX6_mayGo_1 : decode cX6_mayGo 1 = .ok (.ifCond .ne 14, 3) := by decide +kernel
theorem dX6_mayGo_4 : decode cX6_mayGo 4 = .ok (.iload_n 1, 1) := by decide +kernel
theorem dX6_mayGo_5 : decode cX6_mayGo 5 = .ok (.iconst 2, 1) := by decide +kernel
theorem dX6_mayGo_6 : decode cX6_mayGo 6 = .ok (.if_icmp .ge 7, 3) := by decide +kernel
theorem dX6_mayGo_9 : decode cX6_mayGo 9 = .ok (.iconst 1, 1) := by decide +kernel
theorem dX6_mayGo_10 : decode cX6_mayGo 10 = .ok (.goto 4, 3) := by decide +kernel
theorem dX6_mayGo_13 : decode cX6_mayGo 13 = .ok (.iconst 0, 1) := by decide +kernel
theorem dX6_mayGo_14 : decode cX6_mayGo 14 = .ok (.ireturn, 1) := by decide +kernel
theorem dX6_mayGo_15 : decode cX6_mayGo 15 = .ok (.iload_n 0, 1) := by decide +kernel
theorem dX6_mayGo_16 : decode cX6_mayGo 16 = .ok (.iconst 2, 1) := by decide +kernel
theorem dX6_mayGo_17 : decode cX6_mayGo 17 = .ok (.if_icmp .ne 16, 3) := by decide +kernel
theorem dX6_mayGo_20 : decode cX6_mayGo 20 = .ok (.iload_n 1, 1) := by decide +kernel
theorem dX6_mayGo_21 : decode cX6_mayGo 21 = .ok (.iconst 2, 1) := by decide +kernel
theorem dX6_mayGo_22 : decode cX6_mayGo 22 = .ok (.if_icmp .lt 7, 3) := by decide +kernel
theorem dX6_mayGo_25 : decode cX6_mayGo 25 = .ok (.iconst 1, 1) := by decide +kernel
theorem dX6_mayGo_26 : decode cX6_mayGo 26 = .ok (.goto 18, 3) := by decide +kernel
theorem dX6_mayGo_29 : decode cX6_mayGo 29 = .ok (.iconst 0, 1) := by decide +kernel
theorem dX6_mayGo_30 : decode cX6_mayGo 30 = .ok (.goto 14, 3) := by decide +kernel
theorem dX6_mayGo_33 : decode cX6_mayGo 33 = .ok (.iload_n 0, 1) := by decide +kernel
theorem dX6_mayGo_34 : decode cX6_mayGo 34 = .ok (.bipush (-6), 2) := by decide +kernel
theorem dX6_mayGo_36 : decode cX6_mayGo 36 = .ok (.if_icmp .eq 7, 3) := by decide +kernel
theorem dX6_mayGo_39 : decode cX6_mayGo 39 = .ok (.iconst 1, 1) := by decide +kernel
theorem dX6_mayGo_40 : decode cX6_mayGo 40 = .ok (.goto 4, 3) := by decide +kernel
theorem dX6_mayGo_43 : decode cX6_mayGo 43 = .ok (.iconst 0, 1) := by decide +kernel
theorem dX6_mayGo_44 : decode cX6_mayGo 44 = .ok (.ireturn, 1) := by decide +kernel
theorem dX6_isCrowned_0 : decode cX6_isCrowned 0 = .ok (.iload_n 0, 1) := by decide +kernel
theorem dX6_isCrowned_1 : decode cX6_isCrowned 1 = .ok (.ifCond .ne 20, 3) := by decide +kernel
theorem dX6_isCrowned_4 : decode cX6_isCrowned 4 = .ok (.iload_n 1, 1) := by decide +kernel
theorem dX6_isCrowned_5 : decode cX6_isCrowned 5 = .ok (.invokestatic 133, 3) := by decide +kernel
theorem dX6_isCrowned_8 : decode cX6_isCrowned 8 = .ok (.iload_n 2, 1) := by decide +kernel
theorem dX6_isCrowned_9 : decode cX6_isCrowned 9 = .ok (.iadd, 1) := by decide +kernel
theorem dX6_isCrowned_10 : decode cX6_isCrowned 10 = .ok (.bipush 8, 2) := by decide +kernel
theorem dX6_isCrowned_12 : decode cX6_isCrowned 12 = .ok (.if_icmp .lt 7, 3) := by decide +kernel
theorem dX6_isCrowned_15 : decode cX6_isCrowned 15 = .ok (.iconst 1, 1) := by decide +kernel
theorem dX6_isCrowned_16 : decode cX6_isCrowned 16 = .ok (.goto 4, 3) := by decide +kernel
theorem dX6_isCrowned_19 : decode cX6_isCrowned 19 = .ok (.iconst 0, 1) := by decide +kernel
theorem dX6_isCrowned_20 : decode cX6_isCrowned 20 = .ok (.ireturn, 1) := by decide +kernel
theorem dX6_isCrowned_21 : decode cX6_isCrowned 21 = .ok (.iload_n 0, 1) := by decide +kernel
theorem dX6_isCrowned_22 : decode cX6_isCrowned 22 = .ok (.iconst 2, 1) := by decide +kernel
theorem dX6_isCrowned_23 : decode cX6_isCrowned 23 = .ok (.if_icmp .ne 16, 3) := by decide +kernel
theorem dX6_isCrowned_26 : decode cX6_isCrowned 26 = .ok (.iload_n 1, 1) := by decide +kernel
theorem dX6_isCrowned_27 : decode cX6_isCrowned 27 = .ok (.invokestatic 133, 3) := by decide +kernel
theorem dX6_isCrowned_30 : decode cX6_isCrowned 30 = .ok (.iload_n 2, 1) := by decide +kernel
theorem dX6_isCrowned_31 : decode cX6_isCrowned 31 = .ok (.isub, 1) := by decide +kernel
theorem dX6_isCrowned_32 : decode cX6_isCrowned 32 = .ok (.ifCond .ge 7, 3) := by decide +kernel
theorem dX6_isCrowned_35 : decode cX6_isCrowned 35 = .ok (.iconst 1, 1) := by decide +kernel
theorem dX6_isCrowned_36 : decode cX6_isCrowned 36 = .ok (.goto 4, 3) := by decide +kernel
theorem dX6_isCrowned_39 : decode cX6_isCrowned 39 = .ok (.iconst 0, 1) := by decide +kernel
theorem dX6_isCrowned_40 : decode cX6_isCrowned 40 = .ok (.ireturn, 1) := by decide +kernel
theorem dX6_wonBy_0 : decode cX6_wonBy 0 = .ok (.iload_n 0, 1) := by decide +kernel
theorem dX6_wonBy_1 : decode cX6_wonBy 1 = .ok (.ifCond .ne 7, 3) := by decide +kernel
theorem dX6_wonBy_4 : decode cX6_wonBy 4 = .ok (.iconst 1, 1) := by decide +kernel
theorem dX6_wonBy_5 : decode cX6_wonBy 5 = .ok (.goto 4, 3) := by decide +kernel
theorem dX6_wonBy_8 : decode cX6_wonBy 8 = .ok (.iconst 2, 1) := by decide +kernel
theorem dX6_wonBy_9 : decode cX6_wonBy 9 = .ok (.ireturn, 1) := by decide +kernel
theorem dX6_oneIf_0 : decode cX6_oneIf 0 = .ok (.iload_n 0, 1) := by decide +kernel
theorem dX6_oneIf_1 : decode cX6_oneIf 1 = .ok (.ifCond .eq 7, 3) := by decide +kernel
theorem dX6_oneIf_4 : decode cX6_oneIf 4 = .ok (.iconst 1, 1) := by decide +kernel
theorem dX6_oneIf_5 : decode cX6_oneIf 5 = .ok (.goto 4, 3) := by decide +kernel
theorem dX6_oneIf_8 : decode cX6_oneIf 8 = .ok (.iconst 0, 1) := by decide +kernel
theorem dX6_oneIf_9 : decode cX6_oneIf 9 = .ok (.ireturn, 1) := by decide +kernel
theorem dX7_init_0 : decode cX7_init 0 = .ok (.aload_n 0, 1) := by decide +kernel
theorem dX7_init_1 : decode cX7_init 1 = .ok (.invokespecial 1, 3) := by decide +kernel
theorem dX7_init_4 : decode cX7_init 4 = .ok (.aload_n 0, 1) := by decide +kernel
theorem dX7_init_5 : decode cX7_init 5 = .ok (.sipush 431, 3) := by decide +kernel
theorem dX7_init_8 : decode cX7_init 8 = .ok (.newarray .int, 2) := by decide +kernel
theorem dX7_init_10 : decode cX7_init 10 = .ok (.putfield 7, 3) := by decide +kernel
theorem dX7_init_13 : decode cX7_init 13 = .ok (.aload_n 0, 1) := by decide +kernel
theorem dX7_init_14 : decode cX7_init 14 = .ok (.sipush 2586, 3) := by decide +kernel
theorem dX7_init_17 : decode cX7_init 17 = .ok (.newarray .int, 2) := by decide +kernel
theorem dX7_init_19 : decode cX7_init 19 = .ok (.putfield 13, 3) := by decide +kernel
theorem dX7_init_22 : decode cX7_init 22 = .ok (.aload_n 0, 1) := by decide +kernel
theorem dX7_init_23 : decode cX7_init 23 = .ok (.sipush 862, 3) := by decide +kernel
theorem dX7_init_26 : decode cX7_init 26 = .ok (.newarray .int, 2) := by decide +kernel
theorem dX7_init_28 : decode cX7_init 28 = .ok (.putfield 16, 3) := by decide +kernel
theorem dX7_init_31 : decode cX7_init 31 = .ok (.aload_n 0, 1) := by decide +kernel
theorem dX7_init_32 : decode cX7_init 32 = .ok (.iconst 2, 1) := by decide +kernel
theorem dX7_init_33 : decode cX7_init 33 = .ok (.newarray .boolean, 2) := by decide +kernel
theorem dX7_init_35 : decode cX7_init 35 = .ok (.putfield 19, 3) := by decide +kernel
theorem dX7_init_38 : decode cX7_init 38 = .ok (.aload_n 0, 1) := by decide +kernel
theorem dX7_init_39 : decode cX7_init 39 = .ok (.bipush 60, 2) := by decide +kernel
theorem dX7_init_41 : decode cX7_init 41 = .ok (.newarray .char, 2) := by decide +kernel
theorem dX7_init_43 : decode cX7_init 43 = .ok (.putfield 23, 3) := by decide +kernel
theorem dX7_init_46 : decode cX7_init 46 = .ok (.aload_n 0, 1) := by decide +kernel
theorem dX7_init_47 : decode cX7_init 47 = .ok (.sipush 192, 3) := by decide +kernel
theorem dX7_init_50 : decode cX7_init 50 = .ok (.newarray .int, 2) := by decide +kernel
theorem dX7_init_52 : decode cX7_init 52 = .ok (.putfield 27, 3) := by decide +kernel
theorem dX7_init_55 : decode cX7_init 55 = .ok (.aload_n 0, 1) := by decide +kernel
theorem dX7_init_56 : decode cX7_init 56 = .ok (.iconst 4, 1) := by decide +kernel
theorem dX7_init_57 : decode cX7_init 57 = .ok (.newarray .int, 2) := by decide +kernel
theorem dX7_init_59 : decode cX7_init 59 = .ok (.putfield 30, 3) := by decide +kernel
theorem dX7_init_62 : decode cX7_init 62 = .ok (.aload_n 0, 1) := by decide +kernel
theorem dX7_init_63 : decode cX7_init 63 = .ok (.iconst 4, 1) := by decide +kernel
theorem dX7_init_64 : decode cX7_init 64 = .ok (.newarray .int, 2) := by decide +kernel
theorem dX7_init_66 : decode cX7_init 66 = .ok (.putfield 33, 3) := by decide +kernel
theorem dX7_init_69 : decode cX7_init 69 = .ok (.aload_n 0, 1) := by decide +kernel
theorem dX7_init_70 : decode cX7_init 70 = .ok (.iconst 4, 1) := by decide +kernel
theorem dX7_init_71 : decode cX7_init 71 = .ok (.newarray .int, 2) := by decide +kernel
theorem dX7_init_73 : decode cX7_init 73 = .ok (.putfield 36, 3) := by decide +kernel
theorem dX7_init_76 : decode cX7_init 76 = .ok (.aload_n 0, 1) := by decide +kernel
theorem dX7_init_77 : decode cX7_init 77 = .ok (.sipush 6000, 3) := by decide +kernel
theorem dX7_init_80 : decode cX7_init 80 = .ok (.newarray .int, 2) := by decide +kernel
theorem dX7_init_82 : decode cX7_init 82 = .ok (.putfield 39, 3) := by decide +kernel
theorem dX7_init_85 : decode cX7_init 85 = .ok (.aload_n 0, 1) := by decide +kernel
theorem dX7_init_86 : decode cX7_init 86 = .ok (.sipush 6000, 3) := by decide +kernel
theorem dX7_init_89 : decode cX7_init 89 = .ok (.newarray .int, 2) := by decide +kernel
theorem dX7_init_91 : decode cX7_init 91 = .ok (.putfield 42, 3) := by decide +kernel
theorem dX7_init_94 : decode cX7_init 94 = .ok (.aload_n 0, 1) := by decide +kernel
theorem dX7_init_95 : decode cX7_init 95 = .ok (.sipush 6000, 3) := by decide +kernel
theorem dX7_init_98 : decode cX7_init 98 = .ok (.newarray .int, 2) := by decide +kernel
theorem dX7_init_100 : decode cX7_init 100 = .ok (.putfield 45, 3) := by decide +kernel
theorem dX7_init_103 : decode cX7_init 103 = .ok (.aload_n 0, 1) := by decide +kernel
theorem dX7_init_104 : decode cX7_init 104 = .ok (.sipush 6000, 3) := by decide +kernel
theorem dX7_init_107 : decode cX7_init 107 = .ok (.newarray .int, 2) := by decide +kernel
theorem dX7_init_109 : decode cX7_init 109 = .ok (.putfield 48, 3) := by decide +kernel
theorem dX7_init_112 : decode cX7_init 112 = .ok (.aload_n 0, 1) := by decide +kernel
theorem dX7_init_113 : decode cX7_init 113 = .ok (.sipush 6000, 3) := by decide +kernel
theorem dX7_init_116 : decode cX7_init 116 = .ok (.newarray .int, 2) := by decide +kernel
theorem dX7_init_118 : decode cX7_init 118 = .ok (.putfield 51, 3) := by decide +kernel
theorem dX7_init_121 : decode cX7_init 121 = .ok (.aload_n 0, 1) := by decide +kernel
theorem dX7_init_122 : decode cX7_init 122 = .ok (.bipush 60, 2) := by decide +kernel
theorem dX7_init_124 : decode cX7_init 124 = .ok (.newarray .int, 2) := by decide +kernel
theorem dX7_init_126 : decode cX7_init 126 = .ok (.putfield 54, 3) := by decide +kernel
theorem dX7_init_129 : decode cX7_init 129 = .ok (.aload_n 0, 1) := by decide +kernel
theorem dX7_init_130 : decode cX7_init 130 = .ok (.getfield 7, 3) := by decide +kernel
theorem dX7_init_133 : decode cX7_init 133 = .ok (.bipush 50, 2) := by decide +kernel
theorem dX7_init_135 : decode cX7_init 135 = .ok (.sipush 600, 3) := by decide +kernel
theorem dX7_init_138 : decode cX7_init 138 = .ok (.iastore, 1) := by decide +kernel
theorem dX7_init_139 : decode cX7_init 139 = .ok (.aload_n 0, 1) := by decide +kernel
theorem dX7_init_140 : decode cX7_init 140 = .ok (.iconst 0, 1) := by decide +kernel
theorem dX7_init_141 : decode cX7_init 141 = .ok (.invokevirtual 57, 3) := by decide +kernel
theorem dX7_init_144 : decode cX7_init 144 = .ok (.return_, 1) := by decide +kernel
theorem dX7_in_0 : decode cX7_in 0 = .ok (.iload_n 0, 1) := by decide +kernel
theorem dX7_in_1 : decode cX7_in 1 = .ok (.iload_n 1, 1) := by decide +kernel
theorem dX7_in_2 : decode cX7_in 2 = .ok (.if_icmp .lt 12, 3) := by decide +kernel
theorem dX7_in_5 : decode cX7_in 5 = .ok (.iload_n 0, 1) := by decide +kernel
theorem dX7_in_6 : decode cX7_in 6 = .ok (.iload_n 2, 1) := by decide +kernel
theorem dX7_in_7 : decode cX7_in 7 = .ok (.if_icmp .gt 7, 3) := by decide +kernel
theorem dX7_in_10 : decode cX7_in 10 = .ok (.iconst 1, 1) := by decide +kernel
theorem dX7_in_11 : decode cX7_in 11 = .ok (.goto 4, 3) := by decide +kernel
theorem dX7_in_14 : decode cX7_in 14 = .ok (.iconst 0, 1) := by decide +kernel
theorem dX7_in_15 : decode cX7_in 15 = .ok (.ireturn, 1) := by decide +kernel
theorem dX7_isSquare_0 : decode cX7_isSquare 0 = .ok (.iload_n 0, 1) := by decide +kernel
theorem dX7_isSquare_1 : decode cX7_isSquare 1 = .ok (.iconst 0, 1) := by decide +kernel
theorem dX7_isSquare_2 : decode cX7_isSquare 2 = .ok (.bipush 47, 2) := by decide +kernel
theorem dX7_isSquare_4 : decode cX7_isSquare 4 = .ok (.invokestatic 61, 3) := by decide +kernel
theorem dX7_isSquare_7 : decode cX7_isSquare 7 = .ok (.ireturn, 1) := by decide +kernel
theorem dX7_rowOf_0 : decode cX7_rowOf 0 = .ok (.iload_n 0, 1) := by decide +kernel
theorem dX7_rowOf_1 : decode cX7_rowOf 1 = .ok (.bipush 6, 2) := by decide +kernel
theorem dX7_rowOf_3 : decode cX7_rowOf 3 = .ok (.idiv, 1) := by decide +kernel
theorem dX7_rowOf_4 : decode cX7_rowOf 4 = .ok (.ireturn, 1) := by decide +kernel
theorem dX7_columnOf_0 : decode cX7_columnOf 0 = .ok (.iload_n 0, 1) := by decide +kernel
theorem dX7_columnOf_1 : decode cX7_columnOf 1 = .ok (.bipush 6, 2) := by decide +kernel
theorem dX7_columnOf_3 : decode cX7_columnOf 3 = .ok (.irem, 1) := by decide +kernel
theorem dX7_columnOf_4 : decode cX7_columnOf 4 = .ok (.iconst 2, 1) := by decide +kernel
theorem dX7_columnOf_5 : decode cX7_columnOf 5 = .ok (.imul, 1) := by decide +kernel
theorem dX7_columnOf_6 : decode cX7_columnOf 6 = .ok (.iload_n 0, 1) := by decide +kernel
theorem dX7_columnOf_7 : decode cX7_columnOf 7 = .ok (.bipush 6, 2) := by decide +kernel
theorem dX7_columnOf_9 : decode cX7_columnOf 9 = .ok (.idiv, 1) := by decide +kernel
theorem dX7_columnOf_10 : decode cX7_columnOf 10 = .ok (.iconst 2, 1) := by decide +kernel
theorem dX7_columnOf_11 : decode cX7_columnOf 11 = .ok (.irem, 1) := by decide +kernel
theorem dX7_columnOf_12 : decode cX7_columnOf 12 = .ok (.iadd, 1) := by decide +kernel
theorem dX7_columnOf_13 : decode cX7_columnOf 13 = .ok (.ireturn, 1) := by decide +kernel
theorem dX7_next_0 : decode cX7_next 0 = .ok (.iload_n 0, 1) := by decide +kernel
theorem dX7_next_1 : decode cX7_next 1 = .ok (.invokestatic 65, 3) := by decide +kernel
theorem dX7_next_4 : decode cX7_next 4 = .ok (.iload_n 1, 1) := by decide +kernel
theorem dX7_next_5 : decode cX7_next 5 = .ok (.iconst 2, 1) := by decide +kernel
theorem dX7_next_6 : decode cX7_next 6 = .ok (.irem, 1) := by decide +kernel
theorem dX7_next_7 : decode cX7_next 7 = .ok (.ifCond .ne 7, 3) := by decide +kernel
theorem dX7_next_10 : decode cX7_next 10 = .ok (.iconst 1, 1) := by decide +kernel
theorem dX7_next_11 : decode cX7_next 11 = .ok (.goto 5, 3) := by decide +kernel
theorem dX7_next_14 : decode cX7_next 14 = .ok (.bipush 11, 2) := by decide +kernel
theorem dX7_next_16 : decode cX7_next 16 = .ok (.iadd, 1) := by decide +kernel
theorem dX7_next_17 : decode cX7_next 17 = .ok (.bipush 12, 2) := by decide +kernel
theorem dX7_next_19 : decode cX7_next 19 = .ok (.irem, 1) := by decide +kernel
theorem dX7_next_20 : decode cX7_next 20 = .ok (.istore_n 2, 1) := by decide +kernel
theorem dX7_next_21 : decode cX7_next 21 = .ok (.iload_n 0, 1) := by decide +kernel
theorem dX7_next_22 : decode cX7_next 22 = .ok (.invokestatic 69, 3) := by decide +kernel
theorem dX7_next_25 : decode cX7_next 25 = .ok (.iload_n 1, 1) := by decide +kernel
theorem dX7_next_26 : decode cX7_next 26 = .ok (.iconst 2, 1) := by decide +kernel
theorem dX7_next_27 : decode cX7_next 27 = .ok (.if_icmp .ge 7, 3) := by decide +kernel
theorem dX7_next_30 : decode cX7_next 30 = .ok (.iconst 1, 1) := by decide +kernel
theorem dX7_next_31 : decode cX7_next 31 = .ok (.goto 5, 3) := by decide +kernel
theorem dX7_next_34 : decode cX7_next 34 = .ok (.bipush 7, 2) := by decide +kernel
theorem dX7_next_36 : decode cX7_next 36 = .ok (.iadd, 1) := by decide +kernel
theorem dX7_next_37 : decode cX7_next 37 = .ok (.bipush 8, 2) := by decide +kernel
theorem dX7_next_39 : decode cX7_next 39 = .ok (.irem, 1) := by decide +kernel
theorem dX7_next_40 : decode cX7_next 40 = .ok (.istore_n 3, 1) := by decide +kernel
theorem dX7_next_41 : decode cX7_next 41 = .ok (.bipush 6, 2) := by decide +kernel
theorem dX7_next_43 : decode cX7_next 43 = .ok (.iload_n 3, 1) := by decide +kernel
theorem dX7_next_44 : decode cX7_next 44 = .ok (.imul, 1) := by decide +kernel
theorem dX7_next_45 : decode cX7_next 45 = .ok (.iload_n 2, 1) := by decide +kernel
theorem dX7_next_46 : decode cX7_next 46 = .ok (.iconst 2, 1) := by decide +kernel
theorem dX7_next_47 : decode cX7_next 47 = .ok (.idiv, 1) := by decide +kernel
theorem dX7_next_48 : decode cX7_next 48 = .ok (.iadd, 1) := by decide +kernel
theorem dX7_next_49 : decode cX7_next 49 = .ok (.ireturn, 1) := by decide +kernel
theorem dX7_isKing_0 : decode cX7_isKing 0 = .ok (.iload_n 0, 1) := by decide +kernel
theorem dX7_isKing_1 : decode cX7_isKing 1 = .ok (.iconst 1, 1) := by decide +kernel
theorem dX7_isKing_2 : decode cX7_isKing 2 = .ok (.if_icmp .eq 8, 3) := by decide +kernel
theorem dX7_isKing_5 : decode cX7_isKing 5 = .ok (.iload_n 0, 1) := by decide +kernel
theorem dX7_isKing_6 : decode cX7_isKing 6 = .ok (.iconst 3, 1) := by decide +kernel
theorem dX7_isKing_7 : decode cX7_isKing 7 = .ok (.if_icmp .ne 7, 3) := by decide +kernel
theorem dX7_isKing_10 : decode cX7_isKing 10 = .ok (.iconst 1, 1) := by decide +kernel
theorem dX7_isKing_11 : decode cX7_isKing 11 = .ok (.goto 4, 3) := by decide +kernel
theorem dX7_isKing_14 : decode cX7_isKing 14 = .ok (.iconst 0, 1) := by decide +kernel
theorem dX7_isKing_15 : decode cX7_isKing 15 = .ok (.ireturn, 1) := by decide +kernel
theorem dX7_sideOf_0 : decode cX7_sideOf 0 = .ok (.iload_n 0, 1) := by decide +kernel
theorem dX7_sideOf_1 : decode cX7_sideOf 1 = .ok (.bipush (-6), 2) := by decide +kernel
theorem dX7_sideOf_3 : decode cX7_sideOf 3 = .ok (.if_icmp .ne 8, 3) := by decide +kernel
theorem dX7_sideOf_6 : decode cX7_sideOf 6 = .ok (.bipush (-6), 2) := by decide +kernel
theorem dX7_sideOf_8 : decode cX7_sideOf 8 = .ok (.goto 6, 3) := by decide +kernel
theorem dX7_sideOf_11 : decode cX7_sideOf 11 = .ok (.iload_n 0, 1) := by decide +kernel
theorem dX7_sideOf_12 : decode cX7_sideOf 12 = .ok (.iconst 2, 1) := by decide +kernel
theorem dX7_sideOf_13 : decode cX7_sideOf 13 = .ok (.idiv, 1) := by decide +kernel
theorem dX7_sideOf_14 : decode cX7_sideOf 14 = .ok (.ireturn, 1) := by decide +kernel
theorem dX7_record_0 : decode cX7_record 0 = .ok (.aload_n 0, 1) := by decide +kernel
theorem dX7_record_1 : decode cX7_record 1 = .ok (.getfield 72, 3) := by decide +kernel
theorem dX7_record_4 : decode cX7_record 4 = .ok (.bipush 6, 2) := by decide +kernel
theorem dX7_record_6 : decode cX7_record 6 = .ok (.if_icmp .ne 44, 3) := by decide +kernel
theorem dX7_record_9 : decode cX7_record 9 = .ok (.iconst 0, 1) := by decide +kernel
theorem dX7_record_10 : decode cX7_record 10 = .ok (.istore_n 1, 1) := by decide +kernel
theorem dX7_record_11 : decode cX7_record 11 = .ok (.iload_n 1, 1) := by decide +kernel
theorem dX7_record_12 : decode cX7_record 12 = .ok (.sipush 2155, 3) := by decide +kernel
theorem dX7_record_15 : decode cX7_record 15 = .ok (.if_icmp .ge 25, 3) := by decide +kernel
theorem dX7_record_18 : decode cX7_record 18 = .ok (.aload_n 0, 1) := by decide +kernel
theorem dX7_record_19 : decode cX7_record 19 = .ok (.getfield 13, 3) := by decide +kernel
theorem dX7_record_22 : decode cX7_record 22 = .ok (.iload_n 1, 1) := by decide +kernel
theorem dX7_record_23 : decode cX7_record 23 = .ok (.aload_n 0, 1) := by decide +kernel
theorem dX7_record_24 : decode cX7_record 24 = .ok (.getfield 13, 3) := by decide +kernel
theorem dX7_record_27 : decode cX7_record 27 = .ok (.iload_n 1, 1) := by decide +kernel
theorem dX7_record_28 : decode cX7_record 28 = .ok (.sipush 431, 3) := by decide +kernel
theorem dX7_record_31 : decode cX7_record 31 = .ok (.iadd, 1) := by decide +kernel
theorem dX7_record_32 : decode cX7_record 32 = .ok (.iaload, 1) := by decide +kernel
theorem dX7_record_33 : decode cX7_record 33 = .ok (.iastore, 1) := by decide +kernel
theorem dX7_record_34 : decode cX7_record 34 = .ok (.iinc 1 1, 3) := by decide +kernel
theorem dX7_record_37 : decode cX7_record 37 = .ok (.goto (-26), 3) := by decide +kernel
theorem dX7_record_40 : decode cX7_record 40 = .ok (.aload_n 0, 1) := by decide +kernel
theorem dX7_record_41 : decode cX7_record 41 = .ok (.dup, 1) := by decide +kernel
theorem dX7_record_42 : decode cX7_record 42 = .ok (.getfield 72, 3) := by decide +kernel
theorem dX7_record_45 : decode cX7_record 45 = .ok (.iconst 1, 1) := by decide +kernel
theorem dX7_record_46 : decode cX7_record 46 = .ok (.isub, 1) := by decide +kernel
theorem dX7_record_47 : decode cX7_record 47 = .ok (.putfield 72, 3) := by decide +kernel
theorem dX7_record_50 : decode cX7_record 50 = .ok (.iconst 0, 1) := by decide +kernel
theorem dX7_record_51 : decode cX7_record 51 = .ok (.istore_n 1, 1) := by decide +kernel
theorem dX7_record_52 : decode cX7_record 52 = .ok (.iload_n 1, 1) := by decide +kernel
theorem dX7_record_53 : decode cX7_record 53 = .ok (.sipush 431, 3) := by decide +kernel
theorem dX7_record_56 : decode cX7_record 56 = .ok (.if_icmp .ge 30, 3) := by decide +kernel
theorem dX7_record_59 : decode cX7_record 59 = .ok (.aload_n 0, 1) := by decide +kernel
theorem dX7_record_60 : decode cX7_record 60 = .ok (.getfield 13, 3) := by decide +kernel
theorem dX7_record_63 : decode cX7_record 63 = .ok (.aload_n 0, 1) := by decide +kernel
theorem dX7_record_64 : decode cX7_record 64 = .ok (.getfield 72, 3) := by decide +kernel
theorem dX7_record_67 : decode cX7_record 67 = .ok (.sipush 431, 3) := by decide +kernel
theorem dX7_record_70 : decode cX7_record 70 = .ok (.imul, 1) := by decide +kernel
theorem dX7_record_71 : decode cX7_record 71 = .ok (.iload_n 1, 1) := by decide +kernel
theorem dX7_record_72 : decode cX7_record 72 = .ok (.iadd, 1) := by decide +kernel
theorem dX7_record_73 : decode cX7_record 73 = .ok (.aload_n 0, 1) := by decide +kernel
theorem dX7_record_74 : decode cX7_record 74 = .ok (.getfield 7, 3) := by decide +kernel
theorem dX7_record_77 : decode cX7_record 77 = .ok (.iload_n 1, 1) := by decide +kernel
theorem dX7_record_78 : decode cX7_record 78 = .ok (.iaload, 1) := by decide +kernel
theorem dX7_record_79 : decode cX7_record 79 = .ok (.iastore, 1) := by decide +kernel
theorem dX7_record_80 : decode cX7_record 80 = .ok (.iinc 1 1, 3) := by decide +kernel
theorem dX7_record_83 : decode cX7_record 83 = .ok (.goto (-31), 3) := by decide +kernel
theorem dX7_record_86 : decode cX7_record 86 = .ok (.aload_n 0, 1) := by decide +kernel
theorem dX7_record_87 : decode cX7_record 87 = .ok (.dup, 1) := by decide +kernel
theorem dX7_record_88 : decode cX7_record 88 = .ok (.getfield 72, 3) := by decide +kernel
theorem dX7_record_91 : decode cX7_record 91 = .ok (.iconst 1, 1) := by decide +kernel
theorem dX7_record_92 : decode cX7_record 92 = .ok (.iadd, 1) := by decide +kernel
theorem dX7_record_93 : decode cX7_record 93 = .ok (.putfield 72, 3) := by decide +kernel
theorem dX7_record_96 : decode cX7_record 96 = .ok (.return_, 1) := by decide +kernel
theorem dX7_undo_0 : decode cX7_undo 0 = .ok (.aload_n 0, 1) := by decide +kernel
theorem dX7_undo_1 : decode cX7_undo 1 = .ok (.getfield 72, 3) := by decide +kernel
theorem dX7_undo_4 : decode cX7_undo 4 = .ok (.ifCond .ne 6, 3) := by decide +kernel
theorem dX7_undo_7 : decode cX7_undo 7 = .ok (.bipush (-5), 2) := by decide +kernel
theorem dX7_undo_9 : decode cX7_undo 9 = .ok (.ireturn, 1) := by decide +kernel
theorem dX7_undo_10 : decode cX7_undo 10 = .ok (.aload_n 0, 1) := by decide +kernel
theorem dX7_undo_11 : decode cX7_undo 11 = .ok (.dup, 1) := by decide +kernel
theorem dX7_undo_12 : decode cX7_undo 12 = .ok (.getfield 72, 3) := by decide +kernel
theorem dX7_undo_15 : decode cX7_undo 15 = .ok (.iconst 1, 1) := by decide +kernel
theorem dX7_undo_16 : decode cX7_undo 16 = .ok (.isub, 1) := by decide +kernel
theorem dX7_undo_17 : decode cX7_undo 17 = .ok (.putfield 72, 3) := by decide +kernel
theorem dX7_undo_20 : decode cX7_undo 20 = .ok (.iconst 0, 1) := by decide +kernel
theorem dX7_undo_21 : decode cX7_undo 21 = .ok (.istore_n 1, 1) := by decide +kernel
theorem dX7_undo_22 : decode cX7_undo 22 = .ok (.iload_n 1, 1) := by decide +kernel
theorem dX7_undo_23 : decode cX7_undo 23 = .ok (.sipush 431, 3) := by decide +kernel
theorem dX7_undo_26 : decode cX7_undo 26 = .ok (.if_icmp .ge 30, 3) := by decide +kernel
theorem dX7_undo_29 : decode cX7_undo 29 = .ok (.aload_n 0, 1) := by decide +kernel
theorem dX7_undo_30 : decode cX7_undo 30 = .ok (.getfield 7, 3) := by decide +kernel
theorem dX7_undo_33 : decode cX7_undo 33 = .ok (.iload_n 1, 1) := by decide +kernel
theorem dX7_undo_34 : decode cX7_undo 34 = .ok (.aload_n 0, 1) := by decide +kernel
theorem dX7_undo_35 : decode cX7_undo 35 = .ok (.getfield 13, 3) := by decide +kernel
theorem dX7_undo_38 : decode cX7_undo 38 = .ok (.aload_n 0, 1) := by decide +kernel
theorem dX7_undo_39 : decode cX7_undo 39 = .ok (.getfield 72, 3) := by decide +kernel
theorem dX7_undo_42 : decode cX7_undo 42 = .ok (.sipush 431, 3) := by decide +kernel
theorem dX7_undo_45 : decode cX7_undo 45 = .ok (.imul, 1) := by decide +kernel
theorem dX7_undo_46 : decode cX7_undo 46 = .ok (.iload_n 1, 1) := by decide +kernel
theorem dX7_undo_47 : decode cX7_undo 47 = .ok (.iadd, 1) := by decide +kernel
theorem dX7_undo_48 : decode cX7_undo 48 = .ok (.iaload, 1) := by decide +kernel
theorem dX7_undo_49 : decode cX7_undo 49 = .ok (.iastore, 1) := by decide +kernel
theorem dX7_undo_50 : decode cX7_undo 50 = .ok (.iinc 1 1, 3) := by decide +kernel
theorem dX7_undo_53 : decode cX7_undo 53 = .ok (.goto (-31), 3) := by decide +kernel
theorem dX7_undo_56 : decode cX7_undo 56 = .ok (.aload_n 0, 1) := by decide +kernel
theorem dX7_undo_57 : decode cX7_undo 57 = .ok (.getfield 72, 3) := by decide +kernel
theorem dX7_undo_60 : decode cX7_undo 60 = .ok (.ireturn, 1) := by decide +kernel
theorem dX7_save_0 : decode cX7_save 0 = .ok (.iload_n 1, 1) := by decide +kernel
theorem dX7_save_1 : decode cX7_save 1 = .ok (.iconst 0, 1) := by decide +kernel
theorem dX7_save_2 : decode cX7_save 2 = .ok (.iconst 1, 1) := by decide +kernel
theorem dX7_save_3 : decode cX7_save 3 = .ok (.invokestatic 61, 3) := by decide +kernel
theorem dX7_save_6 : decode cX7_save 6 = .ok (.ifCond .ne 6, 3) := by decide +kernel
theorem dX7_save_9 : decode cX7_save 9 = .ok (.bipush (-2), 2) := by decide +kernel
theorem dX7_save_11 : decode cX7_save 11 = .ok (.ireturn, 1) := by decide +kernel
theorem dX7_save_12 : decode cX7_save 12 = .ok (.aload_n 0, 1) := by decide +kernel
theorem dX7_save_13 : decode cX7_save 13 = .ok (.getfield 19, 3) := by decide +kernel
theorem dX7_save_16 : decode cX7_save 16 = .ok (.iload_n 1, 1) := by decide +kernel
theorem dX7_save_17 : decode cX7_save 17 = .ok (.iconst 1, 1) := by decide +kernel
theorem dX7_save_18 : decode cX7_save 18 = .ok (.bastore, 1) := by decide +kernel
theorem dX7_save_19 : decode cX7_save 19 = .ok (.iconst 0, 1) := by decide +kernel
theorem dX7_save_20 : decode cX7_save 20 = .ok (.istore_n 2, 1) := by decide +kernel
theorem dX7_save_21 : decode cX7_save 21 = .ok (.iload_n 2, 1) := by decide +kernel
theorem dX7_save_22 : decode cX7_save 22 = .ok (.sipush 431, 3) := by decide +kernel
theorem dX7_save_25 : decode cX7_save 25 = .ok (.if_icmp .ge 27, 3) := by decide +kernel
theorem dX7_save_28 : decode cX7_save 28 = .ok (.aload_n 0, 1) := by decide +kernel
theorem dX7_save_29 : decode cX7_save 29 = .ok (.getfield 16, 3) := by decide +kernel
theorem dX7_save_32 : decode cX7_save 32 = .ok (.iload_n 1, 1) := by decide +kernel
theorem dX7_save_33 : decode cX7_save 33 = .ok (.sipush 431, 3) := by decide +kernel
theorem dX7_save_36 : decode cX7_save 36 = .ok (.imul, 1) := by decide +kernel
theorem dX7_save_37 : decode cX7_save 37 = .ok (.iload_n 2, 1) := by decide +kernel
theorem dX7_save_38 : decode cX7_save 38 = .ok (.iadd, 1) := by decide +kernel
theorem dX7_save_39 : decode cX7_save 39 = .ok (.aload_n 0, 1) := by decide +kernel
theorem dX7_save_40 : decode cX7_save 40 = .ok (.getfield 7, 3) := by decide +kernel
theorem dX7_save_43 : decode cX7_save 43 = .ok (.iload_n 2, 1) := by decide +kernel
theorem dX7_save_44 : decode cX7_save 44 = .ok (.iaload, 1) := by decide +kernel
theorem dX7_save_45 : decode cX7_save 45 = .ok (.iastore, 1) := by decide +kernel
theorem dX7_save_46 : decode cX7_save 46 = .ok (.iinc 2 1, 3) := by decide +kernel
theorem dX7_save_49 : decode cX7_save 49 = .ok (.goto (-28), 3) := by decide +kernel
theorem dX7_save_52 : decode cX7_save 52 = .ok (.aload_n 0, 1) := by decide +kernel
theorem dX7_save_53 : decode cX7_save 53 = .ok (.getfield 7, 3) := by decide +kernel
theorem dX7_save_56 : decode cX7_save 56 = .ok (.bipush 53, 2) := by decide +kernel
theorem dX7_save_58 : decode cX7_save 58 = .ok (.iaload, 1) := by decide +kernel
theorem dX7_save_59 : decode cX7_save 59 = .ok (.ireturn, 1) := by decide +kernel
theorem dX7_restore_0 : decode cX7_restore 0 = .ok (.iload_n 1, 1) := by decide +kernel
theorem dX7_restore_1 : decode cX7_restore 1 = .ok (.iconst 0, 1) := by decide +kernel
theorem dX7_restore_2 : decode cX7_restore 2 = .ok (.iconst 1, 1) := by decide +kernel
theorem dX7_restore_3 : decode cX7_restore 3 = .ok (.invokestatic 61, 3) := by decide +kernel
theorem dX7_restore_6 : decode cX7_restore 6 = .ok (.ifCond .ne 6, 3) := by decide +kernel
theorem dX7_restore_9 : decode cX7_restore 9 = .ok (.bipush (-2), 2) := by decide +kernel
theorem dX7_restore_11 : decode cX7_restore 11 = .ok (.ireturn, 1) := by decide +kernel
theorem dX7_restore_12 : decode cX7_restore 12 = .ok (.aload_n 0, 1) := by decide +kernel
theorem dX7_restore_13 : decode cX7_restore 13 = .ok (.getfield 19, 3) := by decide +kernel
theorem dX7_restore_16 : decode cX7_restore 16 = .ok (.iload_n 1, 1) := by decide +kernel
theorem dX7_restore_17 : decode cX7_restore 17 = .ok (.baload, 1) := by decide +kernel
theorem dX7_restore_18 : decode cX7_restore 18 = .ok (.ifCond .ne 6, 3) := by decide +kernel
theorem dX7_restore_21 : decode cX7_restore 21 = .ok (.bipush (-5), 2) := by decide +kernel
theorem dX7_restore_23 : decode cX7_restore 23 = .ok (.ireturn, 1) := by decide +kernel
theorem dX7_restore_24 : decode cX7_restore 24 = .ok (.aload_n 0, 1) := by decide +kernel
theorem dX7_restore_25 : decode cX7_restore 25 = .ok (.invokevirtual 76, 3) := by decide +kernel
theorem dX7_restore_28 : decode cX7_restore 28 = .ok (.iconst 0, 1) := by decide +kernel
theorem dX7_restore_29 : decode cX7_restore 29 = .ok (.istore_n 2, 1) := by decide +kernel
theorem dX7_restore_30 : decode cX7_restore 30 = .ok (.iload_n 2, 1) := by decide +kernel
theorem dX7_restore_31 : decode cX7_restore 31 = .ok (.sipush 431, 3) := by decide +kernel
theorem dX7_restore_34 : decode cX7_restore 34 = .ok (.if_icmp .ge 27, 3) := by decide +kernel
theorem dX7_restore_37 : decode cX7_restore 37 = .ok (.aload_n 0, 1) := by decide +kernel
theorem dX7_restore_38 : decode cX7_restore 38 = .ok (.getfield 7, 3) := by decide +kernel
theorem dX7_restore_41 : decode cX7_restore 41 = .ok (.iload_n 2, 1) := by decide +kernel
theorem dX7_restore_42 : decode cX7_restore 42 = .ok (.aload_n 0, 1) := by decide +kernel
theorem dX7_restore_43 : decode cX7_restore 43 = .ok (.getfield 16, 3) := by decide +kernel
theorem dX7_restore_46 : decode cX7_restore 46 = .ok (.iload_n 1, 1) := by decide +kernel
theorem dX7_restore_47 : decode cX7_restore 47 = .ok (.sipush 431, 3) := by decide +kernel
theorem dX7_restore_50 : decode cX7_restore 50 = .ok (.imul, 1) := by decide +kernel
theorem dX7_restore_51 : decode cX7_restore 51 = .ok (.iload_n 2, 1) := by decide +kernel
theorem dX7_restore_52 : decode cX7_restore 52 = .ok (.iadd, 1) := by decide +kernel
theorem dX7_restore_53 : decode cX7_restore 53 = .ok (.iaload, 1) := by decide +kernel
theorem dX7_restore_54 : decode cX7_restore 54 = .ok (.iastore, 1) := by decide +kernel
theorem dX7_restore_55 : decode cX7_restore 55 = .ok (.iinc 2 1, 3) := by decide +kernel
theorem dX7_restore_58 : decode cX7_restore 58 = .ok (.goto (-28), 3) := by decide +kernel
theorem dX7_restore_61 : decode cX7_restore 61 = .ok (.aload_n 0, 1) := by decide +kernel
theorem dX7_restore_62 : decode cX7_restore 62 = .ok (.getfield 7, 3) := by decide +kernel
theorem dX7_restore_65 : decode cX7_restore 65 = .ok (.bipush 53, 2) := by decide +kernel
theorem dX7_restore_67 : decode cX7_restore 67 = .ok (.iaload, 1) := by decide +kernel
theorem dX7_restore_68 : decode cX7_restore 68 = .ok (.ireturn, 1) := by decide +kernel
theorem dX7_pieceAt_0 : decode cX7_pieceAt 0 = .ok (.aload_n 0, 1) := by decide +kernel
theorem dX7_pieceAt_1 : decode cX7_pieceAt 1 = .ok (.getfield 27, 3) := by decide +kernel
theorem dX7_pieceAt_4 : decode cX7_pieceAt 4 = .ok (.bipush 48, 2) := by decide +kernel
theorem dX7_pieceAt_6 : decode cX7_pieceAt 6 = .ok (.iload_n 1, 1) := by decide +kernel
theorem dX7_pieceAt_7 : decode cX7_pieceAt 7 = .ok (.imul, 1) := by decide +kernel
theorem dX7_pieceAt_8 : decode cX7_pieceAt 8 = .ok (.iload_n 2, 1) := by decide +kernel
theorem dX7_pieceAt_9 : decode cX7_pieceAt 9 = .ok (.iadd, 1) := by decide +kernel
theorem dX7_pieceAt_10 : decode cX7_pieceAt 10 = .ok (.iaload, 1) := by decide +kernel
theorem dX7_pieceAt_11 : decode cX7_pieceAt 11 = .ok (.ireturn, 1) := by decide +kernel
theorem dX7_isEmpty_0 : decode cX7_isEmpty 0 = .ok (.aload_n 0, 1) := by decide +kernel
theorem dX7_isEmpty_1 : decode cX7_isEmpty 1 = .ok (.iload_n 1, 1) := by decide +kernel
theorem dX7_isEmpty_2 : decode cX7_isEmpty 2 = .ok (.iload_n 2, 1) := by decide +kernel
theorem dX7_isEmpty_3 : decode cX7_isEmpty 3 = .ok (.invokevirtual 79, 3) := by decide +kernel
theorem dX7_isEmpty_6 : decode cX7_isEmpty 6 = .ok (.bipush (-6), 2) := by decide +kernel
theorem dX7_isEmpty_8 : decode cX7_isEmpty 8 = .ok (.if_icmp .ne 7, 3) := by decide +kernel
theorem dX7_isEmpty_11 : decode cX7_isEmpty 11 = .ok (.iconst 1, 1) := by decide +kernel
theorem dX7_isEmpty_12 : decode cX7_isEmpty 12 = .ok (.goto 4, 3) := by decide +kernel
theorem dX7_isEmpty_15 : decode cX7_isEmpty 15 = .ok (.iconst 0, 1) := by decide +kernel
theorem dX7_isEmpty_16 : decode cX7_isEmpty 16 = .ok (.ireturn, 1) := by decide +kernel
theorem dX7_goesWay_0 : decode cX7_goesWay 0 = .ok (.iload_n 1, 1) := by decide +kernel
theorem dX7_goesWay_1 : decode cX7_goesWay 1 = .ok (.invokestatic 83, 3) := by decide +kernel
theorem dX7_goesWay_4 : decode cX7_goesWay 4 = .ok (.ifCond .ne 28, 3) := by decide +kernel
theorem dX7_goesWay_7 : decode cX7_goesWay 7 = .ok (.iload_n 1, 1) := by decide +kernel
theorem dX7_goesWay_8 : decode cX7_goesWay 8 = .ok (.invokestatic 87, 3) := by decide +kernel
theorem dX7_goesWay_11 : decode cX7_goesWay 11 = .ok (.ifCond .ne 7, 3) := by decide +kernel
theorem dX7_goesWay_14 : decode cX7_goesWay 14 = .ok (.iconst 1, 1) := by decide +kernel
theorem dX7_goesWay_15 : decode cX7_goesWay 15 = .ok (.goto 4, 3) := by decide +kernel
theorem dX7_goesWay_18 : decode cX7_goesWay 18 = .ok (.iconst 0, 1) := by decide +kernel
theorem dX7_goesWay_19 : decode cX7_goesWay 19 = .ok (.iload_n 2, 1) := by decide +kernel
theorem dX7_goesWay_20 : decode cX7_goesWay 20 = .ok (.iconst 2, 1) := by decide +kernel
theorem dX7_goesWay_21 : decode cX7_goesWay 21 = .ok (.if_icmp .ge 7, 3) := by decide +kernel
theorem dX7_goesWay_24 : decode cX7_goesWay 24 = .ok (.iconst 1, 1) := by decide +kernel
theorem dX7_goesWay_25 : decode cX7_goesWay 25 = .ok (.goto 4, 3) := by decide +kernel
theorem dX7_goesWay_28 : decode cX7_goesWay 28 = .ok (.iconst 0, 1) := by decide +kernel
theorem dX7_goesWay_29 : decode cX7_goesWay 29 = .ok (.if_icmp .ne 7, 3) := by decide +kernel
theorem dX7_goesWay_32 : decode cX7_goesWay 32 = .ok (.iconst 1, 1) := by decide +kernel
theorem dX7_goesWay_33 : decode cX7_goesWay 33 = .ok (.goto 4, 3) := by decide +kernel
theorem dX7_goesWay_36 : decode cX7_goesWay 36 = .ok (.iconst 0, 1) := by decide +kernel
theorem dX7_goesWay_37 : decode cX7_goesWay 37 = .ok (.ireturn, 1) := by decide +kernel
theorem dX7_list_0 : decode cX7_list 0 = .ok (.sipush 1500, 3) := by decide +kernel
theorem dX7_list_3 : decode cX7_list 3 = .ok (.iload_n 1, 1) := by decide +kernel
theorem dX7_list_4 : decode cX7_list 4 = .ok (.imul, 1) := by decide +kernel
theorem dX7_list_5 : decode cX7_list 5 = .ok (.aload_n 0, 1) := by decide +kernel
theorem dX7_list_6 : decode cX7_list 6 = .ok (.getfield 36, 3) := by decide +kernel
theorem dX7_list_9 : decode cX7_list 9 = .ok (.iload_n 1, 1) := by decide +kernel
theorem dX7_list_10 : decode cX7_list 10 = .ok (.iaload, 1) := by decide +kernel
theorem dX7_list_11 : decode cX7_list 11 = .ok (.iadd, 1) := by decide +kernel
theorem dX7_list_12 : decode cX7_list 12 = .ok (.istore 7, 2) := by decide +kernel
theorem dX7_list_14 : decode cX7_list 14 = .ok (.aload_n 0, 1) := by decide +kernel
theorem dX7_list_15 : decode cX7_list 15 = .ok (.getfield 39, 3) := by decide +kernel
theorem dX7_list_18 : decode cX7_list 18 = .ok (.iload 7, 2) := by decide +kernel
theorem dX7_list_20 : decode cX7_list 20 = .ok (.iload_n 2, 1) := by decide +kernel
theorem dX7_list_21 : decode cX7_list 21 = .ok (.iastore, 1) := by decide +kernel
theorem dX7_list_22 : decode cX7_list 22 = .ok (.aload_n 0, 1) := by decide +kernel
theorem dX7_list_23 : decode cX7_list 23 = .ok (.getfield 42, 3) := by decide +kernel
theorem dX7_list_26 : decode cX7_list 26 = .ok (.iload 7, 2) := by decide +kernel
theorem dX7_list_28 : decode cX7_list 28 = .ok (.iload_n 3, 1) := by decide +kernel
theorem dX7_list_29 : decode cX7_list 29 = .ok (.iastore, 1) := by decide +kernel
theorem dX7_list_30 : decode cX7_list 30 = .ok (.aload_n 0, 1) := by decide +kernel
theorem dX7_list_31 : decode cX7_list 31 = .ok (.getfield 45, 3) := by decide +kernel
theorem dX7_list_34 : decode cX7_list 34 = .ok (.iload 7, 2) := by decide +kernel
theorem dX7_list_36 : decode cX7_list 36 = .ok (.iload 4, 2) := by decide +kernel
theorem dX7_list_38 : decode cX7_list 38 = .ok (.iastore, 1) := by decide +kernel
theorem dX7_list_39 : decode cX7_list 39 = .ok (.aload_n 0, 1) := by decide +kernel
theorem dX7_list_40 : decode cX7_list 40 = .ok (.getfield 48, 3) := by decide +kernel
theorem dX7_list_43 : decode cX7_list 43 = .ok (.iload 7, 2) := by decide +kernel
theorem dX7_list_45 : decode cX7_list 45 = .ok (.iload 5, 2) := by decide +kernel
theorem dX7_list_47 : decode cX7_list 47 = .ok (.iastore, 1) := by decide +kernel
theorem dX7_list_48 : decode cX7_list 48 = .ok (.aload_n 0, 1) := by decide +kernel
theorem dX7_list_49 : decode cX7_list 49 = .ok (.getfield 51, 3) := by decide +kernel
theorem dX7_list_52 : decode cX7_list 52 = .ok (.iload 7, 2) := by decide +kernel
theorem dX7_list_54 : decode cX7_list 54 = .ok (.iload 6, 2) := by decide +kernel
theorem dX7_list_56 : decode cX7_list 56 = .ok (.iastore, 1) := by decide +kernel
theorem dX7_list_57 : decode cX7_list 57 = .ok (.aload_n 0, 1) := by decide +kernel
theorem dX7_list_58 : decode cX7_list 58 = .ok (.getfield 36, 3) := by decide +kernel
theorem dX7_list_61 : decode cX7_list 61 = .ok (.iload_n 1, 1) := by decide +kernel
theorem dX7_list_62 : decode cX7_list 62 = .ok (.dup2, 1) := by decide +kernel
theorem dX7_list_63 : decode cX7_list 63 = .ok (.iaload, 1) := by decide +kernel
theorem dX7_list_64 : decode cX7_list 64 = .ok (.iconst 1, 1) := by decide +kernel
theorem dX7_list_65 : decode cX7_list 65 = .ok (.iadd, 1) := by decide +kernel
theorem dX7_list_66 : decode cX7_list 66 = .ok (.iastore, 1) := by decide +kernel
theorem dX7_list_67 : decode cX7_list 67 = .ok (.return_, 1) := by decide +kernel
theorem dX7_listJumps_0 : decode cX7_listJumps 0 = .ok (.aload_n 0, 1) := by decide +kernel
theorem dX7_listJumps_1 : decode cX7_listJumps 1 = .ok (.iload_n 1, 1) := by decide +kernel
theorem dX7_listJumps_2 : decode cX7_listJumps 2 = .ok (.iload_n 2, 1) := by decide +kernel
theorem dX7_listJumps_3 : decode cX7_listJumps 3 = .ok (.invokevirtual 79, 3) := by decide +kernel
theorem dX7_listJumps_6 : decode cX7_listJumps 6 = .ok (.istore 4, 2) := by decide +kernel
theorem dX7_listJumps_8 : decode cX7_listJumps 8 = .ok (.iload_n 2, 1) := by decide +kernel
theorem dX7_listJumps_9 : decode cX7_listJumps 9 = .ok (.iload_n 3, 1) := by decide +kernel
theorem dX7_listJumps_10 : decode cX7_listJumps 10 = .ok (.invokestatic 90, 3) := by decide +kernel
theorem dX7_listJumps_13 : decode cX7_listJumps 13 = .ok (.istore 5, 2) := by decide +kernel
theorem dX7_listJumps_15 : decode cX7_listJumps 15 = .ok (.iconst 1, 1) := by decide +kernel
theorem dX7_listJumps_16 : decode cX7_listJumps 16 = .ok (.istore 6, 2) := by decide +kernel
theorem dX7_listJumps_18 : decode cX7_listJumps 18 = .ok (.iload 4, 2) := by decide +kernel
theorem dX7_listJumps_20 : decode cX7_listJumps 20 = .ok (.invokestatic 83, 3) := by decide +kernel
theorem dX7_listJumps_23 : decode cX7_listJumps 23 = .ok (.ifCond .eq 27, 3) := by decide +kernel
theorem dX7_listJumps_26 : decode cX7_listJumps 26 = .ok (.aload_n 0, 1) := by decide +kernel
theorem dX7_listJumps_27 : decode cX7_listJumps 27 = .ok (.iload_n 1, 1) := by decide +kernel
theorem dX7_listJumps_28 : decode cX7_listJumps 28 = .ok (.iload 5, 2) := by decide +kernel
theorem dX7_listJumps_30 : decode cX7_listJumps 30 = .ok (.invokevirtual 93, 3) := by decide +kernel
theorem dX7_listJumps_33 : decode cX7_listJumps 33 = .ok (.ifCond .eq 17, 3) := by decide +kernel
theorem dX7_listJumps_36 : decode cX7_listJumps 36 = .ok (.iload 5, 2) := by decide +kernel
theorem dX7_listJumps_38 : decode cX7_listJumps 38 = .ok (.iload_n 3, 1) := by decide +kernel
theorem dX7_listJumps_39 : decode cX7_listJumps 39 = .ok (.invokestatic 90, 3) := by decide +kernel
theorem dX7_listJumps_42 : decode cX7_listJumps 42 = .ok (.istore 5, 2) := by decide +kernel
theorem dX7_listJumps_44 : decode cX7_listJumps 44 = .ok (.iinc 6 1, 3) := by decide +kernel
theorem dX7_listJumps_47 : decode cX7_listJumps 47 = .ok (.goto (-29), 3) := by decide +kernel
theorem dX7_listJumps_50 : decode cX7_listJumps 50 = .ok (.aload_n 0, 1) := by decide +kernel
theorem dX7_listJumps_51 : decode cX7_listJumps 51 = .ok (.iload_n 1, 1) := by decide +kernel
theorem dX7_listJumps_52 : decode cX7_listJumps 52 = .ok (.iload 5, 2) := by decide +kernel
theorem dX7_listJumps_54 : decode cX7_listJumps 54 = .ok (.invokevirtual 79, 3) := by decide +kernel
theorem dX7_listJumps_57 : decode cX7_listJumps 57 = .ok (.invokestatic 87, 3) := by decide +kernel
theorem dX7_listJumps_60 : decode cX7_listJumps 60 = .ok (.iconst 1, 1) := by decide +kernel
theorem dX7_listJumps_61 : decode cX7_listJumps 61 = .ok (.iload 4, 2) := by decide +kernel
theorem dX7_listJumps_63 : decode cX7_listJumps 63 = .ok (.invokestatic 87, 3) := by decide +kernel
theorem dX7_listJumps_66 : decode cX7_listJumps 66 = .ok (.isub, 1) := by decide +kernel
theorem dX7_listJumps_67 : decode cX7_listJumps 67 = .ok (.if_icmp .eq 4, 3) := by decide +kernel
theorem dX7_listJumps_70 : decode cX7_listJumps 70 = .ok (.return_, 1) := by decide +kernel
theorem dX7_listJumps_71 : decode cX7_listJumps 71 = .ok (.iload 5, 2) := by decide +kernel
theorem dX7_listJumps_73 : decode cX7_listJumps 73 = .ok (.istore 7, 2) := by decide +kernel
theorem dX7_listJumps_75 : decode cX7_listJumps 75 = .ok (.iload 5, 2) := by decide +kernel
theorem dX7_listJumps_77 : decode cX7_listJumps 77 = .ok (.iload_n 3, 1) := by decide +kernel
theorem dX7_listJumps_78 : decode cX7_listJumps 78 = .ok (.invokestatic 90, 3) := by decide +kernel
theorem dX7_listJumps_81 : decode cX7_listJumps 81 = .ok (.istore 5, 2) := by decide +kernel
theorem dX7_listJumps_83 : decode cX7_listJumps 83 = .ok (.iinc 6 1, 3) := by decide +kernel
theorem dX7_listJumps_86 : decode cX7_listJumps 86 = .ok (.aload_n 0, 1) := by decide +kernel
theorem dX7_listJumps_87 : decode cX7_listJumps 87 = .ok (.iload_n 1, 1) := by decide +kernel
theorem dX7_listJumps_88 : decode cX7_listJumps 88 = .ok (.iload 5, 2) := by decide +kernel
theorem dX7_listJumps_90 : decode cX7_listJumps 90 = .ok (.invokevirtual 93, 3) := by decide +kernel
theorem dX7_listJumps_93 : decode cX7_listJumps 93 = .ok (.istore 8, 2) := by decide +kernel
theorem dX7_listJumps_95 : decode cX7_listJumps 95 = .ok (.iload 8, 2) := by decide +kernel
theorem dX7_listJumps_97 : decode cX7_listJumps 97 = .ok (.ifCond .eq 55, 3) := by decide +kernel
theorem dX7_listJumps_100 : decode cX7_listJumps 100 = .ok (.aload_n 0, 1) := by decide +kernel
theorem dX7_listJumps_101 : decode cX7_listJumps 101 = .ok (.iload_n 1, 1) := by decide +kernel
theorem dX7_listJumps_102 : decode cX7_listJumps 102 = .ok (.iload_n 2, 1) := by decide +kernel
theorem dX7_listJumps_103 : decode cX7_listJumps 103 = .ok (.iload_n 3, 1) := by decide +kernel
theorem dX7_listJumps_104 : decode cX7_listJumps 104 = .ok (.iload 6, 2) := by decide +kernel
theorem dX7_listJumps_106 : decode cX7_listJumps 106 = .ok (.iload 5, 2) := by decide +kernel
theorem dX7_listJumps_108 : decode cX7_listJumps 108 = .ok (.iload 7, 2) := by decide +kernel
theorem dX7_listJumps_110 : decode cX7_listJumps 110 = .ok (.invokevirtual 97, 3) := by decide +kernel
theorem dX7_listJumps_113 : decode cX7_listJumps 113 = .ok (.iload 5, 2) := by decide +kernel
theorem dX7_listJumps_115 : decode cX7_listJumps 115 = .ok (.iload_n 3, 1) := by decide +kernel
theorem dX7_listJumps_116 : decode cX7_listJumps 116 = .ok (.invokestatic 90, 3) := by decide +kernel
theorem dX7_listJumps_119 : decode cX7_listJumps 119 = .ok (.istore 5, 2) := by decide +kernel
theorem dX7_listJumps_121 : decode cX7_listJumps 121 = .ok (.iinc 6 1, 3) := by decide +kernel
theorem dX7_listJumps_124 : decode cX7_listJumps 124 = .ok (.iload 4, 2) := by decide +kernel
theorem dX7_listJumps_126 : decode cX7_listJumps 126 = .ok (.invokestatic 83, 3) := by decide +kernel
theorem dX7_listJumps_129 : decode cX7_listJumps 129 = .ok (.ifCond .eq 17, 3) := by decide +kernel
theorem dX7_listJumps_132 : decode cX7_listJumps 132 = .ok (.aload_n 0, 1) := by decide +kernel
theorem dX7_listJumps_133 : decode cX7_listJumps 133 = .ok (.iload_n 1, 1) := by decide +kernel
theorem dX7_listJumps_134 : decode cX7_listJumps 134 = .ok (.iload 5, 2) := by decide +kernel
theorem dX7_listJumps_136 : decode cX7_listJumps 136 = .ok (.invokevirtual 93, 3) := by decide +kernel
theorem dX7_listJumps_139 : decode cX7_listJumps 139 = .ok (.ifCond .eq 7, 3) := by decide +kernel
theorem dX7_listJumps_142 : decode cX7_listJumps 142 = .ok (.iconst 1, 1) := by decide +kernel
theorem dX7_listJumps_143 : decode cX7_listJumps 143 = .ok (.goto 4, 3) := by decide +kernel
theorem dX7_listJumps_146 : decode cX7_listJumps 146 = .ok (.iconst 0, 1) := by decide +kernel
theorem dX7_listJumps_147 : decode cX7_listJumps 147 = .ok (.istore 8, 2) := by decide +kernel
theorem dX7_listJumps_149 : decode cX7_listJumps 149 = .ok (.goto (-54), 3) := by decide +kernel
theorem dX7_listJumps_152 : decode cX7_listJumps 152 = .ok (.return_, 1) := by decide +kernel
theorem dX7_listMoves_0 : decode cX7_listMoves 0 = .ok (.aload_n 0, 1) := by decide +kernel
theorem dX7_listMoves_1 : decode cX7_listMoves 1 = .ok (.iload_n 1, 1) := by decide +kernel
theorem dX7_listMoves_2 : decode cX7_listMoves 2 = .ok (.iload_n 2, 1) := by decide +kernel
theorem dX7_listMoves_3 : decode cX7_listMoves 3 = .ok (.invokevirtual 79, 3) := by decide +kernel
theorem dX7_listMoves_6 : decode cX7_listMoves 6 = .ok (.invokestatic 83, 3) := by decide +kernel
theorem dX7_listMoves_9 : decode cX7_listMoves 9 = .ok (.istore 4, 2) := by decide +kernel
theorem dX7_listMoves_11 : decode cX7_listMoves 11 = .ok (.iload_n 2, 1) := by decide +kernel
theorem dX7_listMoves_12 : decode cX7_listMoves 12 = .ok (.iload_n 3, 1) := by decide +kernel
theorem dX7_listMoves_13 : decode cX7_listMoves 13 = .ok (.invokestatic 90, 3) := by decide +kernel
theorem dX7_listMoves_16 : decode cX7_listMoves 16 = .ok (.istore 5, 2) := by decide +kernel
theorem dX7_listMoves_18 : decode cX7_listMoves 18 = .ok (.iconst 1, 1) := by decide +kernel
theorem dX7_listMoves_19 : decode cX7_listMoves 19 = .ok (.istore 6, 2) := by decide +kernel
theorem dX7_listMoves_21 : decode cX7_listMoves 21 = .ok (.aload_n 0, 1) := by decide +kernel
theorem dX7_listMoves_22 : decode cX7_listMoves 22 = .ok (.iload_n 1, 1) := by decide +kernel
theorem dX7_listMoves_23 : decode cX7_listMoves 23 = .ok (.iload 5, 2) := by decide +kernel
theorem dX7_listMoves_25 : decode cX7_listMoves 25 = .ok (.invokevirtual 93, 3) := by decide +kernel
theorem dX7_listMoves_28 : decode cX7_listMoves 28 = .ok (.istore 7, 2) := by decide +kernel
theorem dX7_listMoves_30 : decode cX7_listMoves 30 = .ok (.iload 7, 2) := by decide +kernel
theorem dX7_listMoves_32 : decode cX7_listMoves 32 = .ok (.ifCond .eq 52, 3) := by decide +kernel
theorem dX7_listMoves_35 : decode cX7_listMoves 35 = .ok (.aload_n 0, 1) := by decide +kernel
theorem dX7_listMoves_36 : decode cX7_listMoves 36 = .ok (.iload_n 1, 1) := by decide +kernel
theorem dX7_listMoves_37 : decode cX7_listMoves 37 = .ok (.iload_n 2, 1) := by decide +kernel
theorem dX7_listMoves_38 : decode cX7_listMoves 38 = .ok (.iload_n 3, 1) := by decide +kernel
theorem dX7_listMoves_39 : decode cX7_listMoves 39 = .ok (.iload 6, 2) := by decide +kernel
theorem dX7_listMoves_41 : decode cX7_listMoves 41 = .ok (.iload 5, 2) := by decide +kernel
theorem dX7_listMoves_43 : decode cX7_listMoves 43 = .ok (.bipush (-6), 2) := by decide +kernel
theorem dX7_listMoves_45 : decode cX7_listMoves 45 = .ok (.invokevirtual 97, 3) := by decide +kernel
theorem dX7_listMoves_48 : decode cX7_listMoves 48 = .ok (.iload 5, 2) := by decide +kernel
theorem dX7_listMoves_50 : decode cX7_listMoves 50 = .ok (.iload_n 3, 1) := by decide +kernel
theorem dX7_listMoves_51 : decode cX7_listMoves 51 = .ok (.invokestatic 90, 3) := by decide +kernel
theorem dX7_listMoves_54 : decode cX7_listMoves 54 = .ok (.istore 5, 2) := by decide +kernel
theorem dX7_listMoves_56 : decode cX7_listMoves 56 = .ok (.iinc 6 1, 3) := by decide +kernel
theorem dX7_listMoves_59 : decode cX7_listMoves 59 = .ok (.iload 4, 2) := by decide +kernel
theorem dX7_listMoves_61 : decode cX7_listMoves 61 = .ok (.ifCond .eq 17, 3) := by decide +kernel
theorem dX7_listMoves_64 : decode cX7_listMoves 64 = .ok (.aload_n 0, 1) := by decide +kernel
theorem dX7_listMoves_65 : decode cX7_listMoves 65 = .ok (.iload_n 1, 1) := by decide +kernel
theorem dX7_listMoves_66 : decode cX7_listMoves 66 = .ok (.iload 5, 2) := by decide +kernel
theorem dX7_listMoves_68 : decode cX7_listMoves 68 = .ok (.invokevirtual 93, 3) := by decide +kernel
theorem dX7_listMoves_71 : decode cX7_listMoves 71 = .ok (.ifCond .eq 7, 3) := by decide +kernel
theorem dX7_listMoves_74 : decode cX7_listMoves 74 = .ok (.iconst 1, 1) := by decide +kernel
theorem dX7_listMoves_75 : decode cX7_listMoves 75 = .ok (.goto 4, 3) := by decide +kernel
theorem dX7_listMoves_78 : decode cX7_listMoves 78 = .ok (.iconst 0, 1) := by decide +kernel
theorem dX7_listMoves_79 : decode cX7_listMoves 79 = .ok (.istore 7, 2) := by decide +kernel
theorem dX7_listMoves_81 : decode cX7_listMoves 81 = .ok (.goto (-51), 3) := by decide +kernel
theorem dX7_listMoves_84 : decode cX7_listMoves 84 = .ok (.return_, 1) := by decide +kernel
theorem dX7_listAllJumps_0 : decode cX7_listAllJumps 0 = .ok (.aload_n 0, 1) := by decide +kernel
theorem dX7_listAllJumps_1 : decode cX7_listAllJumps 1 = .ok (.getfield 36, 3) := by decide +kernel
theorem dX7_listAllJumps_4 : decode cX7_listAllJumps 4 = .ok (.iload_n 1, 1) := by decide +kernel
theorem dX7_listAllJumps_5 : decode cX7_listAllJumps 5 = .ok (.iconst 0, 1) := by decide +kernel
theorem dX7_listAllJumps_6 : decode cX7_listAllJumps 6 = .ok (.iastore, 1) := by decide +kernel
theorem dX7_listAllJumps_7 : decode cX7_listAllJumps 7 = .ok (.iconst 0, 1) := by decide +kernel
theorem dX7_listAllJumps_8 : decode cX7_listAllJumps 8 = .ok (.istore 4, 2) := by decide +kernel
theorem dX7_listAllJumps_10 : decode cX7_listAllJumps 10 = .ok (.iload 4, 2) := by decide +kernel
theorem dX7_listAllJumps_12 : decode cX7_listAllJumps 12 = .ok (.bipush 48, 2) := by decide +kernel
theorem dX7_listAllJumps_14 : decode cX7_listAllJumps 14 = .ok (.if_icmp .ge 87, 3) := by decide +kernel
theorem dX7_listAllJumps_17 : decode cX7_listAllJumps 17 = .ok (.iconst 0, 1) := by decide +kernel
theorem dX7_listAllJumps_18 : decode cX7_listAllJumps 18 = .ok (.istore 5, 2) := by decide +kernel
theorem dX7_listAllJumps_20 : decode cX7_listAllJumps 20 = .ok (.iload 5, 2) := by decide +kernel
theorem dX7_listAllJumps_22 : decode cX7_listAllJumps 22 = .ok (.iconst 4, 1) := by decide +kernel
theorem dX7_listAllJumps_23 : decode cX7_listAllJumps 23 = .ok (.if_icmp .ge 72, 3) := by decide +kernel
theorem dX7_listAllJumps_26 : decode cX7_listAllJumps 26 = .ok (.aload_n 0, 1) := by decide +kernel
theorem dX7_listAllJumps_27 : decode cX7_listAllJumps 27 = .ok (.iload_n 1, 1) := by decide +kernel
theorem dX7_listAllJumps_28 : decode cX7_listAllJumps 28 = .ok (.iload 4, 2) := by decide +kernel
theorem dX7_listAllJumps_30 : decode cX7_listAllJumps 30 = .ok (.invokevirtual 79, 3) := by decide +kernel
theorem dX7_listAllJumps_33 : decode cX7_listAllJumps 33 = .ok (.invokestatic 87, 3) := by decide +kernel
theorem dX7_listAllJumps_36 : decode cX7_listAllJumps 36 = .ok (.iload_n 2, 1) := by decide +kernel
theorem dX7_listAllJumps_37 : decode cX7_listAllJumps 37 = .ok (.if_icmp .ne 19, 3) := by decide +kernel
theorem dX7_listAllJumps_40 : decode cX7_listAllJumps 40 = .ok (.iload_n 3, 1) := by decide +kernel
theorem dX7_listAllJumps_41 : decode cX7_listAllJumps 41 = .ok (.bipush (-6), 2) := by decide +kernel
theorem dX7_listAllJumps_43 : decode cX7_listAllJumps 43 = .ok (.if_icmp .eq 9, 3) := by decide +kernel
theorem dX7_listAllJumps_46 : decode cX7_listAllJumps 46 = .ok (.iload_n 3, 1) := by decide +kernel
theorem dX7_listAllJumps_47 : decode cX7_listAllJumps 47 = .ok (.iload 4, 2) := by decide +kernel
theorem dX7_listAllJumps_49 : decode cX7_listAllJumps 49 = .ok (.if_icmp .ne 7, 3) := by decide +kernel
theorem dX7_listAllJumps_52 : decode cX7_listAllJumps 52 = .ok (.iconst 1, 1) := by decide +kernel
theorem dX7_listAllJumps_53 : decode cX7_listAllJumps 53 = .ok (.goto 4, 3) := by decide +kernel
theorem dX7_listAllJumps_56 : decode cX7_listAllJumps 56 = .ok (.iconst 0, 1) := by decide +kernel
theorem dX7_listAllJumps_57 : decode cX7_listAllJumps 57 = .ok (.istore 6, 2) := by decide +kernel
theorem dX7_listAllJumps_59 : decode cX7_listAllJumps 59 = .ok (.iload 6, 2) := by decide +kernel
theorem dX7_listAllJumps_61 : decode cX7_listAllJumps 61 = .ok (.ifCond .eq 28, 3) := by decide +kernel
theorem dX7_listAllJumps_64 : decode cX7_listAllJumps 64 = .ok (.aload_n 0, 1) := by decide +kernel
theorem dX7_listAllJumps_65 : decode cX7_listAllJumps 65 = .ok (.aload_n 0, 1) := by decide +kernel
theorem dX7_listAllJumps_66 : decode cX7_listAllJumps 66 = .ok (.iload_n 1, 1) := by decide +kernel
theorem dX7_listAllJumps_67 : decode cX7_listAllJumps 67 = .ok (.iload 4, 2) := by decide +kernel
theorem dX7_listAllJumps_69 : decode cX7_listAllJumps 69 = .ok (.invokevirtual 79, 3) := by decide +kernel
theorem dX7_listAllJumps_72 : decode cX7_listAllJumps 72 = .ok (.iload 5, 2) := by decide +kernel
theorem dX7_listAllJumps_74 : decode cX7_listAllJumps 74 = .ok (.invokevirtual 101, 3) := by decide +kernel
theorem dX7_listAllJumps_77 : decode cX7_listAllJumps 77 = .ok (.ifCond .eq 12, 3) := by decide +kernel
theorem dX7_listAllJumps_80 : decode cX7_listAllJumps 80 = .ok (.aload_n 0, 1) := by decide +kernel
theorem dX7_listAllJumps_81 : decode cX7_listAllJumps 81 = .ok (.iload_n 1, 1) := by decide +kernel
theorem dX7_listAllJumps_82 : decode cX7_listAllJumps 82 = .ok (.iload 4, 2) := by decide +kernel
theorem dX7_listAllJumps_84 : decode cX7_listAllJumps 84 = .ok (.iload 5, 2) := by decide +kernel
theorem dX7_listAllJumps_86 : decode cX7_listAllJumps 86 = .ok (.invokevirtual 104, 3) := by decide +kernel
theorem dX7_listAllJumps_89 : decode cX7_listAllJumps 89 = .ok (.iinc 5 1, 3) := by decide +kernel
theorem dX7_listAllJumps_92 : decode cX7_listAllJumps 92 = .ok (.goto (-72), 3) := by decide +kernel
theorem dX7_listAllJumps_95 : decode cX7_listAllJumps 95 = .ok (.iinc 4 1, 3) := by decide +kernel
theorem dX7_listAllJumps_98 : decode cX7_listAllJumps 98 = .ok (.goto (-88), 3) := by decide +kernel
theorem dX7_listAllJumps_101 : decode cX7_listAllJumps 101 = .ok (.return_, 1) := by decide +kernel
theorem dX7_listHops_0 : decode cX7_listHops 0 = .ok (.aload_n 0, 1) := by decide +kernel
theorem dX7_listHops_1 : decode cX7_listHops 1 = .ok (.iload_n 1, 1) := by decide +kernel
theorem dX7_listHops_2 : decode cX7_listHops 2 = .ok (.aload_n 0, 1) := by decide +kernel
theorem dX7_listHops_3 : decode cX7_listHops 3 = .ok (.getfield 30, 3) := by decide +kernel
theorem dX7_listHops_6 : decode cX7_listHops 6 = .ok (.iload_n 1, 1) := by decide +kernel
theorem dX7_listHops_7 : decode cX7_listHops 7 = .ok (.iaload, 1) := by decide +kernel
theorem dX7_listHops_8 : decode cX7_listHops 8 = .ok (.aload_n 0, 1) := by decide +kernel
theorem dX7_listHops_9 : decode cX7_listHops 9 = .ok (.getfield 33, 3) := by decide +kernel
theorem dX7_listHops_12 : decode cX7_listHops 12 = .ok (.iload_n 1, 1) := by decide +kernel
theorem dX7_listHops_13 : decode cX7_listHops 13 = .ok (.iaload, 1) := by decide +kernel
theorem dX7_listHops_14 : decode cX7_listHops 14 = .ok (.invokevirtual 108, 3) := by decide +kernel
theorem dX7_listHops_17 : decode cX7_listHops 17 = .ok (.iconst 0, 1) := by decide +kernel
theorem dX7_listHops_18 : decode cX7_listHops 18 = .ok (.istore_n 2, 1) := by decide +kernel
theorem dX7_listHops_19 : decode cX7_listHops 19 = .ok (.iload_n 2, 1) := by decide +kernel
theorem dX7_listHops_20 : decode cX7_listHops 20 = .ok (.sipush 192, 3) := by decide +kernel
theorem dX7_listHops_23 : decode cX7_listHops 23 = .ok (.if_icmp .ge 101, 3) := by decide +kernel
theorem dX7_listHops_26 : decode cX7_listHops 26 = .ok (.aload_n 0, 1) := by decide +kernel
theorem dX7_listHops_27 : decode cX7_listHops 27 = .ok (.getfield 33, 3) := by decide +kernel
theorem dX7_listHops_30 : decode cX7_listHops 30 = .ok (.iload_n 1, 1) := by decide +kernel
theorem dX7_listHops_31 : decode cX7_listHops 31 = .ok (.iaload, 1) := by decide +kernel
theorem dX7_listHops_32 : decode cX7_listHops 32 = .ok (.bipush (-6), 2) := by decide +kernel
theorem dX7_listHops_34 : decode cX7_listHops 34 = .ok (.if_icmp .ne 90, 3) := by decide +kernel
theorem dX7_listHops_37 : decode cX7_listHops 37 = .ok (.aload_n 0, 1) := by decide +kernel
theorem dX7_listHops_38 : decode cX7_listHops 38 = .ok (.getfield 36, 3) := by decide +kernel
theorem dX7_listHops_41 : decode cX7_listHops 41 = .ok (.iload_n 1, 1) := by decide +kernel
theorem dX7_listHops_42 : decode cX7_listHops 42 = .ok (.iaload, 1) := by decide +kernel
theorem dX7_listHops_43 : decode cX7_listHops 43 = .ok (.ifCond .eq 18, 3) := by decide +kernel
theorem dX7_listHops_46 : decode cX7_listHops 46 = .ok (.aload_n 0, 1) := by decide +kernel
theorem dX7_listHops_47 : decode cX7_listHops 47 = .ok (.getfield 51, 3) := by decide +kernel
theorem dX7_listHops_50 : decode cX7_listHops 50 = .ok (.sipush 1500, 3) := by decide +kernel
theorem dX7_listHops_53 : decode cX7_listHops 53 = .ok (.iload_n 1, 1) := by decide +kernel
theorem dX7_listHops_54 : decode cX7_listHops 54 = .ok (.imul, 1) := by decide +kernel
theorem dX7_listHops_55 : decode cX7_listHops 55 = .ok (.iaload, 1) := by decide +kernel
theorem dX7_listHops_56 : decode cX7_listHops 56 = .ok (.bipush (-6), 2) := by decide +kernel
theorem dX7_listHops_58 : decode cX7_listHops 58 = .ok (.if_icmp .ne 7, 3) := by decide +kernel
theorem dX7_listHops_61 : decode cX7_listHops 61 = .ok (.iconst 1, 1) := by decide +kernel
theorem dX7_listHops_62 : decode cX7_listHops 62 = .ok (.goto 4, 3) := by decide +kernel
theorem dX7_listHops_65 : decode cX7_listHops 65 = .ok (.iconst 0, 1) := by decide +kernel
theorem dX7_listHops_66 : decode cX7_listHops 66 = .ok (.istore_n 3, 1) := by decide +kernel
theorem dX7_listHops_67 : decode cX7_listHops 67 = .ok (.aload_n 0, 1) := by decide +kernel
theorem dX7_listHops_68 : decode cX7_listHops 68 = .ok (.iload_n 1, 1) := by decide +kernel
theorem dX7_listHops_69 : decode cX7_listHops 69 = .ok (.iload_n 2, 1) := by decide +kernel
theorem dX7_listHops_70 : decode cX7_listHops 70 = .ok (.iconst 4, 1) := by decide +kernel
theorem dX7_listHops_71 : decode cX7_listHops 71 = .ok (.idiv, 1) := by decide +kernel
theorem dX7_listHops_72 : decode cX7_listHops 72 = .ok (.invokevirtual 79, 3) := by decide +kernel
theorem dX7_listHops_75 : decode cX7_listHops 75 = .ok (.istore 4, 2) := by decide +kernel
theorem dX7_listHops_77 : decode cX7_listHops 77 = .ok (.iload_n 3, 1) := by decide +kernel
theorem dX7_listHops_78 : decode cX7_listHops 78 = .ok (.ifCond .eq 40, 3) := by decide +kernel
theorem dX7_listHops_81 : decode cX7_listHops 81 = .ok (.iload 4, 2) := by decide +kernel
theorem dX7_listHops_83 : decode cX7_listHops 83 = .ok (.invokestatic 87, 3) := by decide +kernel
theorem dX7_listHops_86 : decode cX7_listHops 86 = .ok (.aload_n 0, 1) := by decide +kernel
theorem dX7_listHops_87 : decode cX7_listHops 87 = .ok (.getfield 30, 3) := by decide +kernel
theorem dX7_listHops_90 : decode cX7_listHops 90 = .ok (.iload_n 1, 1) := by decide +kernel
theorem dX7_listHops_91 : decode cX7_listHops 91 = .ok (.iaload, 1) := by decide +kernel
theorem dX7_listHops_92 : decode cX7_listHops 92 = .ok (.if_icmp .ne 26, 3) := by decide +kernel
theorem dX7_listHops_95 : decode cX7_listHops 95 = .ok (.aload_n 0, 1) := by decide +kernel
theorem dX7_listHops_96 : decode cX7_listHops 96 = .ok (.iload 4, 2) := by decide +kernel
theorem dX7_listHops_98 : decode cX7_listHops 98 = .ok (.iload_n 2, 1) := by decide +kernel
theorem dX7_listHops_99 : decode cX7_listHops 99 = .ok (.iconst 4, 1) := by decide +kernel
theorem dX7_listHops_100 : decode cX7_listHops 100 = .ok (.irem, 1) := by decide +kernel
theorem dX7_listHops_101 : decode cX7_listHops 101 = .ok (.invokevirtual 101, 3) := by decide +kernel
theorem dX7_listHops_104 : decode cX7_listHops 104 = .ok (.ifCond .eq 14, 3) := by decide +kernel
theorem dX7_listHops_107 : decode cX7_listHops 107 = .ok (.aload_n 0, 1) := by decide +kernel
theorem dX7_listHops_108 : decode cX7_listHops 108 = .ok (.iload_n 1, 1) := by decide +kernel
theorem dX7_listHops_109 : decode cX7_listHops 109 = .ok (.iload_n 2, 1) := by decide +kernel
theorem dX7_listHops_110 : decode cX7_listHops 110 = .ok (.iconst 4, 1) := by decide +kernel
theorem dX7_listHops_111 : decode cX7_listHops 111 = .ok (.idiv, 1) := by decide +kernel
theorem dX7_listHops_112 : decode cX7_listHops 112 = .ok (.iload_n 2, 1) := by decide +kernel
theorem dX7_listHops_113 : decode cX7_listHops 113 = .ok (.iconst 4, 1) := by decide +kernel
theorem dX7_listHops_114 : decode cX7_listHops 114 = .ok (.irem, 1) := by decide +kernel
theorem dX7_listHops_115 : decode cX7_listHops 115 = .ok (.invokevirtual 111, 3) := by decide +kernel
theorem dX7_listHops_118 : decode cX7_listHops 118 = .ok (.iinc 2 1, 3) := by decide +kernel
theorem dX7_listHops_121 : decode cX7_listHops 121 = .ok (.goto (-102), 3) := by decide +kernel
theorem dX7_listHops_124 : decode cX7_listHops 124 = .ok (.return_, 1) := by decide +kernel
theorem dX7_becomesKing_0 : decode cX7_becomesKing 0 = .ok (.sipush 1500, 3) := by decide +kernel
theorem dX7_becomesKing_3 : decode cX7_becomesKing 3 = .ok (.iload_n 1, 1) := by decide +kernel
theorem dX7_becomesKing_4 : decode cX7_becomesKing 4 = .ok (.imul, 1) := by decide +kernel
theorem dX7_becomesKing_5 : decode cX7_becomesKing 5 = .ok (.iload_n 2, 1) := by decide +kernel
theorem dX7_becomesKing_6 : decode cX7_becomesKing 6 = .ok (.iadd, 1) := by decide +kernel
theorem dX7_becomesKing_7 : decode cX7_becomesKing 7 = .ok (.istore_n 3, 1) := by decide +kernel
theorem dX7_becomesKing_8 : decode cX7_becomesKing 8 = .ok (.aload_n 0, 1) := by decide +kernel
theorem dX7_becomesKing_9 : decode cX7_becomesKing 9 = .ok (.iload_n 1, 1) := by decide +kernel
theorem dX7_becomesKing_10 : decode cX7_becomesKing 10 = .ok (.aload_n 0, 1) := by decide +kernel
theorem dX7_becomesKing_11 : decode cX7_becomesKing 11 = .ok (.getfield 39, 3) := by decide +kernel
theorem dX7_becomesKing_14 : decode cX7_becomesKing 14 = .ok (.iload_n 3, 1) := by decide +kernel
theorem dX7_becomesKing_15 : decode cX7_becomesKing 15 = .ok (.iaload, 1) := by decide +kernel
theorem dX7_becomesKing_16 : decode cX7_becomesKing 16 = .ok (.invokevirtual 79, 3) := by decide +kernel
theorem dX7_becomesKing_19 : decode cX7_becomesKing 19 = .ok (.istore 4, 2) := by decide +kernel
theorem dX7_becomesKing_21 : decode cX7_becomesKing 21 = .ok (.aload_n 0, 1) := by decide +kernel
theorem dX7_becomesKing_22 : decode cX7_becomesKing 22 = .ok (.getfield 39, 3) := by decide +kernel
theorem dX7_becomesKing_25 : decode cX7_becomesKing 25 = .ok (.iload_n 3, 1) := by decide +kernel
theorem dX7_becomesKing_26 : decode cX7_becomesKing 26 = .ok (.iaload, 1) := by decide +kernel
theorem dX7_becomesKing_27 : decode cX7_becomesKing 27 = .ok (.invokestatic 69, 3) := by decide +kernel
theorem dX7_becomesKing_30 : decode cX7_becomesKing 30 = .ok (.istore 5, 2) := by decide +kernel
theorem dX7_becomesKing_32 : decode cX7_becomesKing 32 = .ok (.iload 4, 2) := by decide +kernel
theorem dX7_becomesKing_34 : decode cX7_becomesKing 34 = .ok (.ifCond .ne 17, 3) := by decide +kernel
theorem dX7_becomesKing_37 : decode cX7_becomesKing 37 = .ok (.iload 5, 2) := by decide +kernel
theorem dX7_becomesKing_39 : decode cX7_becomesKing 39 = .ok (.aload_n 0, 1) := by decide +kernel
theorem dX7_becomesKing_40 : decode cX7_becomesKing 40 = .ok (.getfield 45, 3) := by decide +kernel
theorem dX7_becomesKing_43 : decode cX7_becomesKing 43 = .ok (.iload_n 3, 1) := by decide +kernel
theorem dX7_becomesKing_44 : decode cX7_becomesKing 44 = .ok (.iaload, 1) := by decide +kernel
theorem dX7_becomesKing_45 : decode cX7_becomesKing 45 = .ok (.iadd, 1) := by decide +kernel
theorem dX7_becomesKing_46 : decode cX7_becomesKing 46 = .ok (.bipush 7, 2) := by decide +kernel
theorem dX7_becomesKing_48 : decode cX7_becomesKing 48 = .ok (.if_icmp .gt 21, 3) := by decide +kernel
theorem dX7_becomesKing_51 : decode cX7_becomesKing 51 = .ok (.iload 4, 2) := by decide +kernel
theorem dX7_becomesKing_53 : decode cX7_becomesKing 53 = .ok (.iconst 2, 1) := by decide +kernel
theorem dX7_becomesKing_54 : decode cX7_becomesKing 54 = .ok (.if_icmp .ne 19, 3) := by decide +kernel
theorem dX7_becomesKing_57 : decode cX7_becomesKing 57 = .ok (.iload 5, 2) := by decide +kernel
theorem dX7_becomesKing_59 : decode cX7_becomesKing 59 = .ok (.aload_n 0, 1) := by decide +kernel
theorem dX7_becomesKing_60 : decode cX7_becomesKing 60 = .ok (.getfield 45, 3) := by decide +kernel
theorem dX7_becomesKing_63 : decode cX7_becomesKing 63 = .ok (.iload_n 3, 1) := by decide +kernel
theorem dX7_becomesKing_64 : decode cX7_becomesKing 64 = .ok (.iaload, 1) := by decide +kernel
theorem dX7_becomesKing_65 : decode cX7_becomesKing 65 = .ok (.isub, 1) := by decide +kernel
theorem dX7_becomesKing_66 : decode cX7_becomesKing 66 = .ok (.ifCond .ge 7, 3) := by decide +kernel
theorem dX7_becomesKing_69 : decode cX7_becomesKing 69 = .ok (.iconst 1, 1) := by decide +kernel
theorem dX7_becomesKing_70 : decode cX7_becomesKing 70 = .ok (.goto 4, 3) := by decide +kernel
theorem dX7_becomesKing_73 : decode cX7_becomesKing 73 = .ok (.iconst 0, 1) := by decide +kernel
theorem dX7_becomesKing_74 : decode cX7_becomesKing 74 = .ok (.ireturn, 1) := by decide +kernel
theorem dX7_go_0 : decode cX7_go 0 = .ok (.sipush 1500, 3) := by decide +kernel
theorem dX7_go_3 : decode cX7_go 3 = .ok (.iload_n 1, 1) := by decide +kernel
theorem dX7_go_4 : decode cX7_go 4 = .ok (.imul, 1) := by decide +kernel
theorem dX7_go_5 : decode cX7_go 5 = .ok (.iload_n 2, 1) := by decide +kernel
theorem dX7_go_6 : decode cX7_go 6 = .ok (.iadd, 1) := by decide +kernel
theorem dX7_go_7 : decode cX7_go 7 = .ok (.istore_n 3, 1) := by decide +kernel
theorem dX7_go_8 : decode cX7_go 8 = .ok (.bipush 48, 2) := by decide +kernel
theorem dX7_go_10 : decode cX7_go 10 = .ok (.iload_n 1, 1) := by decide +kernel
theorem dX7_go_11 : decode cX7_go 11 = .ok (.iconst 1, 1) := by decide +kernel
theorem dX7_go_12 : decode cX7_go 12 = .ok (.iadd, 1) := by decide +kernel
theorem dX7_go_13 : decode cX7_go 13 = .ok (.imul, 1) := by decide +kernel
theorem dX7_go_14 : decode cX7_go 14 = .ok (.istore 4, 2) := by decide +kernel
theorem dX7_go_16 : decode cX7_go 16 = .ok (.iconst 0, 1) := by decide +kernel
theorem dX7_go_17 : decode cX7_go 17 = .ok (.istore 5, 2) := by decide +kernel
theorem dX7_go_19 : decode cX7_go 19 = .ok (.iload 5, 2) := by decide +kernel
theorem dX7_go_21 : decode cX7_go 21 = .ok (.bipush 48, 2) := by decide +kernel
theorem dX7_go_23 : decode cX7_go 23 = .ok (.if_icmp .ge 26, 3) := by decide +kernel
theorem dX7_go_26 : decode cX7_go 26 = .ok (.aload_n 0, 1) := by decide +kernel
theorem dX7_go_27 : decode cX7_go 27 = .ok (.getfield 27, 3) := by decide +kernel
theorem dX7_go_30 : decode cX7_go 30 = .ok (.iload 4, 2) := by decide +kernel
theorem dX7_go_32 : decode cX7_go 32 = .ok (.iload 5, 2) := by decide +kernel
theorem dX7_go_34 : decode cX7_go 34 = .ok (.iadd, 1) := by decide +kernel
theorem dX7_go_35 : decode cX7_go 35 = .ok (.aload_n 0, 1) := by decide +kernel
theorem dX7_go_36 : decode cX7_go 36 = .ok (.iload_n 1, 1) := by decide +kernel
theorem dX7_go_37 : decode cX7_go 37 = .ok (.iload 5, 2) := by decide +kernel
theorem dX7_go_39 : decode cX7_go 39 = .ok (.invokevirtual 79, 3) := by decide +kernel
theorem dX7_go_42 : decode cX7_go 42 = .ok (.iastore, 1) := by decide +kernel
theorem dX7_go_43 : decode cX7_go 43 = .ok (.iinc 5 1, 3) := by decide +kernel
theorem dX7_go_46 : decode cX7_go 46 = .ok (.goto (-27), 3) := by decide +kernel
theorem dX7_go_49 : decode cX7_go 49 = .ok (.aload_n 0, 1) := by decide +kernel
theorem dX7_go_50 : decode cX7_go 50 = .ok (.iload_n 1, 1) := by decide +kernel
theorem dX7_go_51 : decode cX7_go 51 = .ok (.aload_n 0, 1) := by decide +kernel
theorem dX7_go_52 : decode cX7_go 52 = .ok (.getfield 39, 3) := by decide +kernel
theorem dX7_go_55 : decode cX7_go 55 = .ok (.iload_n 3, 1) := by decide +kernel
theorem dX7_go_56 : decode cX7_go 56 = .ok (.iaload, 1) := by decide +kernel
theorem dX7_go_57 : decode cX7_go 57 = .ok (.invokevirtual 79, 3) := by decide +kernel
theorem dX7_go_60 : decode cX7_go 60 = .ok (.istore 5, 2) := by decide +kernel
theorem dX7_go_62 : decode cX7_go 62 = .ok (.aload_n 0, 1) := by decide +kernel
theorem dX7_go_63 : decode cX7_go 63 = .ok (.getfield 27, 3) := by decide +kernel
theorem dX7_go_66 : decode cX7_go 66 = .ok (.iload 4, 2) := by decide +kernel
theorem dX7_go_68 : decode cX7_go 68 = .ok (.aload_n 0, 1) := by decide +kernel
theorem dX7_go_69 : decode cX7_go 69 = .ok (.getfield 39, 3) := by decide +kernel
theorem dX7_go_72 : decode cX7_go 72 = .ok (.iload_n 3, 1) := by decide +kernel
theorem dX7_go_73 : decode cX7_go 73 = .ok (.iaload, 1) := by decide +kernel
theorem dX7_go_74 : decode cX7_go 74 = .ok (.iadd, 1) := by decide +kernel
theorem dX7_go_75 : decode cX7_go 75 = .ok (.bipush (-6), 2) := by decide +kernel
theorem dX7_go_77 : decode cX7_go 77 = .ok (.iastore, 1) := by decide +kernel
theorem dX7_go_78 : decode cX7_go 78 = .ok (.aload_n 0, 1) := by decide +kernel
theorem dX7_go_79 : decode cX7_go 79 = .ok (.getfield 27, 3) := by decide +kernel
theorem dX7_go_82 : decode cX7_go 82 = .ok (.iload 4, 2) := by decide +kernel
theorem dX7_go_84 : decode cX7_go 84 = .ok (.aload_n 0, 1) := by decide +kernel
theorem dX7_go_85 : decode cX7_go 85 = .ok (.getfield 48, 3) := by decide +kernel
theorem dX7_go_88 : decode cX7_go 88 = .ok (.iload_n 3, 1) := by decide +kernel
theorem dX7_go_89 : decode cX7_go 89 = .ok (.iaload, 1) := by decide +kernel
theorem dX7_go_90 : decode cX7_go 90 = .ok (.iadd, 1) := by decide +kernel
theorem dX7_go_91 : decode cX7_go 91 = .ok (.aload_n 0, 1) := by decide +kernel
theorem dX7_go_92 : decode cX7_go 92 = .ok (.iload_n 1, 1) := by decide +kernel
theorem dX7_go_93 : decode cX7_go 93 = .ok (.iload_n 2, 1) := by decide +kernel
theorem dX7_go_94 : decode cX7_go 94 = .ok (.invokevirtual 114, 3) := by decide +kernel
theorem dX7_go_97 : decode cX7_go 97 = .ok (.ifCond .eq 10, 3) := by decide +kernel
theorem dX7_go_100 : decode cX7_go 100 = .ok (.iload 5, 2) := by decide +kernel
theorem dX7_go_102 : decode cX7_go 102 = .ok (.iconst 1, 1) := by decide +kernel
theorem dX7_go_103 : decode cX7_go 103 = .ok (.iadd, 1) := by decide +kernel
theorem dX7_go_104 : decode cX7_go 104 = .ok (.goto 5, 3) := by decide +kernel
theorem dX7_go_107 : decode cX7_go 107 = .ok (.iload 5, 2) := by decide +kernel
theorem dX7_go_109 : decode cX7_go 109 = .ok (.iastore, 1) := by decide +kernel
theorem dX7_go_110 : decode cX7_go 110 = .ok (.aload_n 0, 1) := by decide +kernel
theorem dX7_go_111 : decode cX7_go 111 = .ok (.getfield 30, 3) := by decide +kernel
theorem dX7_go_114 : decode cX7_go 114 = .ok (.iload_n 1, 1) := by decide +kernel
theorem dX7_go_115 : decode cX7_go 115 = .ok (.iconst 1, 1) := by decide +kernel
theorem dX7_go_116 : decode cX7_go 116 = .ok (.iadd, 1) := by decide +kernel
theorem dX7_go_117 : decode cX7_go 117 = .ok (.iconst 1, 1) := by decide +kernel
theorem dX7_go_118 : decode cX7_go 118 = .ok (.aload_n 0, 1) := by decide +kernel
theorem dX7_go_119 : decode cX7_go 119 = .ok (.getfield 30, 3) := by decide +kernel
theorem dX7_go_122 : decode cX7_go 122 = .ok (.iload_n 1, 1) := by decide +kernel
theorem dX7_go_123 : decode cX7_go 123 = .ok (.iaload, 1) := by decide +kernel
theorem dX7_go_124 : decode cX7_go 124 = .ok (.isub, 1) := by decide +kernel
theorem dX7_go_125 : decode cX7_go 125 = .ok (.iastore, 1) := by decide +kernel
theorem dX7_go_126 : decode cX7_go 126 = .ok (.aload_n 0, 1) := by decide +kernel
theorem dX7_go_127 : decode cX7_go 127 = .ok (.getfield 33, 3) := by decide +kernel
theorem dX7_go_130 : decode cX7_go 130 = .ok (.iload_n 1, 1) := by decide +kernel
theorem dX7_go_131 : decode cX7_go 131 = .ok (.iconst 1, 1) := by decide +kernel
theorem dX7_go_132 : decode cX7_go 132 = .ok (.iadd, 1) := by decide +kernel
theorem dX7_go_133 : decode cX7_go 133 = .ok (.bipush (-6), 2) := by decide +kernel
theorem dX7_go_135 : decode cX7_go 135 = .ok (.iastore, 1) := by decide +kernel
theorem dX7_go_136 : decode cX7_go 136 = .ok (.aload_n 0, 1) := by decide +kernel
theorem dX7_go_137 : decode cX7_go 137 = .ok (.getfield 51, 3) := by decide +kernel
theorem dX7_go_140 : decode cX7_go 140 = .ok (.iload_n 3, 1) := by decide +kernel
theorem dX7_go_141 : decode cX7_go 141 = .ok (.iaload, 1) := by decide +kernel
theorem dX7_go_142 : decode cX7_go 142 = .ok (.bipush (-6), 2) := by decide +kernel
theorem dX7_go_144 : decode cX7_go 144 = .ok (.if_icmp .eq 77, 3) := by decide +kernel
theorem dX7_go_147 : decode cX7_go 147 = .ok (.aload_n 0, 1) := by decide +kernel
theorem dX7_go_148 : decode cX7_go 148 = .ok (.getfield 27, 3) := by decide +kernel
theorem dX7_go_151 : decode cX7_go 151 = .ok (.iload 4, 2) := by decide +kernel
theorem dX7_go_153 : decode cX7_go 153 = .ok (.aload_n 0, 1) := by decide +kernel
theorem dX7_go_154 : decode cX7_go 154 = .ok (.getfield 51, 3) := by decide +kernel
theorem dX7_go_157 : decode cX7_go 157 = .ok (.iload_n 3, 1) := by decide +kernel
theorem dX7_go_158 : decode cX7_go 158 = .ok (.iaload, 1) := by decide +kernel
theorem dX7_go_159 : decode cX7_go 159 = .ok (.iadd, 1) := by decide +kernel
theorem dX7_go_160 : decode cX7_go 160 = .ok (.bipush (-6), 2) := by decide +kernel
theorem dX7_go_162 : decode cX7_go 162 = .ok (.iastore, 1) := by decide +kernel
theorem dX7_go_163 : decode cX7_go 163 = .ok (.aload_n 0, 1) := by decide +kernel
theorem dX7_go_164 : decode cX7_go 164 = .ok (.iload_n 1, 1) := by decide +kernel
theorem dX7_go_165 : decode cX7_go 165 = .ok (.iconst 1, 1) := by decide +kernel
theorem dX7_go_166 : decode cX7_go 166 = .ok (.iadd, 1) := by decide +kernel
theorem dX7_go_167 : decode cX7_go 167 = .ok (.aload_n 0, 1) := by decide +kernel
theorem dX7_go_168 : decode cX7_go 168 = .ok (.getfield 30, 3) := by decide +kernel
theorem dX7_go_171 : decode cX7_go 171 = .ok (.iload_n 1, 1) := by decide +kernel
theorem dX7_go_172 : decode cX7_go 172 = .ok (.iaload, 1) := by decide +kernel
theorem dX7_go_173 : decode cX7_go 173 = .ok (.aload_n 0, 1) := by decide +kernel
theorem dX7_go_174 : decode cX7_go 174 = .ok (.getfield 48, 3) := by decide +kernel
theorem dX7_go_177 : decode cX7_go 177 = .ok (.iload_n 3, 1) := by decide +kernel
theorem dX7_go_178 : decode cX7_go 178 = .ok (.iaload, 1) := by decide +kernel
theorem dX7_go_179 : decode cX7_go 179 = .ok (.invokevirtual 108, 3) := by decide +kernel
theorem dX7_go_182 : decode cX7_go 182 = .ok (.aload_n 0, 1) := by decide +kernel
theorem dX7_go_183 : decode cX7_go 183 = .ok (.getfield 36, 3) := by decide +kernel
theorem dX7_go_186 : decode cX7_go 186 = .ok (.iload_n 1, 1) := by decide +kernel
theorem dX7_go_187 : decode cX7_go 187 = .ok (.iconst 1, 1) := by decide +kernel
theorem dX7_go_188 : decode cX7_go 188 = .ok (.iadd, 1) := by decide +kernel
theorem dX7_go_189 : decode cX7_go 189 = .ok (.iaload, 1) := by decide +kernel
theorem dX7_go_190 : decode cX7_go 190 = .ok (.ifCond .le 31, 3) := by decide +kernel
theorem dX7_go_193 : decode cX7_go 193 = .ok (.aload_n 0, 1) := by decide +kernel
theorem dX7_go_194 : decode cX7_go 194 = .ok (.getfield 30, 3) := by decide +kernel
theorem dX7_go_197 : decode cX7_go 197 = .ok (.iload_n 1, 1) := by decide +kernel
theorem dX7_go_198 : decode cX7_go 198 = .ok (.iconst 1, 1) := by decide +kernel
theorem dX7_go_199 : decode cX7_go 199 = .ok (.iadd, 1) := by decide +kernel
theorem dX7_go_200 : decode cX7_go 200 = .ok (.aload_n 0, 1) := by decide +kernel
theorem dX7_go_201 : decode cX7_go 201 = .ok (.getfield 30, 3) := by decide +kernel
theorem dX7_go_204 : decode cX7_go 204 = .ok (.iload_n 1, 1) := by decide +kernel
theorem dX7_go_205 : decode cX7_go 205 = .ok (.iaload, 1) := by decide +kernel
theorem dX7_go_206 : decode cX7_go 206 = .ok (.iastore, 1) := by decide +kernel
theorem dX7_go_207 : decode cX7_go 207 = .ok (.aload_n 0, 1) := by decide +kernel
theorem dX7_go_208 : decode cX7_go 208 = .ok (.getfield 33, 3) := by decide +kernel
theorem dX7_go_211 : decode cX7_go 211 = .ok (.iload_n 1, 1) := by decide +kernel
theorem dX7_go_212 : decode cX7_go 212 = .ok (.iconst 1, 1) := by decide +kernel
theorem dX7_go_213 : decode cX7_go 213 = .ok (.iadd, 1) := by decide +kernel
theorem dX7_go_214 : decode cX7_go 214 = .ok (.aload_n 0, 1) := by decide +kernel
theorem dX7_go_215 : decode cX7_go 215 = .ok (.getfield 48, 3) := by decide +kernel
theorem dX7_go_218 : decode cX7_go 218 = .ok (.iload_n 3, 1) := by decide +kernel
theorem dX7_go_219 : decode cX7_go 219 = .ok (.iaload, 1) := by decide +kernel
theorem dX7_go_220 : decode cX7_go 220 = .ok (.iastore, 1) := by decide +kernel
theorem dX7_go_221 : decode cX7_go 221 = .ok (.return_, 1) := by decide +kernel
theorem dX7_look_0 : decode cX7_look 0 = .ok (.iconst 0, 1) := by decide +kernel
theorem dX7_look_1 : decode cX7_look 1 = .ok (.istore_n 1, 1) := by decide +kernel
theorem dX7_look_2 : decode cX7_look 2 = .ok (.iload_n 1, 1) := by decide +kernel
theorem dX7_look_3 : decode cX7_look 3 = .ok (.bipush 48, 2) := by decide +kernel
theorem dX7_look_5 : decode cX7_look 5 = .ok (.if_icmp .ge 23, 3) := by decide +kernel
theorem dX7_look_8 : decode cX7_look 8 = .ok (.aload_n 0, 1) := by decide +kernel
theorem dX7_look_9 : decode cX7_look 9 = .ok (.getfield 27, 3) := by decide +kernel
theorem dX7_look_12 : decode cX7_look 12 = .ok (.iload_n 1, 1) := by decide +kernel
theorem dX7_look_13 : decode cX7_look 13 = .ok (.aload_n 0, 1) := by decide +kernel
theorem dX7_look_14 : decode cX7_look 14 = .ok (.getfield 7, 3) := by decide +kernel
theorem dX7_look_17 : decode cX7_look 17 = .ok (.iconst 0, 1) := by decide +kernel
theorem dX7_look_18 : decode cX7_look 18 = .ok (.iload_n 1, 1) := by decide +kernel
theorem dX7_look_19 : decode cX7_look 19 = .ok (.iadd, 1) := by decide +kernel
theorem dX7_look_20 : decode cX7_look 20 = .ok (.iaload, 1) := by decide +kernel
theorem dX7_look_21 : decode cX7_look 21 = .ok (.iastore, 1) := by decide +kernel
theorem dX7_look_22 : decode cX7_look 22 = .ok (.iinc 1 1, 3) := by decide +kernel
theorem dX7_look_25 : decode cX7_look 25 = .ok (.goto (-23), 3) := by decide +kernel
theorem dX7_look_28 : decode cX7_look 28 = .ok (.aload_n 0, 1) := by decide +kernel
theorem dX7_look_29 : decode cX7_look 29 = .ok (.getfield 30, 3) := by decide +kernel
theorem dX7_look_32 : decode cX7_look 32 = .ok (.iconst 0, 1) := by decide +kernel
theorem dX7_look_33 : decode cX7_look 33 = .ok (.aload_n 0, 1) := by decide +kernel
theorem dX7_look_34 : decode cX7_look 34 = .ok (.getfield 7, 3) := by decide +kernel
theorem dX7_look_37 : decode cX7_look 37 = .ok (.bipush 48, 2) := by decide +kernel
theorem dX7_look_39 : decode cX7_look 39 = .ok (.iaload, 1) := by decide +kernel
theorem dX7_look_40 : decode cX7_look 40 = .ok (.iastore, 1) := by decide +kernel
theorem dX7_look_41 : decode cX7_look 41 = .ok (.aload_n 0, 1) := by decide +kernel
theorem dX7_look_42 : decode cX7_look 42 = .ok (.getfield 33, 3) := by decide +kernel
theorem dX7_look_45 : decode cX7_look 45 = .ok (.iconst 0, 1) := by decide +kernel
theorem dX7_look_46 : decode cX7_look 46 = .ok (.aload_n 0, 1) := by decide +kernel
theorem dX7_look_47 : decode cX7_look 47 = .ok (.getfield 7, 3) := by decide +kernel
theorem dX7_look_50 : decode cX7_look 50 = .ok (.bipush 54, 2) := by decide +kernel
theorem dX7_look_52 : decode cX7_look 52 = .ok (.iaload, 1) := by decide +kernel
theorem dX7_look_53 : decode cX7_look 53 = .ok (.iastore, 1) := by decide +kernel
theorem dX7_look_54 : decode cX7_look 54 = .ok (.aload_n 0, 1) := by decide +kernel
theorem dX7_look_55 : decode cX7_look 55 = .ok (.iconst 0, 1) := by decide +kernel
theorem dX7_look_56 : decode cX7_look 56 = .ok (.invokevirtual 117, 3) := by decide +kernel
theorem dX7_look_59 : decode cX7_look 59 = .ok (.aload_n 0, 1) := by decide +kernel
theorem dX7_look_60 : decode cX7_look 60 = .ok (.getfield 7, 3) := by decide +kernel
theorem dX7_look_63 : decode cX7_look 63 = .ok (.bipush 49, 2) := by decide +kernel
theorem dX7_look_65 : decode cX7_look 65 = .ok (.iaload, 1) := by decide +kernel
theorem dX7_look_66 : decode cX7_look 66 = .ok (.ifCond .eq 10, 3) := by decide +kernel
theorem dX7_look_69 : decode cX7_look 69 = .ok (.aload_n 0, 1) := by decide +kernel
theorem dX7_look_70 : decode cX7_look 70 = .ok (.getfield 36, 3) := by decide +kernel
theorem dX7_look_73 : decode cX7_look 73 = .ok (.iconst 0, 1) := by decide +kernel
theorem dX7_look_74 : decode cX7_look 74 = .ok (.iconst 0, 1) := by decide +kernel
theorem dX7_look_75 : decode cX7_look 75 = .ok (.iastore, 1) := by decide +kernel
theorem dX7_look_76 : decode cX7_look 76 = .ok (.return_, 1) := by decide +kernel
theorem dX7_squaresOf_0 : decode cX7_squaresOf 0 = .ok (.iconst 0, 1) := by decide +kernel
theorem dX7_squaresOf_1 : decode cX7_squaresOf 1 = .ok (.istore_n 2, 1) := by decide +kernel
theorem dX7_squaresOf_2 : decode cX7_squaresOf 2 = .ok (.iload_n 1, 1) := by decide +kernel
theorem dX7_squaresOf_3 : decode cX7_squaresOf 3 = .ok (.istore_n 3, 1) := by decide +kernel
theorem dX7_squaresOf_4 : decode cX7_squaresOf 4 = .ok (.iload_n 3, 1) := by decide +kernel
theorem dX7_squaresOf_5 : decode cX7_squaresOf 5 = .ok (.iload_n 1, 1) := by decide +kernel
theorem dX7_squaresOf_6 : decode cX7_squaresOf 6 = .ok (.bipush 10, 2) := by decide +kernel
theorem dX7_squaresOf_8 : decode cX7_squaresOf 8 = .ok (.iadd, 1) := by decide +kernel
theorem dX7_squaresOf_9 : decode cX7_squaresOf 9 = .ok (.if_icmp .ge 45, 3) := by decide +kernel
theorem dX7_squaresOf_12 : decode cX7_squaresOf 12 = .ok (.iload_n 3, 1) := by decide +kernel
theorem dX7_squaresOf_13 : decode cX7_squaresOf 13 = .ok (.bipush 48, 2) := by decide +kernel
theorem dX7_squaresOf_15 : decode cX7_squaresOf 15 = .ok (.if_icmp .ge 39, 3) := by decide +kernel
theorem dX7_squaresOf_18 : decode cX7_squaresOf 18 = .ok (.iconst 5, 1) := by decide +kernel
theorem dX7_squaresOf_19 : decode cX7_squaresOf 19 = .ok (.iload_n 2, 1) := by decide +kernel
theorem dX7_squaresOf_20 : decode cX7_squaresOf 20 = .ok (.imul, 1) := by decide +kernel
theorem dX7_squaresOf_21 : decode cX7_squaresOf 21 = .ok (.aload_n 0, 1) := by decide +kernel
theorem dX7_squaresOf_22 : decode cX7_squaresOf 22 = .ok (.getfield 7, 3) := by decide +kernel
theorem dX7_squaresOf_25 : decode cX7_squaresOf 25 = .ok (.iconst 0, 1) := by decide +kernel
theorem dX7_squaresOf_26 : decode cX7_squaresOf 26 = .ok (.iload_n 3, 1) := by decide +kernel
theorem dX7_squaresOf_27 : decode cX7_squaresOf 27 = .ok (.iadd, 1) := by decide +kernel
theorem dX7_squaresOf_28 : decode cX7_squaresOf 28 = .ok (.iaload, 1) := by decide +kernel
theorem dX7_squaresOf_29 : decode cX7_squaresOf 29 = .ok (.bipush (-6), 2) := by decide +kernel
theorem dX7_squaresOf_31 : decode cX7_squaresOf 31 = .ok (.if_icmp .ne 7, 3) := by decide +kernel
theorem dX7_squaresOf_34 : decode cX7_squaresOf 34 = .ok (.iconst 4, 1) := by decide +kernel
theorem dX7_squaresOf_35 : decode cX7_squaresOf 35 = .ok (.goto 11, 3) := by decide +kernel
theorem dX7_squaresOf_38 : decode cX7_squaresOf 38 = .ok (.aload_n 0, 1) := by decide +kernel
theorem dX7_squaresOf_39 : decode cX7_squaresOf 39 = .ok (.getfield 7, 3) := by decide +kernel
theorem dX7_squaresOf_42 : decode cX7_squaresOf 42 = .ok (.iconst 0, 1) := by decide +kernel
theorem dX7_squaresOf_43 : decode cX7_squaresOf 43 = .ok (.iload_n 3, 1) := by decide +kernel
theorem dX7_squaresOf_44 : decode cX7_squaresOf 44 = .ok (.iadd, 1) := by decide +kernel
theorem dX7_squaresOf_45 : decode cX7_squaresOf 45 = .ok (.iaload, 1) := by decide +kernel
theorem dX7_squaresOf_46 : decode cX7_squaresOf 46 = .ok (.iadd, 1) := by decide +kernel
theorem dX7_squaresOf_47 : decode cX7_squaresOf 47 = .ok (.istore_n 2, 1) := by decide +kernel
theorem dX7_squaresOf_48 : decode cX7_squaresOf 48 = .ok (.iinc 3 1, 3) := by decide +kernel
theorem dX7_squaresOf_51 : decode cX7_squaresOf 51 = .ok (.goto (-47), 3) := by decide +kernel
theorem dX7_squaresOf_54 : decode cX7_squaresOf 54 = .ok (.iload_n 2, 1) := by decide +kernel
theorem dX7_squaresOf_55 : decode cX7_squaresOf 55 = .ok (.ireturn, 1) := by decide +kernel
theorem dX7_writePosition_0 : decode cX7_writePosition 0 = .ok (.bipush 59, 2) := by decide +kernel
theorem dX7_writePosition_2 : decode cX7_writePosition 2 = .ok (.bipush 6, 2) := by decide +kernel
theorem dX7_writePosition_4 : decode cX7_writePosition 4 = .ok (.aload_n 0, 1) := by decide +kernel
theorem dX7_writePosition_5 : decode cX7_writePosition 5 = .ok (.getfield 7, 3) := by decide +kernel
theorem dX7_writePosition_8 : decode cX7_writePosition 8 = .ok (.bipush 58, 2) := by decide +kernel
theorem dX7_writePosition_10 : decode cX7_writePosition 10 = .ok (.iaload, 1) := by decide +kernel
theorem dX7_writePosition_11 : decode cX7_writePosition 11 = .ok (.imul, 1) := by decide +kernel
theorem dX7_writePosition_12 : decode cX7_writePosition 12 = .ok (.iadd, 1) := by decide +kernel
theorem dX7_writePosition_13 : decode cX7_writePosition 13 = .ok (.istore_n 1, 1) := by decide +kernel
theorem dX7_writePosition_14 : decode cX7_writePosition 14 = .ok (.iconst 0, 1) := by decide +kernel
theorem dX7_writePosition_15 : decode cX7_writePosition 15 = .ok (.istore_n 2, 1) := by decide +kernel
theorem dX7_writePosition_16 : decode cX7_writePosition 16 = .ok (.iload_n 2, 1) := by decide +kernel
theorem dX7_writePosition_17 : decode cX7_writePosition 17 = .ok (.iconst 5, 1) := by decide +kernel
theorem dX7_writePosition_18 : decode cX7_writePosition 18 = .ok (.if_icmp .ge 25, 3) := by decide +kernel
theorem dX7_writePosition_21 : decode cX7_writePosition 21 = .ok (.aload_n 0, 1) := by decide +kernel
theorem dX7_writePosition_22 : decode cX7_writePosition 22 = .ok (.getfield 7, 3) := by decide +kernel
theorem dX7_writePosition_25 : decode cX7_writePosition 25 = .ok (.iload_n 1, 1) := by decide +kernel
theorem dX7_writePosition_26 : decode cX7_writePosition 26 = .ok (.iload_n 2, 1) := by decide +kernel
theorem dX7_writePosition_27 : decode cX7_writePosition 27 = .ok (.iadd, 1) := by decide +kernel
theorem dX7_writePosition_28 : decode cX7_writePosition 28 = .ok (.aload_n 0, 1) := by decide +kernel
theorem dX7_writePosition_29 : decode cX7_writePosition 29 = .ok (.bipush 10, 2) := by decide +kernel
theorem dX7_writePosition_31 : decode cX7_writePosition 31 = .ok (.iload_n 2, 1) := by decide +kernel
theorem dX7_writePosition_32 : decode cX7_writePosition 32 = .ok (.imul, 1) := by decide +kernel
theorem dX7_writePosition_33 : decode cX7_writePosition 33 = .ok (.invokevirtual 121, 3) := by decide +kernel
theorem dX7_writePosition_36 : decode cX7_writePosition 36 = .ok (.iastore, 1) := by decide +kernel
theorem dX7_writePosition_37 : decode cX7_writePosition 37 = .ok (.iinc 2 1, 3) := by decide +kernel
theorem dX7_writePosition_40 : decode cX7_writePosition 40 = .ok (.goto (-24), 3) := by decide +kernel
theorem dX7_writePosition_43 : decode cX7_writePosition 43 = .ok (.aload_n 0, 1) := by decide +kernel
theorem dX7_writePosition_44 : decode cX7_writePosition 44 = .ok (.getfield 7, 3) := by decide +kernel
theorem dX7_writePosition_47 : decode cX7_writePosition 47 = .ok (.iload_n 1, 1) := by decide +kernel
theorem dX7_writePosition_48 : decode cX7_writePosition 48 = .ok (.iconst 5, 1) := by decide +kernel
theorem dX7_writePosition_49 : decode cX7_writePosition 49 = .ok (.iadd, 1) := by decide +kernel
theorem dX7_writePosition_50 : decode cX7_writePosition 50 = .ok (.bipush 100, 2) := by decide +kernel
theorem dX7_writePosition_52 : decode cX7_writePosition 52 = .ok (.aload_n 0, 1) := by decide +kernel
theorem dX7_writePosition_53 : decode cX7_writePosition 53 = .ok (.getfield 7, 3) := by decide +kernel
theorem dX7_writePosition_56 : decode cX7_writePosition 56 = .ok (.bipush 48, 2) := by decide +kernel
theorem dX7_writePosition_58 : decode cX7_writePosition 58 = .ok (.iaload, 1) := by decide +kernel
theorem dX7_writePosition_59 : decode cX7_writePosition 59 = .ok (.imul, 1) := by decide +kernel
theorem dX7_writePosition_60 : decode cX7_writePosition 60 = .ok (.aload_n 0, 1) := by decide +kernel
theorem dX7_writePosition_61 : decode cX7_writePosition 61 = .ok (.getfield 7, 3) := by decide +kernel
theorem dX7_writePosition_64 : decode cX7_writePosition 64 = .ok (.bipush 54, 2) := by decide +kernel
theorem dX7_writePosition_66 : decode cX7_writePosition 66 = .ok (.iaload, 1) := by decide +kernel
theorem dX7_writePosition_67 : decode cX7_writePosition 67 = .ok (.iadd, 1) := by decide +kernel
theorem dX7_writePosition_68 : decode cX7_writePosition 68 = .ok (.iastore, 1) := by decide +kernel
theorem dX7_writePosition_69 : decode cX7_writePosition 69 = .ok (.aload_n 0, 1) := by decide +kernel
theorem dX7_writePosition_70 : decode cX7_writePosition 70 = .ok (.getfield 7, 3) := by decide +kernel
theorem dX7_writePosition_73 : decode cX7_writePosition 73 = .ok (.bipush 58, 2) := by decide +kernel
theorem dX7_writePosition_75 : decode cX7_writePosition 75 = .ok (.dup2, 1) := by decide +kernel
theorem dX7_writePosition_76 : decode cX7_writePosition 76 = .ok (.iaload, 1) := by decide +kernel
theorem dX7_writePosition_77 : decode cX7_writePosition 77 = .ok (.iconst 1, 1) := by decide +kernel
theorem dX7_writePosition_78 : decode cX7_writePosition 78 = .ok (.iadd, 1) := by decide +kernel
theorem dX7_writePosition_79 : decode cX7_writePosition 79 = .ok (.iastore, 1) := by decide +kernel
theorem dX7_writePosition_80 : decode cX7_writePosition 80 = .ok (.return_, 1) := by decide +kernel
theorem dX7_timesCome_0 : decode cX7_timesCome 0 = .ok (.bipush 59, 2) := by decide +kernel
theorem dX7_timesCome_2 : decode cX7_timesCome 2 = .ok (.bipush 6, 2) := by decide +kernel
theorem dX7_timesCome_4 : decode cX7_timesCome 4 = .ok (.aload_n 0, 1) := by decide +kernel
theorem dX7_timesCome_5 : decode cX7_timesCome 5 = .ok (.getfield 7, 3) := by decide +kernel
theorem dX7_timesCome_8 : decode cX7_timesCome 8 = .ok (.bipush 58, 2) := by decide +kernel
theorem dX7_timesCome_10 : decode cX7_timesCome 10 = .ok (.iaload, 1) := by decide +kernel
theorem dX7_timesCome_11 : decode cX7_timesCome 11 = .ok (.iconst 1, 1) := by decide +kernel
theorem dX7_timesCome_12 : decode cX7_timesCome 12 = .ok (.isub, 1) := by decide +kernel
theorem dX7_timesCome_13 : decode cX7_timesCome 13 = .ok (.imul, 1) := by decide +kernel
theorem dX7_timesCome_14 : decode cX7_timesCome 14 = .ok (.iadd, 1) := by decide +kernel
theorem dX7_timesCome_15 : decode cX7_timesCome 15 = .ok (.istore_n 1, 1) := by decide +kernel
theorem dX7_timesCome_16 : decode cX7_timesCome 16 = .ok (.iconst 0, 1) := by decide +kernel
theorem dX7_timesCome_17 : decode cX7_timesCome 17 = .ok (.istore_n 2, 1) := by decide +kernel
theorem dX7_timesCome_18 : decode cX7_timesCome 18 = .ok (.iconst 0, 1) := by decide +kernel
theorem dX7_timesCome_19 : decode cX7_timesCome 19 = .ok (.istore_n 3, 1) := by decide +kernel
theorem dX7_timesCome_20 : decode cX7_timesCome 20 = .ok (.iload_n 3, 1) := by decide +kernel
theorem dX7_timesCome_21 : decode cX7_timesCome 21 = .ok (.aload_n 0, 1) := by decide +kernel
theorem dX7_timesCome_22 : decode cX7_timesCome 22 = .ok (.getfield 7, 3) := by decide +kernel
theorem dX7_timesCome_25 : decode cX7_timesCome 25 = .ok (.bipush 58, 2) := by decide +kernel
theorem dX7_timesCome_27 : decode cX7_timesCome 27 = .ok (.iaload, 1) := by decide +kernel
theorem dX7_timesCome_28 : decode cX7_timesCome 28 = .ok (.if_icmp .ge 80, 3) := by decide +kernel
theorem dX7_timesCome_31 : decode cX7_timesCome 31 = .ok (.iconst 1, 1) := by decide +kernel
theorem dX7_timesCome_32 : decode cX7_timesCome 32 = .ok (.istore 4, 2) := by decide +kernel
theorem dX7_timesCome_34 : decode cX7_timesCome 34 = .ok (.iconst 0, 1) := by decide +kernel
theorem dX7_timesCome_35 : decode cX7_timesCome 35 = .ok (.istore 5, 2) := by decide +kernel
theorem dX7_timesCome_37 : decode cX7_timesCome 37 = .ok (.iload 5, 2) := by decide +kernel
theorem dX7_timesCome_39 : decode cX7_timesCome 39 = .ok (.bipush 6, 2) := by decide +kernel
theorem dX7_timesCome_41 : decode cX7_timesCome 41 = .ok (.if_icmp .ge 48, 3) := by decide +kernel
theorem dX7_timesCome_44 : decode cX7_timesCome 44 = .ok (.iload 4, 2) := by decide +kernel
theorem dX7_timesCome_46 : decode cX7_timesCome 46 = .ok (.ifCond .eq 34, 3) := by decide +kernel
theorem dX7_timesCome_49 : decode cX7_timesCome 49 = .ok (.aload_n 0, 1) := by decide +kernel
theorem dX7_timesCome_50 : decode cX7_timesCome 50 = .ok (.getfield 7, 3) := by decide +kernel
theorem dX7_timesCome_53 : decode cX7_timesCome 53 = .ok (.bipush 59, 2) := by decide +kernel
theorem dX7_timesCome_55 : decode cX7_timesCome 55 = .ok (.bipush 6, 2) := by decide +kernel
theorem dX7_timesCome_57 : decode cX7_timesCome 57 = .ok (.iload_n 3, 1) := by decide +kernel
theorem dX7_timesCome_58 : decode cX7_timesCome 58 = .ok (.imul, 1) := by decide +kernel
theorem dX7_timesCome_59 : decode cX7_timesCome 59 = .ok (.iadd, 1) := by decide +kernel
theorem dX7_timesCome_60 : decode cX7_timesCome 60 = .ok (.iload 5, 2) := by decide +kernel
theorem dX7_timesCome_62 : decode cX7_timesCome 62 = .ok (.iadd, 1) := by decide +kernel
theorem dX7_timesCome_63 : decode cX7_timesCome 63 = .ok (.iaload, 1) := by decide +kernel
theorem dX7_timesCome_64 : decode cX7_timesCome 64 = .ok (.aload_n 0, 1) := by decide +kernel
theorem dX7_timesCome_65 : decode cX7_timesCome 65 = .ok (.getfield 7, 3) := by decide +kernel
theorem dX7_timesCome_68 : decode cX7_timesCome 68 = .ok (.iload_n 1, 1) := by decide +kernel
theorem dX7_timesCome_69 : decode cX7_timesCome 69 = .ok (.iload 5, 2) := by decide +kernel
theorem dX7_timesCome_71 : decode cX7_timesCome 71 = .ok (.iadd, 1) := by decide +kernel
theorem dX7_timesCome_72 : decode cX7_timesCome 72 = .ok (.iaload, 1) := by decide +kernel
theorem dX7_timesCome_73 : decode cX7_timesCome 73 = .ok (.if_icmp .ne 7, 3) := by decide +kernel
theorem dX7_timesCome_76 : decode cX7_timesCome 76 = .ok (.iconst 1, 1) := by decide +kernel
theorem dX7_timesCome_77 : decode cX7_timesCome 77 = .ok (.goto 4, 3) := by decide +kernel
theorem dX7_timesCome_80 : decode cX7_timesCome 80 = .ok (.iconst 0, 1) := by decide +kernel
theorem dX7_timesCome_81 : decode cX7_timesCome 81 = .ok (.istore 4, 2) := by decide +kernel
theorem dX7_timesCome_83 : decode cX7_timesCome 83 = .ok (.iinc 5 1, 3) := by decide +kernel
theorem dX7_timesCome_86 : decode cX7_timesCome 86 = .ok (.goto (-49), 3) := by decide +kernel
theorem dX7_timesCome_89 : decode cX7_timesCome 89 = .ok (.iload_n 2, 1) := by decide +kernel
theorem dX7_timesCome_90 : decode cX7_timesCome 90 = .ok (.iload 4, 2) := by decide +kernel
theorem dX7_timesCome_92 : decode cX7_timesCome 92 = .ok (.ifCond .eq 7, 3) := by decide +kernel
theorem dX7_timesCome_95 : decode cX7_timesCome 95 = .ok (.iconst 1, 1) := by decide +kernel
theorem dX7_timesCome_96 : decode cX7_timesCome 96 = .ok (.goto 4, 3) := by decide +kernel
theorem dX7_timesCome_99 : decode cX7_timesCome 99 = .ok (.iconst 0, 1) := by decide +kernel
theorem dX7_timesCome_100 : decode cX7_timesCome 100 = .ok (.iadd, 1) := by decide +kernel
theorem dX7_timesCome_101 : decode cX7_timesCome 101 = .ok (.istore_n 2, 1) := by decide +kernel
theorem dX7_timesCome_102 : decode cX7_timesCome 102 = .ok (.iinc 3 1, 3) := by decide +kernel
theorem dX7_timesCome_105 : decode cX7_timesCome 105 = .ok (.goto (-85), 3) := by decide +kernel
theorem dX7_timesCome_108 : decode cX7_timesCome 108 = .ok (.iload_n 2, 1) := by decide +kernel
theorem dX7_timesCome_109 : decode cX7_timesCome 109 = .ok (.ireturn, 1) := by decide +kernel
theorem dX7_forgetPositions_0 : decode cX7_forgetPositions 0 = .ok (.bipush 59, 2) := by decide +kernel
theorem dX7_forgetPositions_2 : decode cX7_forgetPositions 2 = .ok (.istore_n 1, 1) := by decide +kernel
theorem dX7_forgetPositions_3 : decode cX7_forgetPositions 3 = .ok (.iload_n 1, 1) := by decide +kernel
theorem dX7_forgetPositions_4 : decode cX7_forgetPositions 4 = .ok (.sipush 431, 3) := by decide +kernel
theorem dX7_forgetPositions_7 : decode cX7_forgetPositions 7 = .ok (.if_icmp .ge 16, 3) := by decide +kernel
theorem dX7_forgetPositions_10 : decode cX7_forgetPositions 10 = .ok (.aload_n 0, 1) := by decide +kernel
theorem dX7_forgetPositions_11 : decode cX7_forgetPositions 11 = .ok (.getfield 7, 3) := by decide +kernel
theorem dX7_forgetPositions_14 : decode cX7_forgetPositions 14 = .ok (.iload_n 1, 1) := by decide +kernel
theorem dX7_forgetPositions_15 : decode cX7_forgetPositions 15 = .ok (.iconst 0, 1) := by decide +kernel
theorem dX7_forgetPositions_16 : decode cX7_forgetPositions 16 = .ok (.iastore, 1) := by decide +kernel
theorem dX7_forgetPositions_17 : decode cX7_forgetPositions 17 = .ok (.iinc 1 1, 3) := by decide +kernel
theorem dX7_forgetPositions_20 : decode cX7_forgetPositions 20 = .ok (.goto (-17), 3) := by decide +kernel
theorem dX7_forgetPositions_23 : decode cX7_forgetPositions 23 = .ok (.aload_n 0, 1) := by decide +kernel
theorem dX7_forgetPositions_24 : decode cX7_forgetPositions 24 = .ok (.getfield 7, 3) := by decide +kernel
theorem dX7_forgetPositions_27 : decode cX7_forgetPositions 27 = .ok (.bipush 58, 2) := by decide +kernel
theorem dX7_forgetPositions_29 : decode cX7_forgetPositions 29 = .ok (.iconst 0, 1) := by decide +kernel
theorem dX7_forgetPositions_30 : decode cX7_forgetPositions 30 = .ok (.iastore, 1) := by decide +kernel
theorem dX7_forgetPositions_31 : decode cX7_forgetPositions 31 = .ok (.return_, 1) := by decide +kernel
theorem dX7_judge_0 : decode cX7_judge 0 = .ok (.aload_n 0, 1) := by decide +kernel
theorem dX7_judge_1 : decode cX7_judge 1 = .ok (.getfield 7, 3) := by decide +kernel
theorem dX7_judge_4 : decode cX7_judge 4 = .ok (.bipush 49, 2) := by decide +kernel
theorem dX7_judge_6 : decode cX7_judge 6 = .ok (.iconst 0, 1) := by decide +kernel
theorem dX7_judge_7 : decode cX7_judge 7 = .ok (.iastore, 1) := by decide +kernel
theorem dX7_judge_8 : decode cX7_judge 8 = .ok (.aload_n 0, 1) := by decide +kernel
theorem dX7_judge_9 : decode cX7_judge 9 = .ok (.invokevirtual 124, 3) := by decide +kernel
theorem dX7_judge_12 : decode cX7_judge 12 = .ok (.aload_n 0, 1) := by decide +kernel
theorem dX7_judge_13 : decode cX7_judge 13 = .ok (.getfield 36, 3) := by decide +kernel
theorem dX7_judge_16 : decode cX7_judge 16 = .ok (.iconst 0, 1) := by decide +kernel
theorem dX7_judge_17 : decode cX7_judge 17 = .ok (.iaload, 1) := by decide +kernel
theorem dX7_judge_18 : decode cX7_judge 18 = .ok (.ifCond .ne 28, 3) := by decide +kernel
theorem dX7_judge_21 : decode cX7_judge 21 = .ok (.aload_n 0, 1) := by decide +kernel
theorem dX7_judge_22 : decode cX7_judge 22 = .ok (.getfield 7, 3) := by decide +kernel
theorem dX7_judge_25 : decode cX7_judge 25 = .ok (.bipush 49, 2) := by decide +kernel
theorem dX7_judge_27 : decode cX7_judge 27 = .ok (.aload_n 0, 1) := by decide +kernel
theorem dX7_judge_28 : decode cX7_judge 28 = .ok (.getfield 7, 3) := by decide +kernel
theorem dX7_judge_31 : decode cX7_judge 31 = .ok (.bipush 48, 2) := by decide +kernel
theorem dX7_judge_33 : decode cX7_judge 33 = .ok (.iaload, 1) := by decide +kernel
theorem dX7_judge_34 : decode cX7_judge 34 = .ok (.ifCond .ne 7, 3) := by decide +kernel
theorem dX7_judge_37 : decode cX7_judge 37 = .ok (.iconst 2, 1) := by decide +kernel
theorem dX7_judge_38 : decode cX7_judge 38 = .ok (.goto 4, 3) := by decide +kernel
theorem dX7_judge_41 : decode cX7_judge 41 = .ok (.iconst 1, 1) := by decide +kernel
theorem dX7_judge_42 : decode cX7_judge 42 = .ok (.iastore, 1) := by decide +kernel
theorem dX7_judge_43 : decode cX7_judge 43 = .ok (.goto 31, 3) := by decide +kernel
theorem dX7_judge_46 : decode cX7_judge 46 = .ok (.aload_n 0, 1) := by decide +kernel
theorem dX7_judge_47 : decode cX7_judge 47 = .ok (.invokevirtual 127, 3) := by decide +kernel
theorem dX7_judge_50 : decode cX7_judge 50 = .ok (.iconst 2, 1) := by decide +kernel
theorem dX7_judge_51 : decode cX7_judge 51 = .ok (.if_icmp .gt 15, 3) := by decide +kernel
theorem dX7_judge_54 : decode cX7_judge 54 = .ok (.aload_n 0, 1) := by decide +kernel
theorem dX7_judge_55 : decode cX7_judge 55 = .ok (.getfield 7, 3) := by decide +kernel
theorem dX7_judge_58 : decode cX7_judge 58 = .ok (.bipush 57, 2) := by decide +kernel
theorem dX7_judge_60 : decode cX7_judge 60 = .ok (.iaload, 1) := by decide +kernel
theorem dX7_judge_61 : decode cX7_judge 61 = .ok (.bipush 60, 2) := by decide +kernel
theorem dX7_judge_63 : decode cX7_judge 63 = .ok (.if_icmp .lt 11, 3) := by decide +kernel
theorem dX7_judge_66 : decode cX7_judge 66 = .ok (.aload_n 0, 1) := by decide +kernel
theorem dX7_judge_67 : decode cX7_judge 67 = .ok (.getfield 7, 3) := by decide +kernel
theorem dX7_judge_70 : decode cX7_judge 70 = .ok (.bipush 49, 2) := by decide +kernel
theorem dX7_judge_72 : decode cX7_judge 72 = .ok (.iconst 3, 1) := by decide +kernel
theorem dX7_judge_73 : decode cX7_judge 73 = .ok (.iastore, 1) := by decide +kernel
theorem dX7_judge_74 : decode cX7_judge 74 = .ok (.return_, 1) := by decide +kernel
theorem dX7_beginHere_0 : decode cX7_beginHere 0 = .ok (.aload_n 0, 1) := by decide +kernel
theorem dX7_beginHere_1 : decode cX7_beginHere 1 = .ok (.getfield 7, 3) := by decide +kernel
theorem dX7_beginHere_4 : decode cX7_beginHere 4 = .ok (.bipush 53, 2) := by decide +kernel
theorem dX7_beginHere_6 : decode cX7_beginHere 6 = .ok (.iconst 0, 1) := by decide +kernel
theorem dX7_beginHere_7 : decode cX7_beginHere 7 = .ok (.iastore, 1) := by decide +kernel
theorem dX7_beginHere_8 : decode cX7_beginHere 8 = .ok (.aload_n 0, 1) := by decide +kernel
theorem dX7_beginHere_9 : decode cX7_beginHere 9 = .ok (.getfield 7, 3) := by decide +kernel
theorem dX7_beginHere_12 : decode cX7_beginHere 12 = .ok (.bipush 54, 2) := by decide +kernel
theorem dX7_beginHere_14 : decode cX7_beginHere 14 = .ok (.bipush (-6), 2) := by decide +kernel
theorem dX7_beginHere_16 : decode cX7_beginHere 16 = .ok (.iastore, 1) := by decide +kernel
theorem dX7_beginHere_17 : decode cX7_beginHere 17 = .ok (.aload_n 0, 1) := by decide +kernel
theorem dX7_beginHere_18 : decode cX7_beginHere 18 = .ok (.getfield 7, 3) := by decide +kernel
theorem dX7_beginHere_21 : decode cX7_beginHere 21 = .ok (.bipush 55, 2) := by decide +kernel
theorem dX7_beginHere_23 : decode cX7_beginHere 23 = .ok (.iconst 0, 1) := by decide +kernel
theorem dX7_beginHere_24 : decode cX7_beginHere 24 = .ok (.iastore, 1) := by decide +kernel
theorem dX7_beginHere_25 : decode cX7_beginHere 25 = .ok (.aload_n 0, 1) := by decide +kernel
theorem dX7_beginHere_26 : decode cX7_beginHere 26 = .ok (.getfield 7, 3) := by decide +kernel
theorem dX7_beginHere_29 : decode cX7_beginHere 29 = .ok (.bipush 56, 2) := by decide +kernel
theorem dX7_beginHere_31 : decode cX7_beginHere 31 = .ok (.iconst 0, 1) := by decide +kernel
theorem dX7_beginHere_32 : decode cX7_beginHere 32 = .ok (.iastore, 1) := by decide +kernel
theorem dX7_beginHere_33 : decode cX7_beginHere 33 = .ok (.aload_n 0, 1) := by decide +kernel
theorem dX7_beginHere_34 : decode cX7_beginHere 34 = .ok (.getfield 7, 3) := by decide +kernel
theorem dX7_beginHere_37 : decode cX7_beginHere 37 = .ok (.bipush 57, 2) := by decide +kernel
theorem dX7_beginHere_39 : decode cX7_beginHere 39 = .ok (.iconst 0, 1) := by decide +kernel
theorem dX7_beginHere_40 : decode cX7_beginHere 40 = .ok (.iastore, 1) := by decide +kernel
theorem dX7_beginHere_41 : decode cX7_beginHere 41 = .ok (.aload_n 0, 1) := by decide +kernel
theorem dX7_beginHere_42 : decode cX7_beginHere 42 = .ok (.invokevirtual 131, 3) := by decide +kernel
theorem dX7_beginHere_45 : decode cX7_beginHere 45 = .ok (.aload_n 0, 1) := by decide +kernel
theorem dX7_beginHere_46 : decode cX7_beginHere 46 = .ok (.invokevirtual 134, 3) := by decide +kernel
theorem dX7_beginHere_49 : decode cX7_beginHere 49 = .ok (.aload_n 0, 1) := by decide +kernel
theorem dX7_beginHere_50 : decode cX7_beginHere 50 = .ok (.invokevirtual 137, 3) := by decide +kernel
theorem dX7_beginHere_53 : decode cX7_beginHere 53 = .ok (.return_, 1) := by decide +kernel
theorem dX7_start_0 : decode cX7_start 0 = .ok (.iconst 0, 1) := by decide +kernel
theorem dX7_start_1 : decode cX7_start 1 = .ok (.istore_n 2, 1) := by decide +kernel
theorem dX7_start_2 : decode cX7_start 2 = .ok (.iload_n 2, 1) := by decide +kernel
theorem dX7_start_3 : decode cX7_start 3 = .ok (.bipush 48, 2) := by decide +kernel
theorem dX7_start_5 : decode cX7_start 5 = .ok (.if_icmp .ge 62, 3) := by decide +kernel
theorem dX7_start_8 : decode cX7_start 8 = .ok (.iload_n 2, 1) := by decide +kernel
theorem dX7_start_9 : decode cX7_start 9 = .ok (.invokestatic 69, 3) := by decide +kernel
theorem dX7_start_12 : decode cX7_start 12 = .ok (.istore_n 3, 1) := by decide +kernel
theorem dX7_start_13 : decode cX7_start 13 = .ok (.aload_n 0, 1) := by decide +kernel
theorem dX7_start_14 : decode cX7_start 14 = .ok (.getfield 7, 3) := by decide +kernel
theorem dX7_start_17 : decode cX7_start 17 = .ok (.iconst 0, 1) := by decide +kernel
theorem dX7_start_18 : decode cX7_start 18 = .ok (.iload_n 2, 1) := by decide +kernel
theorem dX7_start_19 : decode cX7_start 19 = .ok (.iadd, 1) := by decide +kernel
theorem dX7_start_20 : decode cX7_start 20 = .ok (.iload_n 1, 1) := by decide +kernel
theorem dX7_start_21 : decode cX7_start 21 = .ok (.ifCond .eq 8, 3) := by decide +kernel
theorem dX7_start_24 : decode cX7_start 24 = .ok (.bipush (-6), 2) := by decide +kernel
theorem dX7_start_26 : decode cX7_start 26 = .ok (.goto 34, 3) := by decide +kernel
theorem dX7_start_29 : decode cX7_start 29 = .ok (.iload_n 3, 1) := by decide +kernel
theorem dX7_start_30 : decode cX7_start 30 = .ok (.iconst 1, 1) := by decide +kernel
theorem dX7_start_31 : decode cX7_start 31 = .ok (.if_icmp .eq 8, 3) := by decide +kernel
theorem dX7_start_34 : decode cX7_start 34 = .ok (.iload_n 3, 1) := by decide +kernel
theorem dX7_start_35 : decode cX7_start 35 = .ok (.iconst 2, 1) := by decide +kernel
theorem dX7_start_36 : decode cX7_start 36 = .ok (.if_icmp .ne 7, 3) := by decide +kernel
theorem dX7_start_39 : decode cX7_start 39 = .ok (.iconst 0, 1) := by decide +kernel
theorem dX7_start_40 : decode cX7_start 40 = .ok (.goto 20, 3) := by decide +kernel
theorem dX7_start_43 : decode cX7_start 43 = .ok (.iload_n 3, 1) := by decide +kernel
theorem dX7_start_44 : decode cX7_start 44 = .ok (.iconst 5, 1) := by decide +kernel
theorem dX7_start_45 : decode cX7_start 45 = .ok (.if_icmp .eq 9, 3) := by decide +kernel
theorem dX7_start_48 : decode cX7_start 48 = .ok (.iload_n 3, 1) := by decide +kernel
theorem dX7_start_49 : decode cX7_start 49 = .ok (.bipush 6, 2) := by decide +kernel
theorem dX7_start_51 : decode cX7_start 51 = .ok (.if_icmp .ne 7, 3) := by decide +kernel
theorem dX7_start_54 : decode cX7_start 54 = .ok (.iconst 2, 1) := by decide +kernel
theorem dX7_start_55 : decode cX7_start 55 = .ok (.goto 5, 3) := by decide +kernel
theorem dX7_start_58 : decode cX7_start 58 = .ok (.bipush (-6), 2) := by decide +kernel
theorem dX7_start_60 : decode cX7_start 60 = .ok (.iastore, 1) := by decide +kernel
theorem dX7_start_61 : decode cX7_start 61 = .ok (.iinc 2 1, 3) := by decide +kernel
theorem dX7_start_64 : decode cX7_start 64 = .ok (.goto (-62), 3) := by decide +kernel
theorem dX7_start_67 : decode cX7_start 67 = .ok (.aload_n 0, 1) := by decide +kernel
theorem dX7_start_68 : decode cX7_start 68 = .ok (.getfield 7, 3) := by decide +kernel
theorem dX7_start_71 : decode cX7_start 71 = .ok (.bipush 48, 2) := by decide +kernel
theorem dX7_start_73 : decode cX7_start 73 = .ok (.iconst 0, 1) := by decide +kernel
theorem dX7_start_74 : decode cX7_start 74 = .ok (.iastore, 1) := by decide +kernel
theorem dX7_start_75 : decode cX7_start 75 = .ok (.aload_n 0, 1) := by decide +kernel
theorem dX7_start_76 : decode cX7_start 76 = .ok (.getfield 7, 3) := by decide +kernel
theorem dX7_start_79 : decode cX7_start 79 = .ok (.bipush 51, 2) := by decide +kernel
theorem dX7_start_81 : decode cX7_start 81 = .ok (.aload_n 0, 1) := by decide +kernel
theorem dX7_start_82 : decode cX7_start 82 = .ok (.getfield 7, 3) := by decide +kernel
theorem dX7_start_85 : decode cX7_start 85 = .ok (.bipush 50, 2) := by decide +kernel
theorem dX7_start_87 : decode cX7_start 87 = .ok (.iaload, 1) := by decide +kernel
theorem dX7_start_88 : decode cX7_start 88 = .ok (.iastore, 1) := by decide +kernel
theorem dX7_start_89 : decode cX7_start 89 = .ok (.aload_n 0, 1) := by decide +kernel
theorem dX7_start_90 : decode cX7_start 90 = .ok (.getfield 7, 3) := by decide +kernel
theorem dX7_start_93 : decode cX7_start 93 = .ok (.bipush 52, 2) := by decide +kernel
theorem dX7_start_95 : decode cX7_start 95 = .ok (.aload_n 0, 1) := by decide +kernel
theorem dX7_start_96 : decode cX7_start 96 = .ok (.getfield 7, 3) := by decide +kernel
theorem dX7_start_99 : decode cX7_start 99 = .ok (.bipush 50, 2) := by decide +kernel
theorem dX7_start_101 : decode cX7_start 101 = .ok (.iaload, 1) := by decide +kernel
theorem dX7_start_102 : decode cX7_start 102 = .ok (.iastore, 1) := by decide +kernel
theorem dX7_start_103 : decode cX7_start 103 = .ok (.aload_n 0, 1) := by decide +kernel
theorem dX7_start_104 : decode cX7_start 104 = .ok (.invokevirtual 140, 3) := by decide +kernel
theorem dX7_start_107 : decode cX7_start 107 = .ok (.return_, 1) := by decide +kernel
theorem dX7_clock_0 : decode cX7_clock 0 = .ok (.iload_n 1, 1) := by decide +kernel
theorem dX7_clock_1 : decode cX7_clock 1 = .ok (.bipush 10, 2) := by decide +kernel
theorem dX7_clock_3 : decode cX7_clock 3 = .ok (.sipush 9999, 3) := by decide +kernel
end
section
theorem dX7_clock_6 : decode cX7_clock 6 = .ok (.invokestatic 61, 3) := by decide +kernel
theorem dX7_clock_9 : decode cX7_clock 9 = .ok (.ifCond .ne 6, 3) := by decide +kernel
theorem dX7_clock_12 : decode cX7_clock 12 = .ok (.bipush (-2), 2) := by decide +kernel
theorem dX7_clock_14 : decode cX7_clock 14 = .ok (.ireturn, 1) := by decide +kernel
theorem dX7_clock_15 : decode cX7_clock 15 = .ok (.aload_n 0, 1) := by decide +kernel
theorem dX7_clock_16 : decode cX7_clock 16 = .ok (.invokevirtual 76, 3) := by decide +kernel
theorem dX7_clock_19 : decode cX7_clock 19 = .ok (.aload_n 0, 1) := by decide +kernel
theorem dX7_clock_20 : decode cX7_clock 20 = .ok (.getfield 7, 3) := by decide +kernel
theorem dX7_clock_23 : decode cX7_clock 23 = .ok (.bipush 50, 2) := by decide +kernel
theorem dX7_clock_25 : decode cX7_clock 25 = .ok (.iaload, 1) := by decide +kernel
theorem dX7_clock_26 : decode cX7_clock 26 = .ok (.istore_n 2, 1) := by decide +kernel
theorem dX7_clock_27 : decode cX7_clock 27 = .ok (.aload_n 0, 1) := by decide +kernel
theorem dX7_clock_28 : decode cX7_clock 28 = .ok (.getfield 7, 3) := by decide +kernel
theorem dX7_clock_31 : decode cX7_clock 31 = .ok (.bipush 50, 2) := by decide +kernel
theorem dX7_clock_33 : decode cX7_clock 33 = .ok (.iload_n 1, 1) := by decide +kernel
theorem dX7_clock_34 : decode cX7_clock 34 = .ok (.iastore, 1) := by decide +kernel
theorem dX7_clock_35 : decode cX7_clock 35 = .ok (.iload_n 2, 1) := by decide +kernel
theorem dX7_clock_36 : decode cX7_clock 36 = .ok (.ireturn, 1) := by decide +kernel
theorem dX7_pieces_0 : decode cX7_pieces 0 = .ok (.iconst 0, 1) := by decide +kernel
theorem dX7_pieces_1 : decode cX7_pieces 1 = .ok (.istore_n 3, 1) := by decide +kernel
theorem dX7_pieces_2 : decode cX7_pieces 2 = .ok (.iconst 0, 1) := by decide +kernel
theorem dX7_pieces_3 : decode cX7_pieces 3 = .ok (.istore 4, 2) := by decide +kernel
theorem dX7_pieces_5 : decode cX7_pieces 5 = .ok (.iload 4, 2) := by decide +kernel
theorem dX7_pieces_7 : decode cX7_pieces 7 = .ok (.bipush 48, 2) := by decide +kernel
theorem dX7_pieces_9 : decode cX7_pieces 9 = .ok (.if_icmp .ge 34, 3) := by decide +kernel
theorem dX7_pieces_12 : decode cX7_pieces 12 = .ok (.iload_n 3, 1) := by decide +kernel
theorem dX7_pieces_13 : decode cX7_pieces 13 = .ok (.aload_n 0, 1) := by decide +kernel
theorem dX7_pieces_14 : decode cX7_pieces 14 = .ok (.getfield 7, 3) := by decide +kernel
theorem dX7_pieces_17 : decode cX7_pieces 17 = .ok (.iconst 0, 1) := by decide +kernel
theorem dX7_pieces_18 : decode cX7_pieces 18 = .ok (.iload 4, 2) := by decide +kernel
theorem dX7_pieces_20 : decode cX7_pieces 20 = .ok (.iadd, 1) := by decide +kernel
theorem dX7_pieces_21 : decode cX7_pieces 21 = .ok (.iaload, 1) := by decide +kernel
theorem dX7_pieces_22 : decode cX7_pieces 22 = .ok (.iconst 2, 1) := by decide +kernel
theorem dX7_pieces_23 : decode cX7_pieces 23 = .ok (.iload_n 1, 1) := by decide +kernel
theorem dX7_pieces_24 : decode cX7_pieces 24 = .ok (.imul, 1) := by decide +kernel
theorem dX7_pieces_25 : decode cX7_pieces 25 = .ok (.iload_n 2, 1) := by decide +kernel
theorem dX7_pieces_26 : decode cX7_pieces 26 = .ok (.iadd, 1) := by decide +kernel
theorem dX7_pieces_27 : decode cX7_pieces 27 = .ok (.if_icmp .ne 7, 3) := by decide +kernel
theorem dX7_pieces_30 : decode cX7_pieces 30 = .ok (.iconst 1, 1) := by decide +kernel
theorem dX7_pieces_31 : decode cX7_pieces 31 = .ok (.goto 4, 3) := by decide +kernel
theorem dX7_pieces_34 : decode cX7_pieces 34 = .ok (.iconst 0, 1) := by decide +kernel
theorem dX7_pieces_35 : decode cX7_pieces 35 = .ok (.iadd, 1) := by decide +kernel
theorem dX7_pieces_36 : decode cX7_pieces 36 = .ok (.istore_n 3, 1) := by decide +kernel
theorem dX7_pieces_37 : decode cX7_pieces 37 = .ok (.iinc 4 1, 3) := by decide +kernel
theorem dX7_pieces_40 : decode cX7_pieces 40 = .ok (.goto (-35), 3) := by decide +kernel
theorem dX7_pieces_43 : decode cX7_pieces 43 = .ok (.iload_n 3, 1) := by decide +kernel
theorem dX7_pieces_44 : decode cX7_pieces 44 = .ok (.ireturn, 1) := by decide +kernel
theorem dX7_all_0 : decode cX7_all 0 = .ok (.aload_n 0, 1) := by decide +kernel
theorem dX7_all_1 : decode cX7_all 1 = .ok (.iload_n 1, 1) := by decide +kernel
theorem dX7_all_2 : decode cX7_all 2 = .ok (.iconst 0, 1) := by decide +kernel
theorem dX7_all_3 : decode cX7_all 3 = .ok (.invokevirtual 143, 3) := by decide +kernel
theorem dX7_all_6 : decode cX7_all 6 = .ok (.aload_n 0, 1) := by decide +kernel
theorem dX7_all_7 : decode cX7_all 7 = .ok (.iload_n 1, 1) := by decide +kernel
theorem dX7_all_8 : decode cX7_all 8 = .ok (.iconst 1, 1) := by decide +kernel
theorem dX7_all_9 : decode cX7_all 9 = .ok (.invokevirtual 143, 3) := by decide +kernel
theorem dX7_all_12 : decode cX7_all 12 = .ok (.iadd, 1) := by decide +kernel
theorem dX7_all_13 : decode cX7_all 13 = .ok (.ireturn, 1) := by decide +kernel
theorem dX7_begin_0 : decode cX7_begin 0 = .ok (.aload_n 0, 1) := by decide +kernel
theorem dX7_begin_1 : decode cX7_begin 1 = .ok (.invokevirtual 76, 3) := by decide +kernel
theorem dX7_begin_4 : decode cX7_begin 4 = .ok (.aload_n 0, 1) := by decide +kernel
theorem dX7_begin_5 : decode cX7_begin 5 = .ok (.iload_n 1, 1) := by decide +kernel
theorem dX7_begin_6 : decode cX7_begin 6 = .ok (.invokevirtual 57, 3) := by decide +kernel
theorem dX7_begin_9 : decode cX7_begin 9 = .ok (.aload_n 0, 1) := by decide +kernel
theorem dX7_begin_10 : decode cX7_begin 10 = .ok (.iconst 0, 1) := by decide +kernel
theorem dX7_begin_11 : decode cX7_begin 11 = .ok (.invokevirtual 146, 3) := by decide +kernel
theorem dX7_begin_14 : decode cX7_begin 14 = .ok (.aload_n 0, 1) := by decide +kernel
theorem dX7_begin_15 : decode cX7_begin 15 = .ok (.iconst 1, 1) := by decide +kernel
theorem dX7_begin_16 : decode cX7_begin 16 = .ok (.invokevirtual 146, 3) := by decide +kernel
theorem dX7_begin_19 : decode cX7_begin 19 = .ok (.iadd, 1) := by decide +kernel
theorem dX7_begin_20 : decode cX7_begin 20 = .ok (.ireturn, 1) := by decide +kernel
theorem dX7_set_0 : decode cX7_set 0 = .ok (.iload_n 1, 1) := by decide +kernel
theorem dX7_set_1 : decode cX7_set 1 = .ok (.invokestatic 149, 3) := by decide +kernel
theorem dX7_set_4 : decode cX7_set 4 = .ok (.ifCond .ne 5, 3) := by decide +kernel
theorem dX7_set_7 : decode cX7_set 7 = .ok (.iconst (-1), 1) := by decide +kernel
theorem dX7_set_8 : decode cX7_set 8 = .ok (.ireturn, 1) := by decide +kernel
theorem dX7_set_9 : decode cX7_set 9 = .ok (.iload_n 2, 1) := by decide +kernel
theorem dX7_set_10 : decode cX7_set 10 = .ok (.bipush (-6), 2) := by decide +kernel
theorem dX7_set_12 : decode cX7_set 12 = .ok (.if_icmp .eq 15, 3) := by decide +kernel
theorem dX7_set_15 : decode cX7_set 15 = .ok (.iload_n 2, 1) := by decide +kernel
theorem dX7_set_16 : decode cX7_set 16 = .ok (.iconst 0, 1) := by decide +kernel
theorem dX7_set_17 : decode cX7_set 17 = .ok (.iconst 3, 1) := by decide +kernel
theorem dX7_set_18 : decode cX7_set 18 = .ok (.invokestatic 61, 3) := by decide +kernel
theorem dX7_set_21 : decode cX7_set 21 = .ok (.ifCond .ne 6, 3) := by decide +kernel
theorem dX7_set_24 : decode cX7_set 24 = .ok (.bipush (-2), 2) := by decide +kernel
theorem dX7_set_26 : decode cX7_set 26 = .ok (.ireturn, 1) := by decide +kernel
theorem dX7_set_27 : decode cX7_set 27 = .ok (.aload_n 0, 1) := by decide +kernel
theorem dX7_set_28 : decode cX7_set 28 = .ok (.getfield 7, 3) := by decide +kernel
theorem dX7_set_31 : decode cX7_set 31 = .ok (.iconst 0, 1) := by decide +kernel
theorem dX7_set_32 : decode cX7_set 32 = .ok (.iload_n 1, 1) := by decide +kernel
theorem dX7_set_33 : decode cX7_set 33 = .ok (.iadd, 1) := by decide +kernel
theorem dX7_set_34 : decode cX7_set 34 = .ok (.iaload, 1) := by decide +kernel
theorem dX7_set_35 : decode cX7_set 35 = .ok (.istore_n 3, 1) := by decide +kernel
theorem dX7_set_36 : decode cX7_set 36 = .ok (.iload_n 2, 1) := by decide +kernel
theorem dX7_set_37 : decode cX7_set 37 = .ok (.bipush (-6), 2) := by decide +kernel
theorem dX7_set_39 : decode cX7_set 39 = .ok (.if_icmp .eq 36, 3) := by decide +kernel
theorem dX7_set_42 : decode cX7_set 42 = .ok (.aload_n 0, 1) := by decide +kernel
theorem dX7_set_43 : decode cX7_set 43 = .ok (.iload_n 2, 1) := by decide +kernel
theorem dX7_set_44 : decode cX7_set 44 = .ok (.invokestatic 87, 3) := by decide +kernel
theorem dX7_set_47 : decode cX7_set 47 = .ok (.invokevirtual 146, 3) := by decide +kernel
theorem dX7_set_50 : decode cX7_set 50 = .ok (.iload_n 3, 1) := by decide +kernel
theorem dX7_set_51 : decode cX7_set 51 = .ok (.invokestatic 87, 3) := by decide +kernel
theorem dX7_set_54 : decode cX7_set 54 = .ok (.iload_n 2, 1) := by decide +kernel
theorem dX7_set_55 : decode cX7_set 55 = .ok (.invokestatic 87, 3) := by decide +kernel
theorem dX7_set_58 : decode cX7_set 58 = .ok (.if_icmp .ne 7, 3) := by decide +kernel
theorem dX7_set_61 : decode cX7_set 61 = .ok (.iconst 1, 1) := by decide +kernel
theorem dX7_set_62 : decode cX7_set 62 = .ok (.goto 4, 3) := by decide +kernel
theorem dX7_set_65 : decode cX7_set 65 = .ok (.iconst 0, 1) := by decide +kernel
theorem dX7_set_66 : decode cX7_set 66 = .ok (.isub, 1) := by decide +kernel
theorem dX7_set_67 : decode cX7_set 67 = .ok (.bipush 16, 2) := by decide +kernel
theorem dX7_set_69 : decode cX7_set 69 = .ok (.if_icmp .ne 6, 3) := by decide +kernel
theorem dX7_set_72 : decode cX7_set 72 = .ok (.bipush (-4), 2) := by decide +kernel
theorem dX7_set_74 : decode cX7_set 74 = .ok (.ireturn, 1) := by decide +kernel
theorem dX7_set_75 : decode cX7_set 75 = .ok (.aload_n 0, 1) := by decide +kernel
theorem dX7_set_76 : decode cX7_set 76 = .ok (.invokevirtual 76, 3) := by decide +kernel
theorem dX7_set_79 : decode cX7_set 79 = .ok (.aload_n 0, 1) := by decide +kernel
theorem dX7_set_80 : decode cX7_set 80 = .ok (.getfield 7, 3) := by decide +kernel
theorem dX7_set_83 : decode cX7_set 83 = .ok (.iconst 0, 1) := by decide +kernel
theorem dX7_set_84 : decode cX7_set 84 = .ok (.iload_n 1, 1) := by decide +kernel
theorem dX7_set_85 : decode cX7_set 85 = .ok (.iadd, 1) := by decide +kernel
theorem dX7_set_86 : decode cX7_set 86 = .ok (.iload_n 2, 1) := by decide +kernel
theorem dX7_set_87 : decode cX7_set 87 = .ok (.iastore, 1) := by decide +kernel
theorem dX7_set_88 : decode cX7_set 88 = .ok (.aload_n 0, 1) := by decide +kernel
theorem dX7_set_89 : decode cX7_set 89 = .ok (.invokevirtual 140, 3) := by decide +kernel
theorem dX7_set_92 : decode cX7_set 92 = .ok (.iload_n 3, 1) := by decide +kernel
theorem dX7_set_93 : decode cX7_set 93 = .ok (.ireturn, 1) := by decide +kernel
theorem dX7_turn_0 : decode cX7_turn 0 = .ok (.iload_n 1, 1) := by decide +kernel
theorem dX7_turn_1 : decode cX7_turn 1 = .ok (.iconst 0, 1) := by decide +kernel
theorem dX7_turn_2 : decode cX7_turn 2 = .ok (.iconst 1, 1) := by decide +kernel
theorem dX7_turn_3 : decode cX7_turn 3 = .ok (.invokestatic 61, 3) := by decide +kernel
theorem dX7_turn_6 : decode cX7_turn 6 = .ok (.ifCond .ne 6, 3) := by decide +kernel
theorem dX7_turn_9 : decode cX7_turn 9 = .ok (.bipush (-2), 2) := by decide +kernel
theorem dX7_turn_11 : decode cX7_turn 11 = .ok (.ireturn, 1) := by decide +kernel
theorem dX7_turn_12 : decode cX7_turn 12 = .ok (.aload_n 0, 1) := by decide +kernel
theorem dX7_turn_13 : decode cX7_turn 13 = .ok (.invokevirtual 76, 3) := by decide +kernel
theorem dX7_turn_16 : decode cX7_turn 16 = .ok (.aload_n 0, 1) := by decide +kernel
theorem dX7_turn_17 : decode cX7_turn 17 = .ok (.getfield 7, 3) := by decide +kernel
theorem dX7_turn_20 : decode cX7_turn 20 = .ok (.bipush 48, 2) := by decide +kernel
theorem dX7_turn_22 : decode cX7_turn 22 = .ok (.iaload, 1) := by decide +kernel
theorem dX7_turn_23 : decode cX7_turn 23 = .ok (.istore_n 2, 1) := by decide +kernel
theorem dX7_turn_24 : decode cX7_turn 24 = .ok (.aload_n 0, 1) := by decide +kernel
theorem dX7_turn_25 : decode cX7_turn 25 = .ok (.getfield 7, 3) := by decide +kernel
theorem dX7_turn_28 : decode cX7_turn 28 = .ok (.bipush 48, 2) := by decide +kernel
theorem dX7_turn_30 : decode cX7_turn 30 = .ok (.iload_n 1, 1) := by decide +kernel
theorem dX7_turn_31 : decode cX7_turn 31 = .ok (.iastore, 1) := by decide +kernel
theorem dX7_turn_32 : decode cX7_turn 32 = .ok (.aload_n 0, 1) := by decide +kernel
theorem dX7_turn_33 : decode cX7_turn 33 = .ok (.invokevirtual 140, 3) := by decide +kernel
theorem dX7_turn_36 : decode cX7_turn 36 = .ok (.iload_n 2, 1) := by decide +kernel
theorem dX7_turn_37 : decode cX7_turn 37 = .ok (.ireturn, 1) := by decide +kernel
theorem dX7_makeIt_0 : decode cX7_makeIt 0 = .ok (.iload_n 1, 1) := by decide +kernel
theorem dX7_makeIt_1 : decode cX7_makeIt 1 = .ok (.istore_n 2, 1) := by decide +kernel
theorem dX7_makeIt_2 : decode cX7_makeIt 2 = .ok (.aload_n 0, 1) := by decide +kernel
theorem dX7_makeIt_3 : decode cX7_makeIt 3 = .ok (.iconst 0, 1) := by decide +kernel
theorem dX7_makeIt_4 : decode cX7_makeIt 4 = .ok (.aload_n 0, 1) := by decide +kernel
theorem dX7_makeIt_5 : decode cX7_makeIt 5 = .ok (.getfield 39, 3) := by decide +kernel
theorem dX7_makeIt_8 : decode cX7_makeIt 8 = .ok (.iload_n 2, 1) := by decide +kernel
theorem dX7_makeIt_9 : decode cX7_makeIt 9 = .ok (.iaload, 1) := by decide +kernel
theorem dX7_makeIt_10 : decode cX7_makeIt 10 = .ok (.invokevirtual 79, 3) := by decide +kernel
theorem dX7_makeIt_13 : decode cX7_makeIt 13 = .ok (.invokestatic 83, 3) := by decide +kernel
theorem dX7_makeIt_16 : decode cX7_makeIt 16 = .ok (.ifCond .eq 18, 3) := by decide +kernel
theorem dX7_makeIt_19 : decode cX7_makeIt 19 = .ok (.aload_n 0, 1) := by decide +kernel
theorem dX7_makeIt_20 : decode cX7_makeIt 20 = .ok (.getfield 51, 3) := by decide +kernel
theorem dX7_makeIt_23 : decode cX7_makeIt 23 = .ok (.iload_n 2, 1) := by decide +kernel
theorem dX7_makeIt_24 : decode cX7_makeIt 24 = .ok (.iaload, 1) := by decide +kernel
theorem dX7_makeIt_25 : decode cX7_makeIt 25 = .ok (.bipush (-6), 2) := by decide +kernel
theorem dX7_makeIt_27 : decode cX7_makeIt 27 = .ok (.if_icmp .ne 7, 3) := by decide +kernel
theorem dX7_makeIt_30 : decode cX7_makeIt 30 = .ok (.iconst 1, 1) := by decide +kernel
theorem dX7_makeIt_31 : decode cX7_makeIt 31 = .ok (.goto 4, 3) := by decide +kernel
theorem dX7_makeIt_34 : decode cX7_makeIt 34 = .ok (.iconst 0, 1) := by decide +kernel
theorem dX7_makeIt_35 : decode cX7_makeIt 35 = .ok (.istore_n 3, 1) := by decide +kernel
theorem dX7_makeIt_36 : decode cX7_makeIt 36 = .ok (.aload_n 0, 1) := by decide +kernel
theorem dX7_makeIt_37 : decode cX7_makeIt 37 = .ok (.getfield 51, 3) := by decide +kernel
theorem dX7_makeIt_40 : decode cX7_makeIt 40 = .ok (.iload_n 2, 1) := by decide +kernel
theorem dX7_makeIt_41 : decode cX7_makeIt 41 = .ok (.iaload, 1) := by decide +kernel
theorem dX7_makeIt_42 : decode cX7_makeIt 42 = .ok (.bipush (-6), 2) := by decide +kernel
theorem dX7_makeIt_44 : decode cX7_makeIt 44 = .ok (.if_icmp .eq 22, 3) := by decide +kernel
theorem dX7_makeIt_47 : decode cX7_makeIt 47 = .ok (.aload_n 0, 1) := by decide +kernel
theorem dX7_makeIt_48 : decode cX7_makeIt 48 = .ok (.getfield 7, 3) := by decide +kernel
theorem dX7_makeIt_51 : decode cX7_makeIt 51 = .ok (.bipush 56, 2) := by decide +kernel
theorem dX7_makeIt_53 : decode cX7_makeIt 53 = .ok (.aload_n 0, 1) := by decide +kernel
theorem dX7_makeIt_54 : decode cX7_makeIt 54 = .ok (.getfield 7, 3) := by decide +kernel
theorem dX7_makeIt_57 : decode cX7_makeIt 57 = .ok (.bipush 48, 2) := by decide +kernel
theorem dX7_makeIt_59 : decode cX7_makeIt 59 = .ok (.iaload, 1) := by decide +kernel
theorem dX7_makeIt_60 : decode cX7_makeIt 60 = .ok (.isub, 1) := by decide +kernel
theorem dX7_makeIt_61 : decode cX7_makeIt 61 = .ok (.dup2, 1) := by decide +kernel
theorem dX7_makeIt_62 : decode cX7_makeIt 62 = .ok (.iaload, 1) := by decide +kernel
theorem dX7_makeIt_63 : decode cX7_makeIt 63 = .ok (.iconst 1, 1) := by decide +kernel
theorem dX7_makeIt_64 : decode cX7_makeIt 64 = .ok (.iadd, 1) := by decide +kernel
theorem dX7_makeIt_65 : decode cX7_makeIt 65 = .ok (.iastore, 1) := by decide +kernel
theorem dX7_makeIt_66 : decode cX7_makeIt 66 = .ok (.aload_n 0, 1) := by decide +kernel
theorem dX7_makeIt_67 : decode cX7_makeIt 67 = .ok (.iconst 0, 1) := by decide +kernel
theorem dX7_makeIt_68 : decode cX7_makeIt 68 = .ok (.iload_n 1, 1) := by decide +kernel
theorem dX7_makeIt_69 : decode cX7_makeIt 69 = .ok (.invokevirtual 152, 3) := by decide +kernel
theorem dX7_makeIt_72 : decode cX7_makeIt 72 = .ok (.iconst 0, 1) := by decide +kernel
theorem dX7_makeIt_73 : decode cX7_makeIt 73 = .ok (.istore 4, 2) := by decide +kernel
theorem dX7_makeIt_75 : decode cX7_makeIt 75 = .ok (.iload 4, 2) := by decide +kernel
theorem dX7_makeIt_77 : decode cX7_makeIt 77 = .ok (.bipush 48, 2) := by decide +kernel
theorem dX7_makeIt_79 : decode cX7_makeIt 79 = .ok (.if_icmp .ge 25, 3) := by decide +kernel
theorem dX7_makeIt_82 : decode cX7_makeIt 82 = .ok (.aload_n 0, 1) := by decide +kernel
theorem dX7_makeIt_83 : decode cX7_makeIt 83 = .ok (.getfield 7, 3) := by decide +kernel
theorem dX7_makeIt_86 : decode cX7_makeIt 86 = .ok (.iconst 0, 1) := by decide +kernel
theorem dX7_makeIt_87 : decode cX7_makeIt 87 = .ok (.iload 4, 2) := by decide +kernel
theorem dX7_makeIt_89 : decode cX7_makeIt 89 = .ok (.iadd, 1) := by decide +kernel
theorem dX7_makeIt_90 : decode cX7_makeIt 90 = .ok (.aload_n 0, 1) := by decide +kernel
theorem dX7_makeIt_91 : decode cX7_makeIt 91 = .ok (.iconst 1, 1) := by decide +kernel
theorem dX7_makeIt_92 : decode cX7_makeIt 92 = .ok (.iload 4, 2) := by decide +kernel
theorem dX7_makeIt_94 : decode cX7_makeIt 94 = .ok (.invokevirtual 79, 3) := by decide +kernel
theorem dX7_makeIt_97 : decode cX7_makeIt 97 = .ok (.iastore, 1) := by decide +kernel
theorem dX7_makeIt_98 : decode cX7_makeIt 98 = .ok (.iinc 4 1, 3) := by decide +kernel
theorem dX7_makeIt_101 : decode cX7_makeIt 101 = .ok (.goto (-26), 3) := by decide +kernel
theorem dX7_makeIt_104 : decode cX7_makeIt 104 = .ok (.aload_n 0, 1) := by decide +kernel
theorem dX7_makeIt_105 : decode cX7_makeIt 105 = .ok (.getfield 7, 3) := by decide +kernel
theorem dX7_makeIt_108 : decode cX7_makeIt 108 = .ok (.bipush 48, 2) := by decide +kernel
theorem dX7_makeIt_110 : decode cX7_makeIt 110 = .ok (.aload_n 0, 1) := by decide +kernel
theorem dX7_makeIt_111 : decode cX7_makeIt 111 = .ok (.getfield 30, 3) := by decide +kernel
theorem dX7_makeIt_114 : decode cX7_makeIt 114 = .ok (.iconst 1, 1) := by decide +kernel
theorem dX7_makeIt_115 : decode cX7_makeIt 115 = .ok (.iaload, 1) := by decide +kernel
theorem dX7_makeIt_116 : decode cX7_makeIt 116 = .ok (.iastore, 1) := by decide +kernel
theorem dX7_makeIt_117 : decode cX7_makeIt 117 = .ok (.aload_n 0, 1) := by decide +kernel
theorem dX7_makeIt_118 : decode cX7_makeIt 118 = .ok (.getfield 7, 3) := by decide +kernel
theorem dX7_makeIt_121 : decode cX7_makeIt 121 = .ok (.bipush 54, 2) := by decide +kernel
theorem dX7_makeIt_123 : decode cX7_makeIt 123 = .ok (.aload_n 0, 1) := by decide +kernel
theorem dX7_makeIt_124 : decode cX7_makeIt 124 = .ok (.getfield 33, 3) := by decide +kernel
theorem dX7_makeIt_127 : decode cX7_makeIt 127 = .ok (.iconst 1, 1) := by decide +kernel
theorem dX7_makeIt_128 : decode cX7_makeIt 128 = .ok (.iaload, 1) := by decide +kernel
theorem dX7_makeIt_129 : decode cX7_makeIt 129 = .ok (.iastore, 1) := by decide +kernel
theorem dX7_makeIt_130 : decode cX7_makeIt 130 = .ok (.aload_n 0, 1) := by decide +kernel
theorem dX7_makeIt_131 : decode cX7_makeIt 131 = .ok (.getfield 7, 3) := by decide +kernel
theorem dX7_makeIt_134 : decode cX7_makeIt 134 = .ok (.bipush 53, 2) := by decide +kernel
theorem dX7_makeIt_136 : decode cX7_makeIt 136 = .ok (.dup2, 1) := by decide +kernel
theorem dX7_makeIt_137 : decode cX7_makeIt 137 = .ok (.iaload, 1) := by decide +kernel
theorem dX7_makeIt_138 : decode cX7_makeIt 138 = .ok (.iconst 1, 1) := by decide +kernel
theorem dX7_makeIt_139 : decode cX7_makeIt 139 = .ok (.iadd, 1) := by decide +kernel
theorem dX7_makeIt_140 : decode cX7_makeIt 140 = .ok (.iastore, 1) := by decide +kernel
theorem dX7_makeIt_141 : decode cX7_makeIt 141 = .ok (.aload_n 0, 1) := by decide +kernel
theorem dX7_makeIt_142 : decode cX7_makeIt 142 = .ok (.getfield 7, 3) := by decide +kernel
theorem dX7_makeIt_145 : decode cX7_makeIt 145 = .ok (.bipush 57, 2) := by decide +kernel
theorem dX7_makeIt_147 : decode cX7_makeIt 147 = .ok (.iload_n 3, 1) := by decide +kernel
theorem dX7_makeIt_148 : decode cX7_makeIt 148 = .ok (.ifCond .eq 15, 3) := by decide +kernel
theorem dX7_makeIt_151 : decode cX7_makeIt 151 = .ok (.aload_n 0, 1) := by decide +kernel
theorem dX7_makeIt_152 : decode cX7_makeIt 152 = .ok (.getfield 7, 3) := by decide +kernel
theorem dX7_makeIt_155 : decode cX7_makeIt 155 = .ok (.bipush 57, 2) := by decide +kernel
theorem dX7_makeIt_157 : decode cX7_makeIt 157 = .ok (.iaload, 1) := by decide +kernel
theorem dX7_makeIt_158 : decode cX7_makeIt 158 = .ok (.iconst 1, 1) := by decide +kernel
theorem dX7_makeIt_159 : decode cX7_makeIt 159 = .ok (.iadd, 1) := by decide +kernel
theorem dX7_makeIt_160 : decode cX7_makeIt 160 = .ok (.goto 4, 3) := by decide +kernel
theorem dX7_makeIt_163 : decode cX7_makeIt 163 = .ok (.iconst 0, 1) := by decide +kernel
theorem dX7_makeIt_164 : decode cX7_makeIt 164 = .ok (.iastore, 1) := by decide +kernel
theorem dX7_makeIt_165 : decode cX7_makeIt 165 = .ok (.iload_n 3, 1) := by decide +kernel
theorem dX7_makeIt_166 : decode cX7_makeIt 166 = .ok (.ifCond .ne 7, 3) := by decide +kernel
theorem dX7_makeIt_169 : decode cX7_makeIt 169 = .ok (.aload_n 0, 1) := by decide +kernel
theorem dX7_makeIt_170 : decode cX7_makeIt 170 = .ok (.invokevirtual 131, 3) := by decide +kernel
theorem dX7_makeIt_173 : decode cX7_makeIt 173 = .ok (.aload_n 0, 1) := by decide +kernel
theorem dX7_makeIt_174 : decode cX7_makeIt 174 = .ok (.invokevirtual 134, 3) := by decide +kernel
theorem dX7_makeIt_177 : decode cX7_makeIt 177 = .ok (.aload_n 0, 1) := by decide +kernel
theorem dX7_makeIt_178 : decode cX7_makeIt 178 = .ok (.invokevirtual 137, 3) := by decide +kernel
theorem dX7_makeIt_181 : decode cX7_makeIt 181 = .ok (.return_, 1) := by decide +kernel
theorem dX7_hop_0 : decode cX7_hop 0 = .ok (.aload_n 0, 1) := by decide +kernel
theorem dX7_hop_1 : decode cX7_hop 1 = .ok (.invokevirtual 124, 3) := by decide +kernel
theorem dX7_hop_4 : decode cX7_hop 4 = .ok (.iload_n 1, 1) := by decide +kernel
theorem dX7_hop_5 : decode cX7_hop 5 = .ok (.iconst 0, 1) := by decide +kernel
theorem dX7_hop_6 : decode cX7_hop 6 = .ok (.aload_n 0, 1) := by decide +kernel
theorem dX7_hop_7 : decode cX7_hop 7 = .ok (.getfield 36, 3) := by decide +kernel
theorem dX7_hop_10 : decode cX7_hop 10 = .ok (.iconst 0, 1) := by decide +kernel
theorem dX7_hop_11 : decode cX7_hop 11 = .ok (.iaload, 1) := by decide +kernel
theorem dX7_hop_12 : decode cX7_hop 12 = .ok (.iconst 1, 1) := by decide +kernel
theorem dX7_hop_13 : decode cX7_hop 13 = .ok (.isub, 1) := by decide +kernel
theorem dX7_hop_14 : decode cX7_hop 14 = .ok (.invokestatic 61, 3) := by decide +kernel
theorem dX7_hop_17 : decode cX7_hop 17 = .ok (.ifCond .ne 5, 3) := by decide +kernel
theorem dX7_hop_20 : decode cX7_hop 20 = .ok (.iconst (-1), 1) := by decide +kernel
theorem dX7_hop_21 : decode cX7_hop 21 = .ok (.ireturn, 1) := by decide +kernel
theorem dX7_hop_22 : decode cX7_hop 22 = .ok (.iload_n 2, 1) := by decide +kernel
theorem dX7_hop_23 : decode cX7_hop 23 = .ok (.iconst 0, 1) := by decide +kernel
theorem dX7_hop_24 : decode cX7_hop 24 = .ok (.sipush 9999, 3) := by decide +kernel
theorem dX7_hop_27 : decode cX7_hop 27 = .ok (.invokestatic 61, 3) := by decide +kernel
theorem dX7_hop_30 : decode cX7_hop 30 = .ok (.ifCond .ne 6, 3) := by decide +kernel
theorem dX7_hop_33 : decode cX7_hop 33 = .ok (.bipush (-2), 2) := by decide +kernel
theorem dX7_hop_35 : decode cX7_hop 35 = .ok (.ireturn, 1) := by decide +kernel
theorem dX7_hop_36 : decode cX7_hop 36 = .ok (.aload_n 0, 1) := by decide +kernel
theorem dX7_hop_37 : decode cX7_hop 37 = .ok (.invokevirtual 76, 3) := by decide +kernel
theorem dX7_hop_40 : decode cX7_hop 40 = .ok (.aload_n 0, 1) := by decide +kernel
theorem dX7_hop_41 : decode cX7_hop 41 = .ok (.getfield 7, 3) := by decide +kernel
theorem dX7_hop_44 : decode cX7_hop 44 = .ok (.bipush 48, 2) := by decide +kernel
theorem dX7_hop_46 : decode cX7_hop 46 = .ok (.iaload, 1) := by decide +kernel
theorem dX7_hop_47 : decode cX7_hop 47 = .ok (.istore_n 3, 1) := by decide +kernel
theorem dX7_hop_48 : decode cX7_hop 48 = .ok (.iload_n 2, 1) := by decide +kernel
theorem dX7_hop_49 : decode cX7_hop 49 = .ok (.aload_n 0, 1) := by decide +kernel
theorem dX7_hop_50 : decode cX7_hop 50 = .ok (.getfield 7, 3) := by decide +kernel
theorem dX7_hop_53 : decode cX7_hop 53 = .ok (.bipush 51, 2) := by decide +kernel
theorem dX7_hop_55 : decode cX7_hop 55 = .ok (.iload_n 3, 1) := by decide +kernel
theorem dX7_hop_56 : decode cX7_hop 56 = .ok (.iadd, 1) := by decide +kernel
theorem dX7_hop_57 : decode cX7_hop 57 = .ok (.iaload, 1) := by decide +kernel
theorem dX7_hop_58 : decode cX7_hop 58 = .ok (.if_icmp .le 32, 3) := by decide +kernel
theorem dX7_hop_61 : decode cX7_hop 61 = .ok (.aload_n 0, 1) := by decide +kernel
theorem dX7_hop_62 : decode cX7_hop 62 = .ok (.getfield 7, 3) := by decide +kernel
theorem dX7_hop_65 : decode cX7_hop 65 = .ok (.bipush 51, 2) := by decide +kernel
theorem dX7_hop_67 : decode cX7_hop 67 = .ok (.iload_n 3, 1) := by decide +kernel
theorem dX7_hop_68 : decode cX7_hop 68 = .ok (.iadd, 1) := by decide +kernel
theorem dX7_hop_69 : decode cX7_hop 69 = .ok (.iconst 0, 1) := by decide +kernel
theorem dX7_hop_70 : decode cX7_hop 70 = .ok (.iastore, 1) := by decide +kernel
theorem dX7_hop_71 : decode cX7_hop 71 = .ok (.aload_n 0, 1) := by decide +kernel
theorem dX7_hop_72 : decode cX7_hop 72 = .ok (.getfield 7, 3) := by decide +kernel
theorem dX7_hop_75 : decode cX7_hop 75 = .ok (.bipush 49, 2) := by decide +kernel
theorem dX7_hop_77 : decode cX7_hop 77 = .ok (.iload_n 3, 1) := by decide +kernel
theorem dX7_hop_78 : decode cX7_hop 78 = .ok (.ifCond .ne 7, 3) := by decide +kernel
theorem dX7_hop_81 : decode cX7_hop 81 = .ok (.iconst 2, 1) := by decide +kernel
theorem dX7_hop_82 : decode cX7_hop 82 = .ok (.goto 4, 3) := by decide +kernel
theorem dX7_hop_85 : decode cX7_hop 85 = .ok (.iconst 1, 1) := by decide +kernel
theorem dX7_hop_86 : decode cX7_hop 86 = .ok (.iastore, 1) := by decide +kernel
theorem dX7_hop_87 : decode cX7_hop 87 = .ok (.goto 21, 3) := by decide +kernel
theorem dX7_hop_90 : decode cX7_hop 90 = .ok (.aload_n 0, 1) := by decide +kernel
theorem dX7_hop_91 : decode cX7_hop 91 = .ok (.getfield 7, 3) := by decide +kernel
theorem dX7_hop_94 : decode cX7_hop 94 = .ok (.bipush 51, 2) := by decide +kernel
theorem dX7_hop_96 : decode cX7_hop 96 = .ok (.iload_n 3, 1) := by decide +kernel
theorem dX7_hop_97 : decode cX7_hop 97 = .ok (.iadd, 1) := by decide +kernel
theorem dX7_hop_98 : decode cX7_hop 98 = .ok (.dup2, 1) := by decide +kernel
theorem dX7_hop_99 : decode cX7_hop 99 = .ok (.iaload, 1) := by decide +kernel
theorem dX7_hop_100 : decode cX7_hop 100 = .ok (.iload_n 2, 1) := by decide +kernel
theorem dX7_hop_101 : decode cX7_hop 101 = .ok (.isub, 1) := by decide +kernel
theorem dX7_hop_102 : decode cX7_hop 102 = .ok (.iastore, 1) := by decide +kernel
theorem dX7_hop_103 : decode cX7_hop 103 = .ok (.aload_n 0, 1) := by decide +kernel
theorem dX7_hop_104 : decode cX7_hop 104 = .ok (.iload_n 1, 1) := by decide +kernel
theorem dX7_hop_105 : decode cX7_hop 105 = .ok (.invokevirtual 156, 3) := by decide +kernel
theorem dX7_hop_108 : decode cX7_hop 108 = .ok (.aload_n 0, 1) := by decide +kernel
theorem dX7_hop_109 : decode cX7_hop 109 = .ok (.getfield 7, 3) := by decide +kernel
theorem dX7_hop_112 : decode cX7_hop 112 = .ok (.bipush 49, 2) := by decide +kernel
theorem dX7_hop_114 : decode cX7_hop 114 = .ok (.iaload, 1) := by decide +kernel
theorem dX7_hop_115 : decode cX7_hop 115 = .ok (.ireturn, 1) := by decide +kernel
theorem dX7_hopFrom_0 : decode cX7_hopFrom 0 = .ok (.aload_n 0, 1) := by decide +kernel
theorem dX7_hopFrom_1 : decode cX7_hopFrom 1 = .ok (.invokevirtual 124, 3) := by decide +kernel
theorem dX7_hopFrom_4 : decode cX7_hopFrom 4 = .ok (.iconst 0, 1) := by decide +kernel
theorem dX7_hopFrom_5 : decode cX7_hopFrom 5 = .ok (.istore_n 3, 1) := by decide +kernel
theorem dX7_hopFrom_6 : decode cX7_hopFrom 6 = .ok (.iload_n 3, 1) := by decide +kernel
theorem dX7_hopFrom_7 : decode cX7_hopFrom 7 = .ok (.aload_n 0, 1) := by decide +kernel
theorem dX7_hopFrom_8 : decode cX7_hopFrom 8 = .ok (.getfield 36, 3) := by decide +kernel
theorem dX7_hopFrom_11 : decode cX7_hopFrom 11 = .ok (.iconst 0, 1) := by decide +kernel
theorem dX7_hopFrom_12 : decode cX7_hopFrom 12 = .ok (.iaload, 1) := by decide +kernel
theorem dX7_hopFrom_13 : decode cX7_hopFrom 13 = .ok (.if_icmp .ge 31, 3) := by decide +kernel
theorem dX7_hopFrom_16 : decode cX7_hopFrom 16 = .ok (.aload_n 0, 1) := by decide +kernel
theorem dX7_hopFrom_17 : decode cX7_hopFrom 17 = .ok (.getfield 39, 3) := by decide +kernel
theorem dX7_hopFrom_20 : decode cX7_hopFrom 20 = .ok (.iload_n 3, 1) := by decide +kernel
theorem dX7_hopFrom_21 : decode cX7_hopFrom 21 = .ok (.iaload, 1) := by decide +kernel
theorem dX7_hopFrom_22 : decode cX7_hopFrom 22 = .ok (.iload_n 1, 1) := by decide +kernel
theorem dX7_hopFrom_23 : decode cX7_hopFrom 23 = .ok (.if_icmp .ne 15, 3) := by decide +kernel
theorem dX7_hopFrom_26 : decode cX7_hopFrom 26 = .ok (.aload_n 0, 1) := by decide +kernel
theorem dX7_hopFrom_27 : decode cX7_hopFrom 27 = .ok (.getfield 48, 3) := by decide +kernel
theorem dX7_hopFrom_30 : decode cX7_hopFrom 30 = .ok (.iload_n 3, 1) := by decide +kernel
theorem dX7_hopFrom_31 : decode cX7_hopFrom 31 = .ok (.iaload, 1) := by decide +kernel
theorem dX7_hopFrom_32 : decode cX7_hopFrom 32 = .ok (.iload_n 2, 1) := by decide +kernel
theorem dX7_hopFrom_33 : decode cX7_hopFrom 33 = .ok (.if_icmp .ne 5, 3) := by decide +kernel
theorem dX7_hopFrom_36 : decode cX7_hopFrom 36 = .ok (.iload_n 3, 1) := by decide +kernel
theorem dX7_hopFrom_37 : decode cX7_hopFrom 37 = .ok (.ireturn, 1) := by decide +kernel
theorem dX7_hopFrom_38 : decode cX7_hopFrom 38 = .ok (.iinc 3 1, 3) := by decide +kernel
theorem dX7_hopFrom_41 : decode cX7_hopFrom 41 = .ok (.goto (-35), 3) := by decide +kernel
theorem dX7_hopFrom_44 : decode cX7_hopFrom 44 = .ok (.bipush (-6), 2) := by decide +kernel
theorem dX7_hopFrom_46 : decode cX7_hopFrom 46 = .ok (.ireturn, 1) := by decide +kernel
theorem dX7_play_0 : decode cX7_play 0 = .ok (.iload_n 1, 1) := by decide +kernel
theorem dX7_play_1 : decode cX7_play 1 = .ok (.invokestatic 149, 3) := by decide +kernel
theorem dX7_play_4 : decode cX7_play 4 = .ok (.ifCond .eq 10, 3) := by decide +kernel
theorem dX7_play_7 : decode cX7_play 7 = .ok (.iload_n 2, 1) := by decide +kernel
theorem dX7_play_8 : decode cX7_play 8 = .ok (.invokestatic 149, 3) := by decide +kernel
theorem dX7_play_11 : decode cX7_play 11 = .ok (.ifCond .ne 5, 3) := by decide +kernel
theorem dX7_play_14 : decode cX7_play 14 = .ok (.iconst (-1), 1) := by decide +kernel
theorem dX7_play_15 : decode cX7_play 15 = .ok (.ireturn, 1) := by decide +kernel
theorem dX7_play_16 : decode cX7_play 16 = .ok (.aload_n 0, 1) := by decide +kernel
theorem dX7_play_17 : decode cX7_play 17 = .ok (.iload_n 1, 1) := by decide +kernel
theorem dX7_play_18 : decode cX7_play 18 = .ok (.iload_n 2, 1) := by decide +kernel
theorem dX7_play_19 : decode cX7_play 19 = .ok (.invokevirtual 159, 3) := by decide +kernel
theorem dX7_play_22 : decode cX7_play 22 = .ok (.istore_n 3, 1) := by decide +kernel
theorem dX7_play_23 : decode cX7_play 23 = .ok (.iload_n 3, 1) := by decide +kernel
theorem dX7_play_24 : decode cX7_play 24 = .ok (.bipush (-6), 2) := by decide +kernel
theorem dX7_play_26 : decode cX7_play 26 = .ok (.if_icmp .ne 6, 3) := by decide +kernel
theorem dX7_play_29 : decode cX7_play 29 = .ok (.bipush (-5), 2) := by decide +kernel
theorem dX7_play_31 : decode cX7_play 31 = .ok (.ireturn, 1) := by decide +kernel
theorem dX7_play_32 : decode cX7_play 32 = .ok (.aload_n 0, 1) := by decide +kernel
theorem dX7_play_33 : decode cX7_play 33 = .ok (.invokevirtual 76, 3) := by decide +kernel
theorem dX7_play_36 : decode cX7_play 36 = .ok (.aload_n 0, 1) := by decide +kernel
theorem dX7_play_37 : decode cX7_play 37 = .ok (.iload_n 3, 1) := by decide +kernel
theorem dX7_play_38 : decode cX7_play 38 = .ok (.invokevirtual 156, 3) := by decide +kernel
theorem dX7_play_41 : decode cX7_play 41 = .ok (.aload_n 0, 1) := by decide +kernel
theorem dX7_play_42 : decode cX7_play 42 = .ok (.getfield 7, 3) := by decide +kernel
theorem dX7_play_45 : decode cX7_play 45 = .ok (.bipush 49, 2) := by decide +kernel
theorem dX7_play_47 : decode cX7_play 47 = .ok (.iaload, 1) := by decide +kernel
theorem dX7_play_48 : decode cX7_play 48 = .ok (.ireturn, 1) := by decide +kernel
theorem dX7_giveUp_0 : decode cX7_giveUp 0 = .ok (.aload_n 0, 1) := by decide +kernel
theorem dX7_giveUp_1 : decode cX7_giveUp 1 = .ok (.getfield 7, 3) := by decide +kernel
theorem dX7_giveUp_4 : decode cX7_giveUp 4 = .ok (.bipush 49, 2) := by decide +kernel
theorem dX7_giveUp_6 : decode cX7_giveUp 6 = .ok (.iaload, 1) := by decide +kernel
theorem dX7_giveUp_7 : decode cX7_giveUp 7 = .ok (.ifCond .eq 6, 3) := by decide +kernel
theorem dX7_giveUp_10 : decode cX7_giveUp 10 = .ok (.bipush (-5), 2) := by decide +kernel
theorem dX7_giveUp_12 : decode cX7_giveUp 12 = .ok (.ireturn, 1) := by decide +kernel
theorem dX7_giveUp_13 : decode cX7_giveUp 13 = .ok (.aload_n 0, 1) := by decide +kernel
theorem dX7_giveUp_14 : decode cX7_giveUp 14 = .ok (.invokevirtual 76, 3) := by decide +kernel
theorem dX7_giveUp_17 : decode cX7_giveUp 17 = .ok (.aload_n 0, 1) := by decide +kernel
theorem dX7_giveUp_18 : decode cX7_giveUp 18 = .ok (.getfield 7, 3) := by decide +kernel
theorem dX7_giveUp_21 : decode cX7_giveUp 21 = .ok (.bipush 49, 2) := by decide +kernel
theorem dX7_giveUp_23 : decode cX7_giveUp 23 = .ok (.aload_n 0, 1) := by decide +kernel
theorem dX7_giveUp_24 : decode cX7_giveUp 24 = .ok (.getfield 7, 3) := by decide +kernel
theorem dX7_giveUp_27 : decode cX7_giveUp 27 = .ok (.bipush 48, 2) := by decide +kernel
theorem dX7_giveUp_29 : decode cX7_giveUp 29 = .ok (.iaload, 1) := by decide +kernel
theorem dX7_giveUp_30 : decode cX7_giveUp 30 = .ok (.ifCond .ne 7, 3) := by decide +kernel
theorem dX7_giveUp_33 : decode cX7_giveUp 33 = .ok (.iconst 2, 1) := by decide +kernel
theorem dX7_giveUp_34 : decode cX7_giveUp 34 = .ok (.goto 4, 3) := by decide +kernel
theorem dX7_giveUp_37 : decode cX7_giveUp 37 = .ok (.iconst 1, 1) := by decide +kernel
theorem dX7_giveUp_38 : decode cX7_giveUp 38 = .ok (.iastore, 1) := by decide +kernel
theorem dX7_giveUp_39 : decode cX7_giveUp 39 = .ok (.aload_n 0, 1) := by decide +kernel
theorem dX7_giveUp_40 : decode cX7_giveUp 40 = .ok (.getfield 7, 3) := by decide +kernel
theorem dX7_giveUp_43 : decode cX7_giveUp 43 = .ok (.bipush 49, 2) := by decide +kernel
theorem dX7_giveUp_45 : decode cX7_giveUp 45 = .ok (.iaload, 1) := by decide +kernel
theorem dX7_giveUp_46 : decode cX7_giveUp 46 = .ok (.ireturn, 1) := by decide +kernel
theorem dX7_isInDanger_0 : decode cX7_isInDanger 0 = .ok (.aload_n 0, 1) := by decide +kernel
theorem dX7_isInDanger_1 : decode cX7_isInDanger 1 = .ok (.getfield 7, 3) := by decide +kernel
theorem dX7_isInDanger_4 : decode cX7_isInDanger 4 = .ok (.iconst 0, 1) := by decide +kernel
theorem dX7_isInDanger_5 : decode cX7_isInDanger 5 = .ok (.iload_n 1, 1) := by decide +kernel
theorem dX7_isInDanger_6 : decode cX7_isInDanger 6 = .ok (.iadd, 1) := by decide +kernel
theorem dX7_isInDanger_7 : decode cX7_isInDanger 7 = .ok (.iaload, 1) := by decide +kernel
theorem dX7_isInDanger_8 : decode cX7_isInDanger 8 = .ok (.bipush (-6), 2) := by decide +kernel
theorem dX7_isInDanger_10 : decode cX7_isInDanger 10 = .ok (.if_icmp .ne 5, 3) := by decide +kernel
theorem dX7_isInDanger_13 : decode cX7_isInDanger 13 = .ok (.iconst 0, 1) := by decide +kernel
theorem dX7_isInDanger_14 : decode cX7_isInDanger 14 = .ok (.ireturn, 1) := by decide +kernel
theorem dX7_isInDanger_15 : decode cX7_isInDanger 15 = .ok (.aload_n 0, 1) := by decide +kernel
theorem dX7_isInDanger_16 : decode cX7_isInDanger 16 = .ok (.invokevirtual 124, 3) := by decide +kernel
theorem dX7_isInDanger_19 : decode cX7_isInDanger 19 = .ok (.aload_n 0, 1) := by decide +kernel
theorem dX7_isInDanger_20 : decode cX7_isInDanger 20 = .ok (.iconst 0, 1) := by decide +kernel
theorem dX7_isInDanger_21 : decode cX7_isInDanger 21 = .ok (.iconst 1, 1) := by decide +kernel
theorem dX7_isInDanger_22 : decode cX7_isInDanger 22 = .ok (.aload_n 0, 1) := by decide +kernel
theorem dX7_isInDanger_23 : decode cX7_isInDanger 23 = .ok (.getfield 7, 3) := by decide +kernel
theorem dX7_isInDanger_26 : decode cX7_isInDanger 26 = .ok (.iconst 0, 1) := by decide +kernel
theorem dX7_isInDanger_27 : decode cX7_isInDanger 27 = .ok (.iload_n 1, 1) := by decide +kernel
theorem dX7_isInDanger_28 : decode cX7_isInDanger 28 = .ok (.iadd, 1) := by decide +kernel
theorem dX7_isInDanger_29 : decode cX7_isInDanger 29 = .ok (.iaload, 1) := by decide +kernel
theorem dX7_isInDanger_30 : decode cX7_isInDanger 30 = .ok (.invokestatic 87, 3) := by decide +kernel
theorem dX7_isInDanger_33 : decode cX7_isInDanger 33 = .ok (.isub, 1) := by decide +kernel
theorem dX7_isInDanger_34 : decode cX7_isInDanger 34 = .ok (.bipush (-6), 2) := by decide +kernel
theorem dX7_isInDanger_36 : decode cX7_isInDanger 36 = .ok (.invokevirtual 108, 3) := by decide +kernel
theorem dX7_isInDanger_39 : decode cX7_isInDanger 39 = .ok (.iconst 0, 1) := by decide +kernel
theorem dX7_isInDanger_40 : decode cX7_isInDanger 40 = .ok (.istore_n 2, 1) := by decide +kernel
theorem dX7_isInDanger_41 : decode cX7_isInDanger 41 = .ok (.iconst 0, 1) := by decide +kernel
theorem dX7_isInDanger_42 : decode cX7_isInDanger 42 = .ok (.istore_n 3, 1) := by decide +kernel
theorem dX7_isInDanger_43 : decode cX7_isInDanger 43 = .ok (.iload_n 3, 1) := by decide +kernel
theorem dX7_isInDanger_44 : decode cX7_isInDanger 44 = .ok (.aload_n 0, 1) := by decide +kernel
theorem dX7_isInDanger_45 : decode cX7_isInDanger 45 = .ok (.getfield 36, 3) := by decide +kernel
theorem dX7_isInDanger_48 : decode cX7_isInDanger 48 = .ok (.iconst 0, 1) := by decide +kernel
theorem dX7_isInDanger_49 : decode cX7_isInDanger 49 = .ok (.iaload, 1) := by decide +kernel
theorem dX7_isInDanger_50 : decode cX7_isInDanger 50 = .ok (.if_icmp .ge 29, 3) := by decide +kernel
theorem dX7_isInDanger_53 : decode cX7_isInDanger 53 = .ok (.iload_n 2, 1) := by decide +kernel
theorem dX7_isInDanger_54 : decode cX7_isInDanger 54 = .ok (.ifCond .ne 13, 3) := by decide +kernel
theorem dX7_isInDanger_57 : decode cX7_isInDanger 57 = .ok (.aload_n 0, 1) := by decide +kernel
theorem dX7_isInDanger_58 : decode cX7_isInDanger 58 = .ok (.getfield 51, 3) := by decide +kernel
theorem dX7_isInDanger_61 : decode cX7_isInDanger 61 = .ok (.iload_n 3, 1) := by decide +kernel
theorem dX7_isInDanger_62 : decode cX7_isInDanger 62 = .ok (.iaload, 1) := by decide +kernel
theorem dX7_isInDanger_63 : decode cX7_isInDanger 63 = .ok (.iload_n 1, 1) := by decide +kernel
theorem dX7_isInDanger_64 : decode cX7_isInDanger 64 = .ok (.if_icmp .ne 7, 3) := by decide +kernel
theorem dX7_isInDanger_67 : decode cX7_isInDanger 67 = .ok (.iconst 1, 1) := by decide +kernel
theorem dX7_isInDanger_68 : decode cX7_isInDanger 68 = .ok (.goto 4, 3) := by decide +kernel
theorem dX7_isInDanger_71 : decode cX7_isInDanger 71 = .ok (.iconst 0, 1) := by decide +kernel
theorem dX7_isInDanger_72 : decode cX7_isInDanger 72 = .ok (.istore_n 2, 1) := by decide +kernel
theorem dX7_isInDanger_73 : decode cX7_isInDanger 73 = .ok (.iinc 3 1, 3) := by decide +kernel
theorem dX7_isInDanger_76 : decode cX7_isInDanger 76 = .ok (.goto (-33), 3) := by decide +kernel
theorem dX7_isInDanger_79 : decode cX7_isInDanger 79 = .ok (.iload_n 2, 1) := by decide +kernel
theorem dX7_isInDanger_80 : decode cX7_isInDanger 80 = .ok (.ireturn, 1) := by decide +kernel
theorem dX7_hopsFrom_0 : decode cX7_hopsFrom 0 = .ok (.aload_n 0, 1) := by decide +kernel
theorem dX7_hopsFrom_1 : decode cX7_hopsFrom 1 = .ok (.invokevirtual 124, 3) := by decide +kernel
theorem dX7_hopsFrom_4 : decode cX7_hopsFrom 4 = .ok (.iconst 0, 1) := by decide +kernel
theorem dX7_hopsFrom_5 : decode cX7_hopsFrom 5 = .ok (.istore_n 2, 1) := by decide +kernel
theorem dX7_hopsFrom_6 : decode cX7_hopsFrom 6 = .ok (.iconst 0, 1) := by decide +kernel
theorem dX7_hopsFrom_7 : decode cX7_hopsFrom 7 = .ok (.istore_n 3, 1) := by decide +kernel
theorem dX7_hopsFrom_8 : decode cX7_hopsFrom 8 = .ok (.iload_n 3, 1) := by decide +kernel
theorem dX7_hopsFrom_9 : decode cX7_hopsFrom 9 = .ok (.aload_n 0, 1) := by decide +kernel
theorem dX7_hopsFrom_10 : decode cX7_hopsFrom 10 = .ok (.getfield 36, 3) := by decide +kernel
theorem dX7_hopsFrom_13 : decode cX7_hopsFrom 13 = .ok (.iconst 0, 1) := by decide +kernel
theorem dX7_hopsFrom_14 : decode cX7_hopsFrom 14 = .ok (.iaload, 1) := by decide +kernel
theorem dX7_hopsFrom_15 : decode cX7_hopsFrom 15 = .ok (.if_icmp .ge 27, 3) := by decide +kernel
theorem dX7_hopsFrom_18 : decode cX7_hopsFrom 18 = .ok (.iload_n 2, 1) := by decide +kernel
theorem dX7_hopsFrom_19 : decode cX7_hopsFrom 19 = .ok (.aload_n 0, 1) := by decide +kernel
theorem dX7_hopsFrom_20 : decode cX7_hopsFrom 20 = .ok (.getfield 39, 3) := by decide +kernel
theorem dX7_hopsFrom_23 : decode cX7_hopsFrom 23 = .ok (.iload_n 3, 1) := by decide +kernel
theorem dX7_hopsFrom_24 : decode cX7_hopsFrom 24 = .ok (.iaload, 1) := by decide +kernel
theorem dX7_hopsFrom_25 : decode cX7_hopsFrom 25 = .ok (.iload_n 1, 1) := by decide +kernel
theorem dX7_hopsFrom_26 : decode cX7_hopsFrom 26 = .ok (.if_icmp .ne 7, 3) := by decide +kernel
theorem dX7_hopsFrom_29 : decode cX7_hopsFrom 29 = .ok (.iconst 1, 1) := by decide +kernel
theorem dX7_hopsFrom_30 : decode cX7_hopsFrom 30 = .ok (.goto 4, 3) := by decide +kernel
theorem dX7_hopsFrom_33 : decode cX7_hopsFrom 33 = .ok (.iconst 0, 1) := by decide +kernel
theorem dX7_hopsFrom_34 : decode cX7_hopsFrom 34 = .ok (.iadd, 1) := by decide +kernel
theorem dX7_hopsFrom_35 : decode cX7_hopsFrom 35 = .ok (.istore_n 2, 1) := by decide +kernel
theorem dX7_hopsFrom_36 : decode cX7_hopsFrom 36 = .ok (.iinc 3 1, 3) := by decide +kernel
theorem dX7_hopsFrom_39 : decode cX7_hopsFrom 39 = .ok (.goto (-31), 3) := by decide +kernel
theorem dX7_hopsFrom_42 : decode cX7_hopsFrom 42 = .ok (.iload_n 2, 1) := by decide +kernel
theorem dX7_hopsFrom_43 : decode cX7_hopsFrom 43 = .ok (.ireturn, 1) := by decide +kernel
theorem dX7_square_0 : decode cX7_square 0 = .ok (.iload_n 1, 1) := by decide +kernel
theorem dX7_square_1 : decode cX7_square 1 = .ok (.invokestatic 149, 3) := by decide +kernel
theorem dX7_square_4 : decode cX7_square 4 = .ok (.ifCond .ne 5, 3) := by decide +kernel
theorem dX7_square_7 : decode cX7_square 7 = .ok (.iconst (-1), 1) := by decide +kernel
theorem dX7_square_8 : decode cX7_square 8 = .ok (.ireturn, 1) := by decide +kernel
theorem dX7_square_9 : decode cX7_square 9 = .ok (.iload_n 2, 1) := by decide +kernel
theorem dX7_square_10 : decode cX7_square 10 = .ok (.tableswitch 73 0 4 #[34, 43, 48, 53, 67], 34) := by decide +kernel
theorem dX7_square_44 : decode cX7_square 44 = .ok (.aload_n 0, 1) := by decide +kernel
theorem dX7_square_45 : decode cX7_square 45 = .ok (.getfield 7, 3) := by decide +kernel
theorem dX7_square_48 : decode cX7_square 48 = .ok (.iconst 0, 1) := by decide +kernel
theorem dX7_square_49 : decode cX7_square 49 = .ok (.iload_n 1, 1) := by decide +kernel
theorem dX7_square_50 : decode cX7_square 50 = .ok (.iadd, 1) := by decide +kernel
theorem dX7_square_51 : decode cX7_square 51 = .ok (.iaload, 1) := by decide +kernel
theorem dX7_square_52 : decode cX7_square 52 = .ok (.ireturn, 1) := by decide +kernel
theorem dX7_square_53 : decode cX7_square 53 = .ok (.iload_n 1, 1) := by decide +kernel
theorem dX7_square_54 : decode cX7_square 54 = .ok (.invokestatic 65, 3) := by decide +kernel
theorem dX7_square_57 : decode cX7_square 57 = .ok (.ireturn, 1) := by decide +kernel
theorem dX7_square_58 : decode cX7_square 58 = .ok (.iload_n 1, 1) := by decide +kernel
theorem dX7_square_59 : decode cX7_square 59 = .ok (.invokestatic 69, 3) := by decide +kernel
theorem dX7_square_62 : decode cX7_square 62 = .ok (.ireturn, 1) := by decide +kernel
theorem dX7_square_63 : decode cX7_square 63 = .ok (.aload_n 0, 1) := by decide +kernel
theorem dX7_square_64 : decode cX7_square 64 = .ok (.iload_n 1, 1) := by decide +kernel
theorem dX7_square_65 : decode cX7_square 65 = .ok (.invokevirtual 162, 3) := by decide +kernel
theorem dX7_square_68 : decode cX7_square 68 = .ok (.ifCond .eq 7, 3) := by decide +kernel
theorem dX7_square_71 : decode cX7_square 71 = .ok (.iconst 1, 1) := by decide +kernel
theorem dX7_square_72 : decode cX7_square 72 = .ok (.goto 4, 3) := by decide +kernel
theorem dX7_square_75 : decode cX7_square 75 = .ok (.iconst 0, 1) := by decide +kernel
theorem dX7_square_76 : decode cX7_square 76 = .ok (.ireturn, 1) := by decide +kernel
theorem dX7_square_77 : decode cX7_square 77 = .ok (.aload_n 0, 1) := by decide +kernel
theorem dX7_square_78 : decode cX7_square 78 = .ok (.iload_n 1, 1) := by decide +kernel
theorem dX7_square_79 : decode cX7_square 79 = .ok (.invokevirtual 165, 3) := by decide +kernel
theorem dX7_square_82 : decode cX7_square 82 = .ok (.ireturn, 1) := by decide +kernel
theorem dX7_square_83 : decode cX7_square 83 = .ok (.bipush (-2), 2) := by decide +kernel
theorem dX7_square_85 : decode cX7_square 85 = .ok (.ireturn, 1) := by decide +kernel
theorem dX7_step_0 : decode cX7_step 0 = .ok (.iload_n 1, 1) := by decide +kernel
theorem dX7_step_1 : decode cX7_step 1 = .ok (.invokestatic 149, 3) := by decide +kernel
theorem dX7_step_4 : decode cX7_step 4 = .ok (.ifCond .ne 5, 3) := by decide +kernel
theorem dX7_step_7 : decode cX7_step 7 = .ok (.iconst (-1), 1) := by decide +kernel
theorem dX7_step_8 : decode cX7_step 8 = .ok (.ireturn, 1) := by decide +kernel
theorem dX7_step_9 : decode cX7_step 9 = .ok (.iload_n 2, 1) := by decide +kernel
theorem dX7_step_10 : decode cX7_step 10 = .ok (.iconst 0, 1) := by decide +kernel
theorem dX7_step_11 : decode cX7_step 11 = .ok (.iconst 3, 1) := by decide +kernel
theorem dX7_step_12 : decode cX7_step 12 = .ok (.invokestatic 61, 3) := by decide +kernel
theorem dX7_step_15 : decode cX7_step 15 = .ok (.ifCond .eq 11, 3) := by decide +kernel
theorem dX7_step_18 : decode cX7_step 18 = .ok (.iload_n 1, 1) := by decide +kernel
theorem dX7_step_19 : decode cX7_step 19 = .ok (.iload_n 2, 1) := by decide +kernel
theorem dX7_step_20 : decode cX7_step 20 = .ok (.invokestatic 90, 3) := by decide +kernel
theorem dX7_step_23 : decode cX7_step 23 = .ok (.goto 5, 3) := by decide +kernel
theorem dX7_step_26 : decode cX7_step 26 = .ok (.bipush (-2), 2) := by decide +kernel
theorem dX7_step_28 : decode cX7_step 28 = .ok (.ireturn, 1) := by decide +kernel
theorem dX7_goesOn_0 : decode cX7_goesOn 0 = .ok (.aload_n 0, 1) := by decide +kernel
theorem dX7_goesOn_1 : decode cX7_goesOn 1 = .ok (.iconst 0, 1) := by decide +kernel
theorem dX7_goesOn_2 : decode cX7_goesOn 2 = .ok (.iload_n 1, 1) := by decide +kernel
theorem dX7_goesOn_3 : decode cX7_goesOn 3 = .ok (.invokevirtual 152, 3) := by decide +kernel
theorem dX7_goesOn_6 : decode cX7_goesOn 6 = .ok (.aload_n 0, 1) := by decide +kernel
theorem dX7_goesOn_7 : decode cX7_goesOn 7 = .ok (.getfield 33, 3) := by decide +kernel
theorem dX7_goesOn_10 : decode cX7_goesOn 10 = .ok (.iconst 1, 1) := by decide +kernel
theorem dX7_goesOn_11 : decode cX7_goesOn 11 = .ok (.iaload, 1) := by decide +kernel
theorem dX7_goesOn_12 : decode cX7_goesOn 12 = .ok (.bipush (-6), 2) := by decide +kernel
theorem dX7_goesOn_14 : decode cX7_goesOn 14 = .ok (.if_icmp .ne 7, 3) := by decide +kernel
theorem dX7_goesOn_17 : decode cX7_goesOn 17 = .ok (.iconst 0, 1) := by decide +kernel
theorem dX7_goesOn_18 : decode cX7_goesOn 18 = .ok (.goto 4, 3) := by decide +kernel
theorem dX7_goesOn_21 : decode cX7_goesOn 21 = .ok (.iconst 1, 1) := by decide +kernel
theorem dX7_goesOn_22 : decode cX7_goesOn 22 = .ok (.ireturn, 1) := by decide +kernel
theorem dX7_ofHop_0 : decode cX7_ofHop 0 = .ok (.aload_n 0, 1) := by decide +kernel
theorem dX7_ofHop_1 : decode cX7_ofHop 1 = .ok (.invokevirtual 124, 3) := by decide +kernel
theorem dX7_ofHop_4 : decode cX7_ofHop 4 = .ok (.iload_n 1, 1) := by decide +kernel
theorem dX7_ofHop_5 : decode cX7_ofHop 5 = .ok (.iconst 0, 1) := by decide +kernel
theorem dX7_ofHop_6 : decode cX7_ofHop 6 = .ok (.aload_n 0, 1) := by decide +kernel
theorem dX7_ofHop_7 : decode cX7_ofHop 7 = .ok (.getfield 36, 3) := by decide +kernel
theorem dX7_ofHop_10 : decode cX7_ofHop 10 = .ok (.iconst 0, 1) := by decide +kernel
theorem dX7_ofHop_11 : decode cX7_ofHop 11 = .ok (.iaload, 1) := by decide +kernel
theorem dX7_ofHop_12 : decode cX7_ofHop 12 = .ok (.iconst 1, 1) := by decide +kernel
theorem dX7_ofHop_13 : decode cX7_ofHop 13 = .ok (.isub, 1) := by decide +kernel
theorem dX7_ofHop_14 : decode cX7_ofHop 14 = .ok (.invokestatic 61, 3) := by decide +kernel
theorem dX7_ofHop_17 : decode cX7_ofHop 17 = .ok (.ifCond .ne 5, 3) := by decide +kernel
theorem dX7_ofHop_20 : decode cX7_ofHop 20 = .ok (.iconst (-1), 1) := by decide +kernel
theorem dX7_ofHop_21 : decode cX7_ofHop 21 = .ok (.ireturn, 1) := by decide +kernel
theorem dX7_ofHop_22 : decode cX7_ofHop 22 = .ok (.iload_n 2, 1) := by decide +kernel
theorem dX7_ofHop_23 : decode cX7_ofHop 23 = .ok (.tableswitch 97 0 6 #[41, 48, 55, 62, 69, 76, 91], 41) := by decide +kernel
theorem dX7_ofHop_64 : decode cX7_ofHop 64 = .ok (.aload_n 0, 1) := by decide +kernel
theorem dX7_ofHop_65 : decode cX7_ofHop 65 = .ok (.getfield 39, 3) := by decide +kernel
theorem dX7_ofHop_68 : decode cX7_ofHop 68 = .ok (.iload_n 1, 1) := by decide +kernel
theorem dX7_ofHop_69 : decode cX7_ofHop 69 = .ok (.iaload, 1) := by decide +kernel
theorem dX7_ofHop_70 : decode cX7_ofHop 70 = .ok (.ireturn, 1) := by decide +kernel
theorem dX7_ofHop_71 : decode cX7_ofHop 71 = .ok (.aload_n 0, 1) := by decide +kernel
theorem dX7_ofHop_72 : decode cX7_ofHop 72 = .ok (.getfield 48, 3) := by decide +kernel
theorem dX7_ofHop_75 : decode cX7_ofHop 75 = .ok (.iload_n 1, 1) := by decide +kernel
theorem dX7_ofHop_76 : decode cX7_ofHop 76 = .ok (.iaload, 1) := by decide +kernel
theorem dX7_ofHop_77 : decode cX7_ofHop 77 = .ok (.ireturn, 1) := by decide +kernel
theorem dX7_ofHop_78 : decode cX7_ofHop 78 = .ok (.aload_n 0, 1) := by decide +kernel
theorem dX7_ofHop_79 : decode cX7_ofHop 79 = .ok (.getfield 42, 3) := by decide +kernel
theorem dX7_ofHop_82 : decode cX7_ofHop 82 = .ok (.iload_n 1, 1) := by decide +kernel
theorem dX7_ofHop_83 : decode cX7_ofHop 83 = .ok (.iaload, 1) := by decide +kernel
theorem dX7_ofHop_84 : decode cX7_ofHop 84 = .ok (.ireturn, 1) := by decide +kernel
theorem dX7_ofHop_85 : decode cX7_ofHop 85 = .ok (.aload_n 0, 1) := by decide +kernel
theorem dX7_ofHop_86 : decode cX7_ofHop 86 = .ok (.getfield 45, 3) := by decide +kernel
theorem dX7_ofHop_89 : decode cX7_ofHop 89 = .ok (.iload_n 1, 1) := by decide +kernel
theorem dX7_ofHop_90 : decode cX7_ofHop 90 = .ok (.iaload, 1) := by decide +kernel
theorem dX7_ofHop_91 : decode cX7_ofHop 91 = .ok (.ireturn, 1) := by decide +kernel
theorem dX7_ofHop_92 : decode cX7_ofHop 92 = .ok (.aload_n 0, 1) := by decide +kernel
theorem dX7_ofHop_93 : decode cX7_ofHop 93 = .ok (.getfield 51, 3) := by decide +kernel
theorem dX7_ofHop_96 : decode cX7_ofHop 96 = .ok (.iload_n 1, 1) := by decide +kernel
theorem dX7_ofHop_97 : decode cX7_ofHop 97 = .ok (.iaload, 1) := by decide +kernel
theorem dX7_ofHop_98 : decode cX7_ofHop 98 = .ok (.ireturn, 1) := by decide +kernel
theorem dX7_ofHop_99 : decode cX7_ofHop 99 = .ok (.aload_n 0, 1) := by decide +kernel
theorem dX7_ofHop_100 : decode cX7_ofHop 100 = .ok (.iconst 0, 1) := by decide +kernel
theorem dX7_ofHop_101 : decode cX7_ofHop 101 = .ok (.iload_n 1, 1) := by decide +kernel
theorem dX7_ofHop_102 : decode cX7_ofHop 102 = .ok (.invokevirtual 114, 3) := by decide +kernel
theorem dX7_ofHop_105 : decode cX7_ofHop 105 = .ok (.ifCond .eq 7, 3) := by decide +kernel
theorem dX7_ofHop_108 : decode cX7_ofHop 108 = .ok (.iconst 1, 1) := by decide +kernel
theorem dX7_ofHop_109 : decode cX7_ofHop 109 = .ok (.goto 4, 3) := by decide +kernel
theorem dX7_ofHop_112 : decode cX7_ofHop 112 = .ok (.iconst 0, 1) := by decide +kernel
theorem dX7_ofHop_113 : decode cX7_ofHop 113 = .ok (.ireturn, 1) := by decide +kernel
theorem dX7_ofHop_114 : decode cX7_ofHop 114 = .ok (.aload_n 0, 1) := by decide +kernel
theorem dX7_ofHop_115 : decode cX7_ofHop 115 = .ok (.iload_n 1, 1) := by decide +kernel
theorem dX7_ofHop_116 : decode cX7_ofHop 116 = .ok (.invokevirtual 168, 3) := by decide +kernel
theorem dX7_ofHop_119 : decode cX7_ofHop 119 = .ok (.ireturn, 1) := by decide +kernel
theorem dX7_ofHop_120 : decode cX7_ofHop 120 = .ok (.bipush (-2), 2) := by decide +kernel
theorem dX7_ofHop_122 : decode cX7_ofHop 122 = .ok (.ireturn, 1) := by decide +kernel
theorem dX7_side_0 : decode cX7_side 0 = .ok (.iload_n 1, 1) := by decide +kernel
theorem dX7_side_1 : decode cX7_side 1 = .ok (.iconst 0, 1) := by decide +kernel
theorem dX7_side_2 : decode cX7_side 2 = .ok (.iconst 1, 1) := by decide +kernel
theorem dX7_side_3 : decode cX7_side 3 = .ok (.invokestatic 61, 3) := by decide +kernel
theorem dX7_side_6 : decode cX7_side 6 = .ok (.ifCond .ne 6, 3) := by decide +kernel
theorem dX7_side_9 : decode cX7_side 9 = .ok (.bipush (-2), 2) := by decide +kernel
theorem dX7_side_11 : decode cX7_side 11 = .ok (.ireturn, 1) := by decide +kernel
theorem dX7_side_12 : decode cX7_side 12 = .ok (.iload_n 2, 1) := by decide +kernel
theorem dX7_side_13 : decode cX7_side 13 = .ok (.tableswitch 78 0 4 #[35, 35, 42, 52, 62], 35) := by decide +kernel
theorem dX7_side_48 : decode cX7_side 48 = .ok (.aload_n 0, 1) := by decide +kernel
theorem dX7_side_49 : decode cX7_side 49 = .ok (.iload_n 1, 1) := by decide +kernel
theorem dX7_side_50 : decode cX7_side 50 = .ok (.iload_n 2, 1) := by decide +kernel
theorem dX7_side_51 : decode cX7_side 51 = .ok (.invokevirtual 143, 3) := by decide +kernel
theorem dX7_side_54 : decode cX7_side 54 = .ok (.ireturn, 1) := by decide +kernel
theorem dX7_side_55 : decode cX7_side 55 = .ok (.aload_n 0, 1) := by decide +kernel
theorem dX7_side_56 : decode cX7_side 56 = .ok (.getfield 7, 3) := by decide +kernel
theorem dX7_side_59 : decode cX7_side 59 = .ok (.bipush 51, 2) := by decide +kernel
theorem dX7_side_61 : decode cX7_side 61 = .ok (.iload_n 1, 1) := by decide +kernel
theorem dX7_side_62 : decode cX7_side 62 = .ok (.iadd, 1) := by decide +kernel
theorem dX7_side_63 : decode cX7_side 63 = .ok (.iaload, 1) := by decide +kernel
theorem dX7_side_64 : decode cX7_side 64 = .ok (.ireturn, 1) := by decide +kernel
theorem dX7_side_65 : decode cX7_side 65 = .ok (.aload_n 0, 1) := by decide +kernel
theorem dX7_side_66 : decode cX7_side 66 = .ok (.getfield 7, 3) := by decide +kernel
theorem dX7_side_69 : decode cX7_side 69 = .ok (.bipush 55, 2) := by decide +kernel
theorem dX7_side_71 : decode cX7_side 71 = .ok (.iload_n 1, 1) := by decide +kernel
theorem dX7_side_72 : decode cX7_side 72 = .ok (.iadd, 1) := by decide +kernel
theorem dX7_side_73 : decode cX7_side 73 = .ok (.iaload, 1) := by decide +kernel
theorem dX7_side_74 : decode cX7_side 74 = .ok (.ireturn, 1) := by decide +kernel
theorem dX7_side_75 : decode cX7_side 75 = .ok (.aload_n 0, 1) := by decide +kernel
theorem dX7_side_76 : decode cX7_side 76 = .ok (.iload_n 1, 1) := by decide +kernel
theorem dX7_side_77 : decode cX7_side 77 = .ok (.iconst 0, 1) := by decide +kernel
theorem dX7_side_78 : decode cX7_side 78 = .ok (.invokevirtual 143, 3) := by decide +kernel
theorem dX7_side_81 : decode cX7_side 81 = .ok (.iconst 3, 1) := by decide +kernel
theorem dX7_side_82 : decode cX7_side 82 = .ok (.aload_n 0, 1) := by decide +kernel
theorem dX7_side_83 : decode cX7_side 83 = .ok (.iload_n 1, 1) := by decide +kernel
theorem dX7_side_84 : decode cX7_side 84 = .ok (.iconst 1, 1) := by decide +kernel
theorem dX7_side_85 : decode cX7_side 85 = .ok (.invokevirtual 143, 3) := by decide +kernel
theorem dX7_side_88 : decode cX7_side 88 = .ok (.imul, 1) := by decide +kernel
theorem dX7_side_89 : decode cX7_side 89 = .ok (.iadd, 1) := by decide +kernel
theorem dX7_side_90 : decode cX7_side 90 = .ok (.ireturn, 1) := by decide +kernel
theorem dX7_side_91 : decode cX7_side 91 = .ok (.bipush (-2), 2) := by decide +kernel
theorem dX7_side_93 : decode cX7_side 93 = .ok (.ireturn, 1) := by decide +kernel
theorem dX7_hopsNow_0 : decode cX7_hopsNow 0 = .ok (.aload_n 0, 1) := by decide +kernel
theorem dX7_hopsNow_1 : decode cX7_hopsNow 1 = .ok (.invokevirtual 124, 3) := by decide +kernel
theorem dX7_hopsNow_4 : decode cX7_hopsNow 4 = .ok (.aload_n 0, 1) := by decide +kernel
theorem dX7_hopsNow_5 : decode cX7_hopsNow 5 = .ok (.getfield 36, 3) := by decide +kernel
theorem dX7_hopsNow_8 : decode cX7_hopsNow 8 = .ok (.iconst 0, 1) := by decide +kernel
theorem dX7_hopsNow_9 : decode cX7_hopsNow 9 = .ok (.iaload, 1) := by decide +kernel
theorem dX7_hopsNow_10 : decode cX7_hopsNow 10 = .ok (.ireturn, 1) := by decide +kernel
theorem dX7_count_0 : decode cX7_count 0 = .ok (.iload_n 1, 1) := by decide +kernel
theorem dX7_count_1 : decode cX7_count 1 = .ok (.tableswitch 123 0 9 #[55, 63, 71, 76, 84, 92, 97, 105, 113, 118], 55) := by decide +kernel
theorem dX7_count_56 : decode cX7_count 56 = .ok (.aload_n 0, 1) := by decide +kernel
theorem dX7_count_57 : decode cX7_count 57 = .ok (.getfield 7, 3) := by decide +kernel
theorem dX7_count_60 : decode cX7_count 60 = .ok (.bipush 49, 2) := by decide +kernel
theorem dX7_count_62 : decode cX7_count 62 = .ok (.iaload, 1) := by decide +kernel
theorem dX7_count_63 : decode cX7_count 63 = .ok (.ireturn, 1) := by decide +kernel
theorem dX7_count_64 : decode cX7_count 64 = .ok (.aload_n 0, 1) := by decide +kernel
theorem dX7_count_65 : decode cX7_count 65 = .ok (.getfield 7, 3) := by decide +kernel
theorem dX7_count_68 : decode cX7_count 68 = .ok (.bipush 48, 2) := by decide +kernel
theorem dX7_count_70 : decode cX7_count 70 = .ok (.iaload, 1) := by decide +kernel
theorem dX7_count_71 : decode cX7_count 71 = .ok (.ireturn, 1) := by decide +kernel
theorem dX7_count_72 : decode cX7_count 72 = .ok (.aload_n 0, 1) := by decide +kernel
theorem dX7_count_73 : decode cX7_count 73 = .ok (.invokevirtual 171, 3) := by decide +kernel
theorem dX7_count_76 : decode cX7_count 76 = .ok (.ireturn, 1) := by decide +kernel
theorem dX7_count_77 : decode cX7_count 77 = .ok (.aload_n 0, 1) := by decide +kernel
theorem dX7_count_78 : decode cX7_count 78 = .ok (.getfield 7, 3) := by decide +kernel
theorem dX7_count_81 : decode cX7_count 81 = .ok (.bipush 53, 2) := by decide +kernel
theorem dX7_count_83 : decode cX7_count 83 = .ok (.iaload, 1) := by decide +kernel
theorem dX7_count_84 : decode cX7_count 84 = .ok (.ireturn, 1) := by decide +kernel
theorem dX7_count_85 : decode cX7_count 85 = .ok (.aload_n 0, 1) := by decide +kernel
theorem dX7_count_86 : decode cX7_count 86 = .ok (.getfield 7, 3) := by decide +kernel
theorem dX7_count_89 : decode cX7_count 89 = .ok (.bipush 54, 2) := by decide +kernel
theorem dX7_count_91 : decode cX7_count 91 = .ok (.iaload, 1) := by decide +kernel
theorem dX7_count_92 : decode cX7_count 92 = .ok (.ireturn, 1) := by decide +kernel
theorem dX7_count_93 : decode cX7_count 93 = .ok (.aload_n 0, 1) := by decide +kernel
theorem dX7_count_94 : decode cX7_count 94 = .ok (.invokevirtual 127, 3) := by decide +kernel
theorem dX7_count_97 : decode cX7_count 97 = .ok (.ireturn, 1) := by decide +kernel
theorem dX7_count_98 : decode cX7_count 98 = .ok (.aload_n 0, 1) := by decide +kernel
theorem dX7_count_99 : decode cX7_count 99 = .ok (.getfield 7, 3) := by decide +kernel
theorem dX7_count_102 : decode cX7_count 102 = .ok (.bipush 57, 2) := by decide +kernel
theorem dX7_count_104 : decode cX7_count 104 = .ok (.iaload, 1) := by decide +kernel
theorem dX7_count_105 : decode cX7_count 105 = .ok (.ireturn, 1) := by decide +kernel
theorem dX7_count_106 : decode cX7_count 106 = .ok (.aload_n 0, 1) := by decide +kernel
theorem dX7_count_107 : decode cX7_count 107 = .ok (.getfield 7, 3) := by decide +kernel
theorem dX7_count_110 : decode cX7_count 110 = .ok (.bipush 50, 2) := by decide +kernel
theorem dX7_count_112 : decode cX7_count 112 = .ok (.iaload, 1) := by decide +kernel
theorem dX7_count_113 : decode cX7_count 113 = .ok (.ireturn, 1) := by decide +kernel
theorem dX7_count_114 : decode cX7_count 114 = .ok (.aload_n 0, 1) := by decide +kernel
theorem dX7_count_115 : decode cX7_count 115 = .ok (.getfield 174, 3) := by decide +kernel
theorem dX7_count_118 : decode cX7_count 118 = .ok (.ireturn, 1) := by decide +kernel
theorem dX7_count_119 : decode cX7_count 119 = .ok (.aload_n 0, 1) := by decide +kernel
theorem dX7_count_120 : decode cX7_count 120 = .ok (.getfield 72, 3) := by decide +kernel
theorem dX7_count_123 : decode cX7_count 123 = .ok (.ireturn, 1) := by decide +kernel
theorem dX7_count_124 : decode cX7_count 124 = .ok (.bipush (-2), 2) := by decide +kernel
theorem dX7_count_126 : decode cX7_count 126 = .ok (.ireturn, 1) := by decide +kernel
theorem dX7_rowsOfTwo_0 : decode cX7_rowsOfTwo 0 = .ok (.aload_n 0, 1) := by decide +kernel
theorem dX7_rowsOfTwo_1 : decode cX7_rowsOfTwo 1 = .ok (.iload_n 1, 1) := by decide +kernel
theorem dX7_rowsOfTwo_2 : decode cX7_rowsOfTwo 2 = .ok (.invokevirtual 117, 3) := by decide +kernel
theorem dX7_rowsOfTwo_5 : decode cX7_rowsOfTwo 5 = .ok (.iconst 0, 1) := by decide +kernel
theorem dX7_rowsOfTwo_6 : decode cX7_rowsOfTwo 6 = .ok (.istore_n 3, 1) := by decide +kernel
theorem dX7_rowsOfTwo_7 : decode cX7_rowsOfTwo 7 = .ok (.iconst 0, 1) := by decide +kernel
theorem dX7_rowsOfTwo_8 : decode cX7_rowsOfTwo 8 = .ok (.istore 4, 2) := by decide +kernel
theorem dX7_rowsOfTwo_10 : decode cX7_rowsOfTwo 10 = .ok (.iload 4, 2) := by decide +kernel
theorem dX7_rowsOfTwo_12 : decode cX7_rowsOfTwo 12 = .ok (.aload_n 0, 1) := by decide +kernel
theorem dX7_rowsOfTwo_13 : decode cX7_rowsOfTwo 13 = .ok (.getfield 36, 3) := by decide +kernel
theorem dX7_rowsOfTwo_16 : decode cX7_rowsOfTwo 16 = .ok (.iload_n 1, 1) := by decide +kernel
theorem dX7_rowsOfTwo_17 : decode cX7_rowsOfTwo 17 = .ok (.iaload, 1) := by decide +kernel
theorem dX7_rowsOfTwo_18 : decode cX7_rowsOfTwo 18 = .ok (.if_icmp .ge 39, 3) := by decide +kernel
theorem dX7_rowsOfTwo_21 : decode cX7_rowsOfTwo 21 = .ok (.iload_n 3, 1) := by decide +kernel
theorem dX7_rowsOfTwo_22 : decode cX7_rowsOfTwo 22 = .ok (.iload_n 2, 1) := by decide +kernel
theorem dX7_rowsOfTwo_23 : decode cX7_rowsOfTwo 23 = .ok (.if_icmp .ge 34, 3) := by decide +kernel
theorem dX7_rowsOfTwo_26 : decode cX7_rowsOfTwo 26 = .ok (.aload_n 0, 1) := by decide +kernel
theorem dX7_rowsOfTwo_27 : decode cX7_rowsOfTwo 27 = .ok (.iload_n 1, 1) := by decide +kernel
theorem dX7_rowsOfTwo_28 : decode cX7_rowsOfTwo 28 = .ok (.iload 4, 2) := by decide +kernel
theorem dX7_rowsOfTwo_30 : decode cX7_rowsOfTwo 30 = .ok (.invokevirtual 152, 3) := by decide +kernel
theorem dX7_rowsOfTwo_33 : decode cX7_rowsOfTwo 33 = .ok (.aload_n 0, 1) := by decide +kernel
theorem dX7_rowsOfTwo_34 : decode cX7_rowsOfTwo 34 = .ok (.iload_n 1, 1) := by decide +kernel
theorem dX7_rowsOfTwo_35 : decode cX7_rowsOfTwo 35 = .ok (.iconst 1, 1) := by decide +kernel
theorem dX7_rowsOfTwo_36 : decode cX7_rowsOfTwo 36 = .ok (.iadd, 1) := by decide +kernel
theorem dX7_rowsOfTwo_37 : decode cX7_rowsOfTwo 37 = .ok (.invokevirtual 117, 3) := by decide +kernel
theorem dX7_rowsOfTwo_40 : decode cX7_rowsOfTwo 40 = .ok (.iload_n 3, 1) := by decide +kernel
theorem dX7_rowsOfTwo_41 : decode cX7_rowsOfTwo 41 = .ok (.aload_n 0, 1) := by decide +kernel
theorem dX7_rowsOfTwo_42 : decode cX7_rowsOfTwo 42 = .ok (.getfield 36, 3) := by decide +kernel
theorem dX7_rowsOfTwo_45 : decode cX7_rowsOfTwo 45 = .ok (.iload_n 1, 1) := by decide +kernel
theorem dX7_rowsOfTwo_46 : decode cX7_rowsOfTwo 46 = .ok (.iconst 1, 1) := by decide +kernel
theorem dX7_rowsOfTwo_47 : decode cX7_rowsOfTwo 47 = .ok (.iadd, 1) := by decide +kernel
theorem dX7_rowsOfTwo_48 : decode cX7_rowsOfTwo 48 = .ok (.iaload, 1) := by decide +kernel
theorem dX7_rowsOfTwo_49 : decode cX7_rowsOfTwo 49 = .ok (.iadd, 1) := by decide +kernel
theorem dX7_rowsOfTwo_50 : decode cX7_rowsOfTwo 50 = .ok (.istore_n 3, 1) := by decide +kernel
theorem dX7_rowsOfTwo_51 : decode cX7_rowsOfTwo 51 = .ok (.iinc 4 1, 3) := by decide +kernel
theorem dX7_rowsOfTwo_54 : decode cX7_rowsOfTwo 54 = .ok (.goto (-44), 3) := by decide +kernel
theorem dX7_rowsOfTwo_57 : decode cX7_rowsOfTwo 57 = .ok (.iload_n 3, 1) := by decide +kernel
theorem dX7_rowsOfTwo_58 : decode cX7_rowsOfTwo 58 = .ok (.ireturn, 1) := by decide +kernel
theorem dX7_rowsOfThree_0 : decode cX7_rowsOfThree 0 = .ok (.aload_n 0, 1) := by decide +kernel
theorem dX7_rowsOfThree_1 : decode cX7_rowsOfThree 1 = .ok (.invokevirtual 124, 3) := by decide +kernel
theorem dX7_rowsOfThree_4 : decode cX7_rowsOfThree 4 = .ok (.iconst 0, 1) := by decide +kernel
theorem dX7_rowsOfThree_5 : decode cX7_rowsOfThree 5 = .ok (.istore_n 1, 1) := by decide +kernel
theorem dX7_rowsOfThree_6 : decode cX7_rowsOfThree 6 = .ok (.iconst 0, 1) := by decide +kernel
theorem dX7_rowsOfThree_7 : decode cX7_rowsOfThree 7 = .ok (.istore_n 2, 1) := by decide +kernel
theorem dX7_rowsOfThree_8 : decode cX7_rowsOfThree 8 = .ok (.iload_n 2, 1) := by decide +kernel
theorem dX7_rowsOfThree_9 : decode cX7_rowsOfThree 9 = .ok (.aload_n 0, 1) := by decide +kernel
theorem dX7_rowsOfThree_10 : decode cX7_rowsOfThree 10 = .ok (.getfield 36, 3) := by decide +kernel
theorem dX7_rowsOfThree_13 : decode cX7_rowsOfThree 13 = .ok (.iconst 0, 1) := by decide +kernel
theorem dX7_rowsOfThree_14 : decode cX7_rowsOfThree 14 = .ok (.iaload, 1) := by decide +kernel
theorem dX7_rowsOfThree_15 : decode cX7_rowsOfThree 15 = .ok (.if_icmp .ge 35, 3) := by decide +kernel
theorem dX7_rowsOfThree_18 : decode cX7_rowsOfThree 18 = .ok (.iload_n 1, 1) := by decide +kernel
theorem dX7_rowsOfThree_19 : decode cX7_rowsOfThree 19 = .ok (.sipush 20000, 3) := by decide +kernel
theorem dX7_rowsOfThree_22 : decode cX7_rowsOfThree 22 = .ok (.if_icmp .ge 28, 3) := by decide +kernel
theorem dX7_rowsOfThree_25 : decode cX7_rowsOfThree 25 = .ok (.aload_n 0, 1) := by decide +kernel
theorem dX7_rowsOfThree_26 : decode cX7_rowsOfThree 26 = .ok (.iconst 0, 1) := by decide +kernel
theorem dX7_rowsOfThree_27 : decode cX7_rowsOfThree 27 = .ok (.iload_n 2, 1) := by decide +kernel
theorem dX7_rowsOfThree_28 : decode cX7_rowsOfThree 28 = .ok (.invokevirtual 152, 3) := by decide +kernel
theorem dX7_rowsOfThree_31 : decode cX7_rowsOfThree 31 = .ok (.iload_n 1, 1) := by decide +kernel
theorem dX7_rowsOfThree_32 : decode cX7_rowsOfThree 32 = .ok (.aload_n 0, 1) := by decide +kernel
theorem dX7_rowsOfThree_33 : decode cX7_rowsOfThree 33 = .ok (.iconst 1, 1) := by decide +kernel
theorem dX7_rowsOfThree_34 : decode cX7_rowsOfThree 34 = .ok (.sipush 20000, 3) := by decide +kernel
theorem dX7_rowsOfThree_37 : decode cX7_rowsOfThree 37 = .ok (.iload_n 1, 1) := by decide +kernel
theorem dX7_rowsOfThree_38 : decode cX7_rowsOfThree 38 = .ok (.isub, 1) := by decide +kernel
theorem dX7_rowsOfThree_39 : decode cX7_rowsOfThree 39 = .ok (.invokevirtual 177, 3) := by decide +kernel
theorem dX7_rowsOfThree_42 : decode cX7_rowsOfThree 42 = .ok (.iadd, 1) := by decide +kernel
theorem dX7_rowsOfThree_43 : decode cX7_rowsOfThree 43 = .ok (.istore_n 1, 1) := by decide +kernel
theorem dX7_rowsOfThree_44 : decode cX7_rowsOfThree 44 = .ok (.iinc 2 1, 3) := by decide +kernel
theorem dX7_rowsOfThree_47 : decode cX7_rowsOfThree 47 = .ok (.goto (-39), 3) := by decide +kernel
theorem dX7_rowsOfThree_50 : decode cX7_rowsOfThree 50 = .ok (.iload_n 1, 1) := by decide +kernel
theorem dX7_rowsOfThree_51 : decode cX7_rowsOfThree 51 = .ok (.ireturn, 1) := by decide +kernel
theorem dX7_rows_0 : decode cX7_rows 0 = .ok (.iload_n 1, 1) := by decide +kernel
theorem dX7_rows_1 : decode cX7_rows 1 = .ok (.iconst 1, 1) := by decide +kernel
theorem dX7_rows_2 : decode cX7_rows 2 = .ok (.iconst 3, 1) := by decide +kernel
theorem dX7_rows_3 : decode cX7_rows 3 = .ok (.invokestatic 61, 3) := by decide +kernel
theorem dX7_rows_6 : decode cX7_rows 6 = .ok (.ifCond .ne 6, 3) := by decide +kernel
theorem dX7_rows_9 : decode cX7_rows 9 = .ok (.bipush (-2), 2) := by decide +kernel
theorem dX7_rows_11 : decode cX7_rows 11 = .ok (.ireturn, 1) := by decide +kernel
theorem dX7_rows_12 : decode cX7_rows 12 = .ok (.aload_n 0, 1) := by decide +kernel
theorem dX7_rows_13 : decode cX7_rows 13 = .ok (.invokevirtual 124, 3) := by decide +kernel
theorem dX7_rows_16 : decode cX7_rows 16 = .ok (.aload_n 0, 1) := by decide +kernel
theorem dX7_rows_17 : decode cX7_rows 17 = .ok (.getfield 7, 3) := by decide +kernel
theorem dX7_rows_20 : decode cX7_rows 20 = .ok (.bipush 49, 2) := by decide +kernel
theorem dX7_rows_22 : decode cX7_rows 22 = .ok (.iaload, 1) := by decide +kernel
theorem dX7_rows_23 : decode cX7_rows 23 = .ok (.ifCond .eq 5, 3) := by decide +kernel
theorem dX7_rows_26 : decode cX7_rows 26 = .ok (.iconst 0, 1) := by decide +kernel
theorem dX7_rows_27 : decode cX7_rows 27 = .ok (.ireturn, 1) := by decide +kernel
theorem dX7_rows_28 : decode cX7_rows 28 = .ok (.iload_n 1, 1) := by decide +kernel
theorem dX7_rows_29 : decode cX7_rows 29 = .ok (.iconst 1, 1) := by decide +kernel
theorem dX7_rows_30 : decode cX7_rows 30 = .ok (.if_icmp .ne 12, 3) := by decide +kernel
theorem dX7_rows_33 : decode cX7_rows 33 = .ok (.aload_n 0, 1) := by decide +kernel
theorem dX7_rows_34 : decode cX7_rows 34 = .ok (.getfield 36, 3) := by decide +kernel
theorem dX7_rows_37 : decode cX7_rows 37 = .ok (.iconst 0, 1) := by decide +kernel
theorem dX7_rows_38 : decode cX7_rows 38 = .ok (.iaload, 1) := by decide +kernel
theorem dX7_rows_39 : decode cX7_rows 39 = .ok (.goto 23, 3) := by decide +kernel
theorem dX7_rows_42 : decode cX7_rows 42 = .ok (.iload_n 1, 1) := by decide +kernel
theorem dX7_rows_43 : decode cX7_rows 43 = .ok (.iconst 2, 1) := by decide +kernel
theorem dX7_rows_44 : decode cX7_rows 44 = .ok (.if_icmp .ne 14, 3) := by decide +kernel
theorem dX7_rows_47 : decode cX7_rows 47 = .ok (.aload_n 0, 1) := by decide +kernel
theorem dX7_rows_48 : decode cX7_rows 48 = .ok (.iconst 0, 1) := by decide +kernel
theorem dX7_rows_49 : decode cX7_rows 49 = .ok (.sipush 20000, 3) := by decide +kernel
theorem dX7_rows_52 : decode cX7_rows 52 = .ok (.invokevirtual 177, 3) := by decide +kernel
theorem dX7_rows_55 : decode cX7_rows 55 = .ok (.goto 7, 3) := by decide +kernel
theorem dX7_rows_58 : decode cX7_rows 58 = .ok (.aload_n 0, 1) := by decide +kernel
theorem dX7_rows_59 : decode cX7_rows 59 = .ok (.invokevirtual 180, 3) := by decide +kernel
theorem dX7_rows_62 : decode cX7_rows 62 = .ok (.istore_n 2, 1) := by decide +kernel
theorem dX7_rows_63 : decode cX7_rows 63 = .ok (.iload_n 2, 1) := by decide +kernel
theorem dX7_rows_64 : decode cX7_rows 64 = .ok (.sipush 20000, 3) := by decide +kernel
theorem dX7_rows_67 : decode cX7_rows 67 = .ok (.if_icmp .ge 7, 3) := by decide +kernel
theorem dX7_rows_70 : decode cX7_rows 70 = .ok (.iload_n 2, 1) := by decide +kernel
theorem dX7_rows_71 : decode cX7_rows 71 = .ok (.goto 6, 3) := by decide +kernel
theorem dX7_rows_74 : decode cX7_rows 74 = .ok (.sipush 20000, 3) := by decide +kernel
theorem dX7_rows_77 : decode cX7_rows 77 = .ok (.ireturn, 1) := by decide +kernel
theorem dX7_worthNow_0 : decode cX7_worthNow 0 = .ok (.iconst 0, 1) := by decide +kernel
theorem dX7_worthNow_1 : decode cX7_worthNow 1 = .ok (.istore_n 2, 1) := by decide +kernel
theorem dX7_worthNow_2 : decode cX7_worthNow 2 = .ok (.iconst 0, 1) := by decide +kernel
theorem dX7_worthNow_3 : decode cX7_worthNow 3 = .ok (.istore_n 3, 1) := by decide +kernel
theorem dX7_worthNow_4 : decode cX7_worthNow 4 = .ok (.iload_n 3, 1) := by decide +kernel
theorem dX7_worthNow_5 : decode cX7_worthNow 5 = .ok (.bipush 48, 2) := by decide +kernel
theorem dX7_worthNow_7 : decode cX7_worthNow 7 = .ok (.if_icmp .ge 69, 3) := by decide +kernel
theorem dX7_worthNow_10 : decode cX7_worthNow 10 = .ok (.aload_n 0, 1) := by decide +kernel
theorem dX7_worthNow_11 : decode cX7_worthNow 11 = .ok (.iload_n 1, 1) := by decide +kernel
theorem dX7_worthNow_12 : decode cX7_worthNow 12 = .ok (.iload_n 3, 1) := by decide +kernel
theorem dX7_worthNow_13 : decode cX7_worthNow 13 = .ok (.invokevirtual 79, 3) := by decide +kernel
theorem dX7_worthNow_16 : decode cX7_worthNow 16 = .ok (.istore 4, 2) := by decide +kernel
theorem dX7_worthNow_18 : decode cX7_worthNow 18 = .ok (.iload 4, 2) := by decide +kernel
theorem dX7_worthNow_20 : decode cX7_worthNow 20 = .ok (.bipush (-6), 2) := by decide +kernel
theorem dX7_worthNow_22 : decode cX7_worthNow 22 = .ok (.if_icmp .ne 7, 3) := by decide +kernel
theorem dX7_worthNow_25 : decode cX7_worthNow 25 = .ok (.iconst 0, 1) := by decide +kernel
theorem dX7_worthNow_26 : decode cX7_worthNow 26 = .ok (.goto 16, 3) := by decide +kernel
theorem dX7_worthNow_29 : decode cX7_worthNow 29 = .ok (.iload 4, 2) := by decide +kernel
theorem dX7_worthNow_31 : decode cX7_worthNow 31 = .ok (.invokestatic 83, 3) := by decide +kernel
theorem dX7_worthNow_34 : decode cX7_worthNow 34 = .ok (.ifCond .eq 7, 3) := by decide +kernel
theorem dX7_worthNow_37 : decode cX7_worthNow 37 = .ok (.iconst 3, 1) := by decide +kernel
theorem dX7_worthNow_38 : decode cX7_worthNow 38 = .ok (.goto 4, 3) := by decide +kernel
theorem dX7_worthNow_41 : decode cX7_worthNow 41 = .ok (.iconst 1, 1) := by decide +kernel
theorem dX7_worthNow_42 : decode cX7_worthNow 42 = .ok (.istore 5, 2) := by decide +kernel
theorem dX7_worthNow_44 : decode cX7_worthNow 44 = .ok (.iload_n 2, 1) := by decide +kernel
theorem dX7_worthNow_45 : decode cX7_worthNow 45 = .ok (.iload 4, 2) := by decide +kernel
theorem dX7_worthNow_47 : decode cX7_worthNow 47 = .ok (.invokestatic 87, 3) := by decide +kernel
theorem dX7_worthNow_50 : decode cX7_worthNow 50 = .ok (.aload_n 0, 1) := by decide +kernel
theorem dX7_worthNow_51 : decode cX7_worthNow 51 = .ok (.getfield 7, 3) := by decide +kernel
theorem dX7_worthNow_54 : decode cX7_worthNow 54 = .ok (.bipush 48, 2) := by decide +kernel
theorem dX7_worthNow_56 : decode cX7_worthNow 56 = .ok (.iaload, 1) := by decide +kernel
theorem dX7_worthNow_57 : decode cX7_worthNow 57 = .ok (.if_icmp .ne 8, 3) := by decide +kernel
theorem dX7_worthNow_60 : decode cX7_worthNow 60 = .ok (.iload 5, 2) := by decide +kernel
theorem dX7_worthNow_62 : decode cX7_worthNow 62 = .ok (.goto 6, 3) := by decide +kernel
theorem dX7_worthNow_65 : decode cX7_worthNow 65 = .ok (.iload 5, 2) := by decide +kernel
theorem dX7_worthNow_67 : decode cX7_worthNow 67 = .ok (.ineg, 1) := by decide +kernel
theorem dX7_worthNow_68 : decode cX7_worthNow 68 = .ok (.iadd, 1) := by decide +kernel
theorem dX7_worthNow_69 : decode cX7_worthNow 69 = .ok (.istore_n 2, 1) := by decide +kernel
theorem dX7_worthNow_70 : decode cX7_worthNow 70 = .ok (.iinc 3 1, 3) := by decide +kernel
theorem dX7_worthNow_73 : decode cX7_worthNow 73 = .ok (.goto (-69), 3) := by decide +kernel
theorem dX7_worthNow_76 : decode cX7_worthNow 76 = .ok (.iload_n 2, 1) := by decide +kernel
theorem dX7_worthNow_77 : decode cX7_worthNow 77 = .ok (.ireturn, 1) := by decide +kernel
theorem dX7_worthLost_0 : decode cX7_worthLost 0 = .ok (.aload_n 0, 1) := by decide +kernel
theorem dX7_worthLost_1 : decode cX7_worthLost 1 = .ok (.iload_n 1, 1) := by decide +kernel
theorem dX7_worthLost_2 : decode cX7_worthLost 2 = .ok (.invokevirtual 183, 3) := by decide +kernel
theorem dX7_worthLost_5 : decode cX7_worthLost 5 = .ok (.aload_n 0, 1) := by decide +kernel
theorem dX7_worthLost_6 : decode cX7_worthLost 6 = .ok (.getfield 30, 3) := by decide +kernel
theorem dX7_worthLost_9 : decode cX7_worthLost 9 = .ok (.iload_n 1, 1) := by decide +kernel
theorem dX7_worthLost_10 : decode cX7_worthLost 10 = .ok (.iaload, 1) := by decide +kernel
theorem dX7_worthLost_11 : decode cX7_worthLost 11 = .ok (.aload_n 0, 1) := by decide +kernel
theorem dX7_worthLost_12 : decode cX7_worthLost 12 = .ok (.getfield 7, 3) := by decide +kernel
theorem dX7_worthLost_15 : decode cX7_worthLost 15 = .ok (.bipush 48, 2) := by decide +kernel
theorem dX7_worthLost_17 : decode cX7_worthLost 17 = .ok (.iaload, 1) := by decide +kernel
theorem dX7_worthLost_18 : decode cX7_worthLost 18 = .ok (.if_icmp .ne 8, 3) := by decide +kernel
theorem dX7_worthLost_21 : decode cX7_worthLost 21 = .ok (.bipush (-100), 2) := by decide +kernel
theorem dX7_worthLost_23 : decode cX7_worthLost 23 = .ok (.goto 5, 3) := by decide +kernel
theorem dX7_worthLost_26 : decode cX7_worthLost 26 = .ok (.bipush 100, 2) := by decide +kernel
theorem dX7_worthLost_28 : decode cX7_worthLost 28 = .ok (.iadd, 1) := by decide +kernel
theorem dX7_worthLost_29 : decode cX7_worthLost 29 = .ok (.ireturn, 1) := by decide +kernel
theorem dX7_isBetter_0 : decode cX7_isBetter 0 = .ok (.aload_n 0, 1) := by decide +kernel
theorem dX7_isBetter_1 : decode cX7_isBetter 1 = .ok (.getfield 30, 3) := by decide +kernel
theorem dX7_isBetter_4 : decode cX7_isBetter 4 = .ok (.iload_n 1, 1) := by decide +kernel
theorem dX7_isBetter_5 : decode cX7_isBetter 5 = .ok (.iaload, 1) := by decide +kernel
theorem dX7_isBetter_6 : decode cX7_isBetter 6 = .ok (.aload_n 0, 1) := by decide +kernel
theorem dX7_isBetter_7 : decode cX7_isBetter 7 = .ok (.getfield 7, 3) := by decide +kernel
theorem dX7_isBetter_10 : decode cX7_isBetter 10 = .ok (.bipush 48, 2) := by decide +kernel
theorem dX7_isBetter_12 : decode cX7_isBetter 12 = .ok (.iaload, 1) := by decide +kernel
theorem dX7_isBetter_13 : decode cX7_isBetter 13 = .ok (.if_icmp .ne 16, 3) := by decide +kernel
theorem dX7_isBetter_16 : decode cX7_isBetter 16 = .ok (.iload_n 2, 1) := by decide +kernel
theorem dX7_isBetter_17 : decode cX7_isBetter 17 = .ok (.iload_n 3, 1) := by decide +kernel
theorem dX7_isBetter_18 : decode cX7_isBetter 18 = .ok (.if_icmp .le 7, 3) := by decide +kernel
theorem dX7_isBetter_21 : decode cX7_isBetter 21 = .ok (.iconst 1, 1) := by decide +kernel
theorem dX7_isBetter_22 : decode cX7_isBetter 22 = .ok (.goto 17, 3) := by decide +kernel
theorem dX7_isBetter_25 : decode cX7_isBetter 25 = .ok (.iconst 0, 1) := by decide +kernel
theorem dX7_isBetter_26 : decode cX7_isBetter 26 = .ok (.goto 13, 3) := by decide +kernel
theorem dX7_isBetter_29 : decode cX7_isBetter 29 = .ok (.iload_n 2, 1) := by decide +kernel
theorem dX7_isBetter_30 : decode cX7_isBetter 30 = .ok (.iload_n 3, 1) := by decide +kernel
theorem dX7_isBetter_31 : decode cX7_isBetter 31 = .ok (.if_icmp .ge 7, 3) := by decide +kernel
theorem dX7_isBetter_34 : decode cX7_isBetter 34 = .ok (.iconst 1, 1) := by decide +kernel
theorem dX7_isBetter_35 : decode cX7_isBetter 35 = .ok (.goto 4, 3) := by decide +kernel
theorem dX7_isBetter_38 : decode cX7_isBetter 38 = .ok (.iconst 0, 1) := by decide +kernel
theorem dX7_isBetter_39 : decode cX7_isBetter 39 = .ok (.ireturn, 1) := by decide +kernel
theorem dX7_worthOfOne_0 : decode cX7_worthOfOne 0 = .ok (.aload_n 0, 1) := by decide +kernel
theorem dX7_worthOfOne_1 : decode cX7_worthOfOne 1 = .ok (.iload_n 1, 1) := by decide +kernel
theorem dX7_worthOfOne_2 : decode cX7_worthOfOne 2 = .ok (.invokevirtual 117, 3) := by decide +kernel
theorem dX7_worthOfOne_5 : decode cX7_worthOfOne 5 = .ok (.aload_n 0, 1) := by decide +kernel
theorem dX7_worthOfOne_6 : decode cX7_worthOfOne 6 = .ok (.getfield 36, 3) := by decide +kernel
theorem dX7_worthOfOne_9 : decode cX7_worthOfOne 9 = .ok (.iload_n 1, 1) := by decide +kernel
theorem dX7_worthOfOne_10 : decode cX7_worthOfOne 10 = .ok (.iaload, 1) := by decide +kernel
theorem dX7_worthOfOne_11 : decode cX7_worthOfOne 11 = .ok (.ifCond .ne 9, 3) := by decide +kernel
theorem dX7_worthOfOne_14 : decode cX7_worthOfOne 14 = .ok (.aload_n 0, 1) := by decide +kernel
theorem dX7_worthOfOne_15 : decode cX7_worthOfOne 15 = .ok (.iload_n 1, 1) := by decide +kernel
theorem dX7_worthOfOne_16 : decode cX7_worthOfOne 16 = .ok (.invokevirtual 186, 3) := by decide +kernel
theorem dX7_worthOfOne_19 : decode cX7_worthOfOne 19 = .ok (.ireturn, 1) := by decide +kernel
theorem dX7_worthOfOne_20 : decode cX7_worthOfOne 20 = .ok (.iconst 0, 1) := by decide +kernel
theorem dX7_worthOfOne_21 : decode cX7_worthOfOne 21 = .ok (.istore_n 2, 1) := by decide +kernel
theorem dX7_worthOfOne_22 : decode cX7_worthOfOne 22 = .ok (.iconst 0, 1) := by decide +kernel
theorem dX7_worthOfOne_23 : decode cX7_worthOfOne 23 = .ok (.istore_n 3, 1) := by decide +kernel
theorem dX7_worthOfOne_24 : decode cX7_worthOfOne 24 = .ok (.iload_n 3, 1) := by decide +kernel
theorem dX7_worthOfOne_25 : decode cX7_worthOfOne 25 = .ok (.aload_n 0, 1) := by decide +kernel
theorem dX7_worthOfOne_26 : decode cX7_worthOfOne 26 = .ok (.getfield 36, 3) := by decide +kernel
theorem dX7_worthOfOne_29 : decode cX7_worthOfOne 29 = .ok (.iload_n 1, 1) := by decide +kernel
theorem dX7_worthOfOne_30 : decode cX7_worthOfOne 30 = .ok (.iaload, 1) := by decide +kernel
theorem dX7_worthOfOne_31 : decode cX7_worthOfOne 31 = .ok (.if_icmp .ge 46, 3) := by decide +kernel
theorem dX7_worthOfOne_34 : decode cX7_worthOfOne 34 = .ok (.aload_n 0, 1) := by decide +kernel
theorem dX7_worthOfOne_35 : decode cX7_worthOfOne 35 = .ok (.iload_n 1, 1) := by decide +kernel
theorem dX7_worthOfOne_36 : decode cX7_worthOfOne 36 = .ok (.iload_n 3, 1) := by decide +kernel
theorem dX7_worthOfOne_37 : decode cX7_worthOfOne 37 = .ok (.invokevirtual 152, 3) := by decide +kernel
theorem dX7_worthOfOne_40 : decode cX7_worthOfOne 40 = .ok (.aload_n 0, 1) := by decide +kernel
theorem dX7_worthOfOne_41 : decode cX7_worthOfOne 41 = .ok (.iload_n 1, 1) := by decide +kernel
theorem dX7_worthOfOne_42 : decode cX7_worthOfOne 42 = .ok (.iconst 1, 1) := by decide +kernel
theorem dX7_worthOfOne_43 : decode cX7_worthOfOne 43 = .ok (.iadd, 1) := by decide +kernel
theorem dX7_worthOfOne_44 : decode cX7_worthOfOne 44 = .ok (.invokevirtual 183, 3) := by decide +kernel
theorem dX7_worthOfOne_47 : decode cX7_worthOfOne 47 = .ok (.istore 4, 2) := by decide +kernel
theorem dX7_worthOfOne_49 : decode cX7_worthOfOne 49 = .ok (.iload_n 3, 1) := by decide +kernel
theorem dX7_worthOfOne_50 : decode cX7_worthOfOne 50 = .ok (.ifCond .eq 14, 3) := by decide +kernel
theorem dX7_worthOfOne_53 : decode cX7_worthOfOne 53 = .ok (.aload_n 0, 1) := by decide +kernel
theorem dX7_worthOfOne_54 : decode cX7_worthOfOne 54 = .ok (.iload_n 1, 1) := by decide +kernel
theorem dX7_worthOfOne_55 : decode cX7_worthOfOne 55 = .ok (.iload 4, 2) := by decide +kernel
theorem dX7_worthOfOne_57 : decode cX7_worthOfOne 57 = .ok (.iload_n 2, 1) := by decide +kernel
theorem dX7_worthOfOne_58 : decode cX7_worthOfOne 58 = .ok (.invokevirtual 189, 3) := by decide +kernel
theorem dX7_worthOfOne_61 : decode cX7_worthOfOne 61 = .ok (.ifCond .eq 8, 3) := by decide +kernel
theorem dX7_worthOfOne_64 : decode cX7_worthOfOne 64 = .ok (.iload 4, 2) := by decide +kernel
theorem dX7_worthOfOne_66 : decode cX7_worthOfOne 66 = .ok (.goto 4, 3) := by decide +kernel
theorem dX7_worthOfOne_69 : decode cX7_worthOfOne 69 = .ok (.iload_n 2, 1) := by decide +kernel
theorem dX7_worthOfOne_70 : decode cX7_worthOfOne 70 = .ok (.istore_n 2, 1) := by decide +kernel
theorem dX7_worthOfOne_71 : decode cX7_worthOfOne 71 = .ok (.iinc 3 1, 3) := by decide +kernel
theorem dX7_worthOfOne_74 : decode cX7_worthOfOne 74 = .ok (.goto (-50), 3) := by decide +kernel
theorem dX7_worthOfOne_77 : decode cX7_worthOfOne 77 = .ok (.iload_n 2, 1) := by decide +kernel
theorem dX7_worthOfOne_78 : decode cX7_worthOfOne 78 = .ok (.ireturn, 1) := by decide +kernel
theorem dX7_worthOfTwo_0 : decode cX7_worthOfTwo 0 = .ok (.aload_n 0, 1) := by decide +kernel
theorem dX7_worthOfTwo_1 : decode cX7_worthOfTwo 1 = .ok (.invokevirtual 124, 3) := by decide +kernel
theorem dX7_worthOfTwo_4 : decode cX7_worthOfTwo 4 = .ok (.iconst 0, 1) := by decide +kernel
theorem dX7_worthOfTwo_5 : decode cX7_worthOfTwo 5 = .ok (.istore_n 1, 1) := by decide +kernel
theorem dX7_worthOfTwo_6 : decode cX7_worthOfTwo 6 = .ok (.iconst 0, 1) := by decide +kernel
theorem dX7_worthOfTwo_7 : decode cX7_worthOfTwo 7 = .ok (.istore_n 2, 1) := by decide +kernel
theorem dX7_worthOfTwo_8 : decode cX7_worthOfTwo 8 = .ok (.iload_n 2, 1) := by decide +kernel
theorem dX7_worthOfTwo_9 : decode cX7_worthOfTwo 9 = .ok (.aload_n 0, 1) := by decide +kernel
theorem dX7_worthOfTwo_10 : decode cX7_worthOfTwo 10 = .ok (.getfield 36, 3) := by decide +kernel
theorem dX7_worthOfTwo_13 : decode cX7_worthOfTwo 13 = .ok (.iconst 0, 1) := by decide +kernel
theorem dX7_worthOfTwo_14 : decode cX7_worthOfTwo 14 = .ok (.iaload, 1) := by decide +kernel
theorem dX7_worthOfTwo_15 : decode cX7_worthOfTwo 15 = .ok (.if_icmp .ge 41, 3) := by decide +kernel
theorem dX7_worthOfTwo_18 : decode cX7_worthOfTwo 18 = .ok (.aload_n 0, 1) := by decide +kernel
theorem dX7_worthOfTwo_19 : decode cX7_worthOfTwo 19 = .ok (.iconst 0, 1) := by decide +kernel
theorem dX7_worthOfTwo_20 : decode cX7_worthOfTwo 20 = .ok (.iload_n 2, 1) := by decide +kernel
theorem dX7_worthOfTwo_21 : decode cX7_worthOfTwo 21 = .ok (.invokevirtual 152, 3) := by decide +kernel
theorem dX7_worthOfTwo_24 : decode cX7_worthOfTwo 24 = .ok (.aload_n 0, 1) := by decide +kernel
theorem dX7_worthOfTwo_25 : decode cX7_worthOfTwo 25 = .ok (.iconst 1, 1) := by decide +kernel
theorem dX7_worthOfTwo_26 : decode cX7_worthOfTwo 26 = .ok (.invokevirtual 192, 3) := by decide +kernel
theorem dX7_worthOfTwo_29 : decode cX7_worthOfTwo 29 = .ok (.istore_n 3, 1) := by decide +kernel
theorem dX7_worthOfTwo_30 : decode cX7_worthOfTwo 30 = .ok (.iload_n 2, 1) := by decide +kernel
theorem dX7_worthOfTwo_31 : decode cX7_worthOfTwo 31 = .ok (.ifCond .eq 13, 3) := by decide +kernel
theorem dX7_worthOfTwo_34 : decode cX7_worthOfTwo 34 = .ok (.aload_n 0, 1) := by decide +kernel
theorem dX7_worthOfTwo_35 : decode cX7_worthOfTwo 35 = .ok (.iconst 0, 1) := by decide +kernel
theorem dX7_worthOfTwo_36 : decode cX7_worthOfTwo 36 = .ok (.iload_n 3, 1) := by decide +kernel
theorem dX7_worthOfTwo_37 : decode cX7_worthOfTwo 37 = .ok (.iload_n 1, 1) := by decide +kernel
theorem dX7_worthOfTwo_38 : decode cX7_worthOfTwo 38 = .ok (.invokevirtual 189, 3) := by decide +kernel
theorem dX7_worthOfTwo_41 : decode cX7_worthOfTwo 41 = .ok (.ifCond .eq 7, 3) := by decide +kernel
theorem dX7_worthOfTwo_44 : decode cX7_worthOfTwo 44 = .ok (.iload_n 3, 1) := by decide +kernel
theorem dX7_worthOfTwo_45 : decode cX7_worthOfTwo 45 = .ok (.goto 4, 3) := by decide +kernel
theorem dX7_worthOfTwo_48 : decode cX7_worthOfTwo 48 = .ok (.iload_n 1, 1) := by decide +kernel
theorem dX7_worthOfTwo_49 : decode cX7_worthOfTwo 49 = .ok (.istore_n 1, 1) := by decide +kernel
theorem dX7_worthOfTwo_50 : decode cX7_worthOfTwo 50 = .ok (.iinc 2 1, 3) := by decide +kernel
theorem dX7_worthOfTwo_53 : decode cX7_worthOfTwo 53 = .ok (.goto (-45), 3) := by decide +kernel
theorem dX7_worthOfTwo_56 : decode cX7_worthOfTwo 56 = .ok (.iload_n 1, 1) := by decide +kernel
theorem dX7_worthOfTwo_57 : decode cX7_worthOfTwo 57 = .ok (.ireturn, 1) := by decide +kernel
theorem dX7_worth_0 : decode cX7_worth 0 = .ok (.iload_n 1, 1) := by decide +kernel
theorem dX7_worth_1 : decode cX7_worth 1 = .ok (.iconst 0, 1) := by decide +kernel
theorem dX7_worth_2 : decode cX7_worth 2 = .ok (.iconst 2, 1) := by decide +kernel
theorem dX7_worth_3 : decode cX7_worth 3 = .ok (.invokestatic 61, 3) := by decide +kernel
theorem dX7_worth_6 : decode cX7_worth 6 = .ok (.ifCond .ne 6, 3) := by decide +kernel
theorem dX7_worth_9 : decode cX7_worth 9 = .ok (.bipush (-2), 2) := by decide +kernel
theorem dX7_worth_11 : decode cX7_worth 11 = .ok (.ireturn, 1) := by decide +kernel
theorem dX7_worth_12 : decode cX7_worth 12 = .ok (.aload_n 0, 1) := by decide +kernel
theorem dX7_worth_13 : decode cX7_worth 13 = .ok (.getfield 7, 3) := by decide +kernel
theorem dX7_worth_16 : decode cX7_worth 16 = .ok (.bipush 49, 2) := by decide +kernel
theorem dX7_worth_18 : decode cX7_worth 18 = .ok (.iaload, 1) := by decide +kernel
theorem dX7_worth_19 : decode cX7_worth 19 = .ok (.ifCond .eq 6, 3) := by decide +kernel
theorem dX7_worth_22 : decode cX7_worth 22 = .ok (.bipush (-5), 2) := by decide +kernel
theorem dX7_worth_24 : decode cX7_worth 24 = .ok (.ireturn, 1) := by decide +kernel
theorem dX7_worth_25 : decode cX7_worth 25 = .ok (.aload_n 0, 1) := by decide +kernel
theorem dX7_worth_26 : decode cX7_worth 26 = .ok (.invokevirtual 124, 3) := by decide +kernel
theorem dX7_worth_29 : decode cX7_worth 29 = .ok (.sipush 1000, 3) := by decide +kernel
theorem dX7_worth_32 : decode cX7_worth 32 = .ok (.iload_n 1, 1) := by decide +kernel
theorem dX7_worth_33 : decode cX7_worth 33 = .ok (.ifCond .ne 11, 3) := by decide +kernel
theorem dX7_worth_36 : decode cX7_worth 36 = .ok (.aload_n 0, 1) := by decide +kernel
theorem dX7_worth_37 : decode cX7_worth 37 = .ok (.iconst 0, 1) := by decide +kernel
theorem dX7_worth_38 : decode cX7_worth 38 = .ok (.invokevirtual 183, 3) := by decide +kernel
theorem dX7_worth_41 : decode cX7_worth 41 = .ok (.goto 20, 3) := by decide +kernel
theorem dX7_worth_44 : decode cX7_worth 44 = .ok (.iload_n 1, 1) := by decide +kernel
theorem dX7_worth_45 : decode cX7_worth 45 = .ok (.iconst 1, 1) := by decide +kernel
theorem dX7_worth_46 : decode cX7_worth 46 = .ok (.if_icmp .ne 11, 3) := by decide +kernel
theorem dX7_worth_49 : decode cX7_worth 49 = .ok (.aload_n 0, 1) := by decide +kernel
theorem dX7_worth_50 : decode cX7_worth 50 = .ok (.iconst 0, 1) := by decide +kernel
theorem dX7_worth_51 : decode cX7_worth 51 = .ok (.invokevirtual 192, 3) := by decide +kernel
theorem dX7_worth_54 : decode cX7_worth 54 = .ok (.goto 7, 3) := by decide +kernel
theorem dX7_worth_57 : decode cX7_worth 57 = .ok (.aload_n 0, 1) := by decide +kernel
theorem dX7_worth_58 : decode cX7_worth 58 = .ok (.invokevirtual 195, 3) := by decide +kernel
theorem dX7_worth_61 : decode cX7_worth 61 = .ok (.iadd, 1) := by decide +kernel
theorem dX7_worth_62 : decode cX7_worth 62 = .ok (.ireturn, 1) := by decide +kernel
theorem dX7_best_0 : decode cX7_best 0 = .ok (.iload_n 1, 1) := by decide +kernel
theorem dX7_best_1 : decode cX7_best 1 = .ok (.iconst 1, 1) := by decide +kernel
theorem dX7_best_2 : decode cX7_best 2 = .ok (.iconst 2, 1) := by decide +kernel
theorem dX7_best_3 : decode cX7_best 3 = .ok (.invokestatic 61, 3) := by decide +kernel
theorem dX7_best_6 : decode cX7_best 6 = .ok (.ifCond .ne 6, 3) := by decide +kernel
theorem dX7_best_9 : decode cX7_best 9 = .ok (.bipush (-2), 2) := by decide +kernel
theorem dX7_best_11 : decode cX7_best 11 = .ok (.ireturn, 1) := by decide +kernel
theorem dX7_best_12 : decode cX7_best 12 = .ok (.aload_n 0, 1) := by decide +kernel
theorem dX7_best_13 : decode cX7_best 13 = .ok (.getfield 7, 3) := by decide +kernel
theorem dX7_best_16 : decode cX7_best 16 = .ok (.bipush 49, 2) := by decide +kernel
theorem dX7_best_18 : decode cX7_best 18 = .ok (.iaload, 1) := by decide +kernel
theorem dX7_best_19 : decode cX7_best 19 = .ok (.ifCond .eq 6, 3) := by decide +kernel
theorem dX7_best_22 : decode cX7_best 22 = .ok (.bipush (-5), 2) := by decide +kernel
theorem dX7_best_24 : decode cX7_best 24 = .ok (.ireturn, 1) := by decide +kernel
theorem dX7_best_25 : decode cX7_best 25 = .ok (.aload_n 0, 1) := by decide +kernel
theorem dX7_best_26 : decode cX7_best 26 = .ok (.invokevirtual 124, 3) := by decide +kernel
theorem dX7_best_29 : decode cX7_best 29 = .ok (.bipush (-6), 2) := by decide +kernel
theorem dX7_best_31 : decode cX7_best 31 = .ok (.istore_n 2, 1) := by decide +kernel
theorem dX7_best_32 : decode cX7_best 32 = .ok (.iconst 0, 1) := by decide +kernel
theorem dX7_best_33 : decode cX7_best 33 = .ok (.istore_n 3, 1) := by decide +kernel
theorem dX7_best_34 : decode cX7_best 34 = .ok (.iconst 0, 1) := by decide +kernel
theorem dX7_best_35 : decode cX7_best 35 = .ok (.istore 4, 2) := by decide +kernel
theorem dX7_best_37 : decode cX7_best 37 = .ok (.iload 4, 2) := by decide +kernel
theorem dX7_best_39 : decode cX7_best 39 = .ok (.aload_n 0, 1) := by decide +kernel
theorem dX7_best_40 : decode cX7_best 40 = .ok (.getfield 36, 3) := by decide +kernel
theorem dX7_best_43 : decode cX7_best 43 = .ok (.iconst 0, 1) := by decide +kernel
theorem dX7_best_44 : decode cX7_best 44 = .ok (.iaload, 1) := by decide +kernel
theorem dX7_best_45 : decode cX7_best 45 = .ok (.if_icmp .ge 79, 3) := by decide +kernel
theorem dX7_best_48 : decode cX7_best 48 = .ok (.aload_n 0, 1) := by decide +kernel
theorem dX7_best_49 : decode cX7_best 49 = .ok (.iconst 0, 1) := by decide +kernel
theorem dX7_best_50 : decode cX7_best 50 = .ok (.iload 4, 2) := by decide +kernel
theorem dX7_best_52 : decode cX7_best 52 = .ok (.invokevirtual 152, 3) := by decide +kernel
theorem dX7_best_55 : decode cX7_best 55 = .ok (.iload_n 1, 1) := by decide +kernel
theorem dX7_best_56 : decode cX7_best 56 = .ok (.iconst 1, 1) := by decide +kernel
theorem dX7_best_57 : decode cX7_best 57 = .ok (.if_icmp .ne 11, 3) := by decide +kernel
theorem dX7_best_60 : decode cX7_best 60 = .ok (.aload_n 0, 1) := by decide +kernel
theorem dX7_best_61 : decode cX7_best 61 = .ok (.iconst 1, 1) := by decide +kernel
theorem dX7_best_62 : decode cX7_best 62 = .ok (.invokevirtual 183, 3) := by decide +kernel
theorem dX7_best_65 : decode cX7_best 65 = .ok (.goto 8, 3) := by decide +kernel
theorem dX7_best_68 : decode cX7_best 68 = .ok (.aload_n 0, 1) := by decide +kernel
theorem dX7_best_69 : decode cX7_best 69 = .ok (.iconst 1, 1) := by decide +kernel
theorem dX7_best_70 : decode cX7_best 70 = .ok (.invokevirtual 192, 3) := by decide +kernel
theorem dX7_best_73 : decode cX7_best 73 = .ok (.istore 5, 2) := by decide +kernel
theorem dX7_best_75 : decode cX7_best 75 = .ok (.iload_n 2, 1) := by decide +kernel
theorem dX7_best_76 : decode cX7_best 76 = .ok (.bipush (-6), 2) := by decide +kernel
theorem dX7_best_78 : decode cX7_best 78 = .ok (.if_icmp .eq 9, 3) := by decide +kernel
theorem dX7_best_81 : decode cX7_best 81 = .ok (.iload 5, 2) := by decide +kernel
theorem dX7_best_83 : decode cX7_best 83 = .ok (.iload_n 3, 1) := by decide +kernel
theorem dX7_best_84 : decode cX7_best 84 = .ok (.if_icmp .le 7, 3) := by decide +kernel
theorem dX7_best_87 : decode cX7_best 87 = .ok (.iconst 1, 1) := by decide +kernel
theorem dX7_best_88 : decode cX7_best 88 = .ok (.goto 4, 3) := by decide +kernel
theorem dX7_best_91 : decode cX7_best 91 = .ok (.iconst 0, 1) := by decide +kernel
theorem dX7_best_92 : decode cX7_best 92 = .ok (.istore 6, 2) := by decide +kernel
theorem dX7_best_94 : decode cX7_best 94 = .ok (.iload 6, 2) := by decide +kernel
theorem dX7_best_96 : decode cX7_best 96 = .ok (.ifCond .eq 8, 3) := by decide +kernel
theorem dX7_best_99 : decode cX7_best 99 = .ok (.iload 4, 2) := by decide +kernel
theorem dX7_best_101 : decode cX7_best 101 = .ok (.goto 4, 3) := by decide +kernel
theorem dX7_best_104 : decode cX7_best 104 = .ok (.iload_n 2, 1) := by decide +kernel
theorem dX7_best_105 : decode cX7_best 105 = .ok (.istore_n 2, 1) := by decide +kernel
theorem dX7_best_106 : decode cX7_best 106 = .ok (.iload 6, 2) := by decide +kernel
theorem dX7_best_108 : decode cX7_best 108 = .ok (.ifCond .eq 8, 3) := by decide +kernel
theorem dX7_best_111 : decode cX7_best 111 = .ok (.iload 5, 2) := by decide +kernel
theorem dX7_best_113 : decode cX7_best 113 = .ok (.goto 4, 3) := by decide +kernel
theorem dX7_best_116 : decode cX7_best 116 = .ok (.iload_n 3, 1) := by decide +kernel
theorem dX7_best_117 : decode cX7_best 117 = .ok (.istore_n 3, 1) := by decide +kernel
theorem dX7_best_118 : decode cX7_best 118 = .ok (.iinc 4 1, 3) := by decide +kernel
theorem dX7_best_121 : decode cX7_best 121 = .ok (.goto (-84), 3) := by decide +kernel
theorem dX7_best_124 : decode cX7_best 124 = .ok (.iload_n 2, 1) := by decide +kernel
theorem dX7_best_125 : decode cX7_best 125 = .ok (.ireturn, 1) := by decide +kernel
theorem dX7_put_0 : decode cX7_put 0 = .ok (.iconst 0, 1) := by decide +kernel
theorem dX7_put_1 : decode cX7_put 1 = .ok (.istore_n 3, 1) := by decide +kernel
theorem dX7_put_2 : decode cX7_put 2 = .ok (.lload_n 1, 1) := by decide +kernel
theorem dX7_put_3 : decode cX7_put 3 = .ok (.lstore 4, 2) := by decide +kernel
theorem dX7_put_5 : decode cX7_put 5 = .ok (.iconst 1, 1) := by decide +kernel
theorem dX7_put_6 : decode cX7_put 6 = .ok (.istore 6, 2) := by decide +kernel
theorem dX7_put_8 : decode cX7_put 8 = .ok (.lload 4, 2) := by decide +kernel
theorem dX7_put_10 : decode cX7_put 10 = .ok (.lconst 0, 1) := by decide +kernel
theorem dX7_put_11 : decode cX7_put 11 = .ok (.lcmp, 1) := by decide +kernel
theorem dX7_put_12 : decode cX7_put 12 = .ok (.ifCond .eq 37, 3) := by decide +kernel
theorem dX7_put_15 : decode cX7_put 15 = .ok (.iload 6, 2) := by decide +kernel
theorem dX7_put_17 : decode cX7_put 17 = .ok (.ifCond .eq 32, 3) := by decide +kernel
theorem dX7_put_20 : decode cX7_put 20 = .ok (.lload 4, 2) := by decide +kernel
theorem dX7_put_22 : decode cX7_put 22 = .ok (.ldc2_w 198, 3) := by decide +kernel
theorem dX7_put_25 : decode cX7_put 25 = .ok (.land, 1) := by decide +kernel
theorem dX7_put_26 : decode cX7_put 26 = .ok (.l2i, 1) := by decide +kernel
theorem dX7_put_27 : decode cX7_put 27 = .ok (.bipush 33, 2) := by decide +kernel
theorem dX7_put_29 : decode cX7_put 29 = .ok (.bipush 126, 2) := by decide +kernel
theorem dX7_put_31 : decode cX7_put 31 = .ok (.invokestatic 61, 3) := by decide +kernel
theorem dX7_put_34 : decode cX7_put 34 = .ok (.istore 6, 2) := by decide +kernel
theorem dX7_put_36 : decode cX7_put 36 = .ok (.lload 4, 2) := by decide +kernel
theorem dX7_put_38 : decode cX7_put 38 = .ok (.bipush 8, 2) := by decide +kernel
theorem dX7_put_40 : decode cX7_put 40 = .ok (.lushr, 1) := by decide +kernel
theorem dX7_put_41 : decode cX7_put 41 = .ok (.lstore 4, 2) := by decide +kernel
theorem dX7_put_43 : decode cX7_put 43 = .ok (.iinc 3 1, 3) := by decide +kernel
theorem dX7_put_46 : decode cX7_put 46 = .ok (.goto (-38), 3) := by decide +kernel
theorem dX7_put_49 : decode cX7_put 49 = .ok (.iload_n 3, 1) := by decide +kernel
theorem dX7_put_50 : decode cX7_put 50 = .ok (.ifCond .eq 8, 3) := by decide +kernel
theorem dX7_put_53 : decode cX7_put 53 = .ok (.iload 6, 2) := by decide +kernel
theorem dX7_put_55 : decode cX7_put 55 = .ok (.ifCond .ne 6, 3) := by decide +kernel
theorem dX7_put_58 : decode cX7_put 58 = .ok (.bipush (-2), 2) := by decide +kernel
theorem dX7_put_60 : decode cX7_put 60 = .ok (.ireturn, 1) := by decide +kernel
theorem dX7_put_61 : decode cX7_put 61 = .ok (.aload_n 0, 1) := by decide +kernel
theorem dX7_put_62 : decode cX7_put 62 = .ok (.getfield 174, 3) := by decide +kernel
theorem dX7_put_65 : decode cX7_put 65 = .ok (.iload_n 3, 1) := by decide +kernel
theorem dX7_put_66 : decode cX7_put 66 = .ok (.iadd, 1) := by decide +kernel
theorem dX7_put_67 : decode cX7_put 67 = .ok (.bipush 60, 2) := by decide +kernel
theorem dX7_put_69 : decode cX7_put 69 = .ok (.if_icmp .le 6, 3) := by decide +kernel
theorem dX7_put_72 : decode cX7_put 72 = .ok (.bipush (-4), 2) := by decide +kernel
theorem dX7_put_74 : decode cX7_put 74 = .ok (.ireturn, 1) := by decide +kernel
theorem dX7_put_75 : decode cX7_put 75 = .ok (.iload_n 3, 1) := by decide +kernel
theorem dX7_put_76 : decode cX7_put 76 = .ok (.iconst 1, 1) := by decide +kernel
theorem dX7_put_77 : decode cX7_put 77 = .ok (.isub, 1) := by decide +kernel
theorem dX7_put_78 : decode cX7_put 78 = .ok (.istore 7, 2) := by decide +kernel
theorem dX7_put_80 : decode cX7_put 80 = .ok (.iload 7, 2) := by decide +kernel
theorem dX7_put_82 : decode cX7_put 82 = .ok (.ifCond .lt 41, 3) := by decide +kernel
theorem dX7_put_85 : decode cX7_put 85 = .ok (.aload_n 0, 1) := by decide +kernel
theorem dX7_put_86 : decode cX7_put 86 = .ok (.getfield 23, 3) := by decide +kernel
theorem dX7_put_89 : decode cX7_put 89 = .ok (.aload_n 0, 1) := by decide +kernel
theorem dX7_put_90 : decode cX7_put 90 = .ok (.getfield 174, 3) := by decide +kernel
theorem dX7_put_93 : decode cX7_put 93 = .ok (.lload_n 1, 1) := by decide +kernel
theorem dX7_put_94 : decode cX7_put 94 = .ok (.bipush 8, 2) := by decide +kernel
theorem dX7_put_96 : decode cX7_put 96 = .ok (.iload 7, 2) := by decide +kernel
theorem dX7_put_98 : decode cX7_put 98 = .ok (.imul, 1) := by decide +kernel
theorem dX7_put_99 : decode cX7_put 99 = .ok (.lushr, 1) := by decide +kernel
theorem dX7_put_100 : decode cX7_put 100 = .ok (.ldc2_w 198, 3) := by decide +kernel
theorem dX7_put_103 : decode cX7_put 103 = .ok (.land, 1) := by decide +kernel
theorem dX7_put_104 : decode cX7_put 104 = .ok (.l2i, 1) := by decide +kernel
theorem dX7_put_105 : decode cX7_put 105 = .ok (.i2c, 1) := by decide +kernel
theorem dX7_put_106 : decode cX7_put 106 = .ok (.castore, 1) := by decide +kernel
theorem dX7_put_107 : decode cX7_put 107 = .ok (.aload_n 0, 1) := by decide +kernel
theorem dX7_put_108 : decode cX7_put 108 = .ok (.dup, 1) := by decide +kernel
theorem dX7_put_109 : decode cX7_put 109 = .ok (.getfield 174, 3) := by decide +kernel
theorem dX7_put_112 : decode cX7_put 112 = .ok (.iconst 1, 1) := by decide +kernel
theorem dX7_put_113 : decode cX7_put 113 = .ok (.iadd, 1) := by decide +kernel
theorem dX7_put_114 : decode cX7_put 114 = .ok (.putfield 174, 3) := by decide +kernel
theorem dX7_put_117 : decode cX7_put 117 = .ok (.iinc 7 (-1), 3) := by decide +kernel
theorem dX7_put_120 : decode cX7_put 120 = .ok (.goto (-40), 3) := by decide +kernel
theorem dX7_put_123 : decode cX7_put 123 = .ok (.aload_n 0, 1) := by decide +kernel
theorem dX7_put_124 : decode cX7_put 124 = .ok (.getfield 174, 3) := by decide +kernel
theorem dX7_put_127 : decode cX7_put 127 = .ok (.ireturn, 1) := by decide +kernel
theorem dX7_wipe_0 : decode cX7_wipe 0 = .ok (.aload_n 0, 1) := by decide +kernel
theorem dX7_wipe_1 : decode cX7_wipe 1 = .ok (.getfield 174, 3) := by decide +kernel
theorem dX7_wipe_4 : decode cX7_wipe 4 = .ok (.istore_n 1, 1) := by decide +kernel
theorem dX7_wipe_5 : decode cX7_wipe 5 = .ok (.aload_n 0, 1) := by decide +kernel
theorem dX7_wipe_6 : decode cX7_wipe 6 = .ok (.iconst 0, 1) := by decide +kernel
theorem dX7_wipe_7 : decode cX7_wipe 7 = .ok (.putfield 174, 3) := by decide +kernel
theorem dX7_wipe_10 : decode cX7_wipe 10 = .ok (.iload_n 1, 1) := by decide +kernel
theorem dX7_wipe_11 : decode cX7_wipe 11 = .ok (.ireturn, 1) := by decide +kernel
theorem dX7_letter_0 : decode cX7_letter 0 = .ok (.aload_n 0, 1) := by decide +kernel
theorem dX7_letter_1 : decode cX7_letter 1 = .ok (.getfield 200, 3) := by decide +kernel
theorem dX7_letter_4 : decode cX7_letter 4 = .ok (.aload_n 0, 1) := by decide +kernel
theorem dX7_letter_5 : decode cX7_letter 5 = .ok (.getfield 174, 3) := by decide +kernel
theorem dX7_letter_8 : decode cX7_letter 8 = .ok (.if_icmp .ge 15, 3) := by decide +kernel
theorem dX7_letter_11 : decode cX7_letter 11 = .ok (.aload_n 0, 1) := by decide +kernel
theorem dX7_letter_12 : decode cX7_letter 12 = .ok (.getfield 23, 3) := by decide +kernel
theorem dX7_letter_15 : decode cX7_letter 15 = .ok (.aload_n 0, 1) := by decide +kernel
theorem dX7_letter_16 : decode cX7_letter 16 = .ok (.getfield 200, 3) := by decide +kernel
theorem dX7_letter_19 : decode cX7_letter 19 = .ok (.caload, 1) := by decide +kernel
theorem dX7_letter_20 : decode cX7_letter 20 = .ok (.goto 5, 3) := by decide +kernel
theorem dX7_letter_23 : decode cX7_letter 23 = .ok (.bipush (-6), 2) := by decide +kernel
theorem dX7_letter_25 : decode cX7_letter 25 = .ok (.ireturn, 1) := by decide +kernel
theorem dX7_wants_0 : decode cX7_wants 0 = .ok (.aload_n 0, 1) := by decide +kernel
theorem dX7_wants_1 : decode cX7_wants 1 = .ok (.getfield 203, 3) := by decide +kernel
theorem dX7_wants_4 : decode cX7_wants 4 = .ok (.bipush (-6), 2) := by decide +kernel
theorem dX7_wants_6 : decode cX7_wants 6 = .ok (.if_icmp .ne 30, 3) := by decide +kernel
theorem dX7_wants_9 : decode cX7_wants 9 = .ok (.aload_n 0, 1) := by decide +kernel
theorem dX7_wants_10 : decode cX7_wants 10 = .ok (.iload_n 1, 1) := by decide +kernel
theorem dX7_wants_11 : decode cX7_wants 11 = .ok (.ifCond .eq 8, 3) := by decide +kernel
theorem dX7_wants_14 : decode cX7_wants 14 = .ok (.bipush (-6), 2) := by decide +kernel
theorem dX7_wants_16 : decode cX7_wants 16 = .ok (.goto 7, 3) := by decide +kernel
theorem dX7_wants_19 : decode cX7_wants 19 = .ok (.aload_n 0, 1) := by decide +kernel
theorem dX7_wants_20 : decode cX7_wants 20 = .ok (.getfield 200, 3) := by decide +kernel
theorem dX7_wants_23 : decode cX7_wants 23 = .ok (.putfield 203, 3) := by decide +kernel
theorem dX7_wants_26 : decode cX7_wants 26 = .ok (.aload_n 0, 1) := by decide +kernel
theorem dX7_wants_27 : decode cX7_wants 27 = .ok (.dup, 1) := by decide +kernel
theorem dX7_wants_28 : decode cX7_wants 28 = .ok (.getfield 200, 3) := by decide +kernel
theorem dX7_wants_31 : decode cX7_wants 31 = .ok (.iconst 1, 1) := by decide +kernel
theorem dX7_wants_32 : decode cX7_wants 32 = .ok (.iadd, 1) := by decide +kernel
theorem dX7_wants_33 : decode cX7_wants 33 = .ok (.putfield 200, 3) := by decide +kernel
theorem dX7_wants_36 : decode cX7_wants 36 = .ok (.return_, 1) := by decide +kernel
theorem dX7_number_0 : decode cX7_number 0 = .ok (.aload_n 0, 1) := by decide +kernel
theorem dX7_number_1 : decode cX7_number 1 = .ok (.invokevirtual 206, 3) := by decide +kernel
theorem dX7_number_4 : decode cX7_number 4 = .ok (.bipush 48, 2) := by decide +kernel
theorem dX7_number_6 : decode cX7_number 6 = .ok (.isub, 1) := by decide +kernel
theorem dX7_number_7 : decode cX7_number 7 = .ok (.istore_n 1, 1) := by decide +kernel
theorem dX7_number_8 : decode cX7_number 8 = .ok (.aload_n 0, 1) := by decide +kernel
theorem dX7_number_9 : decode cX7_number 9 = .ok (.iload_n 1, 1) := by decide +kernel
theorem dX7_number_10 : decode cX7_number 10 = .ok (.iconst 0, 1) := by decide +kernel
theorem dX7_number_11 : decode cX7_number 11 = .ok (.bipush 9, 2) := by decide +kernel
theorem dX7_number_13 : decode cX7_number 13 = .ok (.invokestatic 61, 3) := by decide +kernel
theorem dX7_number_16 : decode cX7_number 16 = .ok (.invokevirtual 209, 3) := by decide +kernel
theorem dX7_number_19 : decode cX7_number 19 = .ok (.aload_n 0, 1) := by decide +kernel
theorem dX7_number_20 : decode cX7_number 20 = .ok (.invokevirtual 206, 3) := by decide +kernel
theorem dX7_number_23 : decode cX7_number 23 = .ok (.bipush 48, 2) := by decide +kernel
theorem dX7_number_25 : decode cX7_number 25 = .ok (.isub, 1) := by decide +kernel
theorem dX7_number_26 : decode cX7_number 26 = .ok (.istore_n 2, 1) := by decide +kernel
theorem dX7_number_27 : decode cX7_number 27 = .ok (.aload_n 0, 1) := by decide +kernel
theorem dX7_number_28 : decode cX7_number 28 = .ok (.getfield 203, 3) := by decide +kernel
theorem dX7_number_31 : decode cX7_number 31 = .ok (.bipush (-6), 2) := by decide +kernel
theorem dX7_number_33 : decode cX7_number 33 = .ok (.if_icmp .ne 45, 3) := by decide +kernel
theorem dX7_number_36 : decode cX7_number 36 = .ok (.iload_n 1, 1) := by decide +kernel
theorem dX7_number_37 : decode cX7_number 37 = .ok (.ifCond .le 41, 3) := by decide +kernel
theorem dX7_number_40 : decode cX7_number 40 = .ok (.iload_n 2, 1) := by decide +kernel
theorem dX7_number_41 : decode cX7_number 41 = .ok (.iconst 0, 1) := by decide +kernel
theorem dX7_number_42 : decode cX7_number 42 = .ok (.bipush 9, 2) := by decide +kernel
theorem dX7_number_44 : decode cX7_number 44 = .ok (.invokestatic 61, 3) := by decide +kernel
theorem dX7_number_47 : decode cX7_number 47 = .ok (.ifCond .eq 31, 3) := by decide +kernel
theorem dX7_number_50 : decode cX7_number 50 = .ok (.bipush 10, 2) := by decide +kernel
theorem dX7_number_52 : decode cX7_number 52 = .ok (.iload_n 1, 1) := by decide +kernel
theorem dX7_number_53 : decode cX7_number 53 = .ok (.imul, 1) := by decide +kernel
theorem dX7_number_54 : decode cX7_number 54 = .ok (.iload_n 2, 1) := by decide +kernel
theorem dX7_number_55 : decode cX7_number 55 = .ok (.iadd, 1) := by decide +kernel
theorem dX7_number_56 : decode cX7_number 56 = .ok (.bipush 48, 2) := by decide +kernel
theorem dX7_number_58 : decode cX7_number 58 = .ok (.if_icmp .ge 20, 3) := by decide +kernel
theorem dX7_number_61 : decode cX7_number 61 = .ok (.bipush 10, 2) := by decide +kernel
theorem dX7_number_63 : decode cX7_number 63 = .ok (.iload_n 1, 1) := by decide +kernel
theorem dX7_number_64 : decode cX7_number 64 = .ok (.imul, 1) := by decide +kernel
theorem dX7_number_65 : decode cX7_number 65 = .ok (.iload_n 2, 1) := by decide +kernel
theorem dX7_number_66 : decode cX7_number 66 = .ok (.iadd, 1) := by decide +kernel
theorem dX7_number_67 : decode cX7_number 67 = .ok (.istore_n 1, 1) := by decide +kernel
theorem dX7_number_68 : decode cX7_number 68 = .ok (.aload_n 0, 1) := by decide +kernel
theorem dX7_number_69 : decode cX7_number 69 = .ok (.dup, 1) := by decide +kernel
theorem dX7_number_70 : decode cX7_number 70 = .ok (.getfield 200, 3) := by decide +kernel
theorem dX7_number_73 : decode cX7_number 73 = .ok (.iconst 1, 1) := by decide +kernel
theorem dX7_number_74 : decode cX7_number 74 = .ok (.iadd, 1) := by decide +kernel
theorem dX7_number_75 : decode cX7_number 75 = .ok (.putfield 200, 3) := by decide +kernel
theorem dX7_number_78 : decode cX7_number 78 = .ok (.iload_n 1, 1) := by decide +kernel
theorem dX7_number_79 : decode cX7_number 79 = .ok (.ireturn, 1) := by decide +kernel
theorem dX7_readHop_0 : decode cX7_readHop 0 = .ok (.iconst 3, 1) := by decide +kernel
theorem dX7_readHop_1 : decode cX7_readHop 1 = .ok (.aload_n 0, 1) := by decide +kernel
theorem dX7_readHop_2 : decode cX7_readHop 2 = .ok (.getfield 212, 3) := by decide +kernel
theorem dX7_readHop_5 : decode cX7_readHop 5 = .ok (.imul, 1) := by decide +kernel
theorem dX7_readHop_6 : decode cX7_readHop 6 = .ok (.istore_n 1, 1) := by decide +kernel
theorem dX7_readHop_7 : decode cX7_readHop 7 = .ok (.aload_n 0, 1) := by decide +kernel
theorem dX7_readHop_8 : decode cX7_readHop 8 = .ok (.getfield 54, 3) := by decide +kernel
theorem dX7_readHop_11 : decode cX7_readHop 11 = .ok (.iload_n 1, 1) := by decide +kernel
theorem dX7_readHop_12 : decode cX7_readHop 12 = .ok (.aload_n 0, 1) := by decide +kernel
theorem dX7_readHop_13 : decode cX7_readHop 13 = .ok (.invokevirtual 215, 3) := by decide +kernel
theorem dX7_readHop_16 : decode cX7_readHop 16 = .ok (.iastore, 1) := by decide +kernel
theorem dX7_readHop_17 : decode cX7_readHop 17 = .ok (.aload_n 0, 1) := by decide +kernel
theorem dX7_readHop_18 : decode cX7_readHop 18 = .ok (.getfield 54, 3) := by decide +kernel
theorem dX7_readHop_21 : decode cX7_readHop 21 = .ok (.iload_n 1, 1) := by decide +kernel
theorem dX7_readHop_22 : decode cX7_readHop 22 = .ok (.iconst 1, 1) := by decide +kernel
theorem dX7_readHop_23 : decode cX7_readHop 23 = .ok (.iadd, 1) := by decide +kernel
theorem dX7_readHop_24 : decode cX7_readHop 24 = .ok (.aload_n 0, 1) := by decide +kernel
theorem dX7_readHop_25 : decode cX7_readHop 25 = .ok (.invokevirtual 206, 3) := by decide +kernel
theorem dX7_readHop_28 : decode cX7_readHop 28 = .ok (.bipush 120, 2) := by decide +kernel
theorem dX7_readHop_30 : decode cX7_readHop 30 = .ok (.if_icmp .ne 7, 3) := by decide +kernel
theorem dX7_readHop_33 : decode cX7_readHop 33 = .ok (.iconst 1, 1) := by decide +kernel
theorem dX7_readHop_34 : decode cX7_readHop 34 = .ok (.goto 4, 3) := by decide +kernel
theorem dX7_readHop_37 : decode cX7_readHop 37 = .ok (.iconst 0, 1) := by decide +kernel
theorem dX7_readHop_38 : decode cX7_readHop 38 = .ok (.iastore, 1) := by decide +kernel
theorem dX7_readHop_39 : decode cX7_readHop 39 = .ok (.aload_n 0, 1) := by decide +kernel
theorem dX7_readHop_40 : decode cX7_readHop 40 = .ok (.aload_n 0, 1) := by decide +kernel
theorem dX7_readHop_41 : decode cX7_readHop 41 = .ok (.invokevirtual 206, 3) := by decide +kernel
theorem dX7_readHop_44 : decode cX7_readHop 44 = .ok (.bipush 120, 2) := by decide +kernel
theorem dX7_readHop_46 : decode cX7_readHop 46 = .ok (.if_icmp .eq 12, 3) := by decide +kernel
theorem dX7_readHop_49 : decode cX7_readHop 49 = .ok (.aload_n 0, 1) := by decide +kernel
theorem dX7_readHop_50 : decode cX7_readHop 50 = .ok (.invokevirtual 206, 3) := by decide +kernel
theorem dX7_readHop_53 : decode cX7_readHop 53 = .ok (.bipush 45, 2) := by decide +kernel
theorem dX7_readHop_55 : decode cX7_readHop 55 = .ok (.if_icmp .ne 7, 3) := by decide +kernel
theorem dX7_readHop_58 : decode cX7_readHop 58 = .ok (.iconst 1, 1) := by decide +kernel
theorem dX7_readHop_59 : decode cX7_readHop 59 = .ok (.goto 4, 3) := by decide +kernel
theorem dX7_readHop_62 : decode cX7_readHop 62 = .ok (.iconst 0, 1) := by decide +kernel
theorem dX7_readHop_63 : decode cX7_readHop 63 = .ok (.invokevirtual 209, 3) := by decide +kernel
theorem dX7_readHop_66 : decode cX7_readHop 66 = .ok (.aload_n 0, 1) := by decide +kernel
theorem dX7_readHop_67 : decode cX7_readHop 67 = .ok (.getfield 54, 3) := by decide +kernel
theorem dX7_readHop_70 : decode cX7_readHop 70 = .ok (.iload_n 1, 1) := by decide +kernel
theorem dX7_readHop_71 : decode cX7_readHop 71 = .ok (.iconst 2, 1) := by decide +kernel
theorem dX7_readHop_72 : decode cX7_readHop 72 = .ok (.iadd, 1) := by decide +kernel
theorem dX7_readHop_73 : decode cX7_readHop 73 = .ok (.aload_n 0, 1) := by decide +kernel
theorem dX7_readHop_74 : decode cX7_readHop 74 = .ok (.invokevirtual 215, 3) := by decide +kernel
theorem dX7_readHop_77 : decode cX7_readHop 77 = .ok (.iastore, 1) := by decide +kernel
theorem dX7_readHop_78 : decode cX7_readHop 78 = .ok (.aload_n 0, 1) := by decide +kernel
theorem dX7_readHop_79 : decode cX7_readHop 79 = .ok (.dup, 1) := by decide +kernel
theorem dX7_readHop_80 : decode cX7_readHop 80 = .ok (.getfield 212, 3) := by decide +kernel
theorem dX7_readHop_83 : decode cX7_readHop 83 = .ok (.iconst 1, 1) := by decide +kernel
theorem dX7_readHop_84 : decode cX7_readHop 84 = .ok (.iadd, 1) := by decide +kernel
theorem dX7_readHop_85 : decode cX7_readHop 85 = .ok (.putfield 212, 3) := by decide +kernel
theorem dX7_readHop_88 : decode cX7_readHop 88 = .ok (.return_, 1) := by decide +kernel
theorem dX7_readPad_0 : decode cX7_readPad 0 = .ok (.aload_n 0, 1) := by decide +kernel
theorem dX7_readPad_1 : decode cX7_readPad 1 = .ok (.iconst 0, 1) := by decide +kernel
theorem dX7_readPad_2 : decode cX7_readPad 2 = .ok (.putfield 212, 3) := by decide +kernel
theorem dX7_readPad_5 : decode cX7_readPad 5 = .ok (.aload_n 0, 1) := by decide +kernel
theorem dX7_readPad_6 : decode cX7_readPad 6 = .ok (.iconst 0, 1) := by decide +kernel
theorem dX7_readPad_7 : decode cX7_readPad 7 = .ok (.putfield 200, 3) := by decide +kernel
theorem dX7_readPad_10 : decode cX7_readPad 10 = .ok (.aload_n 0, 1) := by decide +kernel
theorem dX7_readPad_11 : decode cX7_readPad 11 = .ok (.bipush (-6), 2) := by decide +kernel
theorem dX7_readPad_13 : decode cX7_readPad 13 = .ok (.putfield 203, 3) := by decide +kernel
theorem dX7_readPad_16 : decode cX7_readPad 16 = .ok (.iconst 1, 1) := by decide +kernel
theorem dX7_readPad_17 : decode cX7_readPad 17 = .ok (.istore_n 1, 1) := by decide +kernel
theorem dX7_readPad_18 : decode cX7_readPad 18 = .ok (.iload_n 1, 1) := by decide +kernel
theorem dX7_readPad_19 : decode cX7_readPad 19 = .ok (.ifCond .eq 73, 3) := by decide +kernel
theorem dX7_readPad_22 : decode cX7_readPad 22 = .ok (.aload_n 0, 1) := by decide +kernel
theorem dX7_readPad_23 : decode cX7_readPad 23 = .ok (.invokevirtual 218, 3) := by decide +kernel
theorem dX7_readPad_26 : decode cX7_readPad 26 = .ok (.aload_n 0, 1) := by decide +kernel
theorem dX7_readPad_27 : decode cX7_readPad 27 = .ok (.getfield 203, 3) := by decide +kernel
theorem dX7_readPad_30 : decode cX7_readPad 30 = .ok (.bipush (-6), 2) := by decide +kernel
theorem dX7_readPad_32 : decode cX7_readPad 32 = .ok (.if_icmp .ne 18, 3) := by decide +kernel
theorem dX7_readPad_35 : decode cX7_readPad 35 = .ok (.aload_n 0, 1) := by decide +kernel
theorem dX7_readPad_36 : decode cX7_readPad 36 = .ok (.getfield 200, 3) := by decide +kernel
theorem dX7_readPad_39 : decode cX7_readPad 39 = .ok (.aload_n 0, 1) := by decide +kernel
theorem dX7_readPad_40 : decode cX7_readPad 40 = .ok (.getfield 174, 3) := by decide +kernel
theorem dX7_readPad_43 : decode cX7_readPad 43 = .ok (.if_icmp .ge 7, 3) := by decide +kernel
theorem dX7_readPad_46 : decode cX7_readPad 46 = .ok (.iconst 1, 1) := by decide +kernel
theorem dX7_readPad_47 : decode cX7_readPad 47 = .ok (.goto 4, 3) := by decide +kernel
theorem dX7_readPad_50 : decode cX7_readPad 50 = .ok (.iconst 0, 1) := by decide +kernel
theorem dX7_readPad_51 : decode cX7_readPad 51 = .ok (.istore_n 1, 1) := by decide +kernel
theorem dX7_readPad_52 : decode cX7_readPad 52 = .ok (.iload_n 1, 1) := by decide +kernel
theorem dX7_readPad_53 : decode cX7_readPad 53 = .ok (.ifCond .eq (-35), 3) := by decide +kernel
theorem dX7_readPad_56 : decode cX7_readPad 56 = .ok (.aload_n 0, 1) := by decide +kernel
theorem dX7_readPad_57 : decode cX7_readPad 57 = .ok (.aload_n 0, 1) := by decide +kernel
theorem dX7_readPad_58 : decode cX7_readPad 58 = .ok (.invokevirtual 206, 3) := by decide +kernel
theorem dX7_readPad_61 : decode cX7_readPad 61 = .ok (.bipush 44, 2) := by decide +kernel
theorem dX7_readPad_63 : decode cX7_readPad 63 = .ok (.if_icmp .ne 7, 3) := by decide +kernel
theorem dX7_readPad_66 : decode cX7_readPad 66 = .ok (.iconst 1, 1) := by decide +kernel
theorem dX7_readPad_67 : decode cX7_readPad 67 = .ok (.goto 4, 3) := by decide +kernel
theorem dX7_readPad_70 : decode cX7_readPad 70 = .ok (.iconst 0, 1) := by decide +kernel
theorem dX7_readPad_71 : decode cX7_readPad 71 = .ok (.invokevirtual 209, 3) := by decide +kernel
theorem dX7_readPad_74 : decode cX7_readPad 74 = .ok (.aload_n 0, 1) := by decide +kernel
theorem dX7_readPad_75 : decode cX7_readPad 75 = .ok (.getfield 203, 3) := by decide +kernel
theorem dX7_readPad_78 : decode cX7_readPad 78 = .ok (.bipush (-6), 2) := by decide +kernel
theorem dX7_readPad_80 : decode cX7_readPad 80 = .ok (.if_icmp .ne 7, 3) := by decide +kernel
theorem dX7_readPad_83 : decode cX7_readPad 83 = .ok (.iconst 1, 1) := by decide +kernel
theorem dX7_readPad_84 : decode cX7_readPad 84 = .ok (.goto 4, 3) := by decide +kernel
theorem dX7_readPad_87 : decode cX7_readPad 87 = .ok (.iconst 0, 1) := by decide +kernel
theorem dX7_readPad_88 : decode cX7_readPad 88 = .ok (.istore_n 1, 1) := by decide +kernel
theorem dX7_readPad_89 : decode cX7_readPad 89 = .ok (.goto (-71), 3) := by decide +kernel
theorem dX7_readPad_92 : decode cX7_readPad 92 = .ok (.aload_n 0, 1) := by decide +kernel
theorem dX7_readPad_93 : decode cX7_readPad 93 = .ok (.getfield 203, 3) := by decide +kernel
theorem dX7_readPad_96 : decode cX7_readPad 96 = .ok (.ireturn, 1) := by decide +kernel
theorem dX7_fault_0 : decode cX7_fault 0 = .ok (.aload_n 0, 1) := by decide +kernel
theorem dX7_fault_1 : decode cX7_fault 1 = .ok (.invokevirtual 221, 3) := by decide +kernel
theorem dX7_fault_4 : decode cX7_fault 4 = .ok (.ireturn, 1) := by decide +kernel
theorem dX7_plays_0 : decode cX7_plays 0 = .ok (.aload_n 0, 1) := by decide +kernel
theorem dX7_plays_1 : decode cX7_plays 1 = .ok (.aload_n 0, 1) := by decide +kernel
theorem dX7_plays_2 : decode cX7_plays 2 = .ok (.getfield 54, 3) := by decide +kernel
theorem dX7_plays_5 : decode cX7_plays 5 = .ok (.iconst 3, 1) := by decide +kernel
theorem dX7_plays_6 : decode cX7_plays 6 = .ok (.iload_n 1, 1) := by decide +kernel
theorem dX7_plays_7 : decode cX7_plays 7 = .ok (.imul, 1) := by decide +kernel
theorem dX7_plays_8 : decode cX7_plays 8 = .ok (.iaload, 1) := by decide +kernel
theorem dX7_plays_9 : decode cX7_plays 9 = .ok (.aload_n 0, 1) := by decide +kernel
theorem dX7_plays_10 : decode cX7_plays 10 = .ok (.getfield 54, 3) := by decide +kernel
theorem dX7_plays_13 : decode cX7_plays 13 = .ok (.iconst 3, 1) := by decide +kernel
theorem dX7_plays_14 : decode cX7_plays 14 = .ok (.iload_n 1, 1) := by decide +kernel
theorem dX7_plays_15 : decode cX7_plays 15 = .ok (.imul, 1) := by decide +kernel
theorem dX7_plays_16 : decode cX7_plays 16 = .ok (.iconst 2, 1) := by decide +kernel
theorem dX7_plays_17 : decode cX7_plays 17 = .ok (.iadd, 1) := by decide +kernel
theorem dX7_plays_18 : decode cX7_plays 18 = .ok (.iaload, 1) := by decide +kernel
theorem dX7_plays_19 : decode cX7_plays 19 = .ok (.invokevirtual 159, 3) := by decide +kernel
theorem dX7_plays_22 : decode cX7_plays 22 = .ok (.istore_n 2, 1) := by decide +kernel
theorem dX7_plays_23 : decode cX7_plays 23 = .ok (.iload_n 2, 1) := by decide +kernel
theorem dX7_plays_24 : decode cX7_plays 24 = .ok (.bipush (-6), 2) := by decide +kernel
theorem dX7_plays_26 : decode cX7_plays 26 = .ok (.if_icmp .eq 45, 3) := by decide +kernel
theorem dX7_plays_29 : decode cX7_plays 29 = .ok (.aload_n 0, 1) := by decide +kernel
theorem dX7_plays_30 : decode cX7_plays 30 = .ok (.getfield 51, 3) := by decide +kernel
theorem dX7_plays_33 : decode cX7_plays 33 = .ok (.iload_n 2, 1) := by decide +kernel
theorem dX7_plays_34 : decode cX7_plays 34 = .ok (.iaload, 1) := by decide +kernel
theorem dX7_plays_35 : decode cX7_plays 35 = .ok (.bipush (-6), 2) := by decide +kernel
theorem dX7_plays_37 : decode cX7_plays 37 = .ok (.if_icmp .eq 7, 3) := by decide +kernel
theorem dX7_plays_40 : decode cX7_plays 40 = .ok (.iconst 1, 1) := by decide +kernel
theorem dX7_plays_41 : decode cX7_plays 41 = .ok (.goto 4, 3) := by decide +kernel
theorem dX7_plays_44 : decode cX7_plays 44 = .ok (.iconst 0, 1) := by decide +kernel
theorem dX7_plays_45 : decode cX7_plays 45 = .ok (.aload_n 0, 1) := by decide +kernel
theorem dX7_plays_46 : decode cX7_plays 46 = .ok (.getfield 54, 3) := by decide +kernel
theorem dX7_plays_49 : decode cX7_plays 49 = .ok (.iconst 3, 1) := by decide +kernel
theorem dX7_plays_50 : decode cX7_plays 50 = .ok (.iload_n 1, 1) := by decide +kernel
theorem dX7_plays_51 : decode cX7_plays 51 = .ok (.imul, 1) := by decide +kernel
theorem dX7_plays_52 : decode cX7_plays 52 = .ok (.iconst 1, 1) := by decide +kernel
theorem dX7_plays_53 : decode cX7_plays 53 = .ok (.iadd, 1) := by decide +kernel
theorem dX7_plays_54 : decode cX7_plays 54 = .ok (.iaload, 1) := by decide +kernel
theorem dX7_plays_55 : decode cX7_plays 55 = .ok (.iconst 1, 1) := by decide +kernel
theorem dX7_plays_56 : decode cX7_plays 56 = .ok (.if_icmp .ne 7, 3) := by decide +kernel
theorem dX7_plays_59 : decode cX7_plays 59 = .ok (.iconst 1, 1) := by decide +kernel
theorem dX7_plays_60 : decode cX7_plays 60 = .ok (.goto 4, 3) := by decide +kernel
theorem dX7_plays_63 : decode cX7_plays 63 = .ok (.iconst 0, 1) := by decide +kernel
theorem dX7_plays_64 : decode cX7_plays 64 = .ok (.if_icmp .ne 7, 3) := by decide +kernel
theorem dX7_plays_67 : decode cX7_plays 67 = .ok (.iconst 1, 1) := by decide +kernel
theorem dX7_plays_68 : decode cX7_plays 68 = .ok (.goto 4, 3) := by decide +kernel
theorem dX7_plays_71 : decode cX7_plays 71 = .ok (.iconst 0, 1) := by decide +kernel
theorem dX7_plays_72 : decode cX7_plays 72 = .ok (.istore_n 3, 1) := by decide +kernel
theorem dX7_plays_73 : decode cX7_plays 73 = .ok (.iload_n 3, 1) := by decide +kernel
theorem dX7_plays_74 : decode cX7_plays 74 = .ok (.ifCond .eq 8, 3) := by decide +kernel
theorem dX7_plays_77 : decode cX7_plays 77 = .ok (.aload_n 0, 1) := by decide +kernel
theorem dX7_plays_78 : decode cX7_plays 78 = .ok (.iload_n 2, 1) := by decide +kernel
theorem dX7_plays_79 : decode cX7_plays 79 = .ok (.invokevirtual 156, 3) := by decide +kernel
theorem dX7_plays_82 : decode cX7_plays 82 = .ok (.iload_n 3, 1) := by decide +kernel
theorem dX7_plays_83 : decode cX7_plays 83 = .ok (.ireturn, 1) := by decide +kernel
theorem dX7_playAll_0 : decode cX7_playAll 0 = .ok (.aload_n 0, 1) := by decide +kernel
theorem dX7_playAll_1 : decode cX7_playAll 1 = .ok (.invokevirtual 221, 3) := by decide +kernel
theorem dX7_playAll_4 : decode cX7_playAll 4 = .ok (.bipush (-6), 2) := by decide +kernel
theorem dX7_playAll_6 : decode cX7_playAll 6 = .ok (.if_icmp .eq 6, 3) := by decide +kernel
theorem dX7_playAll_9 : decode cX7_playAll 9 = .ok (.bipush (-3), 2) := by decide +kernel
theorem dX7_playAll_11 : decode cX7_playAll 11 = .ok (.ireturn, 1) := by decide +kernel
theorem dX7_playAll_12 : decode cX7_playAll 12 = .ok (.aload_n 0, 1) := by decide +kernel
theorem dX7_playAll_13 : decode cX7_playAll 13 = .ok (.invokevirtual 76, 3) := by decide +kernel
theorem dX7_playAll_16 : decode cX7_playAll 16 = .ok (.iconst 0, 1) := by decide +kernel
theorem dX7_playAll_17 : decode cX7_playAll 17 = .ok (.istore_n 1, 1) := by decide +kernel
theorem dX7_playAll_18 : decode cX7_playAll 18 = .ok (.iload_n 1, 1) := by decide +kernel
theorem dX7_playAll_19 : decode cX7_playAll 19 = .ok (.aload_n 0, 1) := by decide +kernel
theorem dX7_playAll_20 : decode cX7_playAll 20 = .ok (.getfield 212, 3) := by decide +kernel
theorem dX7_playAll_23 : decode cX7_playAll 23 = .ok (.if_icmp .ge 17, 3) := by decide +kernel
theorem dX7_playAll_26 : decode cX7_playAll 26 = .ok (.aload_n 0, 1) := by decide +kernel
theorem dX7_playAll_27 : decode cX7_playAll 27 = .ok (.iload_n 1, 1) := by decide +kernel
theorem dX7_playAll_28 : decode cX7_playAll 28 = .ok (.invokevirtual 224, 3) := by decide +kernel
theorem dX7_playAll_31 : decode cX7_playAll 31 = .ok (.ifCond .eq 9, 3) := by decide +kernel
theorem dX7_playAll_34 : decode cX7_playAll 34 = .ok (.iinc 1 1, 3) := by decide +kernel
theorem dX7_playAll_37 : decode cX7_playAll 37 = .ok (.goto (-19), 3) := by decide +kernel
theorem dX7_playAll_40 : decode cX7_playAll 40 = .ok (.aload_n 0, 1) := by decide +kernel
theorem dX7_playAll_41 : decode cX7_playAll 41 = .ok (.iconst 0, 1) := by decide +kernel
theorem dX7_playAll_42 : decode cX7_playAll 42 = .ok (.putfield 174, 3) := by decide +kernel
theorem dX7_playAll_45 : decode cX7_playAll 45 = .ok (.iload_n 1, 1) := by decide +kernel
theorem dX7_playAll_46 : decode cX7_playAll 46 = .ok (.ireturn, 1) := by decide +kernel
theorem dJ9_floorMod_7cf53_0 : decode cJ9_floorMod_7cf53 0 = .ok (.iload_n 0, 1) := by decide +kernel
theorem dJ9_floorMod_7cf53_1 : decode cJ9_floorMod_7cf53 1 = .ok (.iload_n 1, 1) := by decide +kernel
theorem dJ9_floorMod_7cf53_2 : decode cJ9_floorMod_7cf53 2 = .ok (.irem, 1) := by decide +kernel
theorem dJ9_floorMod_7cf53_3 : decode cJ9_floorMod_7cf53 3 = .ok (.istore_n 2, 1) := by decide +kernel
theorem dJ9_floorMod_7cf53_4 : decode cJ9_floorMod_7cf53 4 = .ok (.iload_n 0, 1) := by decide +kernel
theorem dJ9_floorMod_7cf53_5 : decode cJ9_floorMod_7cf53 5 = .ok (.iload_n 1, 1) := by decide +kernel
theorem dJ9_floorMod_7cf53_6 : decode cJ9_floorMod_7cf53 6 = .ok (.ixor, 1) := by decide +kernel
theorem dJ9_floorMod_7cf53_7 : decode cJ9_floorMod_7cf53 7 = .ok (.ifCond .ge 11, 3) := by decide +kernel
theorem dJ9_floorMod_7cf53_10 : decode cJ9_floorMod_7cf53 10 = .ok (.iload_n 2, 1) := by decide +kernel
theorem dJ9_floorMod_7cf53_11 : decode cJ9_floorMod_7cf53 11 = .ok (.ifCond .eq 7, 3) := by decide +kernel
theorem dJ9_floorMod_7cf53_14 : decode cJ9_floorMod_7cf53 14 = .ok (.iload_n 2, 1) := by decide +kernel
theorem dJ9_floorMod_7cf53_15 : decode cJ9_floorMod_7cf53 15 = .ok (.iload_n 1, 1) := by decide +kernel
theorem dJ9_floorMod_7cf53_16 : decode cJ9_floorMod_7cf53 16 = .ok (.iadd, 1) := by decide +kernel
theorem dJ9_floorMod_7cf53_17 : decode cJ9_floorMod_7cf53 17 = .ok (.ireturn, 1) := by decide +kernel
theorem dJ9_floorMod_7cf53_18 : decode cJ9_floorMod_7cf53 18 = .ok (.iload_n 2, 1) := by decide +kernel
theorem dJ9_floorMod_7cf53_19 : decode cJ9_floorMod_7cf53 19 = .ok (.ireturn, 1) := by decide +kernel
theorem dJ9_max_7cf53_0 : decode cJ9_max_7cf53 0 = .ok (.iload_n 0, 1) := by decide +kernel
theorem dJ9_max_7cf53_1 : decode cJ9_max_7cf53 1 = .ok (.iload_n 1, 1) := by decide +kernel
theorem dJ9_max_7cf53_2 : decode cJ9_max_7cf53 2 = .ok (.if_icmp .lt 7, 3) := by decide +kernel
theorem dJ9_max_7cf53_5 : decode cJ9_max_7cf53 5 = .ok (.iload_n 0, 1) := by decide +kernel
theorem dJ9_max_7cf53_6 : decode cJ9_max_7cf53 6 = .ok (.goto 4, 3) := by decide +kernel
theorem dJ9_max_7cf53_9 : decode cJ9_max_7cf53 9 = .ok (.iload_n 1, 1) := by decide +kernel
theorem dJ9_max_7cf53_10 : decode cJ9_max_7cf53 10 = .ok (.ireturn, 1) := by decide +kernel
theorem dJ9_min_7cf53_0 : decode cJ9_min_7cf53 0 = .ok (.iload_n 0, 1) := by decide +kernel
theorem dJ9_min_7cf53_1 : decode cJ9_min_7cf53 1 = .ok (.iload_n 1, 1) := by decide +kernel
theorem dJ9_min_7cf53_2 : decode cJ9_min_7cf53 2 = .ok (.if_icmp .gt 7, 3) := by decide +kernel
theorem dJ9_min_7cf53_5 : decode cJ9_min_7cf53 5 = .ok (.iload_n 0, 1) := by decide +kernel
theorem dJ9_min_7cf53_6 : decode cJ9_min_7cf53 6 = .ok (.goto 4, 3) := by decide +kernel
theorem dJ9_min_7cf53_9 : decode cJ9_min_7cf53 9 = .ok (.iload_n 1, 1) := by decide +kernel
theorem dJ9_min_7cf53_10 : decode cJ9_min_7cf53 10 = .ok (.ireturn, 1) := by decide +kernel
theorem dJ7_fill_53178_0 : decode cJ7_fill_53178 0 = .ok (.iconst 0, 1) := by decide +kernel
theorem dJ7_fill_53178_1 : decode cJ7_fill_53178 1 = .ok (.istore_n 2, 1) := by decide +kernel
theorem dJ7_fill_53178_2 : decode cJ7_fill_53178 2 = .ok (.aload_n 0, 1) := by decide +kernel
theorem dJ7_fill_53178_3 : decode cJ7_fill_53178 3 = .ok (.arraylength, 1) := by decide +kernel
theorem dJ7_fill_53178_4 : decode cJ7_fill_53178 4 = .ok (.istore_n 3, 1) := by decide +kernel
theorem dJ7_fill_53178_5 : decode cJ7_fill_53178 5 = .ok (.iload_n 2, 1) := by decide +kernel
theorem dJ7_fill_53178_6 : decode cJ7_fill_53178 6 = .ok (.iload_n 3, 1) := by decide +kernel
theorem dJ7_fill_53178_7 : decode cJ7_fill_53178 7 = .ok (.if_icmp .ge 13, 3) := by decide +kernel
theorem dJ7_fill_53178_10 : decode cJ7_fill_53178 10 = .ok (.aload_n 0, 1) := by decide +kernel
theorem dJ7_fill_53178_11 : decode cJ7_fill_53178 11 = .ok (.iload_n 2, 1) := by decide +kernel
theorem dJ7_fill_53178_12 : decode cJ7_fill_53178 12 = .ok (.iload_n 1, 1) := by decide +kernel
theorem dJ7_fill_53178_13 : decode cJ7_fill_53178 13 = .ok (.iastore, 1) := by decide +kernel
theorem dJ7_fill_53178_14 : decode cJ7_fill_53178 14 = .ok (.iinc 2 1, 3) := by decide +kernel
theorem dJ7_fill_53178_17 : decode cJ7_fill_53178 17 = .ok (.goto (-12), 3) := by decide +kernel
theorem dJ7_fill_53178_20 : decode cJ7_fill_53178 20 = .ok (.return_, 1) := by decide +kernel
theorem dL_law_0 : decode cL_law 0 = .ok (.new 7, 3) := by decide +kernel
theorem dL_law_3 : decode cL_law 3 = .ok (.dup, 1) := by decide +kernel
theorem dL_law_4 : decode cL_law 4 = .ok (.invokespecial 9, 3) := by decide +kernel
theorem dL_law_7 : decode cL_law 7 = .ok (.astore_n 1, 1) := by decide +kernel
theorem dL_law_8 : decode cL_law 8 = .ok (.new 10, 3) := by decide +kernel
theorem dL_law_11 : decode cL_law 11 = .ok (.dup, 1) := by decide +kernel
theorem dL_law_12 : decode cL_law 12 = .ok (.invokespecial 12, 3) := by decide +kernel
theorem dL_law_15 : decode cL_law 15 = .ok (.astore_n 2, 1) := by decide +kernel
theorem dL_law_16 : decode cL_law 16 = .ok (.iconst 0, 1) := by decide +kernel
theorem dL_law_17 : decode cL_law 17 = .ok (.istore_n 3, 1) := by decide +kernel
theorem dL_law_18 : decode cL_law 18 = .ok (.iload_n 3, 1) := by decide +kernel
theorem dL_law_19 : decode cL_law 19 = .ok (.aload_n 0, 1) := by decide +kernel
theorem dL_law_20 : decode cL_law 20 = .ok (.arraylength, 1) := by decide +kernel
theorem dL_law_21 : decode cL_law 21 = .ok (.iconst 3, 1) := by decide +kernel
theorem dL_law_22 : decode cL_law 22 = .ok (.isub, 1) := by decide +kernel
theorem dL_law_23 : decode cL_law 23 = .ok (.if_icmp .gt 691, 3) := by decide +kernel
theorem dL_law_26 : decode cL_law 26 = .ok (.aload_n 0, 1) := by decide +kernel
theorem dL_law_27 : decode cL_law 27 = .ok (.iload_n 3, 1) := by decide +kernel
theorem dL_law_28 : decode cL_law 28 = .ok (.iaload, 1) := by decide +kernel
theorem dL_law_29 : decode cL_law 29 = .ok (.bipush 31, 2) := by decide +kernel
theorem dL_law_31 : decode cL_law 31 = .ok (.iand, 1) := by decide +kernel
theorem dL_law_32 : decode cL_law 32 = .ok (.tableswitch 676 0 21 #[104, 127, 166, 199, 222, 255, 288, 301, 314, 347, 380, 413, 446, 469, 492, 515, 538, 591, 604, 617, 630, 653], 104) := by decide +kernel
theorem dL_law_136 : decode cL_law 136 = .ok (.aload_n 1, 1) := by decide +kernel
theorem dL_law_137 : decode cL_law 137 = .ok (.aload_n 0, 1) := by decide +kernel
theorem dL_law_138 : decode cL_law 138 = .ok (.iload_n 3, 1) := by decide +kernel
theorem dL_law_139 : decode cL_law 139 = .ok (.iconst 1, 1) := by decide +kernel
theorem dL_law_140 : decode cL_law 140 = .ok (.iadd, 1) := by decide +kernel
theorem dL_law_141 : decode cL_law 141 = .ok (.iaload, 1) := by decide +kernel
theorem dL_law_142 : decode cL_law 142 = .ok (.invokevirtual 13, 3) := by decide +kernel
theorem dL_law_145 : decode cL_law 145 = .ok (.aload_n 2, 1) := by decide +kernel
theorem dL_law_146 : decode cL_law 146 = .ok (.aload_n 0, 1) := by decide +kernel
theorem dL_law_147 : decode cL_law 147 = .ok (.iload_n 3, 1) := by decide +kernel
theorem dL_law_148 : decode cL_law 148 = .ok (.iconst 1, 1) := by decide +kernel
theorem dL_law_149 : decode cL_law 149 = .ok (.iadd, 1) := by decide +kernel
theorem dL_law_150 : decode cL_law 150 = .ok (.iaload, 1) := by decide +kernel
theorem dL_law_151 : decode cL_law 151 = .ok (.invokevirtual 17, 3) := by decide +kernel
theorem dL_law_154 : decode cL_law 154 = .ok (.if_icmp .eq 554, 3) := by decide +kernel
theorem dL_law_157 : decode cL_law 157 = .ok (.iconst 0, 1) := by decide +kernel
theorem dL_law_158 : decode cL_law 158 = .ok (.ireturn, 1) := by decide +kernel
theorem dL_law_159 : decode cL_law 159 = .ok (.aload_n 1, 1) := by decide +kernel
theorem dL_law_160 : decode cL_law 160 = .ok (.aload_n 0, 1) := by decide +kernel
theorem dL_law_161 : decode cL_law 161 = .ok (.iload_n 3, 1) := by decide +kernel
theorem dL_law_162 : decode cL_law 162 = .ok (.iconst 1, 1) := by decide +kernel
theorem dL_law_163 : decode cL_law 163 = .ok (.iadd, 1) := by decide +kernel
theorem dL_law_164 : decode cL_law 164 = .ok (.iaload, 1) := by decide +kernel
theorem dL_law_165 : decode cL_law 165 = .ok (.ifCond .eq 7, 3) := by decide +kernel
theorem dL_law_168 : decode cL_law 168 = .ok (.iconst 1, 1) := by decide +kernel
theorem dL_law_169 : decode cL_law 169 = .ok (.goto 4, 3) := by decide +kernel
theorem dL_law_172 : decode cL_law 172 = .ok (.iconst 0, 1) := by decide +kernel
theorem dL_law_173 : decode cL_law 173 = .ok (.invokevirtual 18, 3) := by decide +kernel
theorem dL_law_176 : decode cL_law 176 = .ok (.aload_n 2, 1) := by decide +kernel
theorem dL_law_177 : decode cL_law 177 = .ok (.aload_n 0, 1) := by decide +kernel
theorem dL_law_178 : decode cL_law 178 = .ok (.iload_n 3, 1) := by decide +kernel
theorem dL_law_179 : decode cL_law 179 = .ok (.iconst 1, 1) := by decide +kernel
theorem dL_law_180 : decode cL_law 180 = .ok (.iadd, 1) := by decide +kernel
theorem dL_law_181 : decode cL_law 181 = .ok (.iaload, 1) := by decide +kernel
theorem dL_law_182 : decode cL_law 182 = .ok (.ifCond .eq 7, 3) := by decide +kernel
theorem dL_law_185 : decode cL_law 185 = .ok (.iconst 1, 1) := by decide +kernel
theorem dL_law_186 : decode cL_law 186 = .ok (.goto 4, 3) := by decide +kernel
theorem dL_law_189 : decode cL_law 189 = .ok (.iconst 0, 1) := by decide +kernel
theorem dL_law_190 : decode cL_law 190 = .ok (.invokevirtual 22, 3) := by decide +kernel
theorem dL_law_193 : decode cL_law 193 = .ok (.if_icmp .eq 515, 3) := by decide +kernel
theorem dL_law_196 : decode cL_law 196 = .ok (.iconst 0, 1) := by decide +kernel
theorem dL_law_197 : decode cL_law 197 = .ok (.ireturn, 1) := by decide +kernel
theorem dL_law_198 : decode cL_law 198 = .ok (.aload_n 1, 1) := by decide +kernel
theorem dL_law_199 : decode cL_law 199 = .ok (.aload_n 0, 1) := by decide +kernel
theorem dL_law_200 : decode cL_law 200 = .ok (.iload_n 3, 1) := by decide +kernel
theorem dL_law_201 : decode cL_law 201 = .ok (.iconst 1, 1) := by decide +kernel
theorem dL_law_202 : decode cL_law 202 = .ok (.iadd, 1) := by decide +kernel
theorem dL_law_203 : decode cL_law 203 = .ok (.iaload, 1) := by decide +kernel
theorem dL_law_204 : decode cL_law 204 = .ok (.aload_n 0, 1) := by decide +kernel
theorem dL_law_205 : decode cL_law 205 = .ok (.iload_n 3, 1) := by decide +kernel
theorem dL_law_206 : decode cL_law 206 = .ok (.iconst 2, 1) := by decide +kernel
theorem dL_law_207 : decode cL_law 207 = .ok (.iadd, 1) := by decide +kernel
theorem dL_law_208 : decode cL_law 208 = .ok (.iaload, 1) := by decide +kernel
theorem dL_law_209 : decode cL_law 209 = .ok (.invokevirtual 23, 3) := by decide +kernel
theorem dL_law_212 : decode cL_law 212 = .ok (.aload_n 2, 1) := by decide +kernel
theorem dL_law_213 : decode cL_law 213 = .ok (.aload_n 0, 1) := by decide +kernel
theorem dL_law_214 : decode cL_law 214 = .ok (.iload_n 3, 1) := by decide +kernel
theorem dL_law_215 : decode cL_law 215 = .ok (.iconst 1, 1) := by decide +kernel
theorem dL_law_216 : decode cL_law 216 = .ok (.iadd, 1) := by decide +kernel
theorem dL_law_217 : decode cL_law 217 = .ok (.iaload, 1) := by decide +kernel
theorem dL_law_218 : decode cL_law 218 = .ok (.aload_n 0, 1) := by decide +kernel
theorem dL_law_219 : decode cL_law 219 = .ok (.iload_n 3, 1) := by decide +kernel
theorem dL_law_220 : decode cL_law 220 = .ok (.iconst 2, 1) := by decide +kernel
theorem dL_law_221 : decode cL_law 221 = .ok (.iadd, 1) := by decide +kernel
theorem dL_law_222 : decode cL_law 222 = .ok (.iaload, 1) := by decide +kernel
theorem dL_law_223 : decode cL_law 223 = .ok (.invokevirtual 27, 3) := by decide +kernel
theorem dL_law_226 : decode cL_law 226 = .ok (.if_icmp .eq 482, 3) := by decide +kernel
theorem dL_law_229 : decode cL_law 229 = .ok (.iconst 0, 1) := by decide +kernel
theorem dL_law_230 : decode cL_law 230 = .ok (.ireturn, 1) := by decide +kernel
theorem dL_law_231 : decode cL_law 231 = .ok (.aload_n 1, 1) := by decide +kernel
theorem dL_law_232 : decode cL_law 232 = .ok (.aload_n 0, 1) := by decide +kernel
theorem dL_law_233 : decode cL_law 233 = .ok (.iload_n 3, 1) := by decide +kernel
theorem dL_law_234 : decode cL_law 234 = .ok (.iconst 1, 1) := by decide +kernel
theorem dL_law_235 : decode cL_law 235 = .ok (.iadd, 1) := by decide +kernel
theorem dL_law_236 : decode cL_law 236 = .ok (.iaload, 1) := by decide +kernel
theorem dL_law_237 : decode cL_law 237 = .ok (.invokevirtual 28, 3) := by decide +kernel
theorem dL_law_240 : decode cL_law 240 = .ok (.aload_n 2, 1) := by decide +kernel
theorem dL_law_241 : decode cL_law 241 = .ok (.aload_n 0, 1) := by decide +kernel
theorem dL_law_242 : decode cL_law 242 = .ok (.iload_n 3, 1) := by decide +kernel
theorem dL_law_243 : decode cL_law 243 = .ok (.iconst 1, 1) := by decide +kernel
theorem dL_law_244 : decode cL_law 244 = .ok (.iadd, 1) := by decide +kernel
theorem dL_law_245 : decode cL_law 245 = .ok (.iaload, 1) := by decide +kernel
theorem dL_law_246 : decode cL_law 246 = .ok (.invokevirtual 31, 3) := by decide +kernel
theorem dL_law_249 : decode cL_law 249 = .ok (.if_icmp .eq 459, 3) := by decide +kernel
theorem dL_law_252 : decode cL_law 252 = .ok (.iconst 0, 1) := by decide +kernel
theorem dL_law_253 : decode cL_law 253 = .ok (.ireturn, 1) := by decide +kernel
theorem dL_law_254 : decode cL_law 254 = .ok (.aload_n 1, 1) := by decide +kernel
theorem dL_law_255 : decode cL_law 255 = .ok (.aload_n 0, 1) := by decide +kernel
theorem dL_law_256 : decode cL_law 256 = .ok (.iload_n 3, 1) := by decide +kernel
theorem dL_law_257 : decode cL_law 257 = .ok (.iconst 1, 1) := by decide +kernel
theorem dL_law_258 : decode cL_law 258 = .ok (.iadd, 1) := by decide +kernel
theorem dL_law_259 : decode cL_law 259 = .ok (.iaload, 1) := by decide +kernel
theorem dL_law_260 : decode cL_law 260 = .ok (.aload_n 0, 1) := by decide +kernel
theorem dL_law_261 : decode cL_law 261 = .ok (.iload_n 3, 1) := by decide +kernel
theorem dL_law_262 : decode cL_law 262 = .ok (.iconst 2, 1) := by decide +kernel
theorem dL_law_263 : decode cL_law 263 = .ok (.iadd, 1) := by decide +kernel
theorem dL_law_264 : decode cL_law 264 = .ok (.iaload, 1) := by decide +kernel
theorem dL_law_265 : decode cL_law 265 = .ok (.invokevirtual 32, 3) := by decide +kernel
theorem dL_law_268 : decode cL_law 268 = .ok (.aload_n 2, 1) := by decide +kernel
theorem dL_law_269 : decode cL_law 269 = .ok (.aload_n 0, 1) := by decide +kernel
theorem dL_law_270 : decode cL_law 270 = .ok (.iload_n 3, 1) := by decide +kernel
theorem dL_law_271 : decode cL_law 271 = .ok (.iconst 1, 1) := by decide +kernel
theorem dL_law_272 : decode cL_law 272 = .ok (.iadd, 1) := by decide +kernel
theorem dL_law_273 : decode cL_law 273 = .ok (.iaload, 1) := by decide +kernel
theorem dL_law_274 : decode cL_law 274 = .ok (.aload_n 0, 1) := by decide +kernel
theorem dL_law_275 : decode cL_law 275 = .ok (.iload_n 3, 1) := by decide +kernel
theorem dL_law_276 : decode cL_law 276 = .ok (.iconst 2, 1) := by decide +kernel
theorem dL_law_277 : decode cL_law 277 = .ok (.iadd, 1) := by decide +kernel
theorem dL_law_278 : decode cL_law 278 = .ok (.iaload, 1) := by decide +kernel
theorem dL_law_279 : decode cL_law 279 = .ok (.invokevirtual 35, 3) := by decide +kernel
theorem dL_law_282 : decode cL_law 282 = .ok (.if_icmp .eq 426, 3) := by decide +kernel
theorem dL_law_285 : decode cL_law 285 = .ok (.iconst 0, 1) := by decide +kernel
theorem dL_law_286 : decode cL_law 286 = .ok (.ireturn, 1) := by decide +kernel
theorem dL_law_287 : decode cL_law 287 = .ok (.aload_n 1, 1) := by decide +kernel
theorem dL_law_288 : decode cL_law 288 = .ok (.aload_n 0, 1) := by decide +kernel
theorem dL_law_289 : decode cL_law 289 = .ok (.iload_n 3, 1) := by decide +kernel
theorem dL_law_290 : decode cL_law 290 = .ok (.iconst 1, 1) := by decide +kernel
theorem dL_law_291 : decode cL_law 291 = .ok (.iadd, 1) := by decide +kernel
theorem dL_law_292 : decode cL_law 292 = .ok (.iaload, 1) := by decide +kernel
theorem dL_law_293 : decode cL_law 293 = .ok (.aload_n 0, 1) := by decide +kernel
theorem dL_law_294 : decode cL_law 294 = .ok (.iload_n 3, 1) := by decide +kernel
theorem dL_law_295 : decode cL_law 295 = .ok (.iconst 2, 1) := by decide +kernel
theorem dL_law_296 : decode cL_law 296 = .ok (.iadd, 1) := by decide +kernel
theorem dL_law_297 : decode cL_law 297 = .ok (.iaload, 1) := by decide +kernel
theorem dL_law_298 : decode cL_law 298 = .ok (.invokevirtual 36, 3) := by decide +kernel
theorem dL_law_301 : decode cL_law 301 = .ok (.aload_n 2, 1) := by decide +kernel
theorem dL_law_302 : decode cL_law 302 = .ok (.aload_n 0, 1) := by decide +kernel
theorem dL_law_303 : decode cL_law 303 = .ok (.iload_n 3, 1) := by decide +kernel
theorem dL_law_304 : decode cL_law 304 = .ok (.iconst 1, 1) := by decide +kernel
theorem dL_law_305 : decode cL_law 305 = .ok (.iadd, 1) := by decide +kernel
theorem dL_law_306 : decode cL_law 306 = .ok (.iaload, 1) := by decide +kernel
theorem dL_law_307 : decode cL_law 307 = .ok (.aload_n 0, 1) := by decide +kernel
theorem dL_law_308 : decode cL_law 308 = .ok (.iload_n 3, 1) := by decide +kernel
theorem dL_law_309 : decode cL_law 309 = .ok (.iconst 2, 1) := by decide +kernel
theorem dL_law_310 : decode cL_law 310 = .ok (.iadd, 1) := by decide +kernel
theorem dL_law_311 : decode cL_law 311 = .ok (.iaload, 1) := by decide +kernel
theorem dL_law_312 : decode cL_law 312 = .ok (.invokevirtual 39, 3) := by decide +kernel
theorem dL_law_315 : decode cL_law 315 = .ok (.if_icmp .eq 393, 3) := by decide +kernel
theorem dL_law_318 : decode cL_law 318 = .ok (.iconst 0, 1) := by decide +kernel
theorem dL_law_319 : decode cL_law 319 = .ok (.ireturn, 1) := by decide +kernel
theorem dL_law_320 : decode cL_law 320 = .ok (.aload_n 1, 1) := by decide +kernel
theorem dL_law_321 : decode cL_law 321 = .ok (.invokevirtual 40, 3) := by decide +kernel
theorem dL_law_324 : decode cL_law 324 = .ok (.aload_n 2, 1) := by decide +kernel
theorem dL_law_325 : decode cL_law 325 = .ok (.invokevirtual 44, 3) := by decide +kernel
theorem dL_law_328 : decode cL_law 328 = .ok (.if_icmp .eq 380, 3) := by decide +kernel
theorem dL_law_331 : decode cL_law 331 = .ok (.iconst 0, 1) := by decide +kernel
theorem dL_law_332 : decode cL_law 332 = .ok (.ireturn, 1) := by decide +kernel
theorem dL_law_333 : decode cL_law 333 = .ok (.aload_n 1, 1) := by decide +kernel
theorem dL_law_334 : decode cL_law 334 = .ok (.invokevirtual 45, 3) := by decide +kernel
theorem dL_law_337 : decode cL_law 337 = .ok (.aload_n 2, 1) := by decide +kernel
theorem dL_law_338 : decode cL_law 338 = .ok (.invokevirtual 48, 3) := by decide +kernel
theorem dL_law_341 : decode cL_law 341 = .ok (.if_icmp .eq 367, 3) := by decide +kernel
theorem dL_law_344 : decode cL_law 344 = .ok (.iconst 0, 1) := by decide +kernel
theorem dL_law_345 : decode cL_law 345 = .ok (.ireturn, 1) := by decide +kernel
theorem dL_law_346 : decode cL_law 346 = .ok (.aload_n 1, 1) := by decide +kernel
theorem dL_law_347 : decode cL_law 347 = .ok (.aload_n 0, 1) := by decide +kernel
theorem dL_law_348 : decode cL_law 348 = .ok (.iload_n 3, 1) := by decide +kernel
theorem dL_law_349 : decode cL_law 349 = .ok (.iconst 1, 1) := by decide +kernel
theorem dL_law_350 : decode cL_law 350 = .ok (.iadd, 1) := by decide +kernel
theorem dL_law_351 : decode cL_law 351 = .ok (.iaload, 1) := by decide +kernel
theorem dL_law_352 : decode cL_law 352 = .ok (.aload_n 0, 1) := by decide +kernel
theorem dL_law_353 : decode cL_law 353 = .ok (.iload_n 3, 1) := by decide +kernel
theorem dL_law_354 : decode cL_law 354 = .ok (.iconst 2, 1) := by decide +kernel
theorem dL_law_355 : decode cL_law 355 = .ok (.iadd, 1) := by decide +kernel
theorem dL_law_356 : decode cL_law 356 = .ok (.iaload, 1) := by decide +kernel
theorem dL_law_357 : decode cL_law 357 = .ok (.invokevirtual 49, 3) := by decide +kernel
theorem dL_law_360 : decode cL_law 360 = .ok (.aload_n 2, 1) := by decide +kernel
theorem dL_law_361 : decode cL_law 361 = .ok (.aload_n 0, 1) := by decide +kernel
theorem dL_law_362 : decode cL_law 362 = .ok (.iload_n 3, 1) := by decide +kernel
theorem dL_law_363 : decode cL_law 363 = .ok (.iconst 1, 1) := by decide +kernel
theorem dL_law_364 : decode cL_law 364 = .ok (.iadd, 1) := by decide +kernel
theorem dL_law_365 : decode cL_law 365 = .ok (.iaload, 1) := by decide +kernel
theorem dL_law_366 : decode cL_law 366 = .ok (.aload_n 0, 1) := by decide +kernel
theorem dL_law_367 : decode cL_law 367 = .ok (.iload_n 3, 1) := by decide +kernel
theorem dL_law_368 : decode cL_law 368 = .ok (.iconst 2, 1) := by decide +kernel
theorem dL_law_369 : decode cL_law 369 = .ok (.iadd, 1) := by decide +kernel
theorem dL_law_370 : decode cL_law 370 = .ok (.iaload, 1) := by decide +kernel
theorem dL_law_371 : decode cL_law 371 = .ok (.invokevirtual 52, 3) := by decide +kernel
theorem dL_law_374 : decode cL_law 374 = .ok (.if_icmp .eq 334, 3) := by decide +kernel
theorem dL_law_377 : decode cL_law 377 = .ok (.iconst 0, 1) := by decide +kernel
theorem dL_law_378 : decode cL_law 378 = .ok (.ireturn, 1) := by decide +kernel
theorem dL_law_379 : decode cL_law 379 = .ok (.aload_n 1, 1) := by decide +kernel
theorem dL_law_380 : decode cL_law 380 = .ok (.aload_n 0, 1) := by decide +kernel
theorem dL_law_381 : decode cL_law 381 = .ok (.iload_n 3, 1) := by decide +kernel
theorem dL_law_382 : decode cL_law 382 = .ok (.iconst 1, 1) := by decide +kernel
theorem dL_law_383 : decode cL_law 383 = .ok (.iadd, 1) := by decide +kernel
theorem dL_law_384 : decode cL_law 384 = .ok (.iaload, 1) := by decide +kernel
theorem dL_law_385 : decode cL_law 385 = .ok (.aload_n 0, 1) := by decide +kernel
theorem dL_law_386 : decode cL_law 386 = .ok (.iload_n 3, 1) := by decide +kernel
theorem dL_law_387 : decode cL_law 387 = .ok (.iconst 2, 1) := by decide +kernel
theorem dL_law_388 : decode cL_law 388 = .ok (.iadd, 1) := by decide +kernel
theorem dL_law_389 : decode cL_law 389 = .ok (.iaload, 1) := by decide +kernel
theorem dL_law_390 : decode cL_law 390 = .ok (.invokevirtual 53, 3) := by decide +kernel
theorem dL_law_393 : decode cL_law 393 = .ok (.aload_n 2, 1) := by decide +kernel
theorem dL_law_394 : decode cL_law 394 = .ok (.aload_n 0, 1) := by decide +kernel
theorem dL_law_395 : decode cL_law 395 = .ok (.iload_n 3, 1) := by decide +kernel
theorem dL_law_396 : decode cL_law 396 = .ok (.iconst 1, 1) := by decide +kernel
theorem dL_law_397 : decode cL_law 397 = .ok (.iadd, 1) := by decide +kernel
theorem dL_law_398 : decode cL_law 398 = .ok (.iaload, 1) := by decide +kernel
theorem dL_law_399 : decode cL_law 399 = .ok (.aload_n 0, 1) := by decide +kernel
theorem dL_law_400 : decode cL_law 400 = .ok (.iload_n 3, 1) := by decide +kernel
theorem dL_law_401 : decode cL_law 401 = .ok (.iconst 2, 1) := by decide +kernel
theorem dL_law_402 : decode cL_law 402 = .ok (.iadd, 1) := by decide +kernel
theorem dL_law_403 : decode cL_law 403 = .ok (.iaload, 1) := by decide +kernel
theorem dL_law_404 : decode cL_law 404 = .ok (.invokevirtual 56, 3) := by decide +kernel
theorem dL_law_407 : decode cL_law 407 = .ok (.if_icmp .eq 301, 3) := by decide +kernel
theorem dL_law_410 : decode cL_law 410 = .ok (.iconst 0, 1) := by decide +kernel
theorem dL_law_411 : decode cL_law 411 = .ok (.ireturn, 1) := by decide +kernel
theorem dL_law_412 : decode cL_law 412 = .ok (.aload_n 1, 1) := by decide +kernel
theorem dL_law_413 : decode cL_law 413 = .ok (.aload_n 0, 1) := by decide +kernel
theorem dL_law_414 : decode cL_law 414 = .ok (.iload_n 3, 1) := by decide +kernel
theorem dL_law_415 : decode cL_law 415 = .ok (.iconst 1, 1) := by decide +kernel
theorem dL_law_416 : decode cL_law 416 = .ok (.iadd, 1) := by decide +kernel
theorem dL_law_417 : decode cL_law 417 = .ok (.iaload, 1) := by decide +kernel
theorem dL_law_418 : decode cL_law 418 = .ok (.aload_n 0, 1) := by decide +kernel
theorem dL_law_419 : decode cL_law 419 = .ok (.iload_n 3, 1) := by decide +kernel
theorem dL_law_420 : decode cL_law 420 = .ok (.iconst 2, 1) := by decide +kernel
theorem dL_law_421 : decode cL_law 421 = .ok (.iadd, 1) := by decide +kernel
theorem dL_law_422 : decode cL_law 422 = .ok (.iaload, 1) := by decide +kernel
theorem dL_law_423 : decode cL_law 423 = .ok (.invokevirtual 57, 3) := by decide +kernel
theorem dL_law_426 : decode cL_law 426 = .ok (.aload_n 2, 1) := by decide +kernel
theorem dL_law_427 : decode cL_law 427 = .ok (.aload_n 0, 1) := by decide +kernel
theorem dL_law_428 : decode cL_law 428 = .ok (.iload_n 3, 1) := by decide +kernel
theorem dL_law_429 : decode cL_law 429 = .ok (.iconst 1, 1) := by decide +kernel
theorem dL_law_430 : decode cL_law 430 = .ok (.iadd, 1) := by decide +kernel
theorem dL_law_431 : decode cL_law 431 = .ok (.iaload, 1) := by decide +kernel
theorem dL_law_432 : decode cL_law 432 = .ok (.aload_n 0, 1) := by decide +kernel
theorem dL_law_433 : decode cL_law 433 = .ok (.iload_n 3, 1) := by decide +kernel
theorem dL_law_434 : decode cL_law 434 = .ok (.iconst 2, 1) := by decide +kernel
theorem dL_law_435 : decode cL_law 435 = .ok (.iadd, 1) := by decide +kernel
theorem dL_law_436 : decode cL_law 436 = .ok (.iaload, 1) := by decide +kernel
theorem dL_law_437 : decode cL_law 437 = .ok (.invokevirtual 60, 3) := by decide +kernel
theorem dL_law_440 : decode cL_law 440 = .ok (.if_icmp .eq 268, 3) := by decide +kernel
theorem dL_law_443 : decode cL_law 443 = .ok (.iconst 0, 1) := by decide +kernel
theorem dL_law_444 : decode cL_law 444 = .ok (.ireturn, 1) := by decide +kernel
theorem dL_law_445 : decode cL_law 445 = .ok (.aload_n 1, 1) := by decide +kernel
theorem dL_law_446 : decode cL_law 446 = .ok (.aload_n 0, 1) := by decide +kernel
theorem dL_law_447 : decode cL_law 447 = .ok (.iload_n 3, 1) := by decide +kernel
theorem dL_law_448 : decode cL_law 448 = .ok (.iconst 1, 1) := by decide +kernel
theorem dL_law_449 : decode cL_law 449 = .ok (.iadd, 1) := by decide +kernel
theorem dL_law_450 : decode cL_law 450 = .ok (.iaload, 1) := by decide +kernel
theorem dL_law_451 : decode cL_law 451 = .ok (.aload_n 0, 1) := by decide +kernel
theorem dL_law_452 : decode cL_law 452 = .ok (.iload_n 3, 1) := by decide +kernel
theorem dL_law_453 : decode cL_law 453 = .ok (.iconst 2, 1) := by decide +kernel
theorem dL_law_454 : decode cL_law 454 = .ok (.iadd, 1) := by decide +kernel
theorem dL_law_455 : decode cL_law 455 = .ok (.iaload, 1) := by decide +kernel
theorem dL_law_456 : decode cL_law 456 = .ok (.invokevirtual 61, 3) := by decide +kernel
theorem dL_law_459 : decode cL_law 459 = .ok (.aload_n 2, 1) := by decide +kernel
theorem dL_law_460 : decode cL_law 460 = .ok (.aload_n 0, 1) := by decide +kernel
theorem dL_law_461 : decode cL_law 461 = .ok (.iload_n 3, 1) := by decide +kernel
theorem dL_law_462 : decode cL_law 462 = .ok (.iconst 1, 1) := by decide +kernel
theorem dL_law_463 : decode cL_law 463 = .ok (.iadd, 1) := by decide +kernel
theorem dL_law_464 : decode cL_law 464 = .ok (.iaload, 1) := by decide +kernel
theorem dL_law_465 : decode cL_law 465 = .ok (.aload_n 0, 1) := by decide +kernel
theorem dL_law_466 : decode cL_law 466 = .ok (.iload_n 3, 1) := by decide +kernel
theorem dL_law_467 : decode cL_law 467 = .ok (.iconst 2, 1) := by decide +kernel
theorem dL_law_468 : decode cL_law 468 = .ok (.iadd, 1) := by decide +kernel
theorem dL_law_469 : decode cL_law 469 = .ok (.iaload, 1) := by decide +kernel
theorem dL_law_470 : decode cL_law 470 = .ok (.invokevirtual 64, 3) := by decide +kernel
theorem dL_law_473 : decode cL_law 473 = .ok (.if_icmp .eq 235, 3) := by decide +kernel
theorem dL_law_476 : decode cL_law 476 = .ok (.iconst 0, 1) := by decide +kernel
theorem dL_law_477 : decode cL_law 477 = .ok (.ireturn, 1) := by decide +kernel
theorem dL_law_478 : decode cL_law 478 = .ok (.aload_n 1, 1) := by decide +kernel
theorem dL_law_479 : decode cL_law 479 = .ok (.aload_n 0, 1) := by decide +kernel
theorem dL_law_480 : decode cL_law 480 = .ok (.iload_n 3, 1) := by decide +kernel
theorem dL_law_481 : decode cL_law 481 = .ok (.iconst 1, 1) := by decide +kernel
theorem dL_law_482 : decode cL_law 482 = .ok (.iadd, 1) := by decide +kernel
theorem dL_law_483 : decode cL_law 483 = .ok (.iaload, 1) := by decide +kernel
theorem dL_law_484 : decode cL_law 484 = .ok (.invokevirtual 65, 3) := by decide +kernel
theorem dL_law_487 : decode cL_law 487 = .ok (.aload_n 2, 1) := by decide +kernel
theorem dL_law_488 : decode cL_law 488 = .ok (.aload_n 0, 1) := by decide +kernel
theorem dL_law_489 : decode cL_law 489 = .ok (.iload_n 3, 1) := by decide +kernel
theorem dL_law_490 : decode cL_law 490 = .ok (.iconst 1, 1) := by decide +kernel
theorem dL_law_491 : decode cL_law 491 = .ok (.iadd, 1) := by decide +kernel
theorem dL_law_492 : decode cL_law 492 = .ok (.iaload, 1) := by decide +kernel
theorem dL_law_493 : decode cL_law 493 = .ok (.invokevirtual 68, 3) := by decide +kernel
theorem dL_law_496 : decode cL_law 496 = .ok (.if_icmp .eq 212, 3) := by decide +kernel
theorem dL_law_499 : decode cL_law 499 = .ok (.iconst 0, 1) := by decide +kernel
theorem dL_law_500 : decode cL_law 500 = .ok (.ireturn, 1) := by decide +kernel
theorem dL_law_501 : decode cL_law 501 = .ok (.aload_n 1, 1) := by decide +kernel
theorem dL_law_502 : decode cL_law 502 = .ok (.aload_n 0, 1) := by decide +kernel
theorem dL_law_503 : decode cL_law 503 = .ok (.iload_n 3, 1) := by decide +kernel
theorem dL_law_504 : decode cL_law 504 = .ok (.iconst 1, 1) := by decide +kernel
theorem dL_law_505 : decode cL_law 505 = .ok (.iadd, 1) := by decide +kernel
theorem dL_law_506 : decode cL_law 506 = .ok (.iaload, 1) := by decide +kernel
theorem dL_law_507 : decode cL_law 507 = .ok (.invokevirtual 69, 3) := by decide +kernel
theorem dL_law_510 : decode cL_law 510 = .ok (.aload_n 2, 1) := by decide +kernel
theorem dL_law_511 : decode cL_law 511 = .ok (.aload_n 0, 1) := by decide +kernel
theorem dL_law_512 : decode cL_law 512 = .ok (.iload_n 3, 1) := by decide +kernel
theorem dL_law_513 : decode cL_law 513 = .ok (.iconst 1, 1) := by decide +kernel
theorem dL_law_514 : decode cL_law 514 = .ok (.iadd, 1) := by decide +kernel
theorem dL_law_515 : decode cL_law 515 = .ok (.iaload, 1) := by decide +kernel
theorem dL_law_516 : decode cL_law 516 = .ok (.invokevirtual 72, 3) := by decide +kernel
theorem dL_law_519 : decode cL_law 519 = .ok (.if_icmp .eq 189, 3) := by decide +kernel
theorem dL_law_522 : decode cL_law 522 = .ok (.iconst 0, 1) := by decide +kernel
theorem dL_law_523 : decode cL_law 523 = .ok (.ireturn, 1) := by decide +kernel
theorem dL_law_524 : decode cL_law 524 = .ok (.aload_n 1, 1) := by decide +kernel
theorem dL_law_525 : decode cL_law 525 = .ok (.aload_n 0, 1) := by decide +kernel
theorem dL_law_526 : decode cL_law 526 = .ok (.iload_n 3, 1) := by decide +kernel
theorem dL_law_527 : decode cL_law 527 = .ok (.iconst 1, 1) := by decide +kernel
theorem dL_law_528 : decode cL_law 528 = .ok (.iadd, 1) := by decide +kernel
theorem dL_law_529 : decode cL_law 529 = .ok (.iaload, 1) := by decide +kernel
theorem dL_law_530 : decode cL_law 530 = .ok (.invokevirtual 73, 3) := by decide +kernel
theorem dL_law_533 : decode cL_law 533 = .ok (.aload_n 2, 1) := by decide +kernel
theorem dL_law_534 : decode cL_law 534 = .ok (.aload_n 0, 1) := by decide +kernel
theorem dL_law_535 : decode cL_law 535 = .ok (.iload_n 3, 1) := by decide +kernel
theorem dL_law_536 : decode cL_law 536 = .ok (.iconst 1, 1) := by decide +kernel
theorem dL_law_537 : decode cL_law 537 = .ok (.iadd, 1) := by decide +kernel
theorem dL_law_538 : decode cL_law 538 = .ok (.iaload, 1) := by decide +kernel
theorem dL_law_539 : decode cL_law 539 = .ok (.invokevirtual 76, 3) := by decide +kernel
theorem dL_law_542 : decode cL_law 542 = .ok (.if_icmp .eq 166, 3) := by decide +kernel
theorem dL_law_545 : decode cL_law 545 = .ok (.iconst 0, 1) := by decide +kernel
theorem dL_law_546 : decode cL_law 546 = .ok (.ireturn, 1) := by decide +kernel
theorem dL_law_547 : decode cL_law 547 = .ok (.aload_n 1, 1) := by decide +kernel
theorem dL_law_548 : decode cL_law 548 = .ok (.aload_n 0, 1) := by decide +kernel
theorem dL_law_549 : decode cL_law 549 = .ok (.iload_n 3, 1) := by decide +kernel
theorem dL_law_550 : decode cL_law 550 = .ok (.iconst 1, 1) := by decide +kernel
theorem dL_law_551 : decode cL_law 551 = .ok (.iadd, 1) := by decide +kernel
theorem dL_law_552 : decode cL_law 552 = .ok (.iaload, 1) := by decide +kernel
theorem dL_law_553 : decode cL_law 553 = .ok (.invokevirtual 77, 3) := by decide +kernel
theorem dL_law_556 : decode cL_law 556 = .ok (.aload_n 2, 1) := by decide +kernel
theorem dL_law_557 : decode cL_law 557 = .ok (.aload_n 0, 1) := by decide +kernel
theorem dL_law_558 : decode cL_law 558 = .ok (.iload_n 3, 1) := by decide +kernel
theorem dL_law_559 : decode cL_law 559 = .ok (.iconst 1, 1) := by decide +kernel
theorem dL_law_560 : decode cL_law 560 = .ok (.iadd, 1) := by decide +kernel
theorem dL_law_561 : decode cL_law 561 = .ok (.iaload, 1) := by decide +kernel
theorem dL_law_562 : decode cL_law 562 = .ok (.invokevirtual 80, 3) := by decide +kernel
theorem dL_law_565 : decode cL_law 565 = .ok (.if_icmp .eq 143, 3) := by decide +kernel
theorem dL_law_568 : decode cL_law 568 = .ok (.iconst 0, 1) := by decide +kernel
theorem dL_law_569 : decode cL_law 569 = .ok (.ireturn, 1) := by decide +kernel
theorem dL_law_570 : decode cL_law 570 = .ok (.aload_n 1, 1) := by decide +kernel
theorem dL_law_571 : decode cL_law 571 = .ok (.aload_n 0, 1) := by decide +kernel
theorem dL_law_572 : decode cL_law 572 = .ok (.iload_n 3, 1) := by decide +kernel
theorem dL_law_573 : decode cL_law 573 = .ok (.iconst 1, 1) := by decide +kernel
theorem dL_law_574 : decode cL_law 574 = .ok (.iadd, 1) := by decide +kernel
theorem dL_law_575 : decode cL_law 575 = .ok (.iaload, 1) := by decide +kernel
theorem dL_law_576 : decode cL_law 576 = .ok (.i2l, 1) := by decide +kernel
theorem dL_law_577 : decode cL_law 577 = .ok (.bipush 32, 2) := by decide +kernel
theorem dL_law_579 : decode cL_law 579 = .ok (.lshl, 1) := by decide +kernel
theorem dL_law_580 : decode cL_law 580 = .ok (.aload_n 0, 1) := by decide +kernel
theorem dL_law_581 : decode cL_law 581 = .ok (.iload_n 3, 1) := by decide +kernel
theorem dL_law_582 : decode cL_law 582 = .ok (.iconst 2, 1) := by decide +kernel
theorem dL_law_583 : decode cL_law 583 = .ok (.iadd, 1) := by decide +kernel
theorem dL_law_584 : decode cL_law 584 = .ok (.iaload, 1) := by decide +kernel
theorem dL_law_585 : decode cL_law 585 = .ok (.i2l, 1) := by decide +kernel
theorem dL_law_586 : decode cL_law 586 = .ok (.ldc2_w 81, 3) := by decide +kernel
theorem dL_law_589 : decode cL_law 589 = .ok (.land, 1) := by decide +kernel
theorem dL_law_590 : decode cL_law 590 = .ok (.lor, 1) := by decide +kernel
theorem dL_law_591 : decode cL_law 591 = .ok (.invokevirtual 83, 3) := by decide +kernel
theorem dL_law_594 : decode cL_law 594 = .ok (.aload_n 2, 1) := by decide +kernel
theorem dL_law_595 : decode cL_law 595 = .ok (.aload_n 0, 1) := by decide +kernel
theorem dL_law_596 : decode cL_law 596 = .ok (.iload_n 3, 1) := by decide +kernel
theorem dL_law_597 : decode cL_law 597 = .ok (.iconst 1, 1) := by decide +kernel
theorem dL_law_598 : decode cL_law 598 = .ok (.iadd, 1) := by decide +kernel
theorem dL_law_599 : decode cL_law 599 = .ok (.iaload, 1) := by decide +kernel
theorem dL_law_600 : decode cL_law 600 = .ok (.i2l, 1) := by decide +kernel
theorem dL_law_601 : decode cL_law 601 = .ok (.bipush 32, 2) := by decide +kernel
theorem dL_law_603 : decode cL_law 603 = .ok (.lshl, 1) := by decide +kernel
theorem dL_law_604 : decode cL_law 604 = .ok (.aload_n 0, 1) := by decide +kernel
theorem dL_law_605 : decode cL_law 605 = .ok (.iload_n 3, 1) := by decide +kernel
theorem dL_law_606 : decode cL_law 606 = .ok (.iconst 2, 1) := by decide +kernel
theorem dL_law_607 : decode cL_law 607 = .ok (.iadd, 1) := by decide +kernel
theorem dL_law_608 : decode cL_law 608 = .ok (.iaload, 1) := by decide +kernel
theorem dL_law_609 : decode cL_law 609 = .ok (.i2l, 1) := by decide +kernel
theorem dL_law_610 : decode cL_law 610 = .ok (.ldc2_w 81, 3) := by decide +kernel
theorem dL_law_613 : decode cL_law 613 = .ok (.land, 1) := by decide +kernel
theorem dL_law_614 : decode cL_law 614 = .ok (.lor, 1) := by decide +kernel
theorem dL_law_615 : decode cL_law 615 = .ok (.invokevirtual 87, 3) := by decide +kernel
theorem dL_law_618 : decode cL_law 618 = .ok (.if_icmp .eq 90, 3) := by decide +kernel
theorem dL_law_621 : decode cL_law 621 = .ok (.iconst 0, 1) := by decide +kernel
theorem dL_law_622 : decode cL_law 622 = .ok (.ireturn, 1) := by decide +kernel
theorem dL_law_623 : decode cL_law 623 = .ok (.aload_n 1, 1) := by decide +kernel
theorem dL_law_624 : decode cL_law 624 = .ok (.invokevirtual 88, 3) := by decide +kernel
theorem dL_law_627 : decode cL_law 627 = .ok (.aload_n 2, 1) := by decide +kernel
theorem dL_law_628 : decode cL_law 628 = .ok (.invokevirtual 91, 3) := by decide +kernel
theorem dL_law_631 : decode cL_law 631 = .ok (.if_icmp .eq 77, 3) := by decide +kernel
theorem dL_law_634 : decode cL_law 634 = .ok (.iconst 0, 1) := by decide +kernel
theorem dL_law_635 : decode cL_law 635 = .ok (.ireturn, 1) := by decide +kernel
theorem dL_law_636 : decode cL_law 636 = .ok (.aload_n 1, 1) := by decide +kernel
theorem dL_law_637 : decode cL_law 637 = .ok (.invokevirtual 92, 3) := by decide +kernel
theorem dL_law_640 : decode cL_law 640 = .ok (.aload_n 2, 1) := by decide +kernel
theorem dL_law_641 : decode cL_law 641 = .ok (.invokevirtual 95, 3) := by decide +kernel
theorem dL_law_644 : decode cL_law 644 = .ok (.if_icmp .eq 64, 3) := by decide +kernel
theorem dL_law_647 : decode cL_law 647 = .ok (.iconst 0, 1) := by decide +kernel
theorem dL_law_648 : decode cL_law 648 = .ok (.ireturn, 1) := by decide +kernel
theorem dL_law_649 : decode cL_law 649 = .ok (.aload_n 1, 1) := by decide +kernel
theorem dL_law_650 : decode cL_law 650 = .ok (.invokevirtual 96, 3) := by decide +kernel
theorem dL_law_653 : decode cL_law 653 = .ok (.aload_n 2, 1) := by decide +kernel
theorem dL_law_654 : decode cL_law 654 = .ok (.invokevirtual 99, 3) := by decide +kernel
theorem dL_law_657 : decode cL_law 657 = .ok (.if_icmp .eq 51, 3) := by decide +kernel
theorem dL_law_660 : decode cL_law 660 = .ok (.iconst 0, 1) := by decide +kernel
theorem dL_law_661 : decode cL_law 661 = .ok (.ireturn, 1) := by decide +kernel
theorem dL_law_662 : decode cL_law 662 = .ok (.aload_n 1, 1) := by decide +kernel
theorem dL_law_663 : decode cL_law 663 = .ok (.aload_n 0, 1) := by decide +kernel
theorem dL_law_664 : decode cL_law 664 = .ok (.iload_n 3, 1) := by decide +kernel
theorem dL_law_665 : decode cL_law 665 = .ok (.iconst 1, 1) := by decide +kernel
theorem dL_law_666 : decode cL_law 666 = .ok (.iadd, 1) := by decide +kernel
theorem dL_law_667 : decode cL_law 667 = .ok (.iaload, 1) := by decide +kernel
theorem dL_law_668 : decode cL_law 668 = .ok (.invokevirtual 100, 3) := by decide +kernel
theorem dL_law_671 : decode cL_law 671 = .ok (.aload_n 2, 1) := by decide +kernel
theorem dL_law_672 : decode cL_law 672 = .ok (.aload_n 0, 1) := by decide +kernel
theorem dL_law_673 : decode cL_law 673 = .ok (.iload_n 3, 1) := by decide +kernel
theorem dL_law_674 : decode cL_law 674 = .ok (.iconst 1, 1) := by decide +kernel
theorem dL_law_675 : decode cL_law 675 = .ok (.iadd, 1) := by decide +kernel
theorem dL_law_676 : decode cL_law 676 = .ok (.iaload, 1) := by decide +kernel
theorem dL_law_677 : decode cL_law 677 = .ok (.invokevirtual 103, 3) := by decide +kernel
theorem dL_law_680 : decode cL_law 680 = .ok (.if_icmp .eq 28, 3) := by decide +kernel
theorem dL_law_683 : decode cL_law 683 = .ok (.iconst 0, 1) := by decide +kernel
theorem dL_law_684 : decode cL_law 684 = .ok (.ireturn, 1) := by decide +kernel
theorem dL_law_685 : decode cL_law 685 = .ok (.aload_n 1, 1) := by decide +kernel
theorem dL_law_686 : decode cL_law 686 = .ok (.aload_n 0, 1) := by decide +kernel
theorem dL_law_687 : decode cL_law 687 = .ok (.iload_n 3, 1) := by decide +kernel
theorem dL_law_688 : decode cL_law 688 = .ok (.iconst 1, 1) := by decide +kernel
theorem dL_law_689 : decode cL_law 689 = .ok (.iadd, 1) := by decide +kernel
theorem dL_law_690 : decode cL_law 690 = .ok (.iaload, 1) := by decide +kernel
theorem dL_law_691 : decode cL_law 691 = .ok (.invokevirtual 104, 3) := by decide +kernel
theorem dL_law_694 : decode cL_law 694 = .ok (.aload_n 2, 1) := by decide +kernel
theorem dL_law_695 : decode cL_law 695 = .ok (.aload_n 0, 1) := by decide +kernel
theorem dL_law_696 : decode cL_law 696 = .ok (.iload_n 3, 1) := by decide +kernel
theorem dL_law_697 : decode cL_law 697 = .ok (.iconst 1, 1) := by decide +kernel
theorem dL_law_698 : decode cL_law 698 = .ok (.iadd, 1) := by decide +kernel
theorem dL_law_699 : decode cL_law 699 = .ok (.iaload, 1) := by decide +kernel
theorem dL_law_700 : decode cL_law 700 = .ok (.invokevirtual 107, 3) := by decide +kernel
theorem dL_law_703 : decode cL_law 703 = .ok (.if_icmp .eq 5, 3) := by decide +kernel
theorem dL_law_706 : decode cL_law 706 = .ok (.iconst 0, 1) := by decide +kernel
theorem dL_law_707 : decode cL_law 707 = .ok (.ireturn, 1) := by decide +kernel
theorem dL_law_708 : decode cL_law 708 = .ok (.iinc 3 3, 3) := by decide +kernel
theorem dL_law_711 : decode cL_law 711 = .ok (.goto (-693), 3) := by decide +kernel
theorem dL_law_714 : decode cL_law 714 = .ok (.iconst 1, 1) := by decide +kernel
theorem dL_law_715 : decode cL_law 715 = .ok (.ireturn, 1) := by decide +kernel
end
section
/-! ===== a plain machine over the kit's rows: cells by number, one judgement Rn for a method's frame, one contract Cl ===== -/
def WT : List Cond := lw_tbl.filter goodWord
theorem WT_of {w : Cond} (i : Nat) (h : lw_tbl[i]? = some w) (hg : goodWord w = true) : w ∈ WT := List.mem_filter.mpr ⟨List.mem_of_getElem? h, hg⟩
theorem WT_good : GoodIn WT WT := fun w h => ⟨h, good_of_word (List.mem_filter.mp h).2⟩
abbrev PC : Type := (Nat × Nat × (Nat → Int32)) ⊕ ((Nat × (Nat → Int64)) ⊕ ((Nat × (Nat → Option Nat)) ⊕ (Nat × List Value)))
abbrev PW : Type := List PC
abbrev CT : Type := (Nat × Nat) × (va_G × (Nat → ClassId))
def aI (n : Nat) (f : Nat → Int32) : PC := .inl (0, n, f)
def aC (n : Nat) (f : Nat → Int32) : PC := .inl (1, n, f)
def aZ (n : Nat) (f : Nat → Int32) : PC := .inl (2, n, f)
def aL (n : Nat) (f : Nat → Int64) : PC := .inr (.inl (n, f))
def aG (n : Nat) (f : Nat → Option Nat) : PC := .inr (.inr (.inl (n, f)))
def oB (ci : Nat) (fs : List Value) : PC := .inr (.inr (.inr (ci, fs)))
def tv (Γ : CT) : Value → Value
  | .ref h => .ref (Γ.1.1 + h)
  | .float _ => .ref Γ.1.2
  | .int x => .int x
  | .long x => .long x
  | .null => .null
  | v => v
def tE (Γ : CT) : PC → va_E
  | .inl (t, n, f) => .inl (Γ.2.2 t, n, .inl f)
  | .inr (.inl (n, f)) => .inl (Γ.2.2 3, n, .inr (.inl f))
  | .inr (.inr (.inl (n, f))) => .inl (Γ.2.2 4, n, .inr (.inr (.inr (.inr (fun k => (f k).map (Γ.1.1 + ·))))))
  | .inr (.inr (.inr (ci, fs))) => .inr (ci, fs.map (tv Γ))
def tW (Γ : CT) (w : PW) : va_W := w.mapIdx (fun h c => (Γ.1.1 + h, tE Γ c))
theorem tW_get {Γ : CT} {w : PW} {h : Nat} {c : PC} (e : w[h]? = some c) : (tW Γ w)[h]? = some (Γ.1.1 + h, tE Γ c) := by
  unfold tW
  rw [List.getElem?_mapIdx, e]
  rfl
theorem tW_set {Γ : CT} {w : PW} {h : Nat} {c : PC} : (tW Γ w).set h (Γ.1.1 + h, tE Γ c) = tW Γ (w.set h c) := by
  unfold tW
  apply List.ext_getElem?
  intro i
  rw [List.getElem?_mapIdx, List.getElem?_set, List.getElem?_set]
  by_cases hi : h = i
  · subst hi
    simp only [if_true, List.length_mapIdx]
    by_cases hl : h < w.length
    · simp [hl]
    · simp [hl]
  · simp [hi]
theorem tW_push {Γ : CT} {w : PW} {c : PC} : tW Γ w ++ [(Γ.1.1 + w.length, tE Γ c)] = tW Γ (w ++ [c]) := by
  unfold tW
  rw [List.mapIdx_append]
  simp
theorem tW_D (Γ : CT) (w : PW) : va_D (fun q => Γ.1.1 ≤ q) (tW Γ w) := by
  have key : ∀ (k : Nat) (q : Nat × va_E), (tW Γ w)[k]? = some q → q.1 = Γ.1.1 + k := by
    intro k q h
    unfold tW at h
    rw [List.getElem?_mapIdx] at h
    cases hk : w[k]? with
    | none => rw [hk] at h; cases h
    | some c => rw [hk] at h; cases h; rfl
  refine ⟨fun i j p q hi hj e => ?_, fun k q hk => ?_⟩
  · have := key i p hi
    have := key j q hj
    omega
  · have := key k q hk
    show Γ.1.1 ≤ q.1
    omega
theorem tW_len (Γ : CT) (w : PW) : (tW Γ w).length = w.length := by unfold tW; exact List.length_mapIdx
def RG : String := "RingDraughts$Game"
def tys5 (Γ : CT) : List (ClassId × FieldType) := [(Γ.2.2 0, .int), (Γ.2.2 1, .char), (Γ.2.2 2, .boolean), (Γ.2.2 3, .long), (Γ.2.2 4, .object RG)]
def KK (Γ : CT) (U : State) : Prop := va_K Γ.2.1 vwCl (tys5 Γ) U ∧ (∀ (a : String) (i : Nat) (x : MethodName) (h : String), Cond.methodLinkNest a i x h ∈ lw_tbl → va_Nw (.methodLinkNest a i x h) U) ∧ va_AO RG U
theorem KK.warm {Γ : CT} {s U : State} (hW : s.WarmedH U.vm) (h : KK Γ s) : KK Γ U := ⟨va_K.moved hW.alike h.1, fun a i x n hm => (h.2.1 a i x n hm).warmM hW, va_AO.moved hW.alike h.2.2⟩
theorem KK.same {Γ : CT} {u U : State} (e : u.vm = U.vm) (h : KK Γ u) : KK Γ U := ⟨va_K.moved (by rw [e]; exact Vm.Alike.refl U.vm) h.1, fun a i x n hm => (h.2.1 a i x n hm).same rfl e, va_AO.moved (by rw [e]; exact Vm.Alike.refl U.vm) h.2.2⟩
def HW (Γ : CT) (w : PW) (H : Heap) : Prop := va_P Γ.2.1 vwCl (tW Γ w) H ∧ H.size = Γ.1.1 + w.length
def HX (Γ : CT) (w : PW) (s : State) (H : Heap) (locs : List Loc) : Prop := HW Γ w H ∧ va_S (fun q => Γ.1.1 ≤ q) s.heap H locs ∧ Γ.1.1 ≤ s.heap.size
/-- a method: its owner's name, code, locals, answer's type, whether it makes an object -/
abbrev MX : Type := String × ByteArray × Nat × Option FieldType × Bool
def CX (Γ : CT) (X : MX) (p : Program) (s : State) (m : MethodId) (args : Array Value) (meth : Method) (c : Code) : Prop :=
  p.tables.exec = Jvm.exec ∧ c.code = X.2.1 ∧ c.maxLocals = X.2.2.1 ∧ meth.sig.returnType = X.2.2.2.1 ∧ meth.locks = false ∧ s.vm.findClass X.1 = some m.cls ∧ (∀ w ∈ WT, w.before args s = true) ∧ KK Γ s ∧ (X.2.2.2.2 = true → meth.name = "<init>")
/-- the script, where there is one -/
def SX (Γ : CT) (sc : Option (Nat × (Nat → Int32))) (s : State) : Prop := ∀ q, sc = some q → va_X Γ.1.2 q.1 q.2 s s.heap ∧ Γ.1.2 < s.heap.size ∧ Γ.1.2 < Γ.1.1
def LV (Γ : CT) (arr : Array Slot) (n : Nat) (ls : List (Option Value)) : Prop := arr.size = n ∧ lv_wf arr ∧ ∀ (i : Nat) (v : Value), ls[i]? = some (some v) → arr[i]? = some (.val (tv Γ v))
abbrev FX : Type := CT → List Frame → Array Value → State → State → Prop
def Rn (Γ : CT) (X : MX) (R : Room) (sc : Option (Nat × (Nat → Int32))) (Fin : FX) (kc ks : Nat) (w : PW) (pc : Nat) (ls : List (Option Value)) (st : List Value) : Prop :=
  ∀ (p : Program) (l : Launch) (e : Env) (s : State) (m : MethodId) (args : Array Value) (below : List Frame) (meth : Method) (c : Code), CX Γ X p s m args meth c → SX Γ sc s → ∀ (H : Heap) (locs : List Loc) (arr : Array Slot), HX Γ w s H locs → LV Γ arr X.2.2.1 ls →
    W p l e R s m args below meth c H locs kc ks (Fin Γ below args s) (F0 m pc arr (st.map (tv Γ)))
def rmO (d mc ms : Nat) : Room := { frames := d, cells := mc, slots := ms, locals := 40 * d }
def Qc (Γ : CT) (Q : Option Value → PW → Prop) : Array Value → State → Outcome → State → Prop := fun _ st oc t =>
  ∃ (r : Option Value) (w' : PW), oc = .returned (r.map (tv Γ)) ∧ Q r w' ∧ HW Γ w' t.heap ∧ va_F (fun q => Γ.1.1 ≤ q) st t
def FinM (Q : Option Value → PW → Prop) (mc ms : Nat) : FX := fun Γ below args s => MQ below (Qc Γ Q) args s mc ms (fun q => Γ.1.1 ≤ q)
/-- the contract: with these arguments, over these cells, the method ends, with an answer and cells of which Q holds -/
def Cl (Γ : CT) (y : MethodName) (X : MX) (d mc ms : Nat) (args : List Value) (w : PW) (Q : Option Value → PW → Prop) : Prop :=
  ∀ l : Launch, Met l y (Cond.code y X.2.1 X.2.2.1 X.2.2.2.1 :: WT) (rmO d mc ms) (va_Pc (args.map (tv Γ)) (fun U => HW Γ w U.heap ∧ KK Γ U)) (Qc Γ Q) mc ms (fun q => Γ.1.1 ≤ q)
/-- the locals with which a method begins -/
def ent0 : List Value → List (Option Value)
  | [] => []
  | v :: vs => if v.category = 2 then some v :: none :: ent0 vs else some v :: ent0 vs
def ent (n : Nat) (args : List Value) : List (Option Value) := ent0 args ++ List.replicate (n - (ent0 args).length) none
theorem tv_cat (Γ : CT) (v : Value) : (tv Γ v).category = v.category := by cases v <;> rfl
theorem ent0_len (Γ : CT) : ∀ args : List Value, (lg_sl (args.map (tv Γ))).length = (ent0 args).length
  | [] => rfl
  | v :: vs => by
    have ih := ent0_len Γ vs
    by_cases h : v.category = 2
    · simp only [List.map_cons, lg_sl, List.flatMap_cons, tv_cat, h, if_true, ent0, List.length_append, List.length_cons, List.length_nil] at ih ⊢
      first | omega | (unfold lg_sl at ih; omega)
    · simp only [List.map_cons, lg_sl, List.flatMap_cons, tv_cat, h, if_false, ent0, List.length_append, List.length_cons, List.length_nil] at ih ⊢
      first | omega | (unfold lg_sl at ih; omega)
theorem ent0_args (Γ : CT) : ∀ (args : List Value) (o i : Nat) (v : Value), (ent0 args)[i]? = some (some v) → (o + i, tv Γ v) ∈ lv_args o (args.map (tv Γ))
  | [], o, i, v, h => by simp [ent0] at h
  | a :: vs, o, i, v, h => by
    by_cases hc : a.category = 2
    · simp only [ent0, hc, if_true] at h
      simp only [List.map_cons, lv_args, tv_cat, hc, if_true]
      match i, h with
      | 0, h => simp at h; subst h; simp
      | 1, h => simp at h
      | i + 2, h =>
        have h2 : (ent0 vs)[i]? = some (some v) := by simpa using h
        have := ent0_args Γ vs (o + 2) i v h2
        refine List.mem_cons_of_mem _ ?_
        rw [show o + (i + 2) = o + 2 + i by omega]
        exact this
    · simp only [ent0, hc, if_false] at h
      simp only [List.map_cons, lv_args, tv_cat, hc, if_false]
      match i, h with
      | 0, h => simp at h; subst h; simp
      | i + 1, h =>
        have h2 : (ent0 vs)[i]? = some (some v) := by simpa using h
        have := ent0_args Γ vs (o + 1) i v h2
        refine List.mem_cons_of_mem _ ?_
        rw [show o + (i + 1) = o + 1 + i by omega]
        exact this
theorem ent_LV (Γ : CT) {args : List Value} {n : Nat} (hn : (ent0 args).length ≤ n) : LV Γ ((lg_sl (args.map (tv Γ)) ++ List.replicate (n - (lg_sl (args.map (tv Γ))).length) Slot.unset).toArray) n (ent n args) := by
  have h := lv_entry (args.map (tv Γ)) (n := n) (by rw [ent0_len]; exact hn)
  refine ⟨h.1, h.2.1, fun i v hi => ?_⟩
  have h2 : (ent0 args)[i]? = some (some v) := by
    unfold ent at hi
    rw [List.getElem?_append] at hi
    split at hi
    · exact hi
    · rw [List.getElem?_replicate] at hi
      split at hi <;> simp at hi
  have := ent0_args Γ args 0 i v h2
  rw [Nat.zero_add] at this
  exact h.2.2 _ this
theorem mc_ofW {l : Launch} {y : MethodName} {ws ws' : List Cond} {rm : Room} {Pc : Array Value → State → Prop} {Qc : Array Value → State → Outcome → State → Prop} {mc ms : Nat} {free : Addr → Prop} {cc : ByteArray} {maxL : Nat} {ret : Option FieldType}
    (hy : plainFor y = true) (hw : ws = Cond.code y cc maxL ret :: ws')
    (body : ∀ p e s m args below meth c s₁, BodyLoose p l y (headSpec ws rm) cc maxL ret e s m args below meth c s₁ → c.maxLocals = maxL → Pc args s →
      W p l e (headSpec ws rm).room s m args below meth c s.heap [] 0 0 (MQ below Qc args s mc ms free) (entryFrame m args maxL)) : Met l y ws rm Pc Qc mc ms free := by
  refine MetFree.of_bodySF (code := cc) (maxLocals := maxL) (ret := ret) hy ?_ ?_
  · intro args s m h hn
    obtain ⟨meth, c, h1, h2, h3, h4, h5, h6, -, -⟩ := Cond.code_spec hn (atoms_spec (ws := ws) h _ (by rw [hw]; exact List.mem_cons_self))
    exact ⟨meth, c, h1, h2, h3, h4, h5, h6⟩
  · intro p e s m args below meth c s₁ B hml hP _
    have hh0 : s₁.heap = s.heap := by rw [B.state]; rfl
    obtain ⟨t, a1, o, b1, b2, b3⟩ := body p e s m args below meth c s₁ B hml hP s₁ hh0 (Stand.of_body B)
    exact ⟨t, o, a1, b1, b2, ⟨b3.1, b3.2⟩⟩
theorem Cl.of {Γ : CT} {y : MethodName} {X : MX} {d mc ms : Nat} {args : List Value} {w : PW} {Q : Option Value → PW → Prop} (ls : List (Option Value)) (hX : X.1 = y.cls) (hy : plainFor y = true) (hi : X.2.2.2.2 = true → y.name = "<init>") (hn : (ent0 args).length ≤ X.2.2.1) (hls : ent X.2.2.1 args = ls)
    (k : Rn Γ X (rmO d mc ms) none (FinM Q mc ms) 0 0 w 0 ls []) : Cl Γ y X d mc ms args w Q := by
  intro l
  refine mc_ofW (cc := X.2.1) (maxL := X.2.2.1) (ret := X.2.2.2.1) hy rfl ?_
  intro p e s m a below meth c s₁ B hml hv
  obtain ⟨rfl, hW, hK⟩ := hv
  have hts := atoms_spec (ws := Cond.code y X.2.1 X.2.2.1 X.2.2.2.1 :: WT) B.pre
  subst hls
  rw [lg_entry_eq]
  exact k p l e s m _ below meth c ⟨B.exec, B.bytes, hml, B.returns, B.notSynchronized, by rw [hX]; exact findClass_of_methodNamed B.named, fun w hw => hts w (List.mem_cons_of_mem _ hw), hK, fun h => ((name_of_methodNamed B.named B.method).1).trans (hi h)⟩
    (fun q h => by cases h) s.heap [] _ ⟨hW, va_S.rf, by rw [hW.2]; exact Nat.le_add_right _ _⟩ (ent_LV Γ hn)
end
section
/-! ===== one rule an instruction ===== -/
section RULES
variable {Γ : CT} {X : MX} {R : Room} {sc : Option (Nat × (Nat → Int32))} {FZ : FX} {kc ks : Nat} {w : PW} {pc : Nat} {ls : List (Option Value)} {st : List Value}
theorem r_iconst {n : Int} {v : Int32} (pc' : Nat) (hd : decode X.2.1 pc = .ok (.iconst n, 1)) (hp : pc + 1 = pc') (hv : Int32.ofInt n = v) (k : Rn Γ X R sc FZ kc ks w pc' ls (.int v :: st)) : Rn Γ X R sc FZ kc ks w pc ls st := by
  subst hp
  intro p l e s m args below meth c C S H locs arr hH hL
  exact lv_iconst C.1 C.2.1 hd hv (k p l e s m args below meth c C S H locs arr hH hL)
theorem r_bipush {n : Int} {v : Int32} (pc' : Nat) (hd : decode X.2.1 pc = .ok (.bipush n, 2)) (hp : pc + 2 = pc') (hv : (Int8.ofInt n).toInt32 = v) (k : Rn Γ X R sc FZ kc ks w pc' ls (.int v :: st)) : Rn Γ X R sc FZ kc ks w pc ls st := by
  subst hp
  intro p l e s m args below meth c C S H locs arr hH hL
  exact lv_bipush C.1 C.2.1 hd hv (k p l e s m args below meth c C S H locs arr hH hL)
theorem r_sipush {n : Int} {v : Int32} (pc' : Nat) (hd : decode X.2.1 pc = .ok (.sipush n, 3)) (hp : pc + 3 = pc') (hv : (Int16.ofInt n).toInt32 = v) (k : Rn Γ X R sc FZ kc ks w pc' ls (.int v :: st)) : Rn Γ X R sc FZ kc ks w pc ls st := by
  subst hp
  intro p l e s m args below meth c C S H locs arr hH hL
  exact lv_sipush C.1 C.2.1 hd hv (k p l e s m args below meth c C S H locs arr hH hL)
theorem r_lconst {n : Fin 2} {v : Int64} (pc' : Nat) (hd : decode X.2.1 pc = .ok (.lconst n, 1)) (hp : pc + 1 = pc') (hv : Int64.ofNat (n : Nat) = v) (k : Rn Γ X R sc FZ kc ks w pc' ls (.long v :: st)) : Rn Γ X R sc FZ kc ks w pc ls st := by
  subst hp
  intro p l e s m args below meth c C S H locs arr hH hL
  exact lv_lconst C.1 C.2.1 hd hv (k p l e s m args below meth c C S H locs arr hH hL)
theorem r_null  (pc' : Nat) (hd : decode X.2.1 pc = .ok (.aconst_null, 1)) (hp : pc + 1 = pc') (k : Rn Γ X R sc FZ kc ks w pc' ls (.null :: st)) : Rn Γ X R sc FZ kc ks w pc ls st := by
  subst hp
  intro p l e s m args below meth c C S H locs arr hH hL
  exact lv_null C.1 C.2.1 hd (k p l e s m args below meth c C S H locs arr hH hL)
theorem r_ldc2 {i : Nat} {v : Int64} (pc' : Nat) (hd : decode X.2.1 pc = .ok (.ldc2_w i, 3)) (hp : pc + 3 = pc') (hw : Cond.constantLong X.1 i v ∈ WT) (k : Rn Γ X R sc FZ kc ks w pc' ls (.long v :: st)) : Rn Γ X R sc FZ kc ks w pc ls st := by
  subst hp
  intro p l e s m args below meth c C S H locs arr hH hL
  exact lv_ldc2 C.1 C.2.1 C.2.2.2.2.2.1 (C.2.2.2.2.2.2.1 _ hw) hd (k p l e s m args below meth c C S H locs arr hH hL)
theorem r_iadd {a b : Int32} (pc' : Nat) (hd : decode X.2.1 pc = .ok (.iadd, 1)) (hp : pc + 1 = pc') (k : Rn Γ X R sc FZ kc ks w pc' ls (.int (a + b) :: st)) : Rn Γ X R sc FZ kc ks w pc ls (.int b :: .int a :: st) := by
  subst hp
  intro p l e s m args below meth c C S H locs arr hH hL
  exact lv_iadd C.1 C.2.1 hd (k p l e s m args below meth c C S H locs arr hH hL)
theorem r_isub {a b : Int32} (pc' : Nat) (hd : decode X.2.1 pc = .ok (.isub, 1)) (hp : pc + 1 = pc') (k : Rn Γ X R sc FZ kc ks w pc' ls (.int (a - b) :: st)) : Rn Γ X R sc FZ kc ks w pc ls (.int b :: .int a :: st) := by
  subst hp
  intro p l e s m args below meth c C S H locs arr hH hL
  exact lv_isub C.1 C.2.1 hd (k p l e s m args below meth c C S H locs arr hH hL)
theorem r_imul {a b : Int32} (pc' : Nat) (hd : decode X.2.1 pc = .ok (.imul, 1)) (hp : pc + 1 = pc') (k : Rn Γ X R sc FZ kc ks w pc' ls (.int (a * b) :: st)) : Rn Γ X R sc FZ kc ks w pc ls (.int b :: .int a :: st) := by
  subst hp
  intro p l e s m args below meth c C S H locs arr hH hL
  exact lv_imul C.1 C.2.1 hd (k p l e s m args below meth c C S H locs arr hH hL)
theorem r_ixor {a b : Int32} (pc' : Nat) (hd : decode X.2.1 pc = .ok (.ixor, 1)) (hp : pc + 1 = pc') (k : Rn Γ X R sc FZ kc ks w pc' ls (.int (a ^^^ b) :: st)) : Rn Γ X R sc FZ kc ks w pc ls (.int b :: .int a :: st) := by
  subst hp
  intro p l e s m args below meth c C S H locs arr hH hL
  exact lv_ixor C.1 C.2.1 hd (k p l e s m args below meth c C S H locs arr hH hL)
theorem r_iand {a b : Int32} (pc' : Nat) (hd : decode X.2.1 pc = .ok (.iand, 1)) (hp : pc + 1 = pc') (k : Rn Γ X R sc FZ kc ks w pc' ls (.int (a &&& b) :: st)) : Rn Γ X R sc FZ kc ks w pc ls (.int b :: .int a :: st) := by
  subst hp
  intro p l e s m args below meth c C S H locs arr hH hL
  exact lv_iand C.1 C.2.1 hd (k p l e s m args below meth c C S H locs arr hH hL)
theorem r_idiv {a b : Int32} (pc' : Nat) (hd : decode X.2.1 pc = .ok (.idiv, 1)) (hp : pc + 1 = pc') (h0 : ¬ b = 0) (k : Rn Γ X R sc FZ kc ks w pc' ls (.int (a / b) :: st)) : Rn Γ X R sc FZ kc ks w pc ls (.int b :: .int a :: st) := by
  subst hp
  intro p l e s m args below meth c C S H locs arr hH hL
  exact lv_idiv C.1 C.2.1 hd h0 (k p l e s m args below meth c C S H locs arr hH hL)
theorem r_irem {a b : Int32} (pc' : Nat) (hd : decode X.2.1 pc = .ok (.irem, 1)) (hp : pc + 1 = pc') (h0 : ¬ b = 0) (k : Rn Γ X R sc FZ kc ks w pc' ls (.int (a - a / b * b) :: st)) : Rn Γ X R sc FZ kc ks w pc ls (.int b :: .int a :: st) := by
  subst hp
  intro p l e s m args below meth c C S H locs arr hH hL
  exact lv_irem C.1 C.2.1 hd h0 (k p l e s m args below meth c C S H locs arr hH hL)
theorem r_ineg {a : Int32} (pc' : Nat) (hd : decode X.2.1 pc = .ok (.ineg, 1)) (hp : pc + 1 = pc') (k : Rn Γ X R sc FZ kc ks w pc' ls (.int (-a) :: st)) : Rn Γ X R sc FZ kc ks w pc ls (.int a :: st) := by
  subst hp
  intro p l e s m args below meth c C S H locs arr hH hL
  exact lv_ineg C.1 C.2.1 hd (k p l e s m args below meth c C S H locs arr hH hL)
theorem r_land {a b : Int64} (pc' : Nat) (hd : decode X.2.1 pc = .ok (.land, 1)) (hp : pc + 1 = pc') (k : Rn Γ X R sc FZ kc ks w pc' ls (.long (a &&& b) :: st)) : Rn Γ X R sc FZ kc ks w pc ls (.long b :: .long a :: st) := by
  subst hp
  intro p l e s m args below meth c C S H locs arr hH hL
  exact lv_land C.1 C.2.1 hd (k p l e s m args below meth c C S H locs arr hH hL)
theorem r_lor {a b : Int64} (pc' : Nat) (hd : decode X.2.1 pc = .ok (.lor, 1)) (hp : pc + 1 = pc') (k : Rn Γ X R sc FZ kc ks w pc' ls (.long (a ||| b) :: st)) : Rn Γ X R sc FZ kc ks w pc ls (.long b :: .long a :: st) := by
  subst hp
  intro p l e s m args below meth c C S H locs arr hH hL
  exact lv_lor C.1 C.2.1 hd (k p l e s m args below meth c C S H locs arr hH hL)
theorem r_lshl {a : Int64} {b : Int32} {v : Int64} (pc' : Nat) (hd : decode X.2.1 pc = .ok (.lshl, 1)) (hp : pc + 1 = pc') (hv : a <<< (b.toInt64 &&& 63) = v) (k : Rn Γ X R sc FZ kc ks w pc' ls (.long v :: st)) : Rn Γ X R sc FZ kc ks w pc ls (.int b :: .long a :: st) := by
  subst hp
  intro p l e s m args below meth c C S H locs arr hH hL
  exact lv_lshl C.1 C.2.1 hd hv (k p l e s m args below meth c C S H locs arr hH hL)
theorem r_lushr {a : Int64} {b : Int32} {v : Int64} (pc' : Nat) (hd : decode X.2.1 pc = .ok (.lushr, 1)) (hp : pc + 1 = pc') (hv : (a.toUInt64 >>> (b.toInt64.toUInt64 &&& Int64.toUInt64 63)).toInt64 = v) (k : Rn Γ X R sc FZ kc ks w pc' ls (.long v :: st)) : Rn Γ X R sc FZ kc ks w pc ls (.int b :: .long a :: st) := by
  subst hp
  intro p l e s m args below meth c C S H locs arr hH hL
  exact lv_lushr C.1 C.2.1 hd hv (k p l e s m args below meth c C S H locs arr hH hL)
theorem r_i2l {a : Int32} {v : Int64} (pc' : Nat) (hd : decode X.2.1 pc = .ok (.i2l, 1)) (hp : pc + 1 = pc') (hv : a.toInt64 = v) (k : Rn Γ X R sc FZ kc ks w pc' ls (.long v :: st)) : Rn Γ X R sc FZ kc ks w pc ls (.int a :: st) := by
  subst hp
  intro p l e s m args below meth c C S H locs arr hH hL
  exact lv_i2l C.1 C.2.1 hd hv (k p l e s m args below meth c C S H locs arr hH hL)
theorem r_l2i {a : Int64} {v : Int32} (pc' : Nat) (hd : decode X.2.1 pc = .ok (.l2i, 1)) (hp : pc + 1 = pc') (hv : a.toInt32 = v) (k : Rn Γ X R sc FZ kc ks w pc' ls (.int v :: st)) : Rn Γ X R sc FZ kc ks w pc ls (.long a :: st) := by
  subst hp
  intro p l e s m args below meth c C S H locs arr hH hL
  exact lv_l2i C.1 C.2.1 hd hv (k p l e s m args below meth c C S H locs arr hH hL)
theorem r_i2c {a : Int32} {v : Int32} (pc' : Nat) (hd : decode X.2.1 pc = .ok (.i2c, 1)) (hp : pc + 1 = pc') (hv : (a.toUInt32 % 65536).toInt32 = v) (k : Rn Γ X R sc FZ kc ks w pc' ls (.int v :: st)) : Rn Γ X R sc FZ kc ks w pc ls (.int a :: st) := by
  subst hp
  intro p l e s m args below meth c C S H locs arr hH hL
  exact lv_i2c C.1 C.2.1 hd hv (k p l e s m args below meth c C S H locs arr hH hL)
theorem r_lcmp {a b : Int64} (pc' : Nat) (hd : decode X.2.1 pc = .ok (.lcmp, 1)) (hp : pc + 1 = pc') (k : Rn Γ X R sc FZ kc ks w pc' ls (.int (lg_cmp a b) :: st)) : Rn Γ X R sc FZ kc ks w pc ls (.long b :: .long a :: st) := by
  subst hp
  intro p l e s m args below meth c C S H locs arr hH hL
  exact W.lcmp C.1 C.2.1 hd (k p l e s m args below meth c C S H locs arr hH hL)
theorem r_dup {v : Value} (pc' : Nat) (hd : decode X.2.1 pc = .ok (.dup, 1)) (hp : pc + 1 = pc') (hv : v.category = 1) (k : Rn Γ X R sc FZ kc ks w pc' ls (v :: v :: st)) : Rn Γ X R sc FZ kc ks w pc ls (v :: st) := by
  subst hp
  intro p l e s m args below meth c C S H locs arr hH hL
  exact lv_dup C.1 C.2.1 hd (by rw [tv_cat]; exact hv) (k p l e s m args below meth c C S H locs arr hH hL)
theorem r_dup2 {v u : Value} (pc' : Nat) (hd : decode X.2.1 pc = .ok (.dup2, 1)) (hp : pc + 1 = pc') (hv : v.category = 1) (hu : u.category = 1) (k : Rn Γ X R sc FZ kc ks w pc' ls (v :: u :: v :: u :: st)) : Rn Γ X R sc FZ kc ks w pc ls (v :: u :: st) := by
  subst hp
  intro p l e s m args below meth c C S H locs arr hH hL
  exact lv_dup2_11 C.1 C.2.1 hd (by rw [tv_cat]; exact hv) (by rw [tv_cat]; exact hu) (k p l e s m args below meth c C S H locs arr hH hL)
theorem r_iload_n {i : Fin 4} {x : Int32} (pc' : Nat) (hd : decode X.2.1 pc = .ok (.iload_n i, 1)) (hp : pc + 1 = pc') (hl : ls[(i : Nat)]? = some (some (.int x))) (k : Rn Γ X R sc FZ kc ks w pc' ls (.int x :: st)) : Rn Γ X R sc FZ kc ks w pc ls st := by
  subst hp
  intro p l e s m args below meth c C S H locs arr hH hL
  exact lv_iload_n C.1 C.2.1 hd rfl (hL.2.2 _ _ hl) (k p l e s m args below meth c C S H locs arr hH hL)
theorem r_iload {i : Nat} {x : Int32} (pc' : Nat) (hd : decode X.2.1 pc = .ok (.iload i, 2)) (hp : pc + 2 = pc') (hl : ls[i]? = some (some (.int x))) (k : Rn Γ X R sc FZ kc ks w pc' ls (.int x :: st)) : Rn Γ X R sc FZ kc ks w pc ls st := by
  subst hp
  intro p l e s m args below meth c C S H locs arr hH hL
  exact lv_iload C.1 C.2.1 hd (hL.2.2 _ _ hl) (k p l e s m args below meth c C S H locs arr hH hL)
theorem r_lload_n {i : Fin 4} {x : Int64} (pc' : Nat) (hd : decode X.2.1 pc = .ok (.lload_n i, 1)) (hp : pc + 1 = pc') (hl : ls[(i : Nat)]? = some (some (.long x))) (k : Rn Γ X R sc FZ kc ks w pc' ls (.long x :: st)) : Rn Γ X R sc FZ kc ks w pc ls st := by
  subst hp
  intro p l e s m args below meth c C S H locs arr hH hL
  exact lv_lload_n C.1 C.2.1 hd rfl (hL.2.2 _ _ hl) (k p l e s m args below meth c C S H locs arr hH hL)
theorem r_lload {i : Nat} {x : Int64} (pc' : Nat) (hd : decode X.2.1 pc = .ok (.lload i, 2)) (hp : pc + 2 = pc') (hl : ls[i]? = some (some (.long x))) (k : Rn Γ X R sc FZ kc ks w pc' ls (.long x :: st)) : Rn Γ X R sc FZ kc ks w pc ls st := by
  subst hp
  intro p l e s m args below meth c C S H locs arr hH hL
  exact lv_lload C.1 C.2.1 hd (hL.2.2 _ _ hl) (k p l e s m args below meth c C S H locs arr hH hL)
def rk : Value → Bool
  | .ref _ => true
  | .null => true
  | .float _ => true
  | _ => false
theorem r_aload_n {i : Fin 4} {v : Value} (pc' : Nat) (hd : decode X.2.1 pc = .ok (.aload_n i, 1)) (hp : pc + 1 = pc') (hl : ls[(i : Nat)]? = some (some v)) (hv : rk v = true) (k : Rn Γ X R sc FZ kc ks w pc' ls (v :: st)) : Rn Γ X R sc FZ kc ks w pc ls st := by
  subst hp
  intro p l e s m args below meth c C S H locs arr hH hL
  have h1 := hL.2.2 _ _ hl
  have h2 := k p l e s m args below meth c C S H locs arr hH hL
  cases v with
  | ref a => exact lv_aload_n C.1 C.2.1 hd rfl h1 h2
  | float a => exact lv_aload_n C.1 C.2.1 hd rfl h1 h2
  | null => exact lv_aload_nN C.1 C.2.1 hd rfl h1 h2
  | _ => cases hv
theorem r_aload {i : Nat} {v : Value} (pc' : Nat) (hd : decode X.2.1 pc = .ok (.aload i, 2)) (hp : pc + 2 = pc') (hl : ls[i]? = some (some v)) (hv : rk v = true) (k : Rn Γ X R sc FZ kc ks w pc' ls (v :: st)) : Rn Γ X R sc FZ kc ks w pc ls st := by
  subst hp
  intro p l e s m args below meth c C S H locs arr hH hL
  have h1 := hL.2.2 _ _ hl
  have h2 := k p l e s m args below meth c C S H locs arr hH hL
  cases v with
  | ref a => exact lv_aload C.1 C.2.1 hd h1 h2
  | float a => exact lv_aload C.1 C.2.1 hd h1 h2
  | null => exact lv_aloadN C.1 C.2.1 hd h1 h2
  | _ => cases hv
def lvl (Γ : CT) (ls : List (Option Value)) : List (Nat × Value) := (ls.mapIdx (fun j q => (j, q))).filterMap (fun q => q.2.map (fun v => (q.1, tv Γ v)))
theorem lvl_in {Γ : CT} {ls : List (Option Value)} {j : Nat} {v : Value} (h : ls[j]? = some (some v)) : (j, tv Γ v) ∈ lvl Γ ls := by
  refine List.mem_filterMap.mpr ⟨(j, some v), List.mem_of_getElem? (i := j) ?_, rfl⟩
  rw [List.getElem?_mapIdx, h]
  rfl
theorem LV.has {Γ : CT} {arr : Array Slot} {n : Nat} {ls : List (Option Value)} (h : LV Γ arr n ls) : lv_has arr n (lvl Γ ls) := by
  refine ⟨h.1, h.2.1, fun q hq => ?_⟩
  obtain ⟨⟨j, u⟩, h1, h2⟩ := List.mem_filterMap.mp hq
  obtain ⟨i, hi⟩ := List.getElem?_of_mem h1
  rw [List.getElem?_mapIdx] at hi
  cases hu : ls[i]? with
  | none => rw [hu] at hi; cases hi
  | some z =>
    rw [hu] at hi
    cases hi
    cases u with
    | none => cases h2
    | some v => cases h2; exact h.2.2 _ _ hu
def nl : Option Value → Bool
  | some (.long _) => false
  | some (.double _) => false
  | _ => true
def okS (ls : List (Option Value)) : Nat → Bool
  | 0 => true
  | i + 1 => nl (ls.getD i none)
theorem nl_cat {v : Value} (h : nl (some v) = true) : ¬ v.category = 2 := by
  cases v <;> first | (cases h; done) | (intro q; cases q)
theorem LV.st1 {Γ : CT} {arr : Array Slot} {n i : Nat} {ls : List (Option Value)} {v : Value} (h : lv_has arr n ((i, tv Γ v) :: (lvl Γ ls).filter (fun q => !(q.1 == i) && !(q.1 + 1 == i && q.2.category == 2)))) (ho : okS ls i = true) : LV Γ arr n (ls.set i (some v)) := by
  refine ⟨h.1, h.2.1, fun j u hj => ?_⟩
  rw [List.getElem?_set] at hj
  by_cases hij : i = j
  · rw [if_pos hij] at hj
    split at hj
    · cases hj; subst hij; exact h.2.2 _ List.mem_cons_self
    · cases hj
  · rw [if_neg hij] at hj
    refine h.2.2 (j, tv Γ u) (List.mem_cons_of_mem _ (List.mem_filter.mpr ⟨lvl_in hj, ?_⟩))
    by_cases h1 : j + 1 = i
    · subst h1
      have : ¬ u.category = 2 := nl_cat (by simpa [okS, List.getD, hj] using ho)
      simp [tv_cat, this]
    · simp [h1, Ne.symm hij]
theorem LV.st2 {Γ : CT} {arr : Array Slot} {n i : Nat} {ls : List (Option Value)} {v : Value} (h : lv_has arr n ((i, tv Γ v) :: (lvl Γ ls).filter (fun q => !(q.1 == i) && (!(q.1 == i + 1) && !(q.1 + 1 == i && q.2.category == 2))))) (ho : okS ls i = true) : LV Γ arr n ((ls.set i (some v)).set (i + 1) none) := by
  refine ⟨h.1, h.2.1, fun j u hj => ?_⟩
  rw [List.getElem?_set, List.getElem?_set] at hj
  by_cases h2 : i + 1 = j
  · rw [if_pos h2] at hj
    split at hj <;> cases hj
  rw [if_neg h2] at hj
  by_cases hij : i = j
  · rw [if_pos hij] at hj
    split at hj
    · cases hj; subst hij; exact h.2.2 _ List.mem_cons_self
    · cases hj
  · rw [if_neg hij] at hj
    refine h.2.2 (j, tv Γ u) (List.mem_cons_of_mem _ (List.mem_filter.mpr ⟨lvl_in hj, ?_⟩))
    by_cases h1 : j + 1 = i
    · subst h1
      have : ¬ u.category = 2 := nl_cat (by simpa [okS, List.getD, hj] using ho)
      simp [tv_cat, this]; omega
    · simp [h1, Ne.symm hij, Ne.symm h2]
theorem r_istore_n {i : Fin 4} {x : Int32} {ls1 : List (Option Value)} (pc' : Nat) (hd : decode X.2.1 pc = .ok (.istore_n i, 1)) (hp : pc + 1 = pc') (hn : (i : Nat) < X.2.2.1) (ho : okS ls (i : Nat) = true) (hs : (ls.set (i : Nat) (some (.int x))) = ls1) (k : Rn Γ X R sc FZ kc ks w pc' ls1 st) : Rn Γ X R sc FZ kc ks w pc ls ((.int x) :: st) := by
  subst hp
  subst hs
  intro p l e s m args below meth c C S H locs arr hH hL
  exact lv_istore_n C.1 C.2.1 hd rfl hL.has hn rfl (fun arr' h' => k p l e s m args below meth c C S H locs arr' hH (LV.st1 h' ho))
theorem r_istore {i : Nat} {x : Int32} {ls1 : List (Option Value)} (pc' : Nat) (hd : decode X.2.1 pc = .ok (.istore i, 2)) (hp : pc + 2 = pc') (hn : i < X.2.2.1) (ho : okS ls i = true) (hs : (ls.set i (some (.int x))) = ls1) (k : Rn Γ X R sc FZ kc ks w pc' ls1 st) : Rn Γ X R sc FZ kc ks w pc ls ((.int x) :: st) := by
  subst hp
  subst hs
  intro p l e s m args below meth c C S H locs arr hH hL
  exact lv_istore C.1 C.2.1 hd hL.has hn rfl (fun arr' h' => k p l e s m args below meth c C S H locs arr' hH (LV.st1 h' ho))
theorem r_lstore_n {i : Fin 4} {x : Int64} {ls1 : List (Option Value)} (pc' : Nat) (hd : decode X.2.1 pc = .ok (.lstore_n i, 1)) (hp : pc + 1 = pc') (hn : (i : Nat) + 1 < X.2.2.1) (ho : okS ls (i : Nat) = true) (hs : ((ls.set (i : Nat) (some (.long x))).set ((i : Nat) + 1) none) = ls1) (k : Rn Γ X R sc FZ kc ks w pc' ls1 st) : Rn Γ X R sc FZ kc ks w pc ls ((.long x) :: st) := by
  subst hp
  subst hs
  intro p l e s m args below meth c C S H locs arr hH hL
  exact lv_lstore_n C.1 C.2.1 hd rfl hL.has hn rfl (fun arr' h' => k p l e s m args below meth c C S H locs arr' hH (LV.st2 h' ho))
theorem r_lstore {i : Nat} {x : Int64} {ls1 : List (Option Value)} (pc' : Nat) (hd : decode X.2.1 pc = .ok (.lstore i, 2)) (hp : pc + 2 = pc') (hn : i + 1 < X.2.2.1) (ho : okS ls i = true) (hs : ((ls.set i (some (.long x))).set (i + 1) none) = ls1) (k : Rn Γ X R sc FZ kc ks w pc' ls1 st) : Rn Γ X R sc FZ kc ks w pc ls ((.long x) :: st) := by
  subst hp
  subst hs
  intro p l e s m args below meth c C S H locs arr hH hL
  exact lv_lstore C.1 C.2.1 hd hL.has hn rfl (fun arr' h' => k p l e s m args below meth c C S H locs arr' hH (LV.st2 h' ho))
theorem r_astore_n {i : Fin 4} {v : Value} {ls1 : List (Option Value)} (pc' : Nat) (hd : decode X.2.1 pc = .ok (.astore_n i, 1)) (hp : pc + 1 = pc') (hn : (i : Nat) < X.2.2.1) (ho : okS ls (i : Nat) = true) (hv : rk v = true) (hs : ls.set (i : Nat) (some v) = ls1) (k : Rn Γ X R sc FZ kc ks w pc' ls1 st) : Rn Γ X R sc FZ kc ks w pc ls (v :: st) := by
  subst hp
  subst hs
  intro p l e s m args below meth c C S H locs arr hH hL
  cases v with
  | ref a => exact lv_astore_n C.1 C.2.1 hd rfl hL.has hn rfl (fun arr' h' => k p l e s m args below meth c C S H locs arr' hH (LV.st1 (v := .ref a) h' ho))
  | float a => exact lv_astore_n C.1 C.2.1 hd rfl hL.has hn rfl (fun arr' h' => k p l e s m args below meth c C S H locs arr' hH (LV.st1 (v := .float a) h' ho))
  | null => exact lv_astore_nN C.1 C.2.1 hd rfl hL.has hn rfl (fun arr' h' => k p l e s m args below meth c C S H locs arr' hH (LV.st1 (v := .null) h' ho))
  | _ => cases hv
theorem r_astore {i : Nat} {v : Value} {ls1 : List (Option Value)} (pc' : Nat) (hd : decode X.2.1 pc = .ok (.astore i, 2)) (hp : pc + 2 = pc') (hn : i < X.2.2.1) (ho : okS ls i = true) (hv : rk v = true) (hs : ls.set i (some v) = ls1) (k : Rn Γ X R sc FZ kc ks w pc' ls1 st) : Rn Γ X R sc FZ kc ks w pc ls (v :: st) := by
  subst hp
  subst hs
  intro p l e s m args below meth c C S H locs arr hH hL
  cases v with
  | ref a => exact lv_astore C.1 C.2.1 hd hL.has hn rfl (fun arr' h' => k p l e s m args below meth c C S H locs arr' hH (LV.st1 (v := .ref a) h' ho))
  | float a => exact lv_astore C.1 C.2.1 hd hL.has hn rfl (fun arr' h' => k p l e s m args below meth c C S H locs arr' hH (LV.st1 (v := .float a) h' ho))
  | null => exact lv_astoreN C.1 C.2.1 hd hL.has hn rfl (fun arr' h' => k p l e s m args below meth c C S H locs arr' hH (LV.st1 (v := .null) h' ho))
  | _ => cases hv
theorem r_iinc {i : Nat} {n : Int} {x v : Int32} {ls1 : List (Option Value)} (pc' : Nat) (hd : decode X.2.1 pc = .ok (.iinc i n, 3)) (hp : pc + 3 = pc') (hn : i < X.2.2.1) (hl : ls[i]? = some (some (.int x))) (ho : okS ls i = true) (hv : x + Int32.ofInt n = v) (hs : ls.set i (some (.int v)) = ls1) (k : Rn Γ X R sc FZ kc ks w pc' ls1 st) : Rn Γ X R sc FZ kc ks w pc ls st := by
  subst hp
  subst hs
  intro p l e s m args below meth c C S H locs arr hH hL
  obtain ⟨j, hj⟩ := List.getElem?_of_mem (lvl_in (Γ := Γ) hl)
  exact lv_iinc C.1 C.2.1 hd hL.has hj hv hn rfl (fun arr' h' => k p l e s m args below meth c C S H locs arr' hH (LV.st1 (v := .int v) h' ho))
theorem r_if_eq {a : Int32} {off : Int} (tgt pc' : Nat) (hd : decode X.2.1 pc = .ok (.ifCond .eq off, 3)) (ht : (pc : Int) + off = (tgt : Int)) (hp : pc + 3 = pc') (kt : a = 0 → Rn Γ X R sc FZ kc ks w tgt ls st) (kf : ¬ (a = 0) → Rn Γ X R sc FZ kc ks w pc' ls st) : Rn Γ X R sc FZ kc ks w pc ls (.int a :: st) := by
  subst hp
  intro p l e s m args below meth c C S H locs arr hH hL
  exact lv_if_eq C.1 C.2.1 hd ht (fun q => kt (by first | exact q | simpa using q) p l e s m args below meth c C S H locs arr hH hL) (fun q => kf (by first | exact q | simpa using q) p l e s m args below meth c C S H locs arr hH hL)
theorem r_icmp_eq {a b : Int32} {off : Int} (tgt pc' : Nat) (hd : decode X.2.1 pc = .ok (.if_icmp .eq off, 3)) (ht : (pc : Int) + off = (tgt : Int)) (hp : pc + 3 = pc') (kt : a = b → Rn Γ X R sc FZ kc ks w tgt ls st) (kf : ¬ (a = b) → Rn Γ X R sc FZ kc ks w pc' ls st) : Rn Γ X R sc FZ kc ks w pc ls (.int b :: .int a :: st) := by
  subst hp
  intro p l e s m args below meth c C S H locs arr hH hL
  exact lv_icmp_eq C.1 C.2.1 hd ht (fun q => kt (by first | exact q | simpa using q) p l e s m args below meth c C S H locs arr hH hL) (fun q => kf (by first | exact q | simpa using q) p l e s m args below meth c C S H locs arr hH hL)
theorem r_if_ne {a : Int32} {off : Int} (tgt pc' : Nat) (hd : decode X.2.1 pc = .ok (.ifCond .ne off, 3)) (ht : (pc : Int) + off = (tgt : Int)) (hp : pc + 3 = pc') (kt : ¬ a = 0 → Rn Γ X R sc FZ kc ks w tgt ls st) (kf : a = 0 → Rn Γ X R sc FZ kc ks w pc' ls st) : Rn Γ X R sc FZ kc ks w pc ls (.int a :: st) := by
  subst hp
  intro p l e s m args below meth c C S H locs arr hH hL
  exact lv_if_ne C.1 C.2.1 hd ht (fun q => kt (by first | exact q | simpa using q) p l e s m args below meth c C S H locs arr hH hL) (fun q => kf (by first | exact q | simpa using q) p l e s m args below meth c C S H locs arr hH hL)
theorem r_icmp_ne {a b : Int32} {off : Int} (tgt pc' : Nat) (hd : decode X.2.1 pc = .ok (.if_icmp .ne off, 3)) (ht : (pc : Int) + off = (tgt : Int)) (hp : pc + 3 = pc') (kt : ¬ a = b → Rn Γ X R sc FZ kc ks w tgt ls st) (kf : a = b → Rn Γ X R sc FZ kc ks w pc' ls st) : Rn Γ X R sc FZ kc ks w pc ls (.int b :: .int a :: st) := by
  subst hp
  intro p l e s m args below meth c C S H locs arr hH hL
  exact lv_icmp_ne C.1 C.2.1 hd ht (fun q => kt (by first | exact q | simpa using q) p l e s m args below meth c C S H locs arr hH hL) (fun q => kf (by first | exact q | simpa using q) p l e s m args below meth c C S H locs arr hH hL)
theorem r_if_lt {a : Int32} {off : Int} (tgt pc' : Nat) (hd : decode X.2.1 pc = .ok (.ifCond .lt off, 3)) (ht : (pc : Int) + off = (tgt : Int)) (hp : pc + 3 = pc') (kt : a < 0 → Rn Γ X R sc FZ kc ks w tgt ls st) (kf : ¬ (a < 0) → Rn Γ X R sc FZ kc ks w pc' ls st) : Rn Γ X R sc FZ kc ks w pc ls (.int a :: st) := by
  subst hp
  intro p l e s m args below meth c C S H locs arr hH hL
  exact lv_if_lt C.1 C.2.1 hd ht (fun q => kt (by first | exact q | simpa using q) p l e s m args below meth c C S H locs arr hH hL) (fun q => kf (by first | exact q | simpa using q) p l e s m args below meth c C S H locs arr hH hL)
theorem r_icmp_lt {a b : Int32} {off : Int} (tgt pc' : Nat) (hd : decode X.2.1 pc = .ok (.if_icmp .lt off, 3)) (ht : (pc : Int) + off = (tgt : Int)) (hp : pc + 3 = pc') (kt : a < b → Rn Γ X R sc FZ kc ks w tgt ls st) (kf : ¬ (a < b) → Rn Γ X R sc FZ kc ks w pc' ls st) : Rn Γ X R sc FZ kc ks w pc ls (.int b :: .int a :: st) := by
  subst hp
  intro p l e s m args below meth c C S H locs arr hH hL
  exact lv_icmp_lt C.1 C.2.1 hd ht (fun q => kt (by first | exact q | simpa using q) p l e s m args below meth c C S H locs arr hH hL) (fun q => kf (by first | exact q | simpa using q) p l e s m args below meth c C S H locs arr hH hL)
theorem r_if_ge {a : Int32} {off : Int} (tgt pc' : Nat) (hd : decode X.2.1 pc = .ok (.ifCond .ge off, 3)) (ht : (pc : Int) + off = (tgt : Int)) (hp : pc + 3 = pc') (kt : 0 ≤ a → Rn Γ X R sc FZ kc ks w tgt ls st) (kf : ¬ (0 ≤ a) → Rn Γ X R sc FZ kc ks w pc' ls st) : Rn Γ X R sc FZ kc ks w pc ls (.int a :: st) := by
  subst hp
  intro p l e s m args below meth c C S H locs arr hH hL
  exact lv_if_ge C.1 C.2.1 hd ht (fun q => kt (by first | exact q | simpa using q) p l e s m args below meth c C S H locs arr hH hL) (fun q => kf (by first | exact q | simpa using q) p l e s m args below meth c C S H locs arr hH hL)
theorem r_icmp_ge {a b : Int32} {off : Int} (tgt pc' : Nat) (hd : decode X.2.1 pc = .ok (.if_icmp .ge off, 3)) (ht : (pc : Int) + off = (tgt : Int)) (hp : pc + 3 = pc') (kt : b ≤ a → Rn Γ X R sc FZ kc ks w tgt ls st) (kf : ¬ (b ≤ a) → Rn Γ X R sc FZ kc ks w pc' ls st) : Rn Γ X R sc FZ kc ks w pc ls (.int b :: .int a :: st) := by
  subst hp
  intro p l e s m args below meth c C S H locs arr hH hL
  exact lv_icmp_ge C.1 C.2.1 hd ht (fun q => kt (by first | exact q | simpa using q) p l e s m args below meth c C S H locs arr hH hL) (fun q => kf (by first | exact q | simpa using q) p l e s m args below meth c C S H locs arr hH hL)
theorem r_if_gt {a : Int32} {off : Int} (tgt pc' : Nat) (hd : decode X.2.1 pc = .ok (.ifCond .gt off, 3)) (ht : (pc : Int) + off = (tgt : Int)) (hp : pc + 3 = pc') (kt : 0 < a → Rn Γ X R sc FZ kc ks w tgt ls st) (kf : ¬ (0 < a) → Rn Γ X R sc FZ kc ks w pc' ls st) : Rn Γ X R sc FZ kc ks w pc ls (.int a :: st) := by
  subst hp
  intro p l e s m args below meth c C S H locs arr hH hL
  exact lv_if_gt C.1 C.2.1 hd ht (fun q => kt (by first | exact q | simpa using q) p l e s m args below meth c C S H locs arr hH hL) (fun q => kf (by first | exact q | simpa using q) p l e s m args below meth c C S H locs arr hH hL)
theorem r_icmp_gt {a b : Int32} {off : Int} (tgt pc' : Nat) (hd : decode X.2.1 pc = .ok (.if_icmp .gt off, 3)) (ht : (pc : Int) + off = (tgt : Int)) (hp : pc + 3 = pc') (kt : b < a → Rn Γ X R sc FZ kc ks w tgt ls st) (kf : ¬ (b < a) → Rn Γ X R sc FZ kc ks w pc' ls st) : Rn Γ X R sc FZ kc ks w pc ls (.int b :: .int a :: st) := by
  subst hp
  intro p l e s m args below meth c C S H locs arr hH hL
  exact lv_icmp_gt C.1 C.2.1 hd ht (fun q => kt (by first | exact q | simpa using q) p l e s m args below meth c C S H locs arr hH hL) (fun q => kf (by first | exact q | simpa using q) p l e s m args below meth c C S H locs arr hH hL)
theorem r_if_le {a : Int32} {off : Int} (tgt pc' : Nat) (hd : decode X.2.1 pc = .ok (.ifCond .le off, 3)) (ht : (pc : Int) + off = (tgt : Int)) (hp : pc + 3 = pc') (kt : a ≤ 0 → Rn Γ X R sc FZ kc ks w tgt ls st) (kf : ¬ (a ≤ 0) → Rn Γ X R sc FZ kc ks w pc' ls st) : Rn Γ X R sc FZ kc ks w pc ls (.int a :: st) := by
  subst hp
  intro p l e s m args below meth c C S H locs arr hH hL
  exact lv_if_le C.1 C.2.1 hd ht (fun q => kt (by first | exact q | simpa using q) p l e s m args below meth c C S H locs arr hH hL) (fun q => kf (by first | exact q | simpa using q) p l e s m args below meth c C S H locs arr hH hL)
theorem r_icmp_le {a b : Int32} {off : Int} (tgt pc' : Nat) (hd : decode X.2.1 pc = .ok (.if_icmp .le off, 3)) (ht : (pc : Int) + off = (tgt : Int)) (hp : pc + 3 = pc') (kt : a ≤ b → Rn Γ X R sc FZ kc ks w tgt ls st) (kf : ¬ (a ≤ b) → Rn Γ X R sc FZ kc ks w pc' ls st) : Rn Γ X R sc FZ kc ks w pc ls (.int b :: .int a :: st) := by
  subst hp
  intro p l e s m args below meth c C S H locs arr hH hL
  exact lv_icmp_le C.1 C.2.1 hd ht (fun q => kt (by first | exact q | simpa using q) p l e s m args below meth c C S H locs arr hH hL) (fun q => kf (by first | exact q | simpa using q) p l e s m args below meth c C S H locs arr hH hL)
theorem r_goto {off : Int} (tgt : Nat) (hd : decode X.2.1 pc = .ok (.goto off, 3)) (ht : (pc : Int) + off = (tgt : Int)) (k : Rn Γ X R sc FZ kc ks w tgt ls st) : Rn Γ X R sc FZ kc ks w pc ls st := by
  intro p l e s m args below meth c C S H locs arr hH hL
  exact lv_goto C.1 C.2.1 hd ht (k p l e s m args below meth c C S H locs arr hH hL)
theorem r_ifnull {a : Nat} {off : Int} (pc' : Nat) (hd : decode X.2.1 pc = .ok (.ifnull off, 3)) (hp : pc + 3 = pc') (k : Rn Γ X R sc FZ kc ks w pc' ls st) : Rn Γ X R sc FZ kc ks w pc ls (.ref a :: st) := by
  subst hp
  intro p l e s m args below meth c C S H locs arr hH hL
  exact lv_ifnull C.1 C.2.1 hd (k p l e s m args below meth c C S H locs arr hH hL)
theorem r_ifnullN {off : Int} (tgt : Nat) (hd : decode X.2.1 pc = .ok (.ifnull off, 3)) (ht : (pc : Int) + off = (tgt : Int)) (k : Rn Γ X R sc FZ kc ks w tgt ls st) : Rn Γ X R sc FZ kc ks w pc ls (.null :: st) := by
  intro p l e s m args below meth c C S H locs arr hH hL
  exact lv_ifnullN C.1 C.2.1 hd ht (k p l e s m args below meth c C S H locs arr hH hL)
theorem r_ifnonnull {a : Nat} {off : Int} (tgt : Nat) (hd : decode X.2.1 pc = .ok (.ifnonnull off, 3)) (ht : (pc : Int) + off = (tgt : Int)) (k : Rn Γ X R sc FZ kc ks w tgt ls st) : Rn Γ X R sc FZ kc ks w pc ls (.ref a :: st) := by
  intro p l e s m args below meth c C S H locs arr hH hL
  exact lv_ifnonnull C.1 C.2.1 hd ht (k p l e s m args below meth c C S H locs arr hH hL)
theorem r_ifnonnullN {off : Int} (pc' : Nat) (hd : decode X.2.1 pc = .ok (.ifnonnull off, 3)) (hp : pc + 3 = pc') (k : Rn Γ X R sc FZ kc ks w pc' ls st) : Rn Γ X R sc FZ kc ks w pc ls (.null :: st) := by
  subst hp
  intro p l e s m args below meth c C S H locs arr hH hL
  exact lv_ifnonnullN C.1 C.2.1 hd (k p l e s m args below meth c C S H locs arr hH hL)
theorem r_sw_out {dflt lo hi : Int} {offs : Array Int} {len : Nat} {a : Int32} (tgt : Nat) (hd : decode X.2.1 pc = .ok (.tableswitch dflt lo hi offs, len)) (h : a.toInt < lo ∨ hi < a.toInt) (ht : (pc : Int) + dflt = (tgt : Int)) (k : Rn Γ X R sc FZ kc ks w tgt ls st) : Rn Γ X R sc FZ kc ks w pc ls (.int a :: st) := by
  intro p l e s m args below meth c C S H locs arr hH hL
  exact lv_tableOut C.1 C.2.1 hd h ht (k p l e s m args below meth c C S H locs arr hH hL)
theorem r_sw_in {dflt lo hi : Int} {offs : Array Int} {len : Nat} {a : Int32} {off : Int} (tgt : Nat) (hd : decode X.2.1 pc = .ok (.tableswitch dflt lo hi offs, len)) (h1 : ¬ a.toInt < lo) (h2 : ¬ hi < a.toInt) (ho : offs[(a.toInt - lo).toNat]? = some off) (ht : (pc : Int) + off = (tgt : Int)) (k : Rn Γ X R sc FZ kc ks w tgt ls st) : Rn Γ X R sc FZ kc ks w pc ls (.int a :: st) := by
  intro p l e s m args below meth c C S H locs arr hH hL
  exact lv_tableIn C.1 C.2.1 hd h1 h2 ho ht (k p l e s m args below meth c C S H locs arr hH hL)
end RULES
end
section
/-! ===== rules over cells, calls, ends ===== -/
def pv : FieldType → Value → Bool
  | .int, .int _ => true
  | .long, .long _ => true
  | .object _, .ref _ => true
  | .object _, .null => true
  | .array _, .ref _ => true
  | .array _, .null => true
  | _, _ => false
theorem pv_ok {Γ : CT} {ty : FieldType} {v : Value} (h : pv ty v = true) : narrow ty (tv Γ v) = tv Γ v ∧ fits ty (tv Γ v) = true := by
  cases ty <;> cases v <;> first | (cases h; done) | exact ⟨rfl, rfl⟩
def KCl (ci : Nat) (q : vw_C) (ty0 : Nat → FieldType) : Prop := vwCl[ci]? = some q ∧ (∀ w ∈ u_ws q.1 q.2.1 q.2.2, w ∈ WT) ∧ (∀ k, k < q.2.2 → parseFieldDescriptor (q.2.1 k).2.2.1 = some (ty0 k)) ∧ ∀ a, a < q.2.2 → ∀ b, b < q.2.2 → a ≠ b → (q.2.1 a).2.1 ≠ (q.2.1 b).2.1
/-- what a field instruction links: the class by its place, the field by its slot, its type, whether it is final -/
def FL (own : String) (idx ci k : Nat) (ty : FieldType) (fin : Bool) : Prop := ∃ (q : vw_C) (ty0 : Nat → FieldType), KCl ci q ty0 ∧ k < q.2.2 ∧ Cond.fieldLink own idx (q.2.1 k).1 (q.2.1 k).2.1 (q.2.1 k).2.2.1 ∈ WT ∧ ty0 k = ty ∧ (q.2.1 k).2.2.2 = fin ∧ (fin = true → (q.2.1 k).1 = own)
def FLr (own : String) (idx ci k : Nat) : Prop := ∃ (q : vw_C) (ty0 : Nat → FieldType), KCl ci q ty0 ∧ k < q.2.2 ∧ Cond.fieldLink own idx (q.2.1 k).1 (q.2.1 k).2.1 (q.2.1 k).2.2.1 ∈ WT
theorem FL.r {own : String} {idx ci k : Nat} {ty : FieldType} {fin : Bool} (h : FL own idx ci k ty fin) : FLr own idx ci k := by
  obtain ⟨q, ty0, h1, h2, h3, -⟩ := h
  exact ⟨q, ty0, h1, h2, h3⟩
def rf : Option Nat → Value
  | some h => .ref h
  | none => .null
theorem rf_tv (Γ : CT) (o : Option Nat) : tv Γ (rf o) = va_rf (o.map (Γ.1.1 + ·)) := by cases o <;> rfl
theorem HX.up {Γ : CT} {w : PW} {s : State} {H H1 : Heap} {locs : List Loc} {h j : Nat} {c0 c : PC} (hw : w[h]? = some c0) (hH : HX Γ w s H locs) (he : va_at Γ.2.1 vwCl (Γ.1.1 + h, tE Γ c) H1) (z : H1.size = H.size) (oq : ∀ q : Nat, q ≠ Γ.1.1 + h → H1[q]? = H[q]?) : HX Γ (w.set h c) s H1 (locs ++ [⟨Γ.1.1 + h, j⟩]) :=
  ⟨⟨tW_set ▸ hH.1.1.set (tW_D Γ w) (tW_get hw) he oq, by rw [z, hH.1.2, List.length_set]⟩, hH.2.1.put z oq (Nat.le_add_right _ _), hH.2.2⟩
theorem HX.new {Γ : CT} {w : PW} {s : State} {H H1 : Heap} {locs : List Loc} {c : PC} (hH : HX Γ w s H locs) (he : va_at Γ.2.1 vwCl (H.size, tE Γ c) H1) (z : H1.size = H.size + 1) (oq : ∀ q : Nat, q < H.size → H1[q]? = H[q]?) : HX Γ (w ++ [c]) s H1 locs := by
  have e : H.size = Γ.1.1 + w.length := hH.1.2
  refine ⟨⟨?_, by rw [z, e, List.length_append]; rfl⟩, ⟨Nat.le_trans hH.2.1.1 (by omega), fun q h1 h2 => (oq q (Nat.lt_of_lt_of_le h1 hH.2.1.1)).trans (hH.2.1.2.1 q h1 h2), hH.2.1.2.2⟩, hH.2.2⟩
  rw [← tW_push, ← e]
  refine va_P.app (hH.1.1.kept fun k q hk => oq q.1 ((hH.1.1 k q hk).lt)) (fun k q hk => ?_)
  have hz : k < 1 := (List.getElem?_eq_some_iff.mp hk).1
  rw [show k = 0 by omega] at hk
  cases hk
  exact he
theorem nI_vp {i : Int32} {j n : Nat} (hi : i = nI j) (hj : j < n) (hn : n < 2147483648) : vp_in i n := by rw [hi]; exact vp_in_nI hj hn
theorem nI_cl {i : Int32} {j n : Nat} (hi : i = nI j) (hj : j < n) (hn : n < 2147483648) : i.toNatClampNeg = j := by rw [hi]; exact nI_clamp (Nat.lt_trans hj hn)
section HEAP
variable {Γ : CT} {X : MX} {R : Room} {sc : Option (Nat × (Nat → Int32))} {FZ : FX} {kc ks : Nat} {w : PW} {pc : Nat} {ls : List (Option Value)} {st : List Value}
theorem r_getf {idx ci k h : Nat} {fs : List Value} {v : Value} (pc' : Nat) (hd : decode X.2.1 pc = .ok (.getfield idx, 3)) (hp : pc + 3 = pc') (hf : FLr X.1 idx ci k) (hw : w[h]? = some (oB ci fs)) (hv : fs[k]? = some v) (kk : Rn Γ X R sc FZ kc ks w pc' ls (v :: st)) : Rn Γ X R sc FZ kc ks w pc ls (.ref h :: st) := by
  subst hp
  intro p l e s m args below meth c C S H locs arr hH hL
  obtain ⟨q, ty0, ⟨g1, g2, g3, g4⟩, hk, hl⟩ := hf
  exact va_get C.1 C.2.1 C.2.2.2.2.2.2.1 g2 C.2.2.2.2.2.1 C.2.2.2.2.2.2.2.1.1 hH.1.1 h (tW_get hw) (C := q.1) (T := q.2.1) (N := q.2.2) g1 k hk (C.2.2.2.2.2.2.1 _ hl) (fun _ z => z) (by show (List.map (tv Γ) fs)[k]? = _; rw [List.getElem?_map, hv]; rfl) hd (kk p l e s m args below meth c C S H locs arr hH hL)
theorem r_putf {idx ci k h : Nat} {ty : FieldType} {fs fs1 : List Value} {v : Value} (pc' : Nat) (hd : decode X.2.1 pc = .ok (.putfield idx, 3)) (hp : pc + 3 = pc') (hf : FL X.1 idx ci k ty false) (hw : w[h]? = some (oB ci fs)) (hv : pv ty v = true) (hk1 : k < fs.length) (hs : fs.set k v = fs1) (kk : Rn Γ X R sc FZ kc ks (w.set h (oB ci fs1)) pc' ls st) : Rn Γ X R sc FZ kc ks w pc ls (v :: .ref h :: st) := by
  subst hp
  subst hs
  intro p l e s m args below meth c C S H locs arr hH hL
  obtain ⟨q, ty0, ⟨g1, g2, g3, g4⟩, hk, hl, rfl, hfin, -⟩ := hf
  have hts := C.2.2.2.2.2.2.1
  have hown := C.2.2.2.2.2.1
  have hK := C.2.2.2.2.2.2.2.1.1
  have hap := va_apart (own := X.1) (C := q.1) (T := q.2.1) (N := q.2.2) hts g2 ty0 g3 g4 hK g1
  obtain ⟨r, h1, cell, q1, q2, q3, q4⟩ := hH.1.1 h _ (tW_get hw)
  have hr : r = q := Option.some.inj (h1.symm.trans g1)
  subst hr
  obtain ⟨hS, hfc, kC, hkC, hkind⟩ := hK.1 ci _ g1
  obtain ⟨cf, kf, fi, f, hi, hsl⟩ := hS k hk
  have hlay := hts _ (g2 _ (u_in_lay hk))
  unfold u_lay at hlay
  rw [if_neg (by rw [hfin]; decide)] at hlay
  have hst := (u_facts hfc hkC (u_lays hts g2 hk) hi).1
  obtain ⟨hn, hfit⟩ := pv_ok (Γ := Γ) hv
  have h6 := u_store hfc hkC hkind hlay hi (g3 k hk) hn hfit
  refine W.putK C.1 C.2.1 (f := f) ⟨hown, hts _ hl, ⟨_, _, _, hi⟩, hst⟩ (by rw [q2]; exact h6) q1 q3 (by rw [hsl]; exact k2_hasslot (q4 k hk)) rfl rfl hd fun H' e1 e2 e3 => ?_
  rw [hsl] at e1 ⊢
  refine kk p l e s m args below meth c C S H' _ arr (hH.up hw ?_ e2 e3) hL
  refine ⟨_, g1, t_OB.to (V := updV (vp_V (fs.map (tv Γ))) k (tv Γ v)) ⟨_, e1, q2, q3, t_set q4 hap hk (tv Γ v)⟩ (fun j _ => ?_)⟩
  show updV (vp_V (fs.map (tv Γ))) k (tv Γ v) j = vp_V ((fs.set k v).map (tv Γ)) j
  rw [List.map_set]
  exact vp_updV_set (by rw [List.length_map]; exact hk1) (tv Γ v) j
theorem r_putF {idx ci k h : Nat} {ty : FieldType} {fs fs1 : List Value} {v : Value} (pc' : Nat) (hd : decode X.2.1 pc = .ok (.putfield idx, 3)) (hp : pc + 3 = pc') (hf : FL X.1 idx ci k ty true) (hI : X.2.2.2.2 = true) (hw : w[h]? = some (oB ci fs)) (hv : pv ty v = true) (hk1 : k < fs.length) (hs : fs.set k v = fs1) (kk : Rn Γ X R sc FZ kc ks (w.set h (oB ci fs1)) pc' ls st) : Rn Γ X R sc FZ kc ks w pc ls (v :: .ref h :: st) := by
  subst hp
  subst hs
  intro p l e s m args below meth c C S H locs arr hH hL
  obtain ⟨q, ty0, ⟨g1, g2, g3, g4⟩, hk, hl, rfl, hfin, hdecl⟩ := hf
  have hts := C.2.2.2.2.2.2.1
  have hown := C.2.2.2.2.2.1
  have hK := C.2.2.2.2.2.2.2.1.1
  have hap := va_apart (own := X.1) (C := q.1) (T := q.2.1) (N := q.2.2) hts g2 ty0 g3 g4 hK g1
  obtain ⟨r, h1, cell, q1, q2, q3, q4⟩ := hH.1.1 h _ (tW_get hw)
  have hr : r = q := Option.some.inj (h1.symm.trans g1)
  subst hr
  obtain ⟨hS, hfc, kC, hkC, hkind⟩ := hK.1 ci _ g1
  obtain ⟨cf, kf, fi, f, hi, hsl⟩ := hS k hk
  have hlay := hts _ (g2 _ (u_in_lay hk))
  unfold u_lay at hlay
  rw [if_pos hfin] at hlay
  have hst := (u_facts hfc hkC (u_lays hts g2 hk) hi).1
  have hcf : m.cls = cf := by
    obtain ⟨_, _, c', _, _, _, -, -, hf', -, -, -, hown2, -⟩ := Cond.laysFinal_spec hlay
    have e1 : c' = cf := by have := hi.symm.trans hf'; simp at this; exact this.1.symm
    rw [hdecl rfl] at hown2
    rw [← e1]; exact Option.some.inj (hown.symm.trans hown2)
  obtain ⟨hn, hfit⟩ := pv_ok (Γ := Γ) hv
  have h6 := u_fits hfc hkC hkind (Or.inr hlay) hi (g3 k hk) hn hfit
  refine W.putFinK C.1 C.2.1 hown (hts _ hl) hi hst hcf (C.2.2.2.2.2.2.2.2 hI) (by rw [q2]; exact h6) q1 q3 (by rw [hsl]; exact k2_hasslot (q4 k hk)) rfl rfl hd fun H' e1 e2 e3 => ?_
  rw [hsl] at e1 ⊢
  refine kk p l e s m args below meth c C S H' _ arr (hH.up hw ?_ e2 e3) hL
  refine ⟨_, g1, t_OB.to (V := updV (vp_V (fs.map (tv Γ))) k (tv Γ v)) ⟨_, e1, q2, q3, t_set q4 hap hk (tv Γ v)⟩ (fun j _ => ?_)⟩
  show updV (vp_V (fs.map (tv Γ))) k (tv Γ v) j = vp_V ((fs.set k v).map (tv Γ)) j
  rw [List.map_set]
  exact vp_updV_set (by rw [List.length_map]; exact hk1) (tv Γ v) j
theorem r_iald {h n : Nat} {f : Nat → Int32} {i : Int32} (pc' : Nat) (hd : decode X.2.1 pc = .ok (.iaload, 1)) (hp : pc + 1 = pc') (j : Nat) (hw : w[h]? = some (aI n f)) (hi : i = nI j) (hj : j < n) (hn : n < 2147483648) (kk : Rn Γ X R sc FZ kc ks w pc' ls (.int (f j) :: st)) : Rn Γ X R sc FZ kc ks w pc ls (.int i :: .ref h :: st) := by
  subst hp
  intro p l e s m args below meth c C S H locs arr hH hL
  refine va_iald C.1 C.2.1 C.2.2.2.2.2.2.2.1.1 hH.1.1 h 0 (tW_get hw) rfl (nI_vp hi hj hn) hd ?_
  rw [nI_cl hi hj hn]
  exact kk p l e s m args below meth c C S H locs arr hH hL
theorem r_cald {h n : Nat} {f : Nat → Int32} {i : Int32} (pc' : Nat) (hd : decode X.2.1 pc = .ok (.caload, 1)) (hp : pc + 1 = pc') (j : Nat) (hw : w[h]? = some (aC n f)) (hi : i = nI j) (hj : j < n) (hn : n < 2147483648) (kk : Rn Γ X R sc FZ kc ks w pc' ls (.int (f j) :: st)) : Rn Γ X R sc FZ kc ks w pc ls (.int i :: .ref h :: st) := by
  subst hp
  intro p l e s m args below meth c C S H locs arr hH hL
  refine va_cald C.1 C.2.1 C.2.2.2.2.2.2.2.1.1 hH.1.1 h 1 (tW_get hw) rfl (nI_vp hi hj hn) hd ?_
  rw [nI_cl hi hj hn]
  exact kk p l e s m args below meth c C S H locs arr hH hL
theorem r_zald {h n : Nat} {f : Nat → Int32} {i : Int32} (pc' : Nat) (hd : decode X.2.1 pc = .ok (.baload, 1)) (hp : pc + 1 = pc') (j : Nat) (hw : w[h]? = some (aZ n f)) (hi : i = nI j) (hj : j < n) (hn : n < 2147483648) (kk : Rn Γ X R sc FZ kc ks w pc' ls (.int (f j) :: st)) : Rn Γ X R sc FZ kc ks w pc ls (.int i :: .ref h :: st) := by
  subst hp
  intro p l e s m args below meth c C S H locs arr hH hL
  refine va_zald C.1 C.2.1 C.2.2.2.2.2.2.2.1.1 hH.1.1 h 2 (tW_get hw) rfl (nI_vp hi hj hn) hd ?_
  rw [nI_cl hi hj hn]
  exact kk p l e s m args below meth c C S H locs arr hH hL
theorem r_lald {h n : Nat} {f : Nat → Int64} {i : Int32} (pc' : Nat) (hd : decode X.2.1 pc = .ok (.laload, 1)) (hp : pc + 1 = pc') (j : Nat) (hw : w[h]? = some (aL n f)) (hi : i = nI j) (hj : j < n) (hn : n < 2147483648) (kk : Rn Γ X R sc FZ kc ks w pc' ls (.long (f j) :: st)) : Rn Γ X R sc FZ kc ks w pc ls (.int i :: .ref h :: st) := by
  subst hp
  intro p l e s m args below meth c C S H locs arr hH hL
  refine va_lald C.1 C.2.1 C.2.2.2.2.2.2.2.1.1 hH.1.1 h 3 (tW_get hw) rfl (nI_vp hi hj hn) hd ?_
  rw [nI_cl hi hj hn]
  exact kk p l e s m args below meth c C S H locs arr hH hL
theorem r_gald {h n : Nat} {f : Nat → Option Nat} {i : Int32} (pc' : Nat) (hd : decode X.2.1 pc = .ok (.aaload, 1)) (hp : pc + 1 = pc') (j : Nat) (hw : w[h]? = some (aG n f)) (hi : i = nI j) (hj : j < n) (hn : n < 2147483648) (kk : Rn Γ X R sc FZ kc ks w pc' ls (rf (f j) :: st)) : Rn Γ X R sc FZ kc ks w pc ls (.int i :: .ref h :: st) := by
  subst hp
  intro p l e s m args below meth c C S H locs arr hH hL
  refine va_aldq C.1 C.2.1 C.2.2.2.2.2.2.2.1.1 hH.1.1 h 4 (tW_get hw) rfl (nI_vp hi hj hn) hd ?_
  rw [nI_cl hi hj hn, ← rf_tv]
  exact kk p l e s m args below meth c C S H locs arr hH hL
theorem r_iast {h n : Nat} {f : Nat → Int32} {i : Int32} {x : Int32} (pc' : Nat) (hd : decode X.2.1 pc = .ok (.iastore, 1)) (hp : pc + 1 = pc') (j : Nat) (hw : w[h]? = some (aI n f)) (hi : i = nI j) (hj : j < n) (hn : n < 2147483648) (kk : Rn Γ X R sc FZ kc ks (w.set h (aI n (upd f j x))) pc' ls st) : Rn Γ X R sc FZ kc ks w pc ls (.int x :: .int i :: .ref h :: st) := by
  subst hp
  intro p l e s m args below meth c C S H locs arr hH hL
  have hvp := nI_vp hi hj hn
  have hcl := nI_cl hi hj hn
  refine W.iast C.1 C.2.1 (hH.1.1 h _ (tW_get hw)) ((C.2.2.2.2.2.2.2.1.1.2 0 _ rfl).1 n _) (fun q => by cases q) (by show ¬ (i < 0 ∨ (arrV _ _ _).slots.size ≤ _); rw [arrV_size]; exact hvp) rfl rfl hd fun H1 e1 z oq => ?_
  refine kk p l e s m args below meth c C S H1 _ arr (hH.up hw ?_ z oq) hL
  show H1[Γ.1.1 + h]? = some (vp_cell _ _)
  rw [e1]
  show some (Cell.setSlot (arrV (Γ.2.2 0) n (fun k => .int (f k))) i.toNatClampNeg (.int x)) = some (arrV (Γ.2.2 0) n (fun k => .int ((upd f j x) k)))
  rw [arrV_store, hcl]
  congr 2
  funext q
  by_cases hq : q = j
  · subst hq
    simp [updV, upd]
    try rfl
  · simp [updV, upd, hq]
theorem r_cast {h n : Nat} {f : Nat → Int32} {i : Int32} {x : Int32} (pc' : Nat) (hd : decode X.2.1 pc = .ok (.castore, 1)) (hp : pc + 1 = pc') (j : Nat) (hw : w[h]? = some (aC n f)) (hi : i = nI j) (hj : j < n) (hn : n < 2147483648) (kk : Rn Γ X R sc FZ kc ks (w.set h (aC n (upd f j (vp_nar .char x)))) pc' ls st) : Rn Γ X R sc FZ kc ks w pc ls (.int x :: .int i :: .ref h :: st) := by
  subst hp
  intro p l e s m args below meth c C S H locs arr hH hL
  have hvp := nI_vp hi hj hn
  have hcl := nI_cl hi hj hn
  refine W.cast C.1 C.2.1 (hH.1.1 h _ (tW_get hw)) ((C.2.2.2.2.2.2.2.1.1.2 1 _ rfl).1 n _) (fun q => by cases q) (by show ¬ (i < 0 ∨ (arrV _ _ _).slots.size ≤ _); rw [arrV_size]; exact hvp) rfl rfl hd fun H1 e1 z oq => ?_
  refine kk p l e s m args below meth c C S H1 _ arr (hH.up hw ?_ z oq) hL
  show H1[Γ.1.1 + h]? = some (vp_cell _ _)
  rw [e1]
  show some (Cell.setSlot (arrV (Γ.2.2 1) n (fun k => .int (f k))) i.toNatClampNeg (narrow .char (.int x))) = some (arrV (Γ.2.2 1) n (fun k => .int ((upd f j (vp_nar .char x)) k)))
  rw [arrV_store, hcl]
  congr 2
  funext q
  by_cases hq : q = j
  · subst hq
    simp [updV, upd, vp_nar]
    try rfl
  · simp [updV, upd, vp_nar, hq]
theorem r_zast {h n : Nat} {f : Nat → Int32} {i : Int32} {x : Int32} (pc' : Nat) (hd : decode X.2.1 pc = .ok (.bastore, 1)) (hp : pc + 1 = pc') (j : Nat) (hw : w[h]? = some (aZ n f)) (hi : i = nI j) (hj : j < n) (hn : n < 2147483648) (kk : Rn Γ X R sc FZ kc ks (w.set h (aZ n (upd f j (vp_nar .boolean x)))) pc' ls st) : Rn Γ X R sc FZ kc ks w pc ls (.int x :: .int i :: .ref h :: st) := by
  subst hp
  intro p l e s m args below meth c C S H locs arr hH hL
  have hvp := nI_vp hi hj hn
  have hcl := nI_cl hi hj hn
  refine W.zast C.1 C.2.1 (hH.1.1 h _ (tW_get hw)) ((C.2.2.2.2.2.2.2.1.1.2 2 _ rfl).1 n _) (fun q => by cases q) (by show ¬ (i < 0 ∨ (arrV _ _ _).slots.size ≤ _); rw [arrV_size]; exact hvp) rfl rfl hd fun H1 e1 z oq => ?_
  refine kk p l e s m args below meth c C S H1 _ arr (hH.up hw ?_ z oq) hL
  show H1[Γ.1.1 + h]? = some (vp_cell _ _)
  rw [e1]
  show some (Cell.setSlot (arrV (Γ.2.2 2) n (fun k => .int (f k))) i.toNatClampNeg (narrow .boolean (.int x))) = some (arrV (Γ.2.2 2) n (fun k => .int ((upd f j (vp_nar .boolean x)) k)))
  rw [arrV_store, hcl]
  congr 2
  funext q
  by_cases hq : q = j
  · subst hq
    simp [updV, upd, vp_nar]
    try rfl
  · simp [updV, upd, vp_nar, hq]
theorem r_last {h n : Nat} {f : Nat → Int64} {i : Int32} {x : Int64} (pc' : Nat) (hd : decode X.2.1 pc = .ok (.lastore, 1)) (hp : pc + 1 = pc') (j : Nat) (hw : w[h]? = some (aL n f)) (hi : i = nI j) (hj : j < n) (hn : n < 2147483648) (kk : Rn Γ X R sc FZ kc ks (w.set h (aL n (vp_updL f j x))) pc' ls st) : Rn Γ X R sc FZ kc ks w pc ls (.long x :: .int i :: .ref h :: st) := by
  subst hp
  intro p l e s m args below meth c C S H locs arr hH hL
  have hvp := nI_vp hi hj hn
  have hcl := nI_cl hi hj hn
  refine W.last C.1 C.2.1 (hH.1.1 h _ (tW_get hw)) ((C.2.2.2.2.2.2.2.1.1.2 3 _ rfl).1 n _) (fun q => by cases q) (by show ¬ (i < 0 ∨ (arrV _ _ _).slots.size ≤ _); rw [arrV_size]; exact hvp) rfl rfl hd fun H1 e1 z oq => ?_
  refine kk p l e s m args below meth c C S H1 _ arr (hH.up hw ?_ z oq) hL
  show H1[Γ.1.1 + h]? = some (vp_cell _ _)
  rw [e1]
  show some (Cell.setSlot (arrV (Γ.2.2 3) n (fun k => .long (f k))) i.toNatClampNeg (.long x)) = some (arrV (Γ.2.2 3) n (fun k => .long ((vp_updL f j x) k)))
  rw [arrV_store, hcl]
  congr 2
  funext q
  by_cases hq : q = j
  · subst hq
    simp [updV, vp_updL]
    try rfl
  · simp [updV, vp_updL, hq]
theorem r_gast {h n v : Nat} {f : Nat → Option Nat} {i : Int32} {vs : List Value} (pc' : Nat) (hd : decode X.2.1 pc = .ok (.aastore, 1)) (hp : pc + 1 = pc') (j : Nat) (hw : w[h]? = some (aG n f)) (hi : i = nI j) (hj : j < n) (hn : n < 2147483648) (hv : w[v]? = some (oB 1 vs)) (kk : Rn Γ X R sc FZ kc ks (w.set h (aG n (va_up f j (some v)))) pc' ls st) : Rn Γ X R sc FZ kc ks w pc ls (.ref v :: .int i :: .ref h :: st) := by
  subst hp
  intro p l e s m args below meth c C S H locs arr hH hL
  have hvp := nI_vp hi hj hn
  have hcl := nI_cl hi hj hn
  have hlt : i.toNatClampNeg < n := Nat.not_le.mp fun q => hvp (Or.inr q)
  have h0 : ¬ i < 0 := fun q => hvp (Or.inl q)
  have hK := C.2.2.2.2.2.2.2.1.1
  obtain ⟨r', hr', cellV, g1, g2, g3, -⟩ := hH.1.1 v _ (tW_get hv)
  have hcls := (hK.1 1 (RX1, TX1, 9) rfl).2
  obtain ⟨kA, comp, k1, k2, k3, -⟩ := (hK.2 4 _ rfl).2
  have hcomp : comp = Γ.2.1.1 1 := Option.some.inj (k3.symm.trans hcls.1)
  subst hcomp
  obtain ⟨kC, hkC, -⟩ := hcls.2
  refine W.aast C.1 C.2.1 (hH.1.1 h _ (tW_get hw)) (fun q h => by cases h) (fun h => by cases h) k1 k2 rfl hkC ⟨h0, by show _ < (arrV _ _ _).slots.size; rw [arrV_size]; exact hlt⟩ g1 (fun q h => by rw [g3] at h; cases h) (by rw [g2]; exact hkC) (by rw [g2]; exact va_assign hcls) rfl rfl hd fun H1 e1 z oq => ?_
  refine kk p l e s m args below meth c C S H1 _ arr (hH.up hw ?_ z oq) hL
  show H1[Γ.1.1 + h]? = some (vp_cell _ _)
  rw [e1]
  show some (Cell.setSlot (arrV (Γ.2.2 4) n (fun k => va_rf ((f k).map (Γ.1.1 + ·)))) i.toNatClampNeg (.ref (Γ.1.1 + v))) = some (arrV (Γ.2.2 4) n (fun k => va_rf (((va_up f j (some v)) k).map (Γ.1.1 + ·))))
  rw [arrV_store, hcl]
  congr 2
  funext q
  by_cases hq : q = j
  · subst hq
    simp [updV, va_up, va_rf]
  · simp [updV, va_up, hq]
def aLen : PC → Option Nat
  | .inl (_, n, _) => some n
  | .inr (.inl (n, _)) => some n
  | .inr (.inr (.inl (n, _))) => some n
  | _ => none
theorem r_alenI {h n : Nat} {f : Nat → Int32} (pc' : Nat) (hd : decode X.2.1 pc = .ok (.arraylength, 1)) (hp : pc + 1 = pc') (hw : w[h]? = some (aI n f)) (kk : Rn Γ X R sc FZ kc ks w pc' ls (.int (nI n) :: st)) : Rn Γ X R sc FZ kc ks w pc ls (.ref h :: st) := by
  subst hp
  intro p l e s m args below meth c C S H locs arr hH hL
  exact va_alen C.1 C.2.1 C.2.2.2.2.2.2.2.1.1 hH.1.1 h 0 (tW_get hw) rfl rfl hd (kk p l e s m args below meth c C S H locs arr hH hL)
theorem r_alenL {h n : Nat} {f : Nat → Int64} (pc' : Nat) (hd : decode X.2.1 pc = .ok (.arraylength, 1)) (hp : pc + 1 = pc') (hw : w[h]? = some (aL n f)) (kk : Rn Γ X R sc FZ kc ks w pc' ls (.int (nI n) :: st)) : Rn Γ X R sc FZ kc ks w pc ls (.ref h :: st) := by
  subst hp
  intro p l e s m args below meth c C S H locs arr hH hL
  exact va_alen C.1 C.2.1 C.2.2.2.2.2.2.2.1.1 hH.1.1 h 3 (tW_get hw) rfl rfl hd (kk p l e s m args below meth c C S H locs arr hH hL)
theorem r_alenG {h n : Nat} {f : Nat → Option Nat} (pc' : Nat) (hd : decode X.2.1 pc = .ok (.arraylength, 1)) (hp : pc + 1 = pc') (hw : w[h]? = some (aG n f)) (kk : Rn Γ X R sc FZ kc ks w pc' ls (.int (nI n) :: st)) : Rn Γ X R sc FZ kc ks w pc ls (.ref h :: st) := by
  subst hp
  intro p l e s m args below meth c C S H locs arr hH hL
  exact va_alen C.1 C.2.1 C.2.2.2.2.2.2.2.1.1 hH.1.1 h 4 (tW_get hw) rfl rfl hd (kk p l e s m args below meth c C S H locs arr hH hL)
theorem r_newaI {i : Int32} (pc' n : Nat) (hd : decode X.2.1 pc = .ok (.newarray .int, 2)) (hp : pc + 2 = pc') (ht : Cond.arrayClass .int ∈ WT) (hi : i = nI n) (hn : n ≤ 60000) (hc : kc + 1 ≤ R.cells) (hs : ks + n ≤ R.slots) (kk : Rn Γ X R sc FZ (kc + 1) (ks + n) (w ++ [aI n (fun _ => 0)]) pc' ls (.ref w.length :: st)) : Rn Γ X R sc FZ kc ks w pc ls (.int i :: st) := by
  subst hp
  subst hi
  intro p l e s m args below meth c C S H locs arr hH hL
  have hn2 : n < 2 ^ 31 := Nat.lt_of_le_of_lt hn (by decide)
  refine va_newaK (atype := .int) (N := n) C.1 C.2.1 (C.2.2.2.2.2.2.1 _ ht) rfl hd rfl (nI_pos hn2) (nI_clamp hn2) (by show n * _ ≤ _; exact Nat.le_trans (Nat.mul_le_mul_right _ hn) (by decide)) hc hs rfl fun H1 cA e1 z o1 hAr hNm => ?_
  have hcA : cA = Γ.2.2 0 := Option.some.inj (hNm.symm.trans ((C.2.2.2.2.2.2.2.1.1.2 0 _ rfl).2))
  subst hcA
  have h1 := kk p l e s m args below meth c C S H1 locs arr (hH.new (c := aI n (fun _ => 0)) e1 z o1) hL
  rw [hH.1.2]
  exact h1
theorem r_newaC {i : Int32} (pc' n : Nat) (hd : decode X.2.1 pc = .ok (.newarray .char, 2)) (hp : pc + 2 = pc') (ht : Cond.arrayClass .char ∈ WT) (hi : i = nI n) (hn : n ≤ 60000) (hc : kc + 1 ≤ R.cells) (hs : ks + n ≤ R.slots) (kk : Rn Γ X R sc FZ (kc + 1) (ks + n) (w ++ [aC n (fun _ => 0)]) pc' ls (.ref w.length :: st)) : Rn Γ X R sc FZ kc ks w pc ls (.int i :: st) := by
  subst hp
  subst hi
  intro p l e s m args below meth c C S H locs arr hH hL
  have hn2 : n < 2 ^ 31 := Nat.lt_of_le_of_lt hn (by decide)
  refine va_newaK (atype := .char) (N := n) C.1 C.2.1 (C.2.2.2.2.2.2.1 _ ht) rfl hd rfl (nI_pos hn2) (nI_clamp hn2) (by show n * _ ≤ _; exact Nat.le_trans (Nat.mul_le_mul_right _ hn) (by decide)) hc hs rfl fun H1 cA e1 z o1 hAr hNm => ?_
  have hcA : cA = Γ.2.2 1 := Option.some.inj (hNm.symm.trans ((C.2.2.2.2.2.2.2.1.1.2 1 _ rfl).2))
  subst hcA
  have h1 := kk p l e s m args below meth c C S H1 locs arr (hH.new (c := aC n (fun _ => 0)) e1 z o1) hL
  rw [hH.1.2]
  exact h1
theorem r_newaZ {i : Int32} (pc' n : Nat) (hd : decode X.2.1 pc = .ok (.newarray .boolean, 2)) (hp : pc + 2 = pc') (ht : Cond.arrayClass .boolean ∈ WT) (hi : i = nI n) (hn : n ≤ 60000) (hc : kc + 1 ≤ R.cells) (hs : ks + n ≤ R.slots) (kk : Rn Γ X R sc FZ (kc + 1) (ks + n) (w ++ [aZ n (fun _ => 0)]) pc' ls (.ref w.length :: st)) : Rn Γ X R sc FZ kc ks w pc ls (.int i :: st) := by
  subst hp
  subst hi
  intro p l e s m args below meth c C S H locs arr hH hL
  have hn2 : n < 2 ^ 31 := Nat.lt_of_le_of_lt hn (by decide)
  refine va_newaK (atype := .boolean) (N := n) C.1 C.2.1 (C.2.2.2.2.2.2.1 _ ht) rfl hd rfl (nI_pos hn2) (nI_clamp hn2) (by show n * _ ≤ _; exact Nat.le_trans (Nat.mul_le_mul_right _ hn) (by decide)) hc hs rfl fun H1 cA e1 z o1 hAr hNm => ?_
  have hcA : cA = Γ.2.2 2 := Option.some.inj (hNm.symm.trans ((C.2.2.2.2.2.2.2.1.1.2 2 _ rfl).2))
  subst hcA
  have h1 := kk p l e s m args below meth c C S H1 locs arr (hH.new (c := aZ n (fun _ => 0)) e1 z o1) hL
  rw [hH.1.2]
  exact h1
theorem r_newaL {i : Int32} (pc' n : Nat) (hd : decode X.2.1 pc = .ok (.newarray .long, 2)) (hp : pc + 2 = pc') (ht : Cond.arrayClass .long ∈ WT) (hi : i = nI n) (hn : n ≤ 60000) (hc : kc + 1 ≤ R.cells) (hs : ks + n ≤ R.slots) (kk : Rn Γ X R sc FZ (kc + 1) (ks + n) (w ++ [aL n (fun _ => 0)]) pc' ls (.ref w.length :: st)) : Rn Γ X R sc FZ kc ks w pc ls (.int i :: st) := by
  subst hp
  subst hi
  intro p l e s m args below meth c C S H locs arr hH hL
  have hn2 : n < 2 ^ 31 := Nat.lt_of_le_of_lt hn (by decide)
  refine va_newaK (atype := .long) (N := n) C.1 C.2.1 (C.2.2.2.2.2.2.1 _ ht) rfl hd rfl (nI_pos hn2) (nI_clamp hn2) (by show n * _ ≤ _; exact Nat.le_trans (Nat.mul_le_mul_right _ hn) (by decide)) hc hs rfl fun H1 cA e1 z o1 hAr hNm => ?_
  have hcA : cA = Γ.2.2 3 := Option.some.inj (hNm.symm.trans ((C.2.2.2.2.2.2.2.1.1.2 3 _ rfl).2))
  subst hcA
  have h1 := kk p l e s m args below meth c C S H1 locs arr (hH.new (c := aL n (fun _ => 0)) e1 z o1) hL
  rw [hH.1.2]
  exact h1
end HEAP
end
section
/-! ===== making objects, copying arrays, calls, ends ===== -/
def stw (st : List Value) : Nat := (st.map fun v => v.category).sum
theorem stw_tv (Γ : CT) (st : List Value) : ((st.map (tv Γ)).map fun v => v.category).sum = stw st := by
  unfold stw
  rw [List.map_map]
  congr 1
  exact List.map_congr_left fun v _ => tv_cat Γ v
/-- behind a call, whatever it was -/
theorem mc_call {p : Program} {l : Launch} {e : Env} {R : Room} {s : State} {m : MethodId} {args : Array Value} {below : List Frame} {meth : Method} {c : Code} {H : Heap} {locs : List Loc} {cells slots mc ms pc : Nat} {Q : State → Prop} {arr : Array Slot} {st0 rest : List Value} {Qa : State → Outcome → State → Prop} {free : Addr → Prop}
    (hr : va_Run p l e R s m args below meth c H locs cells slots mc ms (F0 m pc arr st0) rest Qa free)
    (kk : ∀ (v : Option Value) (st₁ t : State) (L : List Loc), st₁.heap = H → Qa st₁ (.returned v) t → (∀ q ∈ L, free q.base) → W p l e R s m args below meth c t.heap (locs ++ L) (cells + mc) (slots + ms) Q (F0 m (pc + 3) arr (v.toList ++ rest))) : W p l e R s m args below meth c H locs cells slots Q (F0 m pc arr st0) := by
  intro T hT X
  obtain ⟨v, st₁, t, T', L, h0, X', hL, e1, e2, hQ, st⟩ := hr T hT X
  obtain ⟨t2, a1, b1⟩ := kk v st₁ t L h0 hQ hL T' e1 X'
  exact ⟨t2, st t2 a1, b1⟩
theorem HX.back {Γ : CT} {w w1 : PW} {s st₁ t : State} {H : Heap} {locs L : List Loc} (hH : HX Γ w s H locs) (h0 : st₁.heap = H) (hW : HW Γ w1 t.heap) (hF : va_F (fun q => Γ.1.1 ≤ q) st₁ t) (hL : ∀ q ∈ L, Γ.1.1 ≤ q.base) : HX Γ w1 s t.heap (locs ++ L) := by
  subst h0
  refine ⟨hW, ⟨Nat.le_trans hH.2.1.1 hF.1, fun q h1 h2 => (hF.2 q (Nat.lt_of_lt_of_le h1 hH.2.1.1) h2).trans (hH.2.1.2.1 q h1 h2), fun q hq => ?_⟩, hH.2.2⟩
  rcases List.mem_append.mp hq with h | h
  · exact hH.2.1.2.2 q h
  · exact hL q h
theorem Pc_blind {Γ : CT} {w : PW} {av : List Value} : FrameBlind (va_Pc av (fun U => HW Γ w U.heap ∧ KK Γ U)) := fun _ _ _ _ q => ⟨q.1, q.2.1, q.2.2.same rfl⟩
/-- a made method's facts -/
def kM (y : MethodName) (Xc : MX) (n : Nat) : Prop := Cond.code y Xc.2.1 Xc.2.2.1 Xc.2.2.2.1 ∈ WT ∧ Cond.initialized y.cls ∈ WT ∧ y.cls ≠ "java/lang/invoke/MethodHandle" ∧ y.cls ≠ "java/lang/invoke/VarHandle" ∧ (parseMethodDescriptor y.desc).map (fun d => d.parameters.length) = some n
def kS (own : String) (idx : Nat) (y : MethodName) : Prop := Cond.methodLink own idx y ∈ WT ∧ Cond.static y ∈ WT
def kSN (own : String) (idx : Nat) (y : MethodName) : Prop := (∃ h, Cond.methodLinkNest own idx y h ∈ lw_tbl) ∧ Cond.static y ∈ WT
def kV (own : String) (idx : Nat) (y : MethodName) : Prop := Cond.methodLink own idx y ∈ WT ∧ Cond.instanceMethod y ∈ WT ∧ Cond.selects y.cls y y ∈ WT
def kI (own : String) (idx : Nat) (y : MethodName) : Prop := Cond.methodLink own idx y ∈ WT ∧ Cond.instanceMethod y ∈ WT ∧ y.name = "<init>"
def kIN (own : String) (idx : Nat) (y : MethodName) : Prop := (∃ h, Cond.methodLinkNest own idx y h ∈ lw_tbl) ∧ Cond.instanceMethod y ∈ WT ∧ y.name = "<init>"
theorem WS_in {y : MethodName} {Xc : MX} (h : Cond.code y Xc.2.1 Xc.2.2.1 Xc.2.2.2.1 ∈ WT) : GoodIn WT (Cond.code y Xc.2.1 Xc.2.2.1 Xc.2.2.2.1 :: WT) := fun w hw => (List.mem_cons.mp hw).elim (fun e => e ▸ WT_good _ h) (WT_good w)
section CALLS
variable {Γ : CT} {X : MX} {R : Room} {sc : Option (Nat × (Nat → Int32))} {FZ : FX} {kc ks : Nat} {w : PW} {pc : Nat} {ls : List (Option Value)} {st stk : List Value}
theorem fits_room {d nL : Nat} (mc ms : Nat) (h : d < R.frames ∧ 19 + nL + 40 * d ≤ R.locals) : (rmO d mc ms).frames + 1 ≤ R.frames ∧ 8 + (nL + 11) + (rmO d mc ms).locals ≤ R.locals := ⟨h.1, by show 8 + (nL + 11) + 40 * d ≤ _; omega⟩
theorem r_callS {idx d mc ms : Nat} {y : MethodName} {Xc : MX} {As : List Value} {Q1 : Option Value → PW → Prop} (pc' : Nat) (hd : decode X.2.1 pc = .ok (.invokestatic idx, 3)) (hp : pc + 3 = pc') (hC : Cl Γ y Xc d mc ms As w Q1) (hk : kS X.1 idx y) (hm : kM y Xc As.length) (hs : As.reverse ++ st = stk) (hroom : d < R.frames ∧ 19 + Xc.2.2.1 + 40 * d ≤ R.locals) (hst : stw st ≤ 8) (hcs : kc + mc ≤ R.cells ∧ ks + ms ≤ R.slots) (kk : ∀ (r : Option Value) (w1 : PW), Q1 r w1 → Rn Γ X R sc FZ (kc + mc) (ks + ms) w1 pc' ls (r.toList ++ st)) : Rn Γ X R sc FZ kc ks w pc ls stk := by
  subst hp
  subst hs
  intro p l e s m args below meth c C S H locs arr hH hL
  obtain ⟨m1, m2, m3, m4, m5⟩ := hm
  have hS' : CallFix p m c X.2.1 X.2.2.1 s args WT X.1 := ⟨C.1, C.2.1, C.2.2.1, C.2.2.2.2.2.1, C.2.2.2.2.2.2.1⟩
  have hts := C.2.2.2.2.2.2.1
  have hPc : ∀ U : State, U.heap = H → s.WarmedH U.vm → va_Pc ((As).map (tv Γ)) (fun U => HW Γ w U.heap ∧ KK Γ U) (((As).map (tv Γ)).toArray) U := fun U hU hWm => ⟨rfl, by show HW Γ w U.heap; rw [hU]; exact hH.1, C.2.2.2.2.2.2.2.1.warm hWm⟩
  rw [show (As.reverse ++ st).map (tv Γ) = (As.map (tv Γ)).reverse ++ st.map (tv Γ) by simp [tv]]
  have hwst : 2 * (F0 m pc arr ((As.map (tv Γ)).reverse ++ st.map (tv Γ))).monitorRoom + ((st.map (tv Γ)).map fun v => v.category).sum ≤ 8 := lv_room (by rw [stw_tv]; exact hst)
  refine mc_call (Qa := Qc Γ Q1 (As.map (tv Γ)).toArray) (va_runS (As := As.map (tv Γ)) (n := As.length) hS' (hC l) ⟨callB_of As.length C.2.2.2.2.2.2.1 (WS_in m1) rfl rfl rfl (C.2.2.2.2.2.2.1 _ m2) (C.2.2.2.2.2.2.1 _ hk.1) ⟨m3, m4, m5⟩ (fits_room mc ms hroom), hts _ hk.2⟩ ⟨Pc_blind, hPc⟩ rfl (by simp) hL.1 rfl hwst hd hcs) (fun v st₁ t L h0 hq hL1 => ?_)
  obtain ⟨r, w1, e1, hQ, hW1, hF⟩ := hq
  cases e1
  have h2 := kk r w1 hQ p l e s m args below meth c C S t.heap (locs ++ L) arr (hH.back h0 hW1 hF hL1) hL
  rw [List.map_append] at h2
  rw [show (r.map (tv Γ)).toList = r.toList.map (tv Γ) by cases r <;> rfl]
  exact h2
theorem r_callSN {idx d mc ms : Nat} {y : MethodName} {Xc : MX} {As : List Value} {Q1 : Option Value → PW → Prop} (pc' : Nat) (hd : decode X.2.1 pc = .ok (.invokestatic idx, 3)) (hp : pc + 3 = pc') (hC : Cl Γ y Xc d mc ms As w Q1) (hk : kSN X.1 idx y) (hm : kM y Xc As.length) (hs : As.reverse ++ st = stk) (hroom : d < R.frames ∧ 19 + Xc.2.2.1 + 40 * d ≤ R.locals) (hst : stw st ≤ 8) (hcs : kc + mc ≤ R.cells ∧ ks + ms ≤ R.slots) (kk : ∀ (r : Option Value) (w1 : PW), Q1 r w1 → Rn Γ X R sc FZ (kc + mc) (ks + ms) w1 pc' ls (r.toList ++ st)) : Rn Γ X R sc FZ kc ks w pc ls stk := by
  subst hp
  subst hs
  intro p l e s m args below meth c C S H locs arr hH hL
  obtain ⟨m1, m2, m3, m4, m5⟩ := hm
  obtain ⟨⟨host, hn⟩, -⟩ := id hk
  have hS' : CallFix p m c X.2.1 X.2.2.1 s args WT X.1 := ⟨C.1, C.2.1, C.2.2.1, C.2.2.2.2.2.1, C.2.2.2.2.2.2.1⟩
  have hts := C.2.2.2.2.2.2.1
  have hPc : ∀ U : State, U.heap = H → s.WarmedH U.vm → va_Pc ((As).map (tv Γ)) (fun U => HW Γ w U.heap ∧ KK Γ U) (((As).map (tv Γ)).toArray) U := fun U hU hWm => ⟨rfl, by show HW Γ w U.heap; rw [hU]; exact hH.1, C.2.2.2.2.2.2.2.1.warm hWm⟩
  rw [show (As.reverse ++ st).map (tv Γ) = (As.map (tv Γ)).reverse ++ st.map (tv Γ) by simp [tv]]
  have hwst : 2 * (F0 m pc arr ((As.map (tv Γ)).reverse ++ st.map (tv Γ))).monitorRoom + ((st.map (tv Γ)).map fun v => v.category).sum ≤ 8 := lv_room (by rw [stw_tv]; exact hst)
  refine mc_call (Qa := Qc Γ Q1 (As.map (tv Γ)).toArray) (va_runSN (As := As.map (tv Γ)) (n := As.length) hS' (hC l) ⟨va_cnB As.length C.2.2.2.2.2.2.1 (WS_in m1) rfl rfl rfl (C.2.2.2.2.2.2.2.1.2.1 _ _ _ _ hn) (C.2.2.2.2.2.2.1 _ m2) ⟨m3, m4, m5⟩ (fits_room mc ms hroom), hts _ hk.2, trivial⟩ ⟨Pc_blind, hPc⟩ rfl (by simp) hL.1 rfl hwst hd hcs) (fun v st₁ t L h0 hq hL1 => ?_)
  obtain ⟨r, w1, e1, hQ, hW1, hF⟩ := hq
  cases e1
  have h2 := kk r w1 hQ p l e s m args below meth c C S t.heap (locs ++ L) arr (hH.back h0 hW1 hF hL1) hL
  rw [List.map_append] at h2
  rw [show (r.map (tv Γ)).toList = r.toList.map (tv Γ) by cases r <;> rfl]
  exact h2
theorem r_callV {h ci : Nat} {fs : List Value} {idx d mc ms : Nat} {y : MethodName} {Xc : MX} {As : List Value} {Q1 : Option Value → PW → Prop} (pc' : Nat) (hd : decode X.2.1 pc = .ok (.invokevirtual idx, 3)) (hp : pc + 3 = pc') (hC : Cl Γ y Xc d mc ms (.ref h :: As) w Q1) (hk : kV X.1 idx y) (hm : kM y Xc As.length) (hs : As.reverse ++ .ref h :: st = stk) (hw : w[h]? = some (oB ci fs)) (hcl : (vwCl[ci]?).map (fun q => q.1) = some y.cls) (hroom : d < R.frames ∧ 19 + Xc.2.2.1 + 40 * d ≤ R.locals) (hst : stw st ≤ 8) (hcs : kc + mc ≤ R.cells ∧ ks + ms ≤ R.slots) (kk : ∀ (r : Option Value) (w1 : PW), Q1 r w1 → Rn Γ X R sc FZ (kc + mc) (ks + ms) w1 pc' ls (r.toList ++ st)) : Rn Γ X R sc FZ kc ks w pc ls stk := by
  subst hp
  subst hs
  intro p l e s m args below meth c C S H locs arr hH hL
  obtain ⟨m1, m2, m3, m4, m5⟩ := hm
  obtain ⟨q0, hq0, hq1⟩ : ∃ q0, vwCl[ci]? = some q0 ∧ q0.1 = y.cls := by
    cases hh : vwCl[ci]? with
    | none => rw [hh] at hcl; cases hcl
    | some q0 => rw [hh] at hcl; exact ⟨q0, rfl, Option.some.inj hcl⟩
  have hrcv : ∃ cellB : Cell, H[Γ.1.1 + h]? = some cellB ∧ cellB.vm.isStatics = false ∧ s.vm.findClass y.cls = some cellB.cls := by
    rw [← hq1]
    exact va_recv C.2.2.2.2.2.2.2.1.1 hH.1.1 hq0 (tW_get hw)
  have hS' : CallFix p m c X.2.1 X.2.2.1 s args WT X.1 := ⟨C.1, C.2.1, C.2.2.1, C.2.2.2.2.2.1, C.2.2.2.2.2.2.1⟩
  have hts := C.2.2.2.2.2.2.1
  have hPc : ∀ U : State, U.heap = H → s.WarmedH U.vm → va_Pc (((.ref h :: As)).map (tv Γ)) (fun U => HW Γ w U.heap ∧ KK Γ U) ((((.ref h :: As)).map (tv Γ)).toArray) U := fun U hU hWm => ⟨rfl, by show HW Γ w U.heap; rw [hU]; exact hH.1, C.2.2.2.2.2.2.2.1.warm hWm⟩
  rw [show (As.reverse ++ .ref h :: st).map (tv Γ) = (As.map (tv Γ)).reverse ++ .ref (Γ.1.1 + h) :: st.map (tv Γ) by simp [tv]]
  have hwst : 2 * (F0 m pc arr ((As.map (tv Γ)).reverse ++ .ref (Γ.1.1 + h) :: st.map (tv Γ))).monitorRoom + ((st.map (tv Γ)).map fun v => v.category).sum ≤ 8 := lv_room (by rw [stw_tv]; exact hst)
  refine mc_call (Qa := Qc Γ Q1 (Value.ref (Γ.1.1 + h) :: As.map (tv Γ)).toArray) (va_runV (C := y.cls) (b := Γ.1.1 + h) (As := As.map (tv Γ)) (n := As.length) hS' (hC l) ⟨callB_of As.length C.2.2.2.2.2.2.1 (WS_in m1) rfl rfl rfl (C.2.2.2.2.2.2.1 _ m2) (C.2.2.2.2.2.2.1 _ hk.1) ⟨m3, m4, m5⟩ (fits_room mc ms hroom), hts _ hk.2.1, hts _ hk.2.2⟩ ⟨Pc_blind, hrcv, hPc⟩ rfl (by simp) hL.1 rfl hwst hd hcs) (fun v st₁ t L h0 hq hL1 => ?_)
  obtain ⟨r, w1, e1, hQ, hW1, hF⟩ := hq
  cases e1
  have h2 := kk r w1 hQ p l e s m args below meth c C S t.heap (locs ++ L) arr (hH.back h0 hW1 hF hL1) hL
  rw [List.map_append] at h2
  rw [show (r.map (tv Γ)).toList = r.toList.map (tv Γ) by cases r <;> rfl]
  exact h2
theorem r_callI {h ci : Nat} {fs : List Value} {idx d mc ms : Nat} {y : MethodName} {Xc : MX} {As : List Value} {Q1 : Option Value → PW → Prop} (pc' : Nat) (hd : decode X.2.1 pc = .ok (.invokespecial idx, 3)) (hp : pc + 3 = pc') (hC : Cl Γ y Xc d mc ms (.ref h :: As) w Q1) (hk : kI X.1 idx y) (hm : kM y Xc As.length) (hs : As.reverse ++ .ref h :: st = stk) (hret : Xc.2.2.2.1 = none) (hroom : d < R.frames ∧ 19 + Xc.2.2.1 + 40 * d ≤ R.locals) (hst : stw st ≤ 8) (hcs : kc + mc ≤ R.cells ∧ ks + ms ≤ R.slots) (kk : ∀ (r : Option Value) (w1 : PW), Q1 r w1 → Rn Γ X R sc FZ (kc + mc) (ks + ms) w1 pc' ls (r.toList ++ st)) : Rn Γ X R sc FZ kc ks w pc ls stk := by
  subst hp
  subst hs
  intro p l e s m args below meth c C S H locs arr hH hL
  obtain ⟨m1, m2, m3, m4, m5⟩ := hm
  obtain ⟨Xo, Xb, Xn, Xr, Xi⟩ := Xc
  have hret : Xr = none := hret
  subst hret
  have hS' : CallFix p m c X.2.1 X.2.2.1 s args WT X.1 := ⟨C.1, C.2.1, C.2.2.1, C.2.2.2.2.2.1, C.2.2.2.2.2.2.1⟩
  have hts := C.2.2.2.2.2.2.1
  have hPc : ∀ U : State, U.heap = H → s.WarmedH U.vm → va_Pc (((.ref h :: As)).map (tv Γ)) (fun U => HW Γ w U.heap ∧ KK Γ U) ((((.ref h :: As)).map (tv Γ)).toArray) U := fun U hU hWm => ⟨rfl, by show HW Γ w U.heap; rw [hU]; exact hH.1, C.2.2.2.2.2.2.2.1.warm hWm⟩
  rw [show (As.reverse ++ .ref h :: st).map (tv Γ) = (As.map (tv Γ)).reverse ++ .ref (Γ.1.1 + h) :: st.map (tv Γ) by simp [tv]]
  have hwst : 2 * (F0 m pc arr ((As.map (tv Γ)).reverse ++ .ref (Γ.1.1 + h) :: st.map (tv Γ))).monitorRoom + ((st.map (tv Γ)).map fun v => v.category).sum ≤ 8 := lv_room (by rw [stw_tv]; exact hst)
  refine mc_call (Qa := Qc Γ Q1 (Value.ref (Γ.1.1 + h) :: As.map (tv Γ)).toArray) (va_runI (b := Γ.1.1 + h) (As := As.map (tv Γ)) (n := As.length) hS' (hC l) ⟨callB_of As.length C.2.2.2.2.2.2.1 (WS_in m1) rfl rfl rfl (C.2.2.2.2.2.2.1 _ m2) (C.2.2.2.2.2.2.1 _ hk.1) ⟨m3, m4, m5⟩ (fits_room mc ms hroom), hk.2.2, hts _ hk.2.1⟩ ⟨Pc_blind, hPc⟩ rfl (by simp) hL.1 rfl hwst hd hcs) (fun v st₁ t L h0 hq hL1 => ?_)
  obtain ⟨r, w1, e1, hQ, hW1, hF⟩ := hq
  cases e1
  have h2 := kk r w1 hQ p l e s m args below meth c C S t.heap (locs ++ L) arr (hH.back h0 hW1 hF hL1) hL
  rw [List.map_append] at h2
  rw [show (r.map (tv Γ)).toList = r.toList.map (tv Γ) by cases r <;> rfl]
  exact h2
theorem r_callIN {h ci : Nat} {fs : List Value} {idx d mc ms : Nat} {y : MethodName} {Xc : MX} {As : List Value} {Q1 : Option Value → PW → Prop} (pc' : Nat) (hd : decode X.2.1 pc = .ok (.invokespecial idx, 3)) (hp : pc + 3 = pc') (hC : Cl Γ y Xc d mc ms (.ref h :: As) w Q1) (hk : kIN X.1 idx y) (hm : kM y Xc As.length) (hs : As.reverse ++ .ref h :: st = stk) (hret : Xc.2.2.2.1 = none) (hroom : d < R.frames ∧ 19 + Xc.2.2.1 + 40 * d ≤ R.locals) (hst : stw st ≤ 8) (hcs : kc + mc ≤ R.cells ∧ ks + ms ≤ R.slots) (kk : ∀ (r : Option Value) (w1 : PW), Q1 r w1 → Rn Γ X R sc FZ (kc + mc) (ks + ms) w1 pc' ls (r.toList ++ st)) : Rn Γ X R sc FZ kc ks w pc ls stk := by
  subst hp
  subst hs
  intro p l e s m args below meth c C S H locs arr hH hL
  obtain ⟨m1, m2, m3, m4, m5⟩ := hm
  obtain ⟨⟨host, hn⟩, -⟩ := id hk
  obtain ⟨Xo, Xb, Xn, Xr, Xi⟩ := Xc
  have hret : Xr = none := hret
  subst hret
  have hS' : CallFix p m c X.2.1 X.2.2.1 s args WT X.1 := ⟨C.1, C.2.1, C.2.2.1, C.2.2.2.2.2.1, C.2.2.2.2.2.2.1⟩
  have hts := C.2.2.2.2.2.2.1
  have hPc : ∀ U : State, U.heap = H → s.WarmedH U.vm → va_Pc (((.ref h :: As)).map (tv Γ)) (fun U => HW Γ w U.heap ∧ KK Γ U) ((((.ref h :: As)).map (tv Γ)).toArray) U := fun U hU hWm => ⟨rfl, by show HW Γ w U.heap; rw [hU]; exact hH.1, C.2.2.2.2.2.2.2.1.warm hWm⟩
  rw [show (As.reverse ++ .ref h :: st).map (tv Γ) = (As.map (tv Γ)).reverse ++ .ref (Γ.1.1 + h) :: st.map (tv Γ) by simp [tv]]
  have hwst : 2 * (F0 m pc arr ((As.map (tv Γ)).reverse ++ .ref (Γ.1.1 + h) :: st.map (tv Γ))).monitorRoom + ((st.map (tv Γ)).map fun v => v.category).sum ≤ 8 := lv_room (by rw [stw_tv]; exact hst)
  refine mc_call (Qa := Qc Γ Q1 (Value.ref (Γ.1.1 + h) :: As.map (tv Γ)).toArray) (va_runIN (b := Γ.1.1 + h) (As := As.map (tv Γ)) (n := As.length) hS' (hC l) ⟨va_cnB As.length C.2.2.2.2.2.2.1 (WS_in m1) rfl rfl rfl (C.2.2.2.2.2.2.2.1.2.1 _ _ _ _ hn) (C.2.2.2.2.2.2.1 _ m2) ⟨m3, m4, m5⟩ (fits_room mc ms hroom), hk.2.2, hts _ hk.2.1⟩ ⟨Pc_blind, hPc⟩ rfl (by simp) hL.1 rfl hwst hd hcs) (fun v st₁ t L h0 hq hL1 => ?_)
  obtain ⟨r, w1, e1, hQ, hW1, hF⟩ := hq
  cases e1
  have h2 := kk r w1 hQ p l e s m args below meth c C S t.heap (locs ++ L) arr (hH.back h0 hW1 hF hL1) hL
  rw [List.map_append] at h2
  rw [show (r.map (tv Γ)).toList = r.toList.map (tv Γ) by cases r <;> rfl]
  exact h2
end CALLS
end
section
/-! ===== ends, new objects, arraycopy ===== -/
section ENDS
variable {Γ : CT} {X : MX} {R : Room} {sc : Option (Nat × (Nat → Int32))} {FZ : FX} {kc ks mc ms : Nat} {w : PW} {pc : Nat} {ls : List (Option Value)} {st : List Value} {Q : Option Value → PW → Prop}
theorem r_zret {ty : FieldType} {v : Int32} (hd : decode X.2.1 pc = .ok (.ireturn, 1)) (hr : X.2.2.2.1 = some ty) (hn : narrow ty (.int v) = .int v) (hc : kc ≤ mc) (hs : ks ≤ ms) (hQ : Q (some (.int v)) w) : Rn Γ X R sc (FinM Q mc ms) kc ks w pc ls [.int v] := by
  intro p l e s m args below meth c C S H locs arr hH hL
  refine W.widen (k := mc) (n := ms) hc hs ?_
  exact W.zret (ty := ty) C.1 C.2.1 (C.2.2.2.1.trans hr) hn (fun t ht hW => ⟨some (.int v), w, rfl, hQ, by rw [ht]; exact hH.1, hH.2.1.F ht⟩) (fun q hq => hH.2.1.2.2 q hq) hd C.2.2.2.2.1
theorem r_iret {v : Int32} (hd : decode X.2.1 pc = .ok (.ireturn, 1)) (hr : X.2.2.2.1 = some .int) (hc : kc ≤ mc) (hs : ks ≤ ms) (hQ : Q (some (.int v)) w) : Rn Γ X R sc (FinM Q mc ms) kc ks w pc ls [.int v] := r_zret hd hr rfl hc hs hQ
theorem r_bret {v : Int32} (hd : decode X.2.1 pc = .ok (.ireturn, 1)) (hr : X.2.2.2.1 = some .boolean) (hv : v = 0 ∨ v = 1) (hc : kc ≤ mc) (hs : ks ≤ ms) (hQ : Q (some (.int v)) w) : Rn Γ X R sc (FinM Q mc ms) kc ks w pc ls [.int v] := r_zret hd hr (by rcases hv with rfl | rfl <;> rfl) hc hs hQ
theorem r_cret {v : Int32} {n : Nat} (hd : decode X.2.1 pc = .ok (.ireturn, 1)) (hr : X.2.2.2.1 = some .char) (hv : v = nI n) (hn : n < 65536) (hc : kc ≤ mc) (hs : ks ≤ ms) (hQ : Q (some (.int v)) w) : Rn Γ X R sc (FinM Q mc ms) kc ks w pc ls [.int v] := r_zret hd hr (by rw [hv]; exact (pk_charN hn).1) hc hs hQ
theorem r_vret (hd : decode X.2.1 pc = .ok (.return_, 1)) (hr : X.2.2.2.1 = none) (hc : kc ≤ mc) (hs : ks ≤ ms) (hQ : Q none w) : Rn Γ X R sc (FinM Q mc ms) kc ks w pc ls [] := by
  intro p l e s m args below meth c C S H locs arr hH hL
  refine W.widen (k := mc) (n := ms) hc hs ?_
  exact W.vret C.1 C.2.1 (C.2.2.2.1.trans hr) (fun t ht hW => ⟨none, w, rfl, hQ, by rw [ht]; exact hH.1, hH.2.1.F ht⟩) (fun q hq => hH.2.1.2.2 q hq) hd C.2.2.2.2.1
theorem r_lret {v : Int64} (hd : decode X.2.1 pc = .ok (.lreturn, 1)) (hr : X.2.2.2.1 = some .long) (hc : kc ≤ mc) (hs : ks ≤ ms) (hQ : Q (some (.long v)) w) : Rn Γ X R sc (FinM Q mc ms) kc ks w pc ls [.long v] := by
  intro p l e s m args below meth c C S H locs arr hH hL
  refine W.widen (k := mc) (n := ms) hc hs ?_
  exact W.lret C.1 C.2.1 (C.2.2.2.1.trans hr) (fun t ht hW => ⟨some (.long v), w, rfl, hQ, by rw [ht]; exact hH.1, hH.2.1.F ht⟩) (fun q hq => hH.2.1.2.2 q hq) hd C.2.2.2.2.1
theorem r_aret {h : Nat} {n : String} (hd : decode X.2.1 pc = .ok (.areturn, 1)) (hr : X.2.2.2.1 = some (.object n)) (hc : kc ≤ mc) (hs : ks ≤ ms) (hQ : Q (some (.ref h)) w) : Rn Γ X R sc (FinM Q mc ms) kc ks w pc ls [.ref h] := by
  intro p l e s m args below meth c C S H locs arr hH hL
  refine W.widen (k := mc) (n := ms) hc hs ?_
  exact W.aret C.1 C.2.1 (C.2.2.2.1.trans hr) (Or.inl ⟨n, rfl⟩) (Or.inr ⟨_, rfl⟩) (fun t ht hW => ⟨some (.ref h), w, rfl, hQ, by rw [ht]; exact hH.1, hH.2.1.F ht⟩) (fun q hq => hH.2.1.2.2 q hq) hd C.2.2.2.2.1
theorem r_obj {h idx : Nat} (pc' : Nat) (hd : decode X.2.1 pc = .ok (.invokespecial idx, 3)) (hp : pc + 3 = pc') (h1 : Cond.methodLink X.1 idx objectInit ∈ WT) (h2 : Cond.instanceMethod objectInit ∈ WT) (h3 : Cond.code objectInit ⟨#[0xb1]⟩ 1 none ∈ WT) (hst : stw st ≤ 8) (hR : 1 ≤ R.frames ∧ 20 ≤ R.locals) (kk : Rn Γ X R sc FZ kc ks w pc' ls st) : Rn Γ X R sc FZ kc ks w pc ls (.ref h :: st) := by
  subst hp
  intro p l e s m args below meth c C S H locs arr hH hL
  have hts := C.2.2.2.2.2.2.1
  refine W.objInit C.1 C.2.1 C.2.2.2.2.2.1 (hts _ h1) (hts _ h2) (hts _ h3) rfl (by rw [C.2.2.1]; exact hL.1) rfl hd hR.1 ?_ (kk p l e s m args below meth c C S H locs arr hH hL)
  show 2 * 0 + ((st.map (tv Γ)).map fun v => v.category).sum + 12 ≤ R.locals
  rw [stw_tv]
  omega
/-- what a 'new' links -/
def kN (own : String) (idx ci n : Nat) (fs : List Value) : Prop := ∃ (q : vw_C) (ty0 : Nat → FieldType), KCl ci q ty0 ∧ q.2.2 = n ∧ Cond.classLink own idx q.1 ∈ WT ∧ Cond.instantiable q.1 q.2.2 ∈ WT ∧ Cond.initialized q.1 ∈ WT ∧ ∀ j, j < q.2.2 → defaultValue (ty0 j) = vp_V fs j
def plain0 : Value → Bool
  | .int _ => true
  | .long _ => true
  | .null => true
  | _ => false
theorem plain_tv {Γ : CT} {fs : List Value} (h : fs.all plain0 = true) : fs.map (tv Γ) = fs := by
  induction fs with
  | nil => rfl
  | cons v l ih =>
    simp only [List.all_cons, Bool.and_eq_true] at h
    rw [List.map_cons, ih h.2]
    congr 1
    cases v <;> first | rfl | (cases h.1; done)
theorem r_new {idx ci n : Nat} {fs : List Value} (pc' : Nat) (hd : decode X.2.1 pc = .ok (.new idx, 3)) (hp : pc + 3 = pc') (hk : kN X.1 idx ci n fs) (hf : fs.all plain0 = true) (hc : kc + 1 ≤ R.cells) (hs : ks + n ≤ R.slots) (kk : Rn Γ X R sc FZ (kc + 1) (ks + n) (w ++ [oB ci fs]) pc' ls (.ref w.length :: st)) : Rn Γ X R sc FZ kc ks w pc ls st := by
  subst hp
  intro p l e s m args below meth c C S H locs arr hH hL
  obtain ⟨q, ty0, ⟨g1, g2, g3, g4⟩, rfl, hl, hi, hn, hdf⟩ := hk
  have hts := C.2.2.2.2.2.2.1
  have hKn := C.2.2.2.2.2.2.2.1.1.1 ci _ g1
  refine W.newcK C.1 C.2.1 C.2.2.2.2.2.1 (hts _ hl) (hts _ hi) (hts _ hn) rfl hd hc hs hKn.2.1 rfl fun H1 kC hkC e1 z1 o1 => ?_
  have h1 := kk p l e s m args below meth c C S H1 locs arr (hH.new (c := oB ci fs) ?_ z1 o1) hL
  · rw [hH.1.2]
    exact h1
  · refine ⟨_, g1, ?_⟩
    show t_OB H.size _ _ _ H1 (vp_V (fs.map (tv Γ)))
    rw [plain_tv hf]
    exact (u_born ty0 hts g2 hKn hkC e1 g3).to hdf
theorem r_anew {i : Int32} {idx : Nat} (pc' n : Nat) (hd : decode X.2.1 pc = .ok (.anewarray idx, 3)) (hp : pc + 3 = pc') (hl : Cond.classLink X.1 idx RG ∈ WT) (hi : i = nI n) (hn : n ≤ 60000) (hc : kc + 1 ≤ R.cells) (hs : ks + n ≤ R.slots) (kk : Rn Γ X R sc FZ (kc + 1) (ks + n) (w ++ [aG n (fun _ => none)]) pc' ls (.ref w.length :: st)) : Rn Γ X R sc FZ kc ks w pc ls (.int i :: st) := by
  subst hp
  subst hi
  intro p l e s m args below meth c C S H locs arr hH hL
  have hts := C.2.2.2.2.2.2.1
  have hn2 : n < 2 ^ 31 := Nat.lt_of_le_of_lt hn (by decide)
  have hcl : (nI n).toNatClampNeg = n := nI_clamp hn2
  refine W.anew C.1 C.2.1 C.2.2.2.2.2.1 (hts _ hl) (va_AO.use C.2.2.2.2.2.2.2.1.2.2) rfl hd rfl (nI_pos hn2) (by rw [hcl]; omega) hc (by rw [hcl]; exact hs) fun cA kA comp f1 f2 f3 f4 => ?_
  have hcA : cA = Γ.2.2 4 := by
    obtain ⟨_, _, _, _, _, k4⟩ := (C.2.2.2.2.2.2.2.1.1.2 4 _ rfl).2
    exact Option.some.inj (f1.symm.trans k4)
  subst hcA
  rw [hcl]
  generalize hH1 : H.push ({ cls := Γ.2.2 4, slots := Array.replicate n .null, vm := .none } : Cell) = H1
  have z1 : H1.size = H.size + 1 := by rw [← hH1, Array.size_push]
  have e1 : H1[H.size]? = some (arrV (Γ.2.2 4) n (fun _ => .null)) := by rw [← hH1, Array.getElem?_push_size, ← arrV_new]
  have o1 : ∀ q : Nat, q < H.size → H1[q]? = H[q]? := fun q hq => by rw [← hH1, Array.getElem?_push, if_neg (Nat.ne_of_lt hq)]
  have h1 := kk p l e s m args below meth c C S H1 locs arr (hH.new (c := aG n (fun _ => none)) e1 z1 o1) hL
  rw [hH.1.2]
  exact h1
end ENDS
end
section
/-! ===== arraycopy of a whole array ===== -/
section COPY
variable {Γ : CT} {X : MX} {R : Room} {sc : Option (Nat × (Nat → Int32))} {FZ : FX} {kc ks mc ms : Nat} {w : PW} {pc : Nat} {ls : List (Option Value)} {st : List Value}
theorem arrV_ext {c : ClassId} {n : Nat} {f g : Nat → Value} (h : ∀ k, k < n → f k = g k) : arrV c n f = arrV c n g := by
  unfold arrV
  congr 1
  apply Array.ext (by simp)
  intro i h1 h2
  simp at h1
  simp [h i h1]
theorem r_copyI {idx src dst n : Nat} {f g : Nat → Int32} {x0 x1 x2 : Int32} (pc' : Nat) (hd : decode X.2.1 pc = .ok (.invokestatic idx, 3)) (hp : pc + 3 = pc') (hw0 : w[src]? = some (aI n f)) (hw1 : w[dst]? = some (aI n g)) (h0 : x0 = 0) (h1 : x1 = 0) (h2 : x2 = nI n) (hn : n < 2147483648)
    (hl : Cond.methodLink X.1 idx arraycopyName ∈ WT) (hnat : Cond.native arraycopyName ∈ WT) (hstat : Cond.static arraycopyName ∈ WT) (hini : Cond.initialized "java/lang/System" ∈ WT) (hst : stw st ≤ 8) (hR : 1 ≤ R.frames ∧ 30 ≤ R.locals)
    (kk : Rn Γ X R sc FZ kc ks (w.set dst (aI n f)) pc' ls st) : Rn Γ X R sc FZ kc ks w pc ls (.int x2 :: .int x1 :: .ref dst :: .int x0 :: .ref src :: st) := by
  subst hp
  subst h0
  subst h1
  subst h2
  intro p l e s m args below meth c C S H locs arr hH hL
  have hts := C.2.2.2.2.2.2.1
  have hK := C.2.2.2.2.2.2.2.1.1
  have hc0 : H[Γ.1.1 + src]? = some (vp_cell (Γ.2.2 0) (n, .inl f)) := hH.1.1 src _ (tW_get hw0)
  have hc1 : H[Γ.1.1 + dst]? = some (vp_cell (Γ.2.2 0) (n, .inl g)) := hH.1.1 dst _ (tW_get hw1)
  obtain ⟨-, k0, hk0, cm0, hkk0⟩ := (hK.2 0 _ rfl).1 n (fun j => .int (f j))
  obtain ⟨-, k1, hk1, cm1, hkk1⟩ := (hK.2 0 _ rfl).1 n (fun j => .int (g j))
  have hcl : (nI n).toNatClampNeg = n := nI_clamp hn
  have hti : (nI n).toInt = (n : Int) := nI_toInt hn
  intro T hT X0
  obtain ⟨vm', X', step⟩ := X0.arraycopy C.1 C.2.2.2.2.2.1 (hts _ hl) (hts _ hnat) (hts _ hstat) (hts _ hini) (src := Γ.1.1 + src) (dst := Γ.1.1 + dst) (cs := vp_cell (Γ.2.2 0) (n, .inl f)) (cd := vp_cell (Γ.2.2 0) (n, .inl g)) (srcPos := 0) (destPos := 0) (n := nI n) (by rw [hT]; exact hc0) (by rw [hT]; exact hc1)
    (fun _ h => by cases h) (fun _ h => by cases h) (fun h => by cases h) (fun h => by cases h) hk0 hk1 hkk0 hkk1 (by simp [refKind]) (by decide) (by decide) (nI_pos hn)
    (by rw [hti]; show ¬ (0 : Int) + (n : Int) > ((arrV (Γ.2.2 0) n (fun j => .int (f j))).slots.size : Int); rw [arrV_size]; omega)
    (by rw [hti]; show ¬ (0 : Int) + (n : Int) > ((arrV (Γ.2.2 0) n (fun j => .int (g j))).slots.size : Int); rw [arrV_size]; omega)
    (fun vm₁ _ i hi => by
      rw [hcl] at hi
      have e : (vp_cell (Γ.2.2 0) (n, .inl f)).slots.getD ((0 : Int32).toNatClampNeg + i) .null = .int (f i) := by
        show (arrV (Γ.2.2 0) n (fun j => .int (f j))).slots.getD (0 + i) _ = _
        rw [Nat.zero_add, Array.getD_eq_getD_getElem?, arrV_read _ _ hi]
        rfl
      refine ⟨?_, ?_⟩
      · rw [e]
        rfl
      · rw [e]
        exact trivial)
    (g := F0 m pc arr (.int (nI n) :: .int 0 :: .ref (Γ.1.1 + dst) :: .int 0 :: .ref (Γ.1.1 + src) :: st.map (tv Γ))) rfl (by rw [C.2.2.1]; exact hL.1) (rest := st.map (tv Γ)) rfl (by rw [C.2.1]; exact hd) hR.1 (by show 2 * 0 + ((st.map (tv Γ)).map fun v => v.category).sum + (7 + 11) ≤ _; rw [stw_tv]; omega)
  have e1 : copied (vp_cell (Γ.2.2 0) (n, .inl f)) (vp_cell (Γ.2.2 0) (n, .inl g)) 0 0 (nI n) = vp_cell (Γ.2.2 0) (n, .inl f) := by
    have h := va_copied (fun z => .int z) (Γ.2.2 0) (Γ.2.2 0) f g (sp := 0) (dp := 0) (n := n) (n0 := n) (n1 := n) (by omega)
    have h5 : ∀ (cs cd : Cell), copied cs cd 0 0 (nI n) = cd.storeRun 0 (cs.stretch 0 n) := fun cs cd => by show cd.storeRun 0 (cs.stretch 0 (nI n).toNatClampNeg) = _; rw [hcl]
    refine (h5 _ _).trans (Eq.trans h ?_)
    show _ = arrV (Γ.2.2 0) n (fun j => .int (f j))
    refine arrV_ext fun k hk => ?_
    have : va_cpy f g 0 0 n k = f k := by rw [pk_cpy_in (by omega) (by omega)]; simp
    exact congrArg _ this
  rw [e1] at X' step
  have hl1 : Γ.1.1 + dst < H.size := (Array.getElem?_eq_some_iff.mp hc1).1
  have hheap : ((T.setVm vm').setCell (Γ.1.1 + dst) (vp_cell (Γ.2.2 0) (n, .inl f))).heap = H.setIfInBounds (Γ.1.1 + dst) (vp_cell (Γ.2.2 0) (n, .inl f)) := by rw [← hT]; rfl
  have oq : ∀ q : Nat, q ≠ Γ.1.1 + dst → (H.setIfInBounds (Γ.1.1 + dst) (vp_cell (Γ.2.2 0) (n, .inl f)))[q]? = H[q]? := fun q hq => by simp [Array.getElem?_setIfInBounds, Ne.symm hq]
  have hup := hH.up (j := 0) (c := aI n f) hw1 (show (H.setIfInBounds (Γ.1.1 + dst) _)[Γ.1.1 + dst]? = some _ by simp [Array.getElem?_setIfInBounds, hl1]) (by simp) oq
  obtain ⟨t, a1, b1⟩ := kk p l e s m args below meth c C S _ _ arr ⟨hup.1, ⟨hup.2.1.1, hup.2.1.2.1, fun q hq => by
      rcases List.mem_append.mp hq with h | h
      · exact hH.2.1.2.2 q h
      · obtain ⟨z, -, hz⟩ := List.mem_map.mp h
        rw [← hz]
        exact Nat.le_add_right _ _⟩, hup.2.2⟩ hL _ hheap X'
  exact ⟨t, step t a1, b1⟩
theorem r_copyL {idx src dst n : Nat} {f g : Nat → Int64} {x0 x1 x2 : Int32} (pc' : Nat) (hd : decode X.2.1 pc = .ok (.invokestatic idx, 3)) (hp : pc + 3 = pc') (hw0 : w[src]? = some (aL n f)) (hw1 : w[dst]? = some (aL n g)) (h0 : x0 = 0) (h1 : x1 = 0) (h2 : x2 = nI n) (hn : n < 2147483648)
    (hl : Cond.methodLink X.1 idx arraycopyName ∈ WT) (hnat : Cond.native arraycopyName ∈ WT) (hstat : Cond.static arraycopyName ∈ WT) (hini : Cond.initialized "java/lang/System" ∈ WT) (hst : stw st ≤ 8) (hR : 1 ≤ R.frames ∧ 30 ≤ R.locals)
    (kk : Rn Γ X R sc FZ kc ks (w.set dst (aL n f)) pc' ls st) : Rn Γ X R sc FZ kc ks w pc ls (.int x2 :: .int x1 :: .ref dst :: .int x0 :: .ref src :: st) := by
  subst hp
  subst h0
  subst h1
  subst h2
  intro p l e s m args below meth c C S H locs arr hH hL
  have hts := C.2.2.2.2.2.2.1
  have hK := C.2.2.2.2.2.2.2.1.1
  have hc0 : H[Γ.1.1 + src]? = some (vp_cell (Γ.2.2 3) (n, .inr (.inl f))) := hH.1.1 src _ (tW_get hw0)
  have hc1 : H[Γ.1.1 + dst]? = some (vp_cell (Γ.2.2 3) (n, .inr (.inl g))) := hH.1.1 dst _ (tW_get hw1)
  obtain ⟨-, k0, hk0, cm0, hkk0⟩ := (hK.2 3 _ rfl).1 n (fun j => .long (f j))
  obtain ⟨-, k1, hk1, cm1, hkk1⟩ := (hK.2 3 _ rfl).1 n (fun j => .long (g j))
  have hcl : (nI n).toNatClampNeg = n := nI_clamp hn
  have hti : (nI n).toInt = (n : Int) := nI_toInt hn
  intro T hT X0
  obtain ⟨vm', X', step⟩ := X0.arraycopy C.1 C.2.2.2.2.2.1 (hts _ hl) (hts _ hnat) (hts _ hstat) (hts _ hini) (src := Γ.1.1 + src) (dst := Γ.1.1 + dst) (cs := vp_cell (Γ.2.2 3) (n, .inr (.inl f))) (cd := vp_cell (Γ.2.2 3) (n, .inr (.inl g))) (srcPos := 0) (destPos := 0) (n := nI n) (by rw [hT]; exact hc0) (by rw [hT]; exact hc1)
    (fun _ h => by cases h) (fun _ h => by cases h) (fun h => by cases h) (fun h => by cases h) hk0 hk1 hkk0 hkk1 (by simp [refKind]) (by decide) (by decide) (nI_pos hn)
    (by rw [hti]; show ¬ (0 : Int) + (n : Int) > ((arrV (Γ.2.2 3) n (fun j => .long (f j))).slots.size : Int); rw [arrV_size]; omega)
    (by rw [hti]; show ¬ (0 : Int) + (n : Int) > ((arrV (Γ.2.2 3) n (fun j => .long (g j))).slots.size : Int); rw [arrV_size]; omega)
    (fun vm₁ _ i hi => by
      rw [hcl] at hi
      have e : (vp_cell (Γ.2.2 3) (n, .inr (.inl f))).slots.getD ((0 : Int32).toNatClampNeg + i) .null = .long (f i) := by
        show (arrV (Γ.2.2 3) n (fun j => .long (f j))).slots.getD (0 + i) _ = _
        rw [Nat.zero_add, Array.getD_eq_getD_getElem?, arrV_read _ _ hi]
        rfl
      refine ⟨?_, ?_⟩
      · rw [e]
        rfl
      · rw [e]
        exact trivial)
    (g := F0 m pc arr (.int (nI n) :: .int 0 :: .ref (Γ.1.1 + dst) :: .int 0 :: .ref (Γ.1.1 + src) :: st.map (tv Γ))) rfl (by rw [C.2.2.1]; exact hL.1) (rest := st.map (tv Γ)) rfl (by rw [C.2.1]; exact hd) hR.1 (by show 2 * 0 + ((st.map (tv Γ)).map fun v => v.category).sum + (7 + 11) ≤ _; rw [stw_tv]; omega)
  have e1 : copied (vp_cell (Γ.2.2 3) (n, .inr (.inl f))) (vp_cell (Γ.2.2 3) (n, .inr (.inl g))) 0 0 (nI n) = vp_cell (Γ.2.2 3) (n, .inr (.inl f)) := by
    have h := va_copied (fun z => .long z) (Γ.2.2 3) (Γ.2.2 3) f g (sp := 0) (dp := 0) (n := n) (n0 := n) (n1 := n) (by omega)
    have h5 : ∀ (cs cd : Cell), copied cs cd 0 0 (nI n) = cd.storeRun 0 (cs.stretch 0 n) := fun cs cd => by show cd.storeRun 0 (cs.stretch 0 (nI n).toNatClampNeg) = _; rw [hcl]
    refine (h5 _ _).trans (Eq.trans h ?_)
    show _ = arrV (Γ.2.2 3) n (fun j => .long (f j))
    refine arrV_ext fun k hk => ?_
    have : va_cpy f g 0 0 n k = f k := by rw [pk_cpy_in (by omega) (by omega)]; simp
    exact congrArg _ this
  rw [e1] at X' step
  have hl1 : Γ.1.1 + dst < H.size := (Array.getElem?_eq_some_iff.mp hc1).1
  have hheap : ((T.setVm vm').setCell (Γ.1.1 + dst) (vp_cell (Γ.2.2 3) (n, .inr (.inl f)))).heap = H.setIfInBounds (Γ.1.1 + dst) (vp_cell (Γ.2.2 3) (n, .inr (.inl f))) := by rw [← hT]; rfl
  have oq : ∀ q : Nat, q ≠ Γ.1.1 + dst → (H.setIfInBounds (Γ.1.1 + dst) (vp_cell (Γ.2.2 3) (n, .inr (.inl f))))[q]? = H[q]? := fun q hq => by simp [Array.getElem?_setIfInBounds, Ne.symm hq]
  have hup := hH.up (j := 0) (c := aL n f) hw1 (show (H.setIfInBounds (Γ.1.1 + dst) _)[Γ.1.1 + dst]? = some _ by simp [Array.getElem?_setIfInBounds, hl1]) (by simp) oq
  obtain ⟨t, a1, b1⟩ := kk p l e s m args below meth c C S _ _ arr ⟨hup.1, ⟨hup.2.1.1, hup.2.1.2.1, fun q hq => by
      rcases List.mem_append.mp hq with h | h
      · exact hH.2.1.2.2 q h
      · obtain ⟨z, -, hz⟩ := List.mem_map.mp h
        rw [← hz]
        exact Nat.le_add_right _ _⟩, hup.2.2⟩ hL _ hheap X'
  exact ⟨t, step t a1, b1⟩
end COPY
end
section
/-! ===== what the instructions link, by program ===== -/
theorem KX0 : KCl 0 (RX0, TX0, 4) tyX0 := ⟨rfl, by decide +kernel, tyX0_ok, nmX0⟩
theorem KX1 : KCl 1 (RX1, TX1, 9) tyX1 := ⟨rfl, by decide +kernel, tyX1_ok, nmX1⟩
theorem KX2 : KCl 2 (RX2, TX2, 2) tyX2 := ⟨rfl, by decide +kernel, tyX2_ok, nmX2⟩
theorem KX3 : KCl 3 (RX3, TX3, 6) tyX3 := ⟨rfl, by decide +kernel, tyX3_ok, nmX3⟩
theorem KX4 : KCl 4 (RX4, TX4, 2) tyX4 := ⟨rfl, by decide +kernel, tyX4_ok, nmX4⟩
theorem KX5 : KCl 5 (RX5, TX5, 3) tyX5 := ⟨rfl, by decide +kernel, tyX5_ok, nmX5⟩
theorem KX6 : KCl 6 (RX6, TX6, 5) tyX6 := ⟨rfl, by decide +kernel, tyX6_ok, nmX6⟩
theorem KX7 : KCl 7 (RX7, TX7, 20) tyX7 := ⟨rfl, by decide +kernel, tyX7_ok, nmX7⟩
abbrev XX6_init : MX := (RX6, cX6_init, 1, none, true)
theorem mX6_init : kM yX6_init XX6_init 0 := ⟨WT_of 70 (by decide +kernel) (by decide +kernel), WT_of 55 (by decide +kernel) (by decide +kernel), by decide +kernel, by decide +kernel, by decide +kernel⟩
abbrev XX1_init : MX := (RX1, cX1_init, 1, none, true)
theorem mX1_init : kM yX1_init XX1_init 0 := ⟨WT_of 78 (by decide +kernel) (by decide +kernel), WT_of 56 (by decide +kernel) (by decide +kernel), by decide +kernel, by decide +kernel, by decide +kernel⟩
abbrev XX0_init : MX := (RX0, cX0_init, 1, none, true)
theorem mX0_init : kM yX0_init XX0_init 0 := ⟨WT_of 84 (by decide +kernel) (by decide +kernel), WT_of 57 (by decide +kernel) (by decide +kernel), by decide +kernel, by decide +kernel, by decide +kernel⟩
abbrev XJ7_fill_53178 : MX := (RJ7, cJ7_fill_53178, 4, none, false)
theorem mJ7_fill_53178 : kM yJ7_fill_53178 XJ7_fill_53178 2 := ⟨WT_of 88 (by decide +kernel) (by decide +kernel), WT_of 58 (by decide +kernel) (by decide +kernel), by decide +kernel, by decide +kernel, by decide +kernel⟩
abbrev XX2_init : MX := (RX2, cX2_init, 1, none, true)
theorem mX2_init : kM yX2_init XX2_init 0 := ⟨WT_of 149 (by decide +kernel) (by decide +kernel), WT_of 59 (by decide +kernel) (by decide +kernel), by decide +kernel, by decide +kernel, by decide +kernel⟩
abbrev XX4_init : MX := (RX4, cX4_init, 1, none, true)
theorem mX4_init : kM yX4_init XX4_init 0 := ⟨WT_of 165 (by decide +kernel) (by decide +kernel), WT_of 60 (by decide +kernel) (by decide +kernel), by decide +kernel, by decide +kernel, by decide +kernel⟩
abbrev XX5_init : MX := (RX5, cX5_init, 2, none, true)
theorem mX5_init : kM yX5_init XX5_init 1 := ⟨WT_of 180 (by decide +kernel) (by decide +kernel), WT_of 61 (by decide +kernel) (by decide +kernel), by decide +kernel, by decide +kernel, by decide +kernel⟩
abbrev XX3_init : MX := (RX3, cX3_init, 1, none, true)
theorem mX3_init : kM yX3_init XX3_init 0 := ⟨WT_of 188 (by decide +kernel) (by decide +kernel), WT_of 62 (by decide +kernel) (by decide +kernel), by decide +kernel, by decide +kernel, by decide +kernel⟩
abbrev XX1_start : MX := (RX1, cX1_start, 2, none, false)
theorem mX1_start : kM yX1_start XX1_start 1 := ⟨WT_of 226 (by decide +kernel) (by decide +kernel), WT_of 56 (by decide +kernel) (by decide +kernel), by decide +kernel, by decide +kernel, by decide +kernel⟩
abbrev XX0_empty : MX := (RX0, cX0_empty, 1, none, false)
theorem mX0_empty : kM yX0_empty XX0_empty 0 := ⟨WT_of 230 (by decide +kernel) (by decide +kernel), WT_of 57 (by decide +kernel) (by decide +kernel), by decide +kernel, by decide +kernel, by decide +kernel⟩
abbrev XX0_fillRow : MX := (RX0, cX0_fillRow, 4, none, false)
theorem mX0_fillRow : kM yX0_fillRow XX0_fillRow 2 := ⟨WT_of 234 (by decide +kernel) (by decide +kernel), WT_of 57 (by decide +kernel) (by decide +kernel), by decide +kernel, by decide +kernel, by decide +kernel⟩
abbrev XX0_place : MX := (RX0, cX0_place, 3, none, false)
theorem mX0_place : kM yX0_place XX0_place 2 := ⟨WT_of 238 (by decide +kernel) (by decide +kernel), WT_of 57 (by decide +kernel) (by decide +kernel), by decide +kernel, by decide +kernel, by decide +kernel⟩
abbrev XX0_addToNumber : MX := (RX0, cX0_addToNumber, 3, none, false)
theorem mX0_addToNumber : kM yX0_addToNumber XX0_addToNumber 2 := ⟨WT_of 242 (by decide +kernel) (by decide +kernel), WT_of 57 (by decide +kernel) (by decide +kernel), by decide +kernel, by decide +kernel, by decide +kernel⟩
abbrev XX1_startFromHere : MX := (RX1, cX1_startFromHere, 1, none, false)
theorem mX1_startFromHere : kM yX1_startFromHere XX1_startFromHere 0 := ⟨WT_of 247 (by decide +kernel) (by decide +kernel), WT_of 56 (by decide +kernel) (by decide +kernel), by decide +kernel, by decide +kernel, by decide +kernel⟩
abbrev XX1_keepPosition : MX := (RX1, cX1_keepPosition, 3, none, false)
theorem mX1_keepPosition : kM yX1_keepPosition XX1_keepPosition 0 := ⟨WT_of 251 (by decide +kernel) (by decide +kernel), WT_of 56 (by decide +kernel) (by decide +kernel), by decide +kernel, by decide +kernel, by decide +kernel⟩
abbrev XX0_third : MX := (RX0, cX0_third, 7, some .long, false)
theorem mX0_third : kM yX0_third XX0_third 1 := ⟨WT_of 255 (by decide +kernel) (by decide +kernel), WT_of 57 (by decide +kernel) (by decide +kernel), by decide +kernel, by decide +kernel, by decide +kernel⟩
abbrev XX0_pieceAt : MX := (RX0, cX0_pieceAt, 2, some .int, false)
theorem mX0_pieceAt : kM yX0_pieceAt XX0_pieceAt 1 := ⟨WT_of 259 (by decide +kernel) (by decide +kernel), WT_of 57 (by decide +kernel) (by decide +kernel), by decide +kernel, by decide +kernel, by decide +kernel⟩
abbrev XX1_judge : MX := (RX1, cX1_judge, 1, none, false)
theorem mX1_judge : kM yX1_judge XX1_judge 0 := ⟨WT_of 263 (by decide +kernel) (by decide +kernel), WT_of 56 (by decide +kernel) (by decide +kernel), by decide +kernel, by decide +kernel, by decide +kernel⟩
abbrev XX0_hasHop : MX := (RX0, cX0_hasHop, 5, some .boolean, false)
theorem mX0_hasHop : kM yX0_hasHop XX0_hasHop 0 := ⟨WT_of 267 (by decide +kernel) (by decide +kernel), WT_of 57 (by decide +kernel) (by decide +kernel), by decide +kernel, by decide +kernel, by decide +kernel⟩
abbrev XX6_sideOf : MX := (RX6, cX6_sideOf, 1, some .int, false)
theorem mX6_sideOf : kM yX6_sideOf XX6_sideOf 1 := ⟨WT_of 270 (by decide +kernel) (by decide +kernel), WT_of 55 (by decide +kernel) (by decide +kernel), by decide +kernel, by decide +kernel, by decide +kernel⟩
abbrev XX6_mayGo : MX := (RX6, cX6_mayGo, 2, some .boolean, false)
theorem mX6_mayGo : kM yX6_mayGo XX6_mayGo 2 := ⟨WT_of 273 (by decide +kernel) (by decide +kernel), WT_of 55 (by decide +kernel) (by decide +kernel), by decide +kernel, by decide +kernel, by decide +kernel⟩
abbrev XX6_squareAfter : MX := (RX6, cX6_squareAfter, 5, some .int, false)
theorem mX6_squareAfter : kM yX6_squareAfter XX6_squareAfter 3 := ⟨WT_of 276 (by decide +kernel) (by decide +kernel), WT_of 55 (by decide +kernel) (by decide +kernel), by decide +kernel, by decide +kernel, by decide +kernel⟩
abbrev XX6_rowOf : MX := (RX6, cX6_rowOf, 1, some .int, false)
theorem mX6_rowOf : kM yX6_rowOf XX6_rowOf 1 := ⟨WT_of 279 (by decide +kernel) (by decide +kernel), WT_of 55 (by decide +kernel) (by decide +kernel), by decide +kernel, by decide +kernel, by decide +kernel⟩
abbrev XX6_columnOf : MX := (RX6, cX6_columnOf, 1, some .int, false)
theorem mX6_columnOf : kM yX6_columnOf XX6_columnOf 1 := ⟨WT_of 282 (by decide +kernel) (by decide +kernel), WT_of 55 (by decide +kernel) (by decide +kernel), by decide +kernel, by decide +kernel, by decide +kernel⟩
abbrev XJ9_floorMod_7cf53 : MX := (RJ9, cJ9_floorMod_7cf53, 3, some .int, false)
theorem mJ9_floorMod_7cf53 : kM yJ9_floorMod_7cf53 XJ9_floorMod_7cf53 2 := ⟨WT_of 285 (by decide +kernel) (by decide +kernel), WT_of 63 (by decide +kernel) (by decide +kernel), by decide +kernel, by decide +kernel, by decide +kernel⟩
abbrev XX0_stepsToPrey : MX := (RX0, cX0_stepsToPrey, 8, some .int, false)
theorem mX0_stepsToPrey : kM yX0_stepsToPrey XX0_stepsToPrey 2 := ⟨WT_of 289 (by decide +kernel) (by decide +kernel), WT_of 57 (by decide +kernel) (by decide +kernel), by decide +kernel, by decide +kernel, by decide +kernel⟩
abbrev XX6_isKing : MX := (RX6, cX6_isKing, 1, some .boolean, false)
theorem mX6_isKing : kM yX6_isKing XX6_isKing 1 := ⟨WT_of 292 (by decide +kernel) (by decide +kernel), WT_of 55 (by decide +kernel) (by decide +kernel), by decide +kernel, by decide +kernel, by decide +kernel⟩
abbrev XX6_wonBy : MX := (RX6, cX6_wonBy, 1, some .int, false)
theorem mX6_wonBy : kM yX6_wonBy XX6_wonBy 1 := ⟨WT_of 295 (by decide +kernel) (by decide +kernel), WT_of 55 (by decide +kernel) (by decide +kernel), by decide +kernel, by decide +kernel, by decide +kernel⟩
abbrev XX1_timesOfNow : MX := (RX1, cX1_timesOfNow, 3, some .int, false)
theorem mX1_timesOfNow : kM yX1_timesOfNow XX1_timesOfNow 0 := ⟨WT_of 299 (by decide +kernel) (by decide +kernel), WT_of 56 (by decide +kernel) (by decide +kernel), by decide +kernel, by decide +kernel, by decide +kernel⟩
abbrev XX1_isSamePosition : MX := (RX1, cX1_isSamePosition, 6, some .boolean, false)
theorem mX1_isSamePosition : kM yX1_isSamePosition XX1_isSamePosition 2 := ⟨WT_of 303 (by decide +kernel) (by decide +kernel), WT_of 56 (by decide +kernel) (by decide +kernel), by decide +kernel, by decide +kernel, by decide +kernel⟩
abbrev XJ9_min_7cf53 : MX := (RJ9, cJ9_min_7cf53, 2, some .int, false)
theorem mJ9_min_7cf53 : kM yJ9_min_7cf53 XJ9_min_7cf53 2 := ⟨WT_of 306 (by decide +kernel) (by decide +kernel), WT_of 63 (by decide +kernel) (by decide +kernel), by decide +kernel, by decide +kernel, by decide +kernel⟩
abbrev XJ9_max_7cf53 : MX := (RJ9, cJ9_max_7cf53, 2, some .int, false)
theorem mJ9_max_7cf53 : kM yJ9_max_7cf53 XJ9_max_7cf53 2 := ⟨WT_of 309 (by decide +kernel) (by decide +kernel), WT_of 63 (by decide +kernel) (by decide +kernel), by decide +kernel, by decide +kernel, by decide +kernel⟩
abbrev XX6_clock : MX := (RX6, cX6_clock, 3, some .int, false)
theorem mX6_clock : kM yX6_clock XX6_clock 1 := ⟨WT_of 329 (by decide +kernel) (by decide +kernel), WT_of 55 (by decide +kernel) (by decide +kernel), by decide +kernel, by decide +kernel, by decide +kernel⟩
abbrev XX2_keep : MX := (RX2, cX2_keep, 3, none, false)
theorem mX2_keep : kM yX2_keep XX2_keep 1 := ⟨WT_of 333 (by decide +kernel) (by decide +kernel), WT_of 59 (by decide +kernel) (by decide +kernel), by decide +kernel, by decide +kernel, by decide +kernel⟩
abbrev XX2_dropOldest : MX := (RX2, cX2_dropOldest, 3, none, false)
theorem mX2_dropOldest : kM yX2_dropOldest XX2_dropOldest 0 := ⟨WT_of 337 (by decide +kernel) (by decide +kernel), WT_of 59 (by decide +kernel) (by decide +kernel), by decide +kernel, by decide +kernel, by decide +kernel⟩
abbrev XX1_copyFrom : MX := (RX1, cX1_copyFrom, 2, none, false)
theorem mX1_copyFrom : kM yX1_copyFrom XX1_copyFrom 1 := ⟨WT_of 342 (by decide +kernel) (by decide +kernel), WT_of 56 (by decide +kernel) (by decide +kernel), by decide +kernel, by decide +kernel, by decide +kernel⟩
abbrev XX0_copyFrom : MX := (RX0, cX0_copyFrom, 2, none, false)
theorem mX0_copyFrom : kM yX0_copyFrom XX0_copyFrom 1 := ⟨WT_of 346 (by decide +kernel) (by decide +kernel), WT_of 57 (by decide +kernel) (by decide +kernel), by decide +kernel, by decide +kernel, by decide +kernel⟩
abbrev XX6_begin : MX := (RX6, cX6_begin, 2, some .int, false)
theorem mX6_begin : kM yX6_begin XX6_begin 1 := ⟨WT_of 354 (by decide +kernel) (by decide +kernel), WT_of 55 (by decide +kernel) (by decide +kernel), by decide +kernel, by decide +kernel, by decide +kernel⟩
abbrev XX0_piecesOf : MX := (RX0, cX0_piecesOf, 2, some .int, false)
theorem mX0_piecesOf : kM yX0_piecesOf XX0_piecesOf 1 := ⟨WT_of 358 (by decide +kernel) (by decide +kernel), WT_of 57 (by decide +kernel) (by decide +kernel), by decide +kernel, by decide +kernel, by decide +kernel⟩
abbrev XX0_menOf : MX := (RX0, cX0_menOf, 2, some .int, false)
theorem mX0_menOf : kM yX0_menOf XX0_menOf 1 := ⟨WT_of 362 (by decide +kernel) (by decide +kernel), WT_of 57 (by decide +kernel) (by decide +kernel), by decide +kernel, by decide +kernel, by decide +kernel⟩
abbrev XX0_numberOf : MX := (RX0, cX0_numberOf, 2, some .int, false)
theorem mX0_numberOf : kM yX0_numberOf XX0_numberOf 1 := ⟨WT_of 366 (by decide +kernel) (by decide +kernel), WT_of 57 (by decide +kernel) (by decide +kernel), by decide +kernel, by decide +kernel, by decide +kernel⟩
abbrev XX0_kingsOf : MX := (RX0, cX0_kingsOf, 2, some .int, false)
theorem mX0_kingsOf : kM yX0_kingsOf XX0_kingsOf 1 := ⟨WT_of 370 (by decide +kernel) (by decide +kernel), WT_of 57 (by decide +kernel) (by decide +kernel), by decide +kernel, by decide +kernel, by decide +kernel⟩
abbrev XX6_kingOf : MX := (RX6, cX6_kingOf, 1, some .int, false)
theorem mX6_kingOf : kM yX6_kingOf XX6_kingOf 1 := ⟨WT_of 373 (by decide +kernel) (by decide +kernel), WT_of 55 (by decide +kernel) (by decide +kernel), by decide +kernel, by decide +kernel, by decide +kernel⟩
abbrev XX6_set : MX := (RX6, cX6_set, 4, some .int, false)
theorem mX6_set : kM yX6_set XX6_set 2 := ⟨WT_of 377 (by decide +kernel) (by decide +kernel), WT_of 55 (by decide +kernel) (by decide +kernel), by decide +kernel, by decide +kernel, by decide +kernel⟩
abbrev XX6_isSquare : MX := (RX6, cX6_isSquare, 1, some .boolean, false)
theorem mX6_isSquare : kM yX6_isSquare XX6_isSquare 1 := ⟨WT_of 380 (by decide +kernel) (by decide +kernel), WT_of 55 (by decide +kernel) (by decide +kernel), by decide +kernel, by decide +kernel, by decide +kernel⟩
abbrev XX6_isPiece : MX := (RX6, cX6_isPiece, 1, some .boolean, false)
theorem mX6_isPiece : kM yX6_isPiece XX6_isPiece 1 := ⟨WT_of 383 (by decide +kernel) (by decide +kernel), WT_of 55 (by decide +kernel) (by decide +kernel), by decide +kernel, by decide +kernel, by decide +kernel⟩
abbrev XX6_isOneTooMany : MX := (RX6, cX6_isOneTooMany, 3, some .boolean, false)
theorem mX6_isOneTooMany : kM yX6_isOneTooMany XX6_isOneTooMany 2 := ⟨WT_of 388 (by decide +kernel) (by decide +kernel), WT_of 55 (by decide +kernel) (by decide +kernel), by decide +kernel, by decide +kernel, by decide +kernel⟩
abbrev XX6_turn : MX := (RX6, cX6_turn, 3, some .int, false)
theorem mX6_turn : kM yX6_turn XX6_turn 1 := ⟨WT_of 395 (by decide +kernel) (by decide +kernel), WT_of 55 (by decide +kernel) (by decide +kernel), by decide +kernel, by decide +kernel, by decide +kernel⟩
abbrev XX6_isSide : MX := (RX6, cX6_isSide, 1, some .boolean, false)
theorem mX6_isSide : kM yX6_isSide XX6_isSide 1 := ⟨WT_of 398 (by decide +kernel) (by decide +kernel), WT_of 55 (by decide +kernel) (by decide +kernel), by decide +kernel, by decide +kernel, by decide +kernel⟩
abbrev XX6_hop : MX := (RX6, cX6_hop, 4, some .int, false)
theorem mX6_hop : kM yX6_hop XX6_hop 2 := ⟨WT_of 402 (by decide +kernel) (by decide +kernel), WT_of 55 (by decide +kernel) (by decide +kernel), by decide +kernel, by decide +kernel, by decide +kernel⟩
abbrev XX6_hopsOfNow : MX := (RX6, cX6_hopsOfNow, 1, some (.object "RingDraughts$Hops"), false)
theorem mX6_hopsOfNow : kM yX6_hopsOfNow XX6_hopsOfNow 0 := ⟨WT_of 406 (by decide +kernel) (by decide +kernel), WT_of 55 (by decide +kernel) (by decide +kernel), by decide +kernel, by decide +kernel, by decide +kernel⟩
abbrev XX3_list : MX := (RX3, cX3_list, 2, none, false)
theorem mX3_list : kM yX3_list XX3_list 1 := ⟨WT_of 411 (by decide +kernel) (by decide +kernel), WT_of 62 (by decide +kernel) (by decide +kernel), by decide +kernel, by decide +kernel, by decide +kernel⟩
abbrev XX3_listJumps : MX := (RX3, cX3_listJumps, 9, none, false)
theorem mX3_listJumps : kM yX3_listJumps XX3_listJumps 3 := ⟨WT_of 415 (by decide +kernel) (by decide +kernel), WT_of 62 (by decide +kernel) (by decide +kernel), by decide +kernel, by decide +kernel, by decide +kernel⟩
abbrev XX3_addLandings : MX := (RX3, cX3_addLandings, 10, none, false)
theorem mX3_addLandings : kM yX3_addLandings XX3_addLandings 5 := ⟨WT_of 423 (by decide +kernel) (by decide +kernel), WT_of 62 (by decide +kernel) (by decide +kernel), by decide +kernel, by decide +kernel, by decide +kernel⟩
abbrev XX3_add : MX := (RX3, cX3_add, 6, none, false)
theorem mX3_add : kM yX3_add XX3_add 5 := ⟨WT_of 428 (by decide +kernel) (by decide +kernel), WT_of 62 (by decide +kernel) (by decide +kernel), by decide +kernel, by decide +kernel, by decide +kernel⟩
abbrev XX3_listPlainHops : MX := (RX3, cX3_listPlainHops, 6, none, false)
theorem mX3_listPlainHops : kM yX3_listPlainHops XX3_listPlainHops 1 := ⟨WT_of 432 (by decide +kernel) (by decide +kernel), WT_of 62 (by decide +kernel) (by decide +kernel), by decide +kernel, by decide +kernel, by decide +kernel⟩
abbrev XX3_has : MX := (RX3, cX3_has, 2, some .boolean, false)
theorem mX3_has : kM yX3_has XX3_has 1 := ⟨WT_of 437 (by decide +kernel) (by decide +kernel), WT_of 62 (by decide +kernel) (by decide +kernel), by decide +kernel, by decide +kernel, by decide +kernel⟩
abbrev XX1_makeHop : MX := (RX1, cX1_makeHop, 7, none, false)
theorem mX1_makeHop : kM yX1_makeHop XX1_makeHop 3 := ⟨WT_of 441 (by decide +kernel) (by decide +kernel), WT_of 56 (by decide +kernel) (by decide +kernel), by decide +kernel, by decide +kernel, by decide +kernel⟩
abbrev XX3_taken : MX := (RX3, cX3_taken, 2, some .int, false)
theorem mX3_taken : kM yX3_taken XX3_taken 1 := ⟨WT_of 446 (by decide +kernel) (by decide +kernel), WT_of 62 (by decide +kernel) (by decide +kernel), by decide +kernel, by decide +kernel, by decide +kernel⟩
abbrev XX3_from : MX := (RX3, cX3_from, 2, some .int, false)
theorem mX3_from : kM yX3_from XX3_from 1 := ⟨WT_of 451 (by decide +kernel) (by decide +kernel), WT_of 62 (by decide +kernel) (by decide +kernel), by decide +kernel, by decide +kernel, by decide +kernel⟩
abbrev XX0_make : MX := (RX0, cX0_make, 8, none, false)
theorem mX0_make : kM yX0_make XX0_make 2 := ⟨WT_of 457 (by decide +kernel) (by decide +kernel), WT_of 57 (by decide +kernel) (by decide +kernel), by decide +kernel, by decide +kernel, by decide +kernel⟩
abbrev XX3_to : MX := (RX3, cX3_to, 2, some .int, false)
theorem mX3_to : kM yX3_to XX3_to 1 := ⟨WT_of 462 (by decide +kernel) (by decide +kernel), WT_of 62 (by decide +kernel) (by decide +kernel), by decide +kernel, by decide +kernel, by decide +kernel⟩
abbrev XX3_steps : MX := (RX3, cX3_steps, 2, some .int, false)
theorem mX3_steps : kM yX3_steps XX3_steps 1 := ⟨WT_of 467 (by decide +kernel) (by decide +kernel), WT_of 62 (by decide +kernel) (by decide +kernel), by decide +kernel, by decide +kernel, by decide +kernel⟩
abbrev XX6_isCrowned : MX := (RX6, cX6_isCrowned, 3, some .boolean, false)
theorem mX6_isCrowned : kM yX6_isCrowned XX6_isCrowned 3 := ⟨WT_of 470 (by decide +kernel) (by decide +kernel), WT_of 55 (by decide +kernel) (by decide +kernel), by decide +kernel, by decide +kernel, by decide +kernel⟩
abbrev XX0_canJump : MX := (RX0, cX0_canJump, 3, some .boolean, false)
theorem mX0_canJump : kM yX0_canJump XX0_canJump 1 := ⟨WT_of 474 (by decide +kernel) (by decide +kernel), WT_of 57 (by decide +kernel) (by decide +kernel), by decide +kernel, by decide +kernel, by decide +kernel⟩
abbrev XX6_play : MX := (RX6, cX6_play, 5, some .int, false)
theorem mX6_play : kM yX6_play XX6_play 2 := ⟨WT_of 478 (by decide +kernel) (by decide +kernel), WT_of 55 (by decide +kernel) (by decide +kernel), by decide +kernel, by decide +kernel, by decide +kernel⟩
abbrev XX3_find : MX := (RX3, cX3_find, 4, some .int, false)
theorem mX3_find : kM yX3_find XX3_find 2 := ⟨WT_of 482 (by decide +kernel) (by decide +kernel), WT_of 62 (by decide +kernel) (by decide +kernel), by decide +kernel, by decide +kernel, by decide +kernel⟩
abbrev XX6_playAll : MX := (RX6, cX6_playAll, 7, some .int, false)
theorem mX6_playAll : kM yX6_playAll XX6_playAll 0 := ⟨WT_of 488 (by decide +kernel) (by decide +kernel), WT_of 55 (by decide +kernel) (by decide +kernel), by decide +kernel, by decide +kernel, by decide +kernel⟩
abbrev XX4_findFault : MX := (RX4, cX4_findFault, 6, some .int, false)
theorem mX4_findFault : kM yX4_findFault XX4_findFault 0 := ⟨WT_of 492 (by decide +kernel) (by decide +kernel), WT_of 60 (by decide +kernel) (by decide +kernel), by decide +kernel, by decide +kernel, by decide +kernel⟩
abbrev XX4_signAt : MX := (RX4, cX4_signAt, 2, some .char, false)
theorem mX4_signAt : kM yX4_signAt XX4_signAt 1 := ⟨WT_of 496 (by decide +kernel) (by decide +kernel), WT_of 60 (by decide +kernel) (by decide +kernel), by decide +kernel, by decide +kernel, by decide +kernel⟩
abbrev XX6_makeToldHop : MX := (RX6, cX6_makeToldHop, 6, some .boolean, false)
theorem mX6_makeToldHop : kM yX6_makeToldHop XX6_makeToldHop 3 := ⟨WT_of 502 (by decide +kernel) (by decide +kernel), WT_of 55 (by decide +kernel) (by decide +kernel), by decide +kernel, by decide +kernel, by decide +kernel⟩
abbrev XX6_giveUp : MX := (RX6, cX6_giveUp, 1, some .int, false)
theorem mX6_giveUp : kM yX6_giveUp XX6_giveUp 0 := ⟨WT_of 507 (by decide +kernel) (by decide +kernel), WT_of 55 (by decide +kernel) (by decide +kernel), by decide +kernel, by decide +kernel, by decide +kernel⟩
abbrev XX6_square : MX := (RX6, cX6_square, 3, some .int, false)
theorem mX6_square : kM yX6_square XX6_square 2 := ⟨WT_of 512 (by decide +kernel) (by decide +kernel), WT_of 55 (by decide +kernel) (by decide +kernel), by decide +kernel, by decide +kernel, by decide +kernel⟩
abbrev XX6_isInDanger : MX := (RX6, cX6_isInDanger, 3, some .boolean, false)
theorem mX6_isInDanger : kM yX6_isInDanger XX6_isInDanger 1 := ⟨WT_of 516 (by decide +kernel) (by decide +kernel), WT_of 55 (by decide +kernel) (by decide +kernel), by decide +kernel, by decide +kernel, by decide +kernel⟩
abbrev XX3_takes : MX := (RX3, cX3_takes, 3, some .boolean, false)
theorem mX3_takes : kM yX3_takes XX3_takes 1 := ⟨WT_of 521 (by decide +kernel) (by decide +kernel), WT_of 62 (by decide +kernel) (by decide +kernel), by decide +kernel, by decide +kernel, by decide +kernel⟩
abbrev XX6_oneIf : MX := (RX6, cX6_oneIf, 1, some .int, false)
theorem mX6_oneIf : kM yX6_oneIf XX6_oneIf 1 := ⟨WT_of 525 (by decide +kernel) (by decide +kernel), WT_of 55 (by decide +kernel) (by decide +kernel), by decide +kernel, by decide +kernel, by decide +kernel⟩
abbrev XX3_numberFrom : MX := (RX3, cX3_numberFrom, 4, some .int, false)
theorem mX3_numberFrom : kM yX3_numberFrom XX3_numberFrom 1 := ⟨WT_of 529 (by decide +kernel) (by decide +kernel), WT_of 62 (by decide +kernel) (by decide +kernel), by decide +kernel, by decide +kernel, by decide +kernel⟩
abbrev XX6_step : MX := (RX6, cX6_step, 3, some .int, false)
theorem mX6_step : kM yX6_step XX6_step 2 := ⟨WT_of 533 (by decide +kernel) (by decide +kernel), WT_of 55 (by decide +kernel) (by decide +kernel), by decide +kernel, by decide +kernel, by decide +kernel⟩
abbrev XX6_ofHop : MX := (RX6, cX6_ofHop, 4, some .int, false)
theorem mX6_ofHop : kM yX6_ofHop XX6_ofHop 2 := ⟨WT_of 538 (by decide +kernel) (by decide +kernel), WT_of 55 (by decide +kernel) (by decide +kernel), by decide +kernel, by decide +kernel, by decide +kernel⟩
abbrev XX3_way : MX := (RX3, cX3_way, 2, some .int, false)
theorem mX3_way : kM yX3_way XX3_way 1 := ⟨WT_of 544 (by decide +kernel) (by decide +kernel), WT_of 62 (by decide +kernel) (by decide +kernel), by decide +kernel, by decide +kernel, by decide +kernel⟩
abbrev XX6_isJumpedOnBehind : MX := (RX6, cX6_isJumpedOnBehind, 2, some .boolean, false)
theorem mX6_isJumpedOnBehind : kM yX6_isJumpedOnBehind XX6_isJumpedOnBehind 1 := ⟨WT_of 550 (by decide +kernel) (by decide +kernel), WT_of 55 (by decide +kernel) (by decide +kernel), by decide +kernel, by decide +kernel, by decide +kernel⟩
abbrev XX5_tryHop : MX := (RX5, cX5_tryHop, 2, none, false)
theorem mX5_tryHop : kM yX5_tryHop XX5_tryHop 1 := ⟨WT_of 554 (by decide +kernel) (by decide +kernel), WT_of 61 (by decide +kernel) (by decide +kernel), by decide +kernel, by decide +kernel, by decide +kernel⟩
abbrev XX6_side : MX := (RX6, cX6_side, 3, some .int, false)
theorem mX6_side : kM yX6_side XX6_side 2 := ⟨WT_of 561 (by decide +kernel) (by decide +kernel), WT_of 55 (by decide +kernel) (by decide +kernel), by decide +kernel, by decide +kernel, by decide +kernel⟩
abbrev XX0_worthOf : MX := (RX0, cX0_worthOf, 2, some .int, false)
theorem mX0_worthOf : kM yX0_worthOf XX0_worthOf 1 := ⟨WT_of 567 (by decide +kernel) (by decide +kernel), WT_of 57 (by decide +kernel) (by decide +kernel), by decide +kernel, by decide +kernel, by decide +kernel⟩
abbrev XX6_count : MX := (RX6, cX6_count, 2, some .int, false)
theorem mX6_count : kM yX6_count XX6_count 1 := ⟨WT_of 571 (by decide +kernel) (by decide +kernel), WT_of 55 (by decide +kernel) (by decide +kernel), by decide +kernel, by decide +kernel, by decide +kernel⟩
abbrev XX6_rows : MX := (RX6, cX6_rows, 2, some .int, false)
theorem mX6_rows : kM yX6_rows XX6_rows 1 := ⟨WT_of 576 (by decide +kernel) (by decide +kernel), WT_of 55 (by decide +kernel) (by decide +kernel), by decide +kernel, by decide +kernel, by decide +kernel⟩
abbrev XX6_numberOfRows : MX := (RX6, cX6_numberOfRows, 5, some .int, false)
theorem mX6_numberOfRows : kM yX6_numberOfRows XX6_numberOfRows 3 := ⟨WT_of 579 (by decide +kernel) (by decide +kernel), WT_of 55 (by decide +kernel) (by decide +kernel), by decide +kernel, by decide +kernel, by decide +kernel⟩
abbrev XX6_worth : MX := (RX6, cX6_worth, 2, some .int, false)
theorem mX6_worth : kM yX6_worth XX6_worth 1 := ⟨WT_of 584 (by decide +kernel) (by decide +kernel), WT_of 55 (by decide +kernel) (by decide +kernel), by decide +kernel, by decide +kernel, by decide +kernel⟩
abbrev XX6_worthBehind : MX := (RX6, cX6_worthBehind, 9, some .int, false)
theorem mX6_worthBehind : kM yX6_worthBehind XX6_worthBehind 3 := ⟨WT_of 587 (by decide +kernel) (by decide +kernel), WT_of 55 (by decide +kernel) (by decide +kernel), by decide +kernel, by decide +kernel, by decide +kernel⟩
abbrev XX6_best : MX := (RX6, cX6_best, 7, some .int, false)
theorem mX6_best : kM yX6_best XX6_best 1 := ⟨WT_of 591 (by decide +kernel) (by decide +kernel), WT_of 55 (by decide +kernel) (by decide +kernel), by decide +kernel, by decide +kernel, by decide +kernel⟩
abbrev XX6_put : MX := (RX6, cX6_put, 4, some .int, false)
theorem mX6_put : kM yX6_put XX6_put 1 := ⟨WT_of 595 (by decide +kernel) (by decide +kernel), WT_of 55 (by decide +kernel) (by decide +kernel), by decide +kernel, by decide +kernel, by decide +kernel⟩
abbrev XX4_numberOfSigns : MX := (RX4, cX4_numberOfSigns, 7, some .int, false)
theorem mX4_numberOfSigns : kM yX4_numberOfSigns XX4_numberOfSigns 1 := ⟨WT_of 598 (by decide +kernel) (by decide +kernel), WT_of 60 (by decide +kernel) (by decide +kernel), by decide +kernel, by decide +kernel, by decide +kernel⟩
abbrev XX4_append : MX := (RX4, cX4_append, 5, none, false)
theorem mX4_append : kM yX4_append XX4_append 2 := ⟨WT_of 605 (by decide +kernel) (by decide +kernel), WT_of 60 (by decide +kernel) (by decide +kernel), by decide +kernel, by decide +kernel, by decide +kernel⟩
abbrev XX6_wipe : MX := (RX6, cX6_wipe, 2, some .int, false)
theorem mX6_wipe : kM yX6_wipe XX6_wipe 0 := ⟨WT_of 609 (by decide +kernel) (by decide +kernel), WT_of 55 (by decide +kernel) (by decide +kernel), by decide +kernel, by decide +kernel, by decide +kernel⟩
abbrev XX6_fault : MX := (RX6, cX6_fault, 1, some .int, false)
theorem mX6_fault : kM yX6_fault XX6_fault 0 := ⟨WT_of 613 (by decide +kernel) (by decide +kernel), WT_of 55 (by decide +kernel) (by decide +kernel), by decide +kernel, by decide +kernel, by decide +kernel⟩
abbrev XX6_undo : MX := (RX6, cX6_undo, 1, some .int, false)
theorem mX6_undo : kM yX6_undo XX6_undo 0 := ⟨WT_of 617 (by decide +kernel) (by decide +kernel), WT_of 55 (by decide +kernel) (by decide +kernel), by decide +kernel, by decide +kernel, by decide +kernel⟩
abbrev XX2_takeBack : MX := (RX2, cX2_takeBack, 3, none, false)
theorem mX2_takeBack : kM yX2_takeBack XX2_takeBack 1 := ⟨WT_of 621 (by decide +kernel) (by decide +kernel), WT_of 59 (by decide +kernel) (by decide +kernel), by decide +kernel, by decide +kernel, by decide +kernel⟩
abbrev XX6_save : MX := (RX6, cX6_save, 3, some .int, false)
theorem mX6_save : kM yX6_save XX6_save 1 := ⟨WT_of 625 (by decide +kernel) (by decide +kernel), WT_of 55 (by decide +kernel) (by decide +kernel), by decide +kernel, by decide +kernel, by decide +kernel⟩
abbrev XX6_restore : MX := (RX6, cX6_restore, 3, some .int, false)
theorem mX6_restore : kM yX6_restore XX6_restore 1 := ⟨WT_of 630 (by decide +kernel) (by decide +kernel), WT_of 55 (by decide +kernel) (by decide +kernel), by decide +kernel, by decide +kernel, by decide +kernel⟩
abbrev XX7_init : MX := (RX7, cX7_init, 1, none, true)
theorem mX7_init : kM yX7_init XX7_init 0 := ⟨WT_of 635 (by decide +kernel) (by decide +kernel), WT_of 64 (by decide +kernel) (by decide +kernel), by decide +kernel, by decide +kernel, by decide +kernel⟩
abbrev XX7_start : MX := (RX7, cX7_start, 4, none, false)
theorem mX7_start : kM yX7_start XX7_start 1 := ⟨WT_of 640 (by decide +kernel) (by decide +kernel), WT_of 64 (by decide +kernel) (by decide +kernel), by decide +kernel, by decide +kernel, by decide +kernel⟩
abbrev XX7_rowOf : MX := (RX7, cX7_rowOf, 1, some .int, false)
theorem mX7_rowOf : kM yX7_rowOf XX7_rowOf 1 := ⟨WT_of 643 (by decide +kernel) (by decide +kernel), WT_of 64 (by decide +kernel) (by decide +kernel), by decide +kernel, by decide +kernel, by decide +kernel⟩
abbrev XX7_beginHere : MX := (RX7, cX7_beginHere, 1, none, false)
theorem mX7_beginHere : kM yX7_beginHere XX7_beginHere 0 := ⟨WT_of 647 (by decide +kernel) (by decide +kernel), WT_of 64 (by decide +kernel) (by decide +kernel), by decide +kernel, by decide +kernel, by decide +kernel⟩
abbrev XX7_forgetPositions : MX := (RX7, cX7_forgetPositions, 2, none, false)
theorem mX7_forgetPositions : kM yX7_forgetPositions XX7_forgetPositions 0 := ⟨WT_of 651 (by decide +kernel) (by decide +kernel), WT_of 64 (by decide +kernel) (by decide +kernel), by decide +kernel, by decide +kernel, by decide +kernel⟩
abbrev XX7_writePosition : MX := (RX7, cX7_writePosition, 3, none, false)
theorem mX7_writePosition : kM yX7_writePosition XX7_writePosition 0 := ⟨WT_of 655 (by decide +kernel) (by decide +kernel), WT_of 64 (by decide +kernel) (by decide +kernel), by decide +kernel, by decide +kernel, by decide +kernel⟩
abbrev XX7_squaresOf : MX := (RX7, cX7_squaresOf, 4, some .int, false)
theorem mX7_squaresOf : kM yX7_squaresOf XX7_squaresOf 1 := ⟨WT_of 659 (by decide +kernel) (by decide +kernel), WT_of 64 (by decide +kernel) (by decide +kernel), by decide +kernel, by decide +kernel, by decide +kernel⟩
abbrev XX7_judge : MX := (RX7, cX7_judge, 1, none, false)
theorem mX7_judge : kM yX7_judge XX7_judge 0 := ⟨WT_of 663 (by decide +kernel) (by decide +kernel), WT_of 64 (by decide +kernel) (by decide +kernel), by decide +kernel, by decide +kernel, by decide +kernel⟩
abbrev XX7_look : MX := (RX7, cX7_look, 2, none, false)
theorem mX7_look : kM yX7_look XX7_look 0 := ⟨WT_of 667 (by decide +kernel) (by decide +kernel), WT_of 64 (by decide +kernel) (by decide +kernel), by decide +kernel, by decide +kernel, by decide +kernel⟩
abbrev XX7_listHops : MX := (RX7, cX7_listHops, 5, none, false)
theorem mX7_listHops : kM yX7_listHops XX7_listHops 1 := ⟨WT_of 671 (by decide +kernel) (by decide +kernel), WT_of 64 (by decide +kernel) (by decide +kernel), by decide +kernel, by decide +kernel, by decide +kernel⟩
abbrev XX7_listAllJumps : MX := (RX7, cX7_listAllJumps, 7, none, false)
theorem mX7_listAllJumps : kM yX7_listAllJumps XX7_listAllJumps 3 := ⟨WT_of 675 (by decide +kernel) (by decide +kernel), WT_of 64 (by decide +kernel) (by decide +kernel), by decide +kernel, by decide +kernel, by decide +kernel⟩
abbrev XX7_pieceAt : MX := (RX7, cX7_pieceAt, 3, some .int, false)
theorem mX7_pieceAt : kM yX7_pieceAt XX7_pieceAt 2 := ⟨WT_of 679 (by decide +kernel) (by decide +kernel), WT_of 64 (by decide +kernel) (by decide +kernel), by decide +kernel, by decide +kernel, by decide +kernel⟩
abbrev XX7_sideOf : MX := (RX7, cX7_sideOf, 1, some .int, false)
theorem mX7_sideOf : kM yX7_sideOf XX7_sideOf 1 := ⟨WT_of 682 (by decide +kernel) (by decide +kernel), WT_of 64 (by decide +kernel) (by decide +kernel), by decide +kernel, by decide +kernel, by decide +kernel⟩
abbrev XX7_goesWay : MX := (RX7, cX7_goesWay, 3, some .boolean, false)
theorem mX7_goesWay : kM yX7_goesWay XX7_goesWay 2 := ⟨WT_of 686 (by decide +kernel) (by decide +kernel), WT_of 64 (by decide +kernel) (by decide +kernel), by decide +kernel, by decide +kernel, by decide +kernel⟩
abbrev XX7_isKing : MX := (RX7, cX7_isKing, 1, some .boolean, false)
theorem mX7_isKing : kM yX7_isKing XX7_isKing 1 := ⟨WT_of 689 (by decide +kernel) (by decide +kernel), WT_of 64 (by decide +kernel) (by decide +kernel), by decide +kernel, by decide +kernel, by decide +kernel⟩
abbrev XX7_listJumps : MX := (RX7, cX7_listJumps, 9, none, false)
theorem mX7_listJumps : kM yX7_listJumps XX7_listJumps 3 := ⟨WT_of 693 (by decide +kernel) (by decide +kernel), WT_of 64 (by decide +kernel) (by decide +kernel), by decide +kernel, by decide +kernel, by decide +kernel⟩
abbrev XX7_next : MX := (RX7, cX7_next, 4, some .int, false)
theorem mX7_next : kM yX7_next XX7_next 2 := ⟨WT_of 696 (by decide +kernel) (by decide +kernel), WT_of 64 (by decide +kernel) (by decide +kernel), by decide +kernel, by decide +kernel, by decide +kernel⟩
abbrev XX7_columnOf : MX := (RX7, cX7_columnOf, 1, some .int, false)
theorem mX7_columnOf : kM yX7_columnOf XX7_columnOf 1 := ⟨WT_of 699 (by decide +kernel) (by decide +kernel), WT_of 64 (by decide +kernel) (by decide +kernel), by decide +kernel, by decide +kernel, by decide +kernel⟩
abbrev XX7_isEmpty : MX := (RX7, cX7_isEmpty, 3, some .boolean, false)
theorem mX7_isEmpty : kM yX7_isEmpty XX7_isEmpty 2 := ⟨WT_of 703 (by decide +kernel) (by decide +kernel), WT_of 64 (by decide +kernel) (by decide +kernel), by decide +kernel, by decide +kernel, by decide +kernel⟩
abbrev XX7_list : MX := (RX7, cX7_list, 8, none, false)
theorem mX7_list : kM yX7_list XX7_list 6 := ⟨WT_of 707 (by decide +kernel) (by decide +kernel), WT_of 64 (by decide +kernel) (by decide +kernel), by decide +kernel, by decide +kernel, by decide +kernel⟩
abbrev XX7_listMoves : MX := (RX7, cX7_listMoves, 8, none, false)
theorem mX7_listMoves : kM yX7_listMoves XX7_listMoves 3 := ⟨WT_of 711 (by decide +kernel) (by decide +kernel), WT_of 64 (by decide +kernel) (by decide +kernel), by decide +kernel, by decide +kernel, by decide +kernel⟩
abbrev XX7_timesCome : MX := (RX7, cX7_timesCome, 6, some .int, false)
theorem mX7_timesCome : kM yX7_timesCome XX7_timesCome 0 := ⟨WT_of 715 (by decide +kernel) (by decide +kernel), WT_of 64 (by decide +kernel) (by decide +kernel), by decide +kernel, by decide +kernel, by decide +kernel⟩
abbrev XX7_undo : MX := (RX7, cX7_undo, 2, some .int, false)
theorem mX7_undo : kM yX7_undo XX7_undo 0 := ⟨WT_of 781 (by decide +kernel) (by decide +kernel), WT_of 64 (by decide +kernel) (by decide +kernel), by decide +kernel, by decide +kernel, by decide +kernel⟩
abbrev XX7_save : MX := (RX7, cX7_save, 3, some .int, false)
theorem mX7_save : kM yX7_save XX7_save 1 := ⟨WT_of 785 (by decide +kernel) (by decide +kernel), WT_of 64 (by decide +kernel) (by decide +kernel), by decide +kernel, by decide +kernel, by decide +kernel⟩
abbrev XX7_in : MX := (RX7, cX7_in, 3, some .boolean, false)
theorem mX7_in : kM yX7_in XX7_in 3 := ⟨WT_of 788 (by decide +kernel) (by decide +kernel), WT_of 64 (by decide +kernel) (by decide +kernel), by decide +kernel, by decide +kernel, by decide +kernel⟩
abbrev XX7_restore : MX := (RX7, cX7_restore, 3, some .int, false)
theorem mX7_restore : kM yX7_restore XX7_restore 1 := ⟨WT_of 792 (by decide +kernel) (by decide +kernel), WT_of 64 (by decide +kernel) (by decide +kernel), by decide +kernel, by decide +kernel, by decide +kernel⟩
abbrev XX7_record : MX := (RX7, cX7_record, 2, none, false)
theorem mX7_record : kM yX7_record XX7_record 0 := ⟨WT_of 796 (by decide +kernel) (by decide +kernel), WT_of 64 (by decide +kernel) (by decide +kernel), by decide +kernel, by decide +kernel, by decide +kernel⟩
abbrev XX7_clock : MX := (RX7, cX7_clock, 3, some .int, false)
theorem mX7_clock : kM yX7_clock XX7_clock 1 := ⟨WT_of 800 (by decide +kernel) (by decide +kernel), WT_of 64 (by decide +kernel) (by decide +kernel), by decide +kernel, by decide +kernel, by decide +kernel⟩
abbrev XX7_begin : MX := (RX7, cX7_begin, 2, some .int, false)
theorem mX7_begin : kM yX7_begin XX7_begin 1 := ⟨WT_of 804 (by decide +kernel) (by decide +kernel), WT_of 64 (by decide +kernel) (by decide +kernel), by decide +kernel, by decide +kernel, by decide +kernel⟩
abbrev XX7_all : MX := (RX7, cX7_all, 2, some .int, false)
theorem mX7_all : kM yX7_all XX7_all 1 := ⟨WT_of 808 (by decide +kernel) (by decide +kernel), WT_of 64 (by decide +kernel) (by decide +kernel), by decide +kernel, by decide +kernel, by decide +kernel⟩
abbrev XX7_pieces : MX := (RX7, cX7_pieces, 5, some .int, false)
theorem mX7_pieces : kM yX7_pieces XX7_pieces 2 := ⟨WT_of 812 (by decide +kernel) (by decide +kernel), WT_of 64 (by decide +kernel) (by decide +kernel), by decide +kernel, by decide +kernel, by decide +kernel⟩
abbrev XX7_set : MX := (RX7, cX7_set, 4, some .int, false)
theorem mX7_set : kM yX7_set XX7_set 2 := ⟨WT_of 816 (by decide +kernel) (by decide +kernel), WT_of 64 (by decide +kernel) (by decide +kernel), by decide +kernel, by decide +kernel, by decide +kernel⟩
abbrev XX7_isSquare : MX := (RX7, cX7_isSquare, 1, some .boolean, false)
theorem mX7_isSquare : kM yX7_isSquare XX7_isSquare 1 := ⟨WT_of 819 (by decide +kernel) (by decide +kernel), WT_of 64 (by decide +kernel) (by decide +kernel), by decide +kernel, by decide +kernel, by decide +kernel⟩
abbrev XX7_turn : MX := (RX7, cX7_turn, 3, some .int, false)
theorem mX7_turn : kM yX7_turn XX7_turn 1 := ⟨WT_of 823 (by decide +kernel) (by decide +kernel), WT_of 64 (by decide +kernel) (by decide +kernel), by decide +kernel, by decide +kernel, by decide +kernel⟩
abbrev XX7_hop : MX := (RX7, cX7_hop, 4, some .int, false)
theorem mX7_hop : kM yX7_hop XX7_hop 2 := ⟨WT_of 827 (by decide +kernel) (by decide +kernel), WT_of 64 (by decide +kernel) (by decide +kernel), by decide +kernel, by decide +kernel, by decide +kernel⟩
abbrev XX7_makeIt : MX := (RX7, cX7_makeIt, 5, none, false)
theorem mX7_makeIt : kM yX7_makeIt XX7_makeIt 1 := ⟨WT_of 831 (by decide +kernel) (by decide +kernel), WT_of 64 (by decide +kernel) (by decide +kernel), by decide +kernel, by decide +kernel, by decide +kernel⟩
abbrev XX7_go : MX := (RX7, cX7_go, 6, none, false)
theorem mX7_go : kM yX7_go XX7_go 2 := ⟨WT_of 835 (by decide +kernel) (by decide +kernel), WT_of 64 (by decide +kernel) (by decide +kernel), by decide +kernel, by decide +kernel, by decide +kernel⟩
abbrev XX7_becomesKing : MX := (RX7, cX7_becomesKing, 6, some .boolean, false)
theorem mX7_becomesKing : kM yX7_becomesKing XX7_becomesKing 2 := ⟨WT_of 839 (by decide +kernel) (by decide +kernel), WT_of 64 (by decide +kernel) (by decide +kernel), by decide +kernel, by decide +kernel, by decide +kernel⟩
abbrev XX7_play : MX := (RX7, cX7_play, 4, some .int, false)
theorem mX7_play : kM yX7_play XX7_play 2 := ⟨WT_of 843 (by decide +kernel) (by decide +kernel), WT_of 64 (by decide +kernel) (by decide +kernel), by decide +kernel, by decide +kernel, by decide +kernel⟩
abbrev XX7_hopFrom : MX := (RX7, cX7_hopFrom, 4, some .int, false)
theorem mX7_hopFrom : kM yX7_hopFrom XX7_hopFrom 2 := ⟨WT_of 847 (by decide +kernel) (by decide +kernel), WT_of 64 (by decide +kernel) (by decide +kernel), by decide +kernel, by decide +kernel, by decide +kernel⟩
abbrev XX7_giveUp : MX := (RX7, cX7_giveUp, 1, some .int, false)
theorem mX7_giveUp : kM yX7_giveUp XX7_giveUp 0 := ⟨WT_of 851 (by decide +kernel) (by decide +kernel), WT_of 64 (by decide +kernel) (by decide +kernel), by decide +kernel, by decide +kernel, by decide +kernel⟩
abbrev XX7_square : MX := (RX7, cX7_square, 3, some .int, false)
theorem mX7_square : kM yX7_square XX7_square 2 := ⟨WT_of 855 (by decide +kernel) (by decide +kernel), WT_of 64 (by decide +kernel) (by decide +kernel), by decide +kernel, by decide +kernel, by decide +kernel⟩
abbrev XX7_isInDanger : MX := (RX7, cX7_isInDanger, 4, some .boolean, false)
theorem mX7_isInDanger : kM yX7_isInDanger XX7_isInDanger 1 := ⟨WT_of 859 (by decide +kernel) (by decide +kernel), WT_of 64 (by decide +kernel) (by decide +kernel), by decide +kernel, by decide +kernel, by decide +kernel⟩
abbrev XX7_hopsFrom : MX := (RX7, cX7_hopsFrom, 4, some .int, false)
theorem mX7_hopsFrom : kM yX7_hopsFrom XX7_hopsFrom 1 := ⟨WT_of 863 (by decide +kernel) (by decide +kernel), WT_of 64 (by decide +kernel) (by decide +kernel), by decide +kernel, by decide +kernel, by decide +kernel⟩
abbrev XX7_step : MX := (RX7, cX7_step, 3, some .int, false)
theorem mX7_step : kM yX7_step XX7_step 2 := ⟨WT_of 867 (by decide +kernel) (by decide +kernel), WT_of 64 (by decide +kernel) (by decide +kernel), by decide +kernel, by decide +kernel, by decide +kernel⟩
abbrev XX7_ofHop : MX := (RX7, cX7_ofHop, 3, some .int, false)
theorem mX7_ofHop : kM yX7_ofHop XX7_ofHop 2 := ⟨WT_of 871 (by decide +kernel) (by decide +kernel), WT_of 64 (by decide +kernel) (by decide +kernel), by decide +kernel, by decide +kernel, by decide +kernel⟩
abbrev XX7_goesOn : MX := (RX7, cX7_goesOn, 2, some .int, false)
theorem mX7_goesOn : kM yX7_goesOn XX7_goesOn 1 := ⟨WT_of 875 (by decide +kernel) (by decide +kernel), WT_of 64 (by decide +kernel) (by decide +kernel), by decide +kernel, by decide +kernel, by decide +kernel⟩
abbrev XX7_side : MX := (RX7, cX7_side, 3, some .int, false)
theorem mX7_side : kM yX7_side XX7_side 2 := ⟨WT_of 879 (by decide +kernel) (by decide +kernel), WT_of 64 (by decide +kernel) (by decide +kernel), by decide +kernel, by decide +kernel, by decide +kernel⟩
abbrev XX7_count : MX := (RX7, cX7_count, 2, some .int, false)
theorem mX7_count : kM yX7_count XX7_count 1 := ⟨WT_of 883 (by decide +kernel) (by decide +kernel), WT_of 64 (by decide +kernel) (by decide +kernel), by decide +kernel, by decide +kernel, by decide +kernel⟩
abbrev XX7_hopsNow : MX := (RX7, cX7_hopsNow, 1, some .int, false)
theorem mX7_hopsNow : kM yX7_hopsNow XX7_hopsNow 0 := ⟨WT_of 887 (by decide +kernel) (by decide +kernel), WT_of 64 (by decide +kernel) (by decide +kernel), by decide +kernel, by decide +kernel, by decide +kernel⟩
abbrev XX7_rows : MX := (RX7, cX7_rows, 3, some .int, false)
theorem mX7_rows : kM yX7_rows XX7_rows 1 := ⟨WT_of 891 (by decide +kernel) (by decide +kernel), WT_of 64 (by decide +kernel) (by decide +kernel), by decide +kernel, by decide +kernel, by decide +kernel⟩
abbrev XX7_rowsOfTwo : MX := (RX7, cX7_rowsOfTwo, 5, some .int, false)
theorem mX7_rowsOfTwo : kM yX7_rowsOfTwo XX7_rowsOfTwo 2 := ⟨WT_of 895 (by decide +kernel) (by decide +kernel), WT_of 64 (by decide +kernel) (by decide +kernel), by decide +kernel, by decide +kernel, by decide +kernel⟩
abbrev XX7_rowsOfThree : MX := (RX7, cX7_rowsOfThree, 3, some .int, false)
theorem mX7_rowsOfThree : kM yX7_rowsOfThree XX7_rowsOfThree 0 := ⟨WT_of 899 (by decide +kernel) (by decide +kernel), WT_of 64 (by decide +kernel) (by decide +kernel), by decide +kernel, by decide +kernel, by decide +kernel⟩
abbrev XX7_worth : MX := (RX7, cX7_worth, 2, some .int, false)
theorem mX7_worth : kM yX7_worth XX7_worth 1 := ⟨WT_of 903 (by decide +kernel) (by decide +kernel), WT_of 64 (by decide +kernel) (by decide +kernel), by decide +kernel, by decide +kernel, by decide +kernel⟩
abbrev XX7_worthNow : MX := (RX7, cX7_worthNow, 6, some .int, false)
theorem mX7_worthNow : kM yX7_worthNow XX7_worthNow 1 := ⟨WT_of 907 (by decide +kernel) (by decide +kernel), WT_of 64 (by decide +kernel) (by decide +kernel), by decide +kernel, by decide +kernel, by decide +kernel⟩
abbrev XX7_worthOfOne : MX := (RX7, cX7_worthOfOne, 5, some .int, false)
theorem mX7_worthOfOne : kM yX7_worthOfOne XX7_worthOfOne 1 := ⟨WT_of 911 (by decide +kernel) (by decide +kernel), WT_of 64 (by decide +kernel) (by decide +kernel), by decide +kernel, by decide +kernel, by decide +kernel⟩
abbrev XX7_worthLost : MX := (RX7, cX7_worthLost, 2, some .int, false)
theorem mX7_worthLost : kM yX7_worthLost XX7_worthLost 1 := ⟨WT_of 915 (by decide +kernel) (by decide +kernel), WT_of 64 (by decide +kernel) (by decide +kernel), by decide +kernel, by decide +kernel, by decide +kernel⟩
abbrev XX7_isBetter : MX := (RX7, cX7_isBetter, 4, some .boolean, false)
theorem mX7_isBetter : kM yX7_isBetter XX7_isBetter 3 := ⟨WT_of 919 (by decide +kernel) (by decide +kernel), WT_of 64 (by decide +kernel) (by decide +kernel), by decide +kernel, by decide +kernel, by decide +kernel⟩
abbrev XX7_worthOfTwo : MX := (RX7, cX7_worthOfTwo, 4, some .int, false)
theorem mX7_worthOfTwo : kM yX7_worthOfTwo XX7_worthOfTwo 0 := ⟨WT_of 923 (by decide +kernel) (by decide +kernel), WT_of 64 (by decide +kernel) (by decide +kernel), by decide +kernel, by decide +kernel, by decide +kernel⟩
abbrev XX7_best : MX := (RX7, cX7_best, 7, some .int, false)
theorem mX7_best : kM yX7_best XX7_best 1 := ⟨WT_of 927 (by decide +kernel) (by decide +kernel), WT_of 64 (by decide +kernel) (by decide +kernel), by decide +kernel, by decide +kernel, by decide +kernel⟩
abbrev XX7_put : MX := (RX7, cX7_put, 8, some .int, false)
theorem mX7_put : kM yX7_put XX7_put 1 := ⟨WT_of 931 (by decide +kernel) (by decide +kernel), WT_of 64 (by decide +kernel) (by decide +kernel), by decide +kernel, by decide +kernel, by decide +kernel⟩
abbrev XX7_wipe : MX := (RX7, cX7_wipe, 2, some .int, false)
theorem mX7_wipe : kM yX7_wipe XX7_wipe 0 := ⟨WT_of 936 (by decide +kernel) (by decide +kernel), WT_of 64 (by decide +kernel) (by decide +kernel), by decide +kernel, by decide +kernel, by decide +kernel⟩
abbrev XX7_fault : MX := (RX7, cX7_fault, 1, some .int, false)
theorem mX7_fault : kM yX7_fault XX7_fault 0 := ⟨WT_of 940 (by decide +kernel) (by decide +kernel), WT_of 64 (by decide +kernel) (by decide +kernel), by decide +kernel, by decide +kernel, by decide +kernel⟩
abbrev XX7_readPad : MX := (RX7, cX7_readPad, 2, some .int, false)
theorem mX7_readPad : kM yX7_readPad XX7_readPad 0 := ⟨WT_of 944 (by decide +kernel) (by decide +kernel), WT_of 64 (by decide +kernel) (by decide +kernel), by decide +kernel, by decide +kernel, by decide +kernel⟩
abbrev XX7_readHop : MX := (RX7, cX7_readHop, 2, none, false)
theorem mX7_readHop : kM yX7_readHop XX7_readHop 0 := ⟨WT_of 948 (by decide +kernel) (by decide +kernel), WT_of 64 (by decide +kernel) (by decide +kernel), by decide +kernel, by decide +kernel, by decide +kernel⟩
abbrev XX7_number : MX := (RX7, cX7_number, 3, some .int, false)
theorem mX7_number : kM yX7_number XX7_number 0 := ⟨WT_of 952 (by decide +kernel) (by decide +kernel), WT_of 64 (by decide +kernel) (by decide +kernel), by decide +kernel, by decide +kernel, by decide +kernel⟩
abbrev XX7_letter : MX := (RX7, cX7_letter, 1, some .int, false)
theorem mX7_letter : kM yX7_letter XX7_letter 0 := ⟨WT_of 956 (by decide +kernel) (by decide +kernel), WT_of 64 (by decide +kernel) (by decide +kernel), by decide +kernel, by decide +kernel, by decide +kernel⟩
abbrev XX7_wants : MX := (RX7, cX7_wants, 2, none, false)
theorem mX7_wants : kM yX7_wants XX7_wants 1 := ⟨WT_of 960 (by decide +kernel) (by decide +kernel), WT_of 64 (by decide +kernel) (by decide +kernel), by decide +kernel, by decide +kernel, by decide +kernel⟩
abbrev XX7_playAll : MX := (RX7, cX7_playAll, 2, some .int, false)
theorem mX7_playAll : kM yX7_playAll XX7_playAll 0 := ⟨WT_of 964 (by decide +kernel) (by decide +kernel), WT_of 64 (by decide +kernel) (by decide +kernel), by decide +kernel, by decide +kernel, by decide +kernel⟩
abbrev XX7_plays : MX := (RX7, cX7_plays, 4, some .boolean, false)
theorem mX7_plays : kM yX7_plays XX7_plays 1 := ⟨WT_of 968 (by decide +kernel) (by decide +kernel), WT_of 64 (by decide +kernel) (by decide +kernel), by decide +kernel, by decide +kernel, by decide +kernel⟩
theorem cl_L_7 : Cond.classLink RL 7 RX6 ∈ WT := WT_of 66 (by decide +kernel) (by decide +kernel)
theorem n_L_7 : kN RL 7 6 5 [.null, .null, .null, .null, .null] := ⟨(RX6, TX6, 5), tyX6, KX6, rfl, cl_L_7, WT_of 67 (by decide +kernel) (by decide +kernel), WT_of 55 (by decide +kernel) (by decide +kernel), by decide +kernel⟩
theorem l_L_9 : kI RL 9 yX6_init := ⟨WT_of 68 (by decide +kernel) (by decide +kernel), WT_of 69 (by decide +kernel) (by decide +kernel), rfl⟩
theorem l_X6_1 : Cond.methodLink RX6 1 objectInit ∈ WT := WT_of 71 (by decide +kernel) (by decide +kernel)
theorem cl_X6_7 : Cond.classLink RX6 7 RX1 ∈ WT := WT_of 74 (by decide +kernel) (by decide +kernel)
theorem n_X6_7 : kN RX6 7 1 9 [.null, .null, .null, .null, .int 0, .int 0, .int 0, .int 0, .int 0] := ⟨(RX1, TX1, 9), tyX1, KX1, rfl, cl_X6_7, WT_of 75 (by decide +kernel) (by decide +kernel), WT_of 56 (by decide +kernel) (by decide +kernel), by decide +kernel⟩
theorem l_X6_9 : kIN RX6 9 yX1_init := ⟨⟨"RingDraughts", List.mem_of_getElem? (i := 76) (by decide +kernel)⟩, WT_of 77 (by decide +kernel) (by decide +kernel), rfl⟩
theorem l_X1_3 : Cond.methodLink RX1 3 objectInit ∈ WT := WT_of 79 (by decide +kernel) (by decide +kernel)
theorem cl_X1_9 : Cond.classLink RX1 9 RX0 ∈ WT := WT_of 80 (by decide +kernel) (by decide +kernel)
theorem n_X1_9 : kN RX1 9 0 4 [.null, .null, .int 0, .int 0] := ⟨(RX0, TX0, 4), tyX0, KX0, rfl, cl_X1_9, WT_of 81 (by decide +kernel) (by decide +kernel), WT_of 57 (by decide +kernel) (by decide +kernel), by decide +kernel⟩
theorem l_X1_11 : kI RX1 11 yX0_init := ⟨WT_of 82 (by decide +kernel) (by decide +kernel), WT_of 83 (by decide +kernel) (by decide +kernel), rfl⟩
theorem l_X0_3 : Cond.methodLink RX0 3 objectInit ∈ WT := WT_of 85 (by decide +kernel) (by decide +kernel)
theorem l_X0_25 : kS RX0 25 yJ7_fill_53178 := ⟨WT_of 86 (by decide +kernel) (by decide +kernel), WT_of 87 (by decide +kernel) (by decide +kernel)⟩
theorem f_X0_9 : FL RX0 9 0 0 (.array .int) true := ⟨(RX0, TX0, 4), tyX0, KX0, by decide, WT_of 89 (by decide +kernel) (by decide +kernel), rfl, rfl, fun h => by first | rfl | cases h⟩
theorem f_X0_15 : FL RX0 15 0 1 (.array .int) true := ⟨(RX0, TX0, 4), tyX0, KX0, by decide, WT_of 90 (by decide +kernel) (by decide +kernel), rfl, rfl, fun h => by first | rfl | cases h⟩
theorem f_X0_18 : FL RX0 18 0 2 .int false := ⟨(RX0, TX0, 4), tyX0, KX0, by decide, WT_of 91 (by decide +kernel) (by decide +kernel), rfl, rfl, fun h => by first | rfl | cases h⟩
theorem f_X1_80 : FL RX1 80 0 2 .int false := ⟨(RX0, TX0, 4), tyX0, KX0, by decide, WT_of 92 (by decide +kernel) (by decide +kernel), rfl, rfl, fun h => by first | rfl | cases h⟩
theorem f_X6_89 : FL RX6 89 0 2 .int false := ⟨(RX0, TX0, 4), tyX0, KX0, by decide, WT_of 93 (by decide +kernel) (by decide +kernel), rfl, rfl, fun h => by first | rfl | cases h⟩
theorem f_X3_45 : FL RX3 45 0 2 .int false := ⟨(RX0, TX0, 4), tyX0, KX0, by decide, WT_of 94 (by decide +kernel) (by decide +kernel), rfl, rfl, fun h => by first | rfl | cases h⟩
theorem f_X0_22 : FL RX0 22 0 3 .int false := ⟨(RX0, TX0, 4), tyX0, KX0, by decide, WT_of 95 (by decide +kernel) (by decide +kernel), rfl, rfl, fun h => by first | rfl | cases h⟩
theorem f_X1_71 : FL RX1 71 0 3 .int false := ⟨(RX0, TX0, 4), tyX0, KX0, by decide, WT_of 96 (by decide +kernel) (by decide +kernel), rfl, rfl, fun h => by first | rfl | cases h⟩
theorem f_X3_50 : FL RX3 50 0 3 .int false := ⟨(RX0, TX0, 4), tyX0, KX0, by decide, WT_of 97 (by decide +kernel) (by decide +kernel), rfl, rfl, fun h => by first | rfl | cases h⟩
theorem f_X6_194 : FL RX6 194 0 3 .int false := ⟨(RX0, TX0, 4), tyX0, KX0, by decide, WT_of 98 (by decide +kernel) (by decide +kernel), rfl, rfl, fun h => by first | rfl | cases h⟩
theorem f_X1_12 : FL RX1 12 1 0 (.object "RingDraughts$Board") true := ⟨(RX1, TX1, 9), tyX1, KX1, by decide, WT_of 109 (by decide +kernel) (by decide +kernel), rfl, rfl, fun h => by first | rfl | cases h⟩
theorem f_X6_55 : FLr RX6 55 1 0 := ⟨(RX1, TX1, 9), tyX1, KX1, by decide, WT_of 110 (by decide +kernel) (by decide +kernel)⟩
theorem f_X1_18 : FL RX1 18 1 1 (.array .int) true := ⟨(RX1, TX1, 9), tyX1, KX1, by decide, WT_of 111 (by decide +kernel) (by decide +kernel), rfl, rfl, fun h => by first | rfl | cases h⟩
theorem f_X6_178 : FLr RX6 178 1 1 := ⟨(RX1, TX1, 9), tyX1, KX1, by decide, WT_of 112 (by decide +kernel) (by decide +kernel)⟩
theorem f_X1_22 : FL RX1 22 1 2 (.array .int) true := ⟨(RX1, TX1, 9), tyX1, KX1, by decide, WT_of 113 (by decide +kernel) (by decide +kernel), rfl, rfl, fun h => by first | rfl | cases h⟩
theorem f_X6_182 : FLr RX6 182 1 2 := ⟨(RX1, TX1, 9), tyX1, KX1, by decide, WT_of 114 (by decide +kernel) (by decide +kernel)⟩
theorem f_X1_25 : FL RX1 25 1 3 (.array .long) true := ⟨(RX1, TX1, 9), tyX1, KX1, by decide, WT_of 115 (by decide +kernel) (by decide +kernel), rfl, rfl, fun h => by first | rfl | cases h⟩
theorem f_X1_29 : FL RX1 29 1 4 .int false := ⟨(RX1, TX1, 9), tyX1, KX1, by decide, WT_of 116 (by decide +kernel) (by decide +kernel), rfl, rfl, fun h => by first | rfl | cases h⟩
theorem f_X1_33 : FL RX1 33 1 5 .int false := ⟨(RX1, TX1, 9), tyX1, KX1, by decide, WT_of 117 (by decide +kernel) (by decide +kernel), rfl, rfl, fun h => by first | rfl | cases h⟩
theorem f_X6_51 : FL RX6 51 1 5 .int false := ⟨(RX1, TX1, 9), tyX1, KX1, by decide, WT_of 118 (by decide +kernel) (by decide +kernel), rfl, rfl, fun h => by first | rfl | cases h⟩
theorem f_X1_36 : FL RX1 36 1 6 .int false := ⟨(RX1, TX1, 9), tyX1, KX1, by decide, WT_of 119 (by decide +kernel) (by decide +kernel), rfl, rfl, fun h => by first | rfl | cases h⟩
theorem f_X6_191 : FL RX6 191 1 6 .int false := ⟨(RX1, TX1, 9), tyX1, KX1, by decide, WT_of 120 (by decide +kernel) (by decide +kernel), rfl, rfl, fun h => by first | rfl | cases h⟩
theorem f_X1_39 : FL RX1 39 1 7 .int false := ⟨(RX1, TX1, 9), tyX1, KX1, by decide, WT_of 121 (by decide +kernel) (by decide +kernel), rfl, rfl, fun h => by first | rfl | cases h⟩
theorem f_X6_200 : FL RX6 200 1 7 .int false := ⟨(RX1, TX1, 9), tyX1, KX1, by decide, WT_of 122 (by decide +kernel) (by decide +kernel), rfl, rfl, fun h => by first | rfl | cases h⟩
theorem f_X1_42 : FL RX1 42 1 8 .int false := ⟨(RX1, TX1, 9), tyX1, KX1, by decide, WT_of 123 (by decide +kernel) (by decide +kernel), rfl, rfl, fun h => by first | rfl | cases h⟩
theorem f_X6_105 : FL RX6 105 1 8 .int false := ⟨(RX1, TX1, 9), tyX1, KX1, by decide, WT_of 124 (by decide +kernel) (by decide +kernel), rfl, rfl, fun h => by first | rfl | cases h⟩
theorem cl_X6_16 : Cond.classLink RX6 16 RX2 ∈ WT := WT_of 145 (by decide +kernel) (by decide +kernel)
theorem n_X6_16 : kN RX6 16 2 2 [.null, .int 0] := ⟨(RX2, TX2, 2), tyX2, KX2, rfl, cl_X6_16, WT_of 146 (by decide +kernel) (by decide +kernel), WT_of 59 (by decide +kernel) (by decide +kernel), by decide +kernel⟩
theorem l_X6_18 : kIN RX6 18 yX2_init := ⟨⟨"RingDraughts", List.mem_of_getElem? (i := 147) (by decide +kernel)⟩, WT_of 148 (by decide +kernel) (by decide +kernel), rfl⟩
theorem l_X2_3 : Cond.methodLink RX2 3 objectInit ∈ WT := WT_of 150 (by decide +kernel) (by decide +kernel)
theorem cl_X2_9 : Cond.classLink RX2 9 RX1 ∈ WT := WT_of 151 (by decide +kernel) (by decide +kernel)
theorem n_X2_9 : kN RX2 9 1 9 [.null, .null, .null, .null, .int 0, .int 0, .int 0, .int 0, .int 0] := ⟨(RX1, TX1, 9), tyX1, KX1, rfl, cl_X2_9, WT_of 75 (by decide +kernel) (by decide +kernel), WT_of 56 (by decide +kernel) (by decide +kernel), by decide +kernel⟩
theorem f_X2_11 : FL RX2 11 2 0 (.array (.object "RingDraughts$Game")) true := ⟨(RX2, TX2, 2), tyX2, KX2, by decide, WT_of 153 (by decide +kernel) (by decide +kernel), rfl, rfl, fun h => by first | rfl | cases h⟩
theorem f_X2_17 : FL RX2 17 2 1 .int false := ⟨(RX2, TX2, 2), tyX2, KX2, by decide, WT_of 154 (by decide +kernel) (by decide +kernel), rfl, rfl, fun h => by first | rfl | cases h⟩
theorem f_X6_203 : FL RX6 203 2 1 .int false := ⟨(RX2, TX2, 2), tyX2, KX2, by decide, WT_of 155 (by decide +kernel) (by decide +kernel), rfl, rfl, fun h => by first | rfl | cases h⟩
theorem cl_X6_27 : Cond.classLink RX6 27 RX4 ∈ WT := WT_of 161 (by decide +kernel) (by decide +kernel)
theorem n_X6_27 : kN RX6 27 4 2 [.null, .int 0] := ⟨(RX4, TX4, 2), tyX4, KX4, rfl, cl_X6_27, WT_of 162 (by decide +kernel) (by decide +kernel), WT_of 60 (by decide +kernel) (by decide +kernel), by decide +kernel⟩
theorem l_X6_29 : kIN RX6 29 yX4_init := ⟨⟨"RingDraughts", List.mem_of_getElem? (i := 163) (by decide +kernel)⟩, WT_of 164 (by decide +kernel) (by decide +kernel), rfl⟩
theorem l_X4_3 : Cond.methodLink RX4 3 objectInit ∈ WT := WT_of 166 (by decide +kernel) (by decide +kernel)
theorem f_X4_11 : FL RX4 11 4 0 (.array .char) true := ⟨(RX4, TX4, 2), tyX4, KX4, by decide, WT_of 167 (by decide +kernel) (by decide +kernel), rfl, rfl, fun h => by first | rfl | cases h⟩
theorem f_X4_15 : FL RX4 15 4 1 .int false := ⟨(RX4, TX4, 2), tyX4, KX4, by decide, WT_of 168 (by decide +kernel) (by decide +kernel), rfl, rfl, fun h => by first | rfl | cases h⟩
theorem f_X6_116 : FL RX6 116 4 1 .int false := ⟨(RX4, TX4, 2), tyX4, KX4, by decide, WT_of 169 (by decide +kernel) (by decide +kernel), rfl, rfl, fun h => by first | rfl | cases h⟩
theorem cl_X6_34 : Cond.classLink RX6 34 RX5 ∈ WT := WT_of 176 (by decide +kernel) (by decide +kernel)
theorem n_X6_34 : kN RX6 34 5 3 [.null, .null, .null] := ⟨(RX5, TX5, 3), tyX5, KX5, rfl, cl_X6_34, WT_of 177 (by decide +kernel) (by decide +kernel), WT_of 61 (by decide +kernel) (by decide +kernel), by decide +kernel⟩
theorem l_X6_36 : kI RX6 36 yX5_init := ⟨WT_of 178 (by decide +kernel) (by decide +kernel), WT_of 179 (by decide +kernel) (by decide +kernel), rfl⟩
theorem l_X5_1 : Cond.methodLink RX5 1 objectInit ∈ WT := WT_of 181 (by decide +kernel) (by decide +kernel)
theorem cl_X5_7 : Cond.classLink RX5 7 RX0 ∈ WT := WT_of 182 (by decide +kernel) (by decide +kernel)
theorem n_X5_7 : kN RX5 7 0 4 [.null, .null, .int 0, .int 0] := ⟨(RX0, TX0, 4), tyX0, KX0, rfl, cl_X5_7, WT_of 81 (by decide +kernel) (by decide +kernel), WT_of 57 (by decide +kernel) (by decide +kernel), by decide +kernel⟩
theorem l_X5_9 : kI RX5 9 yX0_init := ⟨WT_of 183 (by decide +kernel) (by decide +kernel), WT_of 83 (by decide +kernel) (by decide +kernel), rfl⟩
theorem cl_X5_16 : Cond.classLink RX5 16 RX3 ∈ WT := WT_of 184 (by decide +kernel) (by decide +kernel)
theorem n_X5_16 : kN RX5 16 3 6 [.null, .null, .null, .null, .null, .int 0] := ⟨(RX3, TX3, 6), tyX3, KX3, rfl, cl_X5_16, WT_of 185 (by decide +kernel) (by decide +kernel), WT_of 62 (by decide +kernel) (by decide +kernel), by decide +kernel⟩
theorem l_X5_18 : kIN RX5 18 yX3_init := ⟨⟨"RingDraughts", List.mem_of_getElem? (i := 186) (by decide +kernel)⟩, WT_of 187 (by decide +kernel) (by decide +kernel), rfl⟩
theorem l_X3_3 : Cond.methodLink RX3 3 objectInit ∈ WT := WT_of 189 (by decide +kernel) (by decide +kernel)
theorem f_X3_11 : FL RX3 11 3 0 (.array .int) true := ⟨(RX3, TX3, 6), tyX3, KX3, by decide, WT_of 190 (by decide +kernel) (by decide +kernel), rfl, rfl, fun h => by first | rfl | cases h⟩
theorem f_X3_15 : FL RX3 15 3 1 (.array .int) true := ⟨(RX3, TX3, 6), tyX3, KX3, by decide, WT_of 191 (by decide +kernel) (by decide +kernel), rfl, rfl, fun h => by first | rfl | cases h⟩
theorem f_X3_18 : FL RX3 18 3 2 (.array .int) true := ⟨(RX3, TX3, 6), tyX3, KX3, by decide, WT_of 192 (by decide +kernel) (by decide +kernel), rfl, rfl, fun h => by first | rfl | cases h⟩
theorem f_X3_21 : FL RX3 21 3 3 (.array .int) true := ⟨(RX3, TX3, 6), tyX3, KX3, by decide, WT_of 193 (by decide +kernel) (by decide +kernel), rfl, rfl, fun h => by first | rfl | cases h⟩
theorem f_X3_24 : FL RX3 24 3 4 (.array .int) true := ⟨(RX3, TX3, 6), tyX3, KX3, by decide, WT_of 194 (by decide +kernel) (by decide +kernel), rfl, rfl, fun h => by first | rfl | cases h⟩
theorem f_X3_27 : FL RX3 27 3 5 .int false := ⟨(RX3, TX3, 6), tyX3, KX3, by decide, WT_of 195 (by decide +kernel) (by decide +kernel), rfl, rfl, fun h => by first | rfl | cases h⟩
theorem f_X6_188 : FL RX6 188 3 5 .int false := ⟨(RX3, TX3, 6), tyX3, KX3, by decide, WT_of 196 (by decide +kernel) (by decide +kernel), rfl, rfl, fun h => by first | rfl | cases h⟩
theorem f_X5_10 : FL RX5 10 5 0 (.object "RingDraughts$Board") true := ⟨(RX5, TX5, 3), tyX5, KX5, by decide, WT_of 210 (by decide +kernel) (by decide +kernel), rfl, rfl, fun h => by first | rfl | cases h⟩
theorem f_X6_204 : FLr RX6 204 5 0 := ⟨(RX5, TX5, 3), tyX5, KX5, by decide, WT_of 211 (by decide +kernel) (by decide +kernel)⟩
theorem f_X5_19 : FL RX5 19 5 1 (.object "RingDraughts$Hops") true := ⟨(RX5, TX5, 3), tyX5, KX5, by decide, WT_of 212 (by decide +kernel) (by decide +kernel), rfl, rfl, fun h => by first | rfl | cases h⟩
theorem f_X6_236 : FLr RX6 236 5 1 := ⟨(RX5, TX5, 3), tyX5, KX5, by decide, WT_of 213 (by decide +kernel) (by decide +kernel)⟩
theorem f_X5_23 : FL RX5 23 5 2 (.object "RingDraughts$Ply") true := ⟨(RX5, TX5, 3), tyX5, KX5, by decide, WT_of 214 (by decide +kernel) (by decide +kernel), rfl, rfl, fun h => by first | rfl | cases h⟩
theorem f_X6_220 : FLr RX6 220 5 2 := ⟨(RX5, TX5, 3), tyX5, KX5, by decide, WT_of 215 (by decide +kernel) (by decide +kernel)⟩
theorem l_X6_43 : kV RX6 43 yX1_start := ⟨WT_of 223 (by decide +kernel) (by decide +kernel), WT_of 224 (by decide +kernel) (by decide +kernel), WT_of 225 (by decide +kernel) (by decide +kernel)⟩
theorem l_X1_55 : kV RX1 55 yX0_empty := ⟨WT_of 227 (by decide +kernel) (by decide +kernel), WT_of 228 (by decide +kernel) (by decide +kernel), WT_of 229 (by decide +kernel) (by decide +kernel)⟩
theorem l_X1_58 : kV RX1 58 yX0_fillRow := ⟨WT_of 231 (by decide +kernel) (by decide +kernel), WT_of 232 (by decide +kernel) (by decide +kernel), WT_of 233 (by decide +kernel) (by decide +kernel)⟩
theorem l_X0_37 : kV RX0 37 yX0_place := ⟨WT_of 235 (by decide +kernel) (by decide +kernel), WT_of 236 (by decide +kernel) (by decide +kernel), WT_of 237 (by decide +kernel) (by decide +kernel)⟩
theorem l_X0_41 : kV RX0 41 yX0_addToNumber := ⟨WT_of 239 (by decide +kernel) (by decide +kernel), WT_of 241 (by decide +kernel) (by decide +kernel), WT_of 0 (by decide +kernel) (by decide +kernel)⟩
theorem l_X1_62 : kS RX1 62 yJ7_fill_53178 := ⟨WT_of 243 (by decide +kernel) (by decide +kernel), WT_of 87 (by decide +kernel) (by decide +kernel)⟩
theorem l_X1_68 : kV RX1 68 yX1_startFromHere := ⟨WT_of 244 (by decide +kernel) (by decide +kernel), WT_of 245 (by decide +kernel) (by decide +kernel), WT_of 246 (by decide +kernel) (by decide +kernel)⟩
theorem l_X1_74 : kV RX1 74 yX1_keepPosition := ⟨WT_of 248 (by decide +kernel) (by decide +kernel), WT_of 250 (by decide +kernel) (by decide +kernel), WT_of 1 (by decide +kernel) (by decide +kernel)⟩
theorem l_X1_117 : kV RX1 117 yX0_third := ⟨WT_of 252 (by decide +kernel) (by decide +kernel), WT_of 253 (by decide +kernel) (by decide +kernel), WT_of 254 (by decide +kernel) (by decide +kernel)⟩
theorem l_X0_57 : kV RX0 57 yX0_pieceAt := ⟨WT_of 256 (by decide +kernel) (by decide +kernel), WT_of 257 (by decide +kernel) (by decide +kernel), WT_of 258 (by decide +kernel) (by decide +kernel)⟩
theorem l_X1_77 : kV RX1 77 yX1_judge := ⟨WT_of 260 (by decide +kernel) (by decide +kernel), WT_of 262 (by decide +kernel) (by decide +kernel), WT_of 2 (by decide +kernel) (by decide +kernel)⟩
theorem l_X1_109 : kV RX1 109 yX0_hasHop := ⟨WT_of 264 (by decide +kernel) (by decide +kernel), WT_of 265 (by decide +kernel) (by decide +kernel), WT_of 266 (by decide +kernel) (by decide +kernel)⟩
theorem l_X0_72 : kSN RX0 72 yX6_sideOf := ⟨⟨"RingDraughts", List.mem_of_getElem? (i := 268) (by decide +kernel)⟩, WT_of 269 (by decide +kernel) (by decide +kernel)⟩
theorem l_X0_60 : kSN RX0 60 yX6_mayGo := ⟨⟨"RingDraughts", List.mem_of_getElem? (i := 271) (by decide +kernel)⟩, WT_of 272 (by decide +kernel) (by decide +kernel)⟩
theorem l_X0_68 : kSN RX0 68 yX6_squareAfter := ⟨⟨"RingDraughts", List.mem_of_getElem? (i := 274) (by decide +kernel)⟩, WT_of 275 (by decide +kernel) (by decide +kernel)⟩
theorem l_X6_133 : kS RX6 133 yX6_rowOf := ⟨WT_of 277 (by decide +kernel) (by decide +kernel), WT_of 278 (by decide +kernel) (by decide +kernel)⟩
theorem l_X6_130 : kS RX6 130 yX6_columnOf := ⟨WT_of 280 (by decide +kernel) (by decide +kernel), WT_of 281 (by decide +kernel) (by decide +kernel)⟩
theorem l_X6_258 : kS RX6 258 yJ9_floorMod_7cf53 := ⟨WT_of 283 (by decide +kernel) (by decide +kernel), WT_of 284 (by decide +kernel) (by decide +kernel)⟩
theorem l_X0_75 : kV RX0 75 yX0_stepsToPrey := ⟨WT_of 286 (by decide +kernel) (by decide +kernel), WT_of 287 (by decide +kernel) (by decide +kernel), WT_of 288 (by decide +kernel) (by decide +kernel)⟩
theorem l_X0_64 : kSN RX0 64 yX6_isKing := ⟨⟨"RingDraughts", List.mem_of_getElem? (i := 290) (by decide +kernel)⟩, WT_of 291 (by decide +kernel) (by decide +kernel)⟩
theorem l_X1_87 : kSN RX1 87 yX6_wonBy := ⟨⟨"RingDraughts", List.mem_of_getElem? (i := 293) (by decide +kernel)⟩, WT_of 294 (by decide +kernel) (by decide +kernel)⟩
theorem l_X1_113 : kV RX1 113 yX1_timesOfNow := ⟨WT_of 296 (by decide +kernel) (by decide +kernel), WT_of 297 (by decide +kernel) (by decide +kernel), WT_of 298 (by decide +kernel) (by decide +kernel)⟩
theorem l_X1_121 : kV RX1 121 yX1_isSamePosition := ⟨WT_of 300 (by decide +kernel) (by decide +kernel), WT_of 302 (by decide +kernel) (by decide +kernel), WT_of 3 (by decide +kernel) (by decide +kernel)⟩
theorem l_X1_125 : kS RX1 125 yJ9_min_7cf53 := ⟨WT_of 304 (by decide +kernel) (by decide +kernel), WT_of 305 (by decide +kernel) (by decide +kernel)⟩
theorem l_X1_131 : kS RX1 131 yJ9_max_7cf53 := ⟨WT_of 307 (by decide +kernel) (by decide +kernel), WT_of 308 (by decide +kernel) (by decide +kernel)⟩
theorem f_X6_10 : FL RX6 10 6 0 (.object "RingDraughts$Game") true := ⟨(RX6, TX6, 5), tyX6, KX6, by decide, WT_of 310 (by decide +kernel) (by decide +kernel), rfl, rfl, fun h => by first | rfl | cases h⟩
theorem f_X6_19 : FL RX6 19 6 1 (.object "RingDraughts$History") true := ⟨(RX6, TX6, 5), tyX6, KX6, by decide, WT_of 311 (by decide +kernel) (by decide +kernel), rfl, rfl, fun h => by first | rfl | cases h⟩
theorem f_X6_23 : FL RX6 23 6 2 (.array (.object "RingDraughts$Game")) true := ⟨(RX6, TX6, 5), tyX6, KX6, by decide, WT_of 312 (by decide +kernel) (by decide +kernel), rfl, rfl, fun h => by first | rfl | cases h⟩
theorem f_X6_30 : FL RX6 30 6 3 (.object "RingDraughts$Pad") true := ⟨(RX6, TX6, 5), tyX6, KX6, by decide, WT_of 313 (by decide +kernel) (by decide +kernel), rfl, rfl, fun h => by first | rfl | cases h⟩
theorem f_X6_39 : FL RX6 39 6 4 (.object "RingDraughts$Ply") true := ⟨(RX6, TX6, 5), tyX6, KX6, by decide, WT_of 314 (by decide +kernel) (by decide +kernel), rfl, rfl, fun h => by first | rfl | cases h⟩
theorem l_L_13 : kV RL 13 yX6_clock := ⟨WT_of 326 (by decide +kernel) (by decide +kernel), WT_of 327 (by decide +kernel) (by decide +kernel), WT_of 328 (by decide +kernel) (by decide +kernel)⟩
theorem l_X6_47 : kV RX6 47 yX2_keep := ⟨WT_of 330 (by decide +kernel) (by decide +kernel), WT_of 331 (by decide +kernel) (by decide +kernel), WT_of 332 (by decide +kernel) (by decide +kernel)⟩
theorem l_X2_21 : kV RX2 21 yX2_dropOldest := ⟨WT_of 334 (by decide +kernel) (by decide +kernel), WT_of 336 (by decide +kernel) (by decide +kernel), WT_of 4 (by decide +kernel) (by decide +kernel)⟩
theorem l_X2_24 : kIN RX2 24 yX1_init := ⟨⟨"RingDraughts", List.mem_of_getElem? (i := 338) (by decide +kernel)⟩, WT_of 77 (by decide +kernel) (by decide +kernel), rfl⟩
theorem l_X2_25 : kV RX2 25 yX1_copyFrom := ⟨WT_of 339 (by decide +kernel) (by decide +kernel), WT_of 340 (by decide +kernel) (by decide +kernel), WT_of 341 (by decide +kernel) (by decide +kernel)⟩
theorem l_X1_45 : kV RX1 45 yX0_copyFrom := ⟨WT_of 343 (by decide +kernel) (by decide +kernel), WT_of 344 (by decide +kernel) (by decide +kernel), WT_of 345 (by decide +kernel) (by decide +kernel)⟩
theorem l_X0_31 : Cond.methodLink RX0 31 arraycopyName ∈ WT := WT_of 347 (by decide +kernel) (by decide +kernel)
theorem l_X1_49 : Cond.methodLink RX1 49 arraycopyName ∈ WT := WT_of 350 (by decide +kernel) (by decide +kernel)
theorem l_L_18 : kV RL 18 yX6_begin := ⟨WT_of 351 (by decide +kernel) (by decide +kernel), WT_of 352 (by decide +kernel) (by decide +kernel), WT_of 353 (by decide +kernel) (by decide +kernel)⟩
theorem l_X6_59 : kV RX6 59 yX0_piecesOf := ⟨WT_of 355 (by decide +kernel) (by decide +kernel), WT_of 356 (by decide +kernel) (by decide +kernel), WT_of 357 (by decide +kernel) (by decide +kernel)⟩
theorem l_X0_51 : kV RX0 51 yX0_menOf := ⟨WT_of 359 (by decide +kernel) (by decide +kernel), WT_of 360 (by decide +kernel) (by decide +kernel), WT_of 361 (by decide +kernel) (by decide +kernel)⟩
theorem l_X0_44 : kV RX0 44 yX0_numberOf := ⟨WT_of 363 (by decide +kernel) (by decide +kernel), WT_of 365 (by decide +kernel) (by decide +kernel), WT_of 5 (by decide +kernel) (by decide +kernel)⟩
theorem l_X0_54 : kV RX0 54 yX0_kingsOf := ⟨WT_of 367 (by decide +kernel) (by decide +kernel), WT_of 368 (by decide +kernel) (by decide +kernel), WT_of 369 (by decide +kernel) (by decide +kernel)⟩
theorem l_X0_48 : kSN RX0 48 yX6_kingOf := ⟨⟨"RingDraughts", List.mem_of_getElem? (i := 371) (by decide +kernel)⟩, WT_of 372 (by decide +kernel) (by decide +kernel)⟩
theorem l_L_23 : kV RL 23 yX6_set := ⟨WT_of 374 (by decide +kernel) (by decide +kernel), WT_of 375 (by decide +kernel) (by decide +kernel), WT_of 376 (by decide +kernel) (by decide +kernel)⟩
theorem l_X6_65 : kS RX6 65 yX6_isSquare := ⟨WT_of 378 (by decide +kernel) (by decide +kernel), WT_of 379 (by decide +kernel) (by decide +kernel)⟩
theorem l_X6_69 : kS RX6 69 yX6_isPiece := ⟨WT_of 381 (by decide +kernel) (by decide +kernel), WT_of 382 (by decide +kernel) (by decide +kernel)⟩
theorem l_X6_72 : kV RX6 72 yX0_pieceAt := ⟨WT_of 384 (by decide +kernel) (by decide +kernel), WT_of 257 (by decide +kernel) (by decide +kernel), WT_of 258 (by decide +kernel) (by decide +kernel)⟩
theorem l_X6_75 : kV RX6 75 yX6_isOneTooMany := ⟨WT_of 385 (by decide +kernel) (by decide +kernel), WT_of 387 (by decide +kernel) (by decide +kernel), WT_of 6 (by decide +kernel) (by decide +kernel)⟩
theorem l_X6_243 : kS RX6 243 yX6_sideOf := ⟨WT_of 389 (by decide +kernel) (by decide +kernel), WT_of 269 (by decide +kernel) (by decide +kernel)⟩
theorem l_X6_79 : kV RX6 79 yX0_place := ⟨WT_of 390 (by decide +kernel) (by decide +kernel), WT_of 236 (by decide +kernel) (by decide +kernel), WT_of 237 (by decide +kernel) (by decide +kernel)⟩
theorem l_X6_83 : kV RX6 83 yX1_startFromHere := ⟨WT_of 391 (by decide +kernel) (by decide +kernel), WT_of 245 (by decide +kernel) (by decide +kernel), WT_of 246 (by decide +kernel) (by decide +kernel)⟩
theorem l_L_28 : kV RL 28 yX6_turn := ⟨WT_of 392 (by decide +kernel) (by decide +kernel), WT_of 393 (by decide +kernel) (by decide +kernel), WT_of 394 (by decide +kernel) (by decide +kernel)⟩
theorem l_X6_86 : kS RX6 86 yX6_isSide := ⟨WT_of 396 (by decide +kernel) (by decide +kernel), WT_of 397 (by decide +kernel) (by decide +kernel)⟩
theorem l_L_32 : kV RL 32 yX6_hop := ⟨WT_of 399 (by decide +kernel) (by decide +kernel), WT_of 400 (by decide +kernel) (by decide +kernel), WT_of 401 (by decide +kernel) (by decide +kernel)⟩
theorem l_X6_92 : kV RX6 92 yX6_hopsOfNow := ⟨WT_of 403 (by decide +kernel) (by decide +kernel), WT_of 405 (by decide +kernel) (by decide +kernel), WT_of 7 (by decide +kernel) (by decide +kernel)⟩
theorem l_X6_205 : kV RX6 205 yX0_copyFrom := ⟨WT_of 407 (by decide +kernel) (by decide +kernel), WT_of 344 (by decide +kernel) (by decide +kernel), WT_of 345 (by decide +kernel) (by decide +kernel)⟩
theorem l_X6_240 : kV RX6 240 yX3_list := ⟨WT_of 408 (by decide +kernel) (by decide +kernel), WT_of 409 (by decide +kernel) (by decide +kernel), WT_of 410 (by decide +kernel) (by decide +kernel)⟩
theorem l_X3_53 : kV RX3 53 yX3_listJumps := ⟨WT_of 412 (by decide +kernel) (by decide +kernel), WT_of 413 (by decide +kernel) (by decide +kernel), WT_of 414 (by decide +kernel) (by decide +kernel)⟩
theorem l_X3_61 : kV RX3 61 yX0_pieceAt := ⟨WT_of 416 (by decide +kernel) (by decide +kernel), WT_of 257 (by decide +kernel) (by decide +kernel), WT_of 258 (by decide +kernel) (by decide +kernel)⟩
theorem l_X3_64 : kSN RX3 64 yX6_sideOf := ⟨⟨"RingDraughts", List.mem_of_getElem? (i := 417) (by decide +kernel)⟩, WT_of 269 (by decide +kernel) (by decide +kernel)⟩
theorem l_X3_67 : kSN RX3 67 yX6_isKing := ⟨⟨"RingDraughts", List.mem_of_getElem? (i := 418) (by decide +kernel)⟩, WT_of 291 (by decide +kernel) (by decide +kernel)⟩
theorem l_X3_70 : kV RX3 70 yX0_stepsToPrey := ⟨WT_of 419 (by decide +kernel) (by decide +kernel), WT_of 287 (by decide +kernel) (by decide +kernel), WT_of 288 (by decide +kernel) (by decide +kernel)⟩
theorem l_X3_74 : kV RX3 74 yX3_addLandings := ⟨WT_of 420 (by decide +kernel) (by decide +kernel), WT_of 422 (by decide +kernel) (by decide +kernel), WT_of 8 (by decide +kernel) (by decide +kernel)⟩
theorem l_X3_82 : kSN RX3 82 yX6_squareAfter := ⟨⟨"RingDraughts", List.mem_of_getElem? (i := 424) (by decide +kernel)⟩, WT_of 275 (by decide +kernel) (by decide +kernel)⟩
theorem l_X3_86 : kV RX3 86 yX3_add := ⟨WT_of 425 (by decide +kernel) (by decide +kernel), WT_of 427 (by decide +kernel) (by decide +kernel), WT_of 9 (by decide +kernel) (by decide +kernel)⟩
theorem l_X3_57 : kV RX3 57 yX3_listPlainHops := ⟨WT_of 429 (by decide +kernel) (by decide +kernel), WT_of 431 (by decide +kernel) (by decide +kernel), WT_of 10 (by decide +kernel) (by decide +kernel)⟩
theorem l_X3_78 : kSN RX3 78 yX6_mayGo := ⟨⟨"RingDraughts", List.mem_of_getElem? (i := 433) (by decide +kernel)⟩, WT_of 272 (by decide +kernel) (by decide +kernel)⟩
theorem l_X6_96 : kV RX6 96 yX3_has := ⟨WT_of 434 (by decide +kernel) (by decide +kernel), WT_of 435 (by decide +kernel) (by decide +kernel), WT_of 436 (by decide +kernel) (by decide +kernel)⟩
theorem l_X6_101 : kV RX6 101 yX1_makeHop := ⟨WT_of 438 (by decide +kernel) (by decide +kernel), WT_of 439 (by decide +kernel) (by decide +kernel), WT_of 440 (by decide +kernel) (by decide +kernel)⟩
theorem l_X1_83 : kSN RX1 83 yX6_isSide := ⟨⟨"RingDraughts", List.mem_of_getElem? (i := 442) (by decide +kernel)⟩, WT_of 397 (by decide +kernel) (by decide +kernel)⟩
theorem l_X1_91 : kV RX1 91 yX3_taken := ⟨WT_of 443 (by decide +kernel) (by decide +kernel), WT_of 444 (by decide +kernel) (by decide +kernel), WT_of 445 (by decide +kernel) (by decide +kernel)⟩
theorem l_X3_31 : kV RX3 31 yX3_has := ⟨WT_of 447 (by decide +kernel) (by decide +kernel), WT_of 435 (by decide +kernel) (by decide +kernel), WT_of 436 (by decide +kernel) (by decide +kernel)⟩
theorem l_X1_96 : kV RX1 96 yX3_from := ⟨WT_of 448 (by decide +kernel) (by decide +kernel), WT_of 449 (by decide +kernel) (by decide +kernel), WT_of 450 (by decide +kernel) (by decide +kernel)⟩
theorem l_X1_99 : kV RX1 99 yX0_pieceAt := ⟨WT_of 452 (by decide +kernel) (by decide +kernel), WT_of 257 (by decide +kernel) (by decide +kernel), WT_of 258 (by decide +kernel) (by decide +kernel)⟩
theorem l_X1_102 : kSN RX1 102 yX6_isKing := ⟨⟨"RingDraughts", List.mem_of_getElem? (i := 453) (by decide +kernel)⟩, WT_of 291 (by decide +kernel) (by decide +kernel)⟩
theorem l_X1_105 : kV RX1 105 yX0_make := ⟨WT_of 454 (by decide +kernel) (by decide +kernel), WT_of 455 (by decide +kernel) (by decide +kernel), WT_of 456 (by decide +kernel) (by decide +kernel)⟩
theorem l_X0_79 : kV RX0 79 yX3_from := ⟨WT_of 458 (by decide +kernel) (by decide +kernel), WT_of 449 (by decide +kernel) (by decide +kernel), WT_of 450 (by decide +kernel) (by decide +kernel)⟩
theorem l_X0_84 : kV RX0 84 yX3_to := ⟨WT_of 459 (by decide +kernel) (by decide +kernel), WT_of 460 (by decide +kernel) (by decide +kernel), WT_of 461 (by decide +kernel) (by decide +kernel)⟩
theorem l_X0_87 : kV RX0 87 yX3_taken := ⟨WT_of 463 (by decide +kernel) (by decide +kernel), WT_of 444 (by decide +kernel) (by decide +kernel), WT_of 445 (by decide +kernel) (by decide +kernel)⟩
theorem l_X0_90 : kV RX0 90 yX3_steps := ⟨WT_of 464 (by decide +kernel) (by decide +kernel), WT_of 465 (by decide +kernel) (by decide +kernel), WT_of 466 (by decide +kernel) (by decide +kernel)⟩
theorem l_X0_93 : kSN RX0 93 yX6_isCrowned := ⟨⟨"RingDraughts", List.mem_of_getElem? (i := 468) (by decide +kernel)⟩, WT_of 469 (by decide +kernel) (by decide +kernel)⟩
theorem l_X0_97 : kV RX0 97 yX0_canJump := ⟨WT_of 471 (by decide +kernel) (by decide +kernel), WT_of 472 (by decide +kernel) (by decide +kernel), WT_of 473 (by decide +kernel) (by decide +kernel)⟩
theorem l_L_36 : kV RL 36 yX6_play := ⟨WT_of 475 (by decide +kernel) (by decide +kernel), WT_of 476 (by decide +kernel) (by decide +kernel), WT_of 477 (by decide +kernel) (by decide +kernel)⟩
theorem l_X6_108 : kV RX6 108 yX3_find := ⟨WT_of 479 (by decide +kernel) (by decide +kernel), WT_of 480 (by decide +kernel) (by decide +kernel), WT_of 481 (by decide +kernel) (by decide +kernel)⟩
theorem l_X3_35 : kV RX3 35 yX3_from := ⟨WT_of 483 (by decide +kernel) (by decide +kernel), WT_of 449 (by decide +kernel) (by decide +kernel), WT_of 450 (by decide +kernel) (by decide +kernel)⟩
theorem l_X3_39 : kV RX3 39 yX3_to := ⟨WT_of 484 (by decide +kernel) (by decide +kernel), WT_of 460 (by decide +kernel) (by decide +kernel), WT_of 461 (by decide +kernel) (by decide +kernel)⟩
theorem l_L_40 : kV RL 40 yX6_playAll := ⟨WT_of 485 (by decide +kernel) (by decide +kernel), WT_of 486 (by decide +kernel) (by decide +kernel), WT_of 487 (by decide +kernel) (by decide +kernel)⟩
theorem l_X6_112 : kV RX6 112 yX4_findFault := ⟨WT_of 489 (by decide +kernel) (by decide +kernel), WT_of 490 (by decide +kernel) (by decide +kernel), WT_of 491 (by decide +kernel) (by decide +kernel)⟩
theorem l_X4_25 : kV RX4 25 yX4_signAt := ⟨WT_of 493 (by decide +kernel) (by decide +kernel), WT_of 494 (by decide +kernel) (by decide +kernel), WT_of 495 (by decide +kernel) (by decide +kernel)⟩
theorem l_X4_29 : kSN RX4 29 yX6_isSquare := ⟨⟨"RingDraughts", List.mem_of_getElem? (i := 497) (by decide +kernel)⟩, WT_of 379 (by decide +kernel) (by decide +kernel)⟩
theorem l_X6_119 : kV RX6 119 yX4_signAt := ⟨WT_of 498 (by decide +kernel) (by decide +kernel), WT_of 494 (by decide +kernel) (by decide +kernel), WT_of 495 (by decide +kernel) (by decide +kernel)⟩
theorem l_X6_123 : kV RX6 123 yX6_makeToldHop := ⟨WT_of 499 (by decide +kernel) (by decide +kernel), WT_of 501 (by decide +kernel) (by decide +kernel), WT_of 11 (by decide +kernel) (by decide +kernel)⟩
theorem l_X6_162 : kV RX6 162 yX3_taken := ⟨WT_of 503 (by decide +kernel) (by decide +kernel), WT_of 444 (by decide +kernel) (by decide +kernel), WT_of 445 (by decide +kernel) (by decide +kernel)⟩
theorem l_L_45 : kV RL 45 yX6_giveUp := ⟨WT_of 504 (by decide +kernel) (by decide +kernel), WT_of 505 (by decide +kernel) (by decide +kernel), WT_of 506 (by decide +kernel) (by decide +kernel)⟩
theorem l_X6_127 : kS RX6 127 yX6_wonBy := ⟨WT_of 508 (by decide +kernel) (by decide +kernel), WT_of 294 (by decide +kernel) (by decide +kernel)⟩
theorem l_L_49 : kV RL 49 yX6_square := ⟨WT_of 509 (by decide +kernel) (by decide +kernel), WT_of 510 (by decide +kernel) (by decide +kernel), WT_of 511 (by decide +kernel) (by decide +kernel)⟩
theorem l_X6_136 : kV RX6 136 yX6_isInDanger := ⟨WT_of 513 (by decide +kernel) (by decide +kernel), WT_of 515 (by decide +kernel) (by decide +kernel), WT_of 12 (by decide +kernel) (by decide +kernel)⟩
theorem l_X6_246 : kV RX6 246 yX3_listJumps := ⟨WT_of 517 (by decide +kernel) (by decide +kernel), WT_of 413 (by decide +kernel) (by decide +kernel), WT_of 414 (by decide +kernel) (by decide +kernel)⟩
theorem l_X6_250 : kV RX6 250 yX3_takes := ⟨WT_of 518 (by decide +kernel) (by decide +kernel), WT_of 519 (by decide +kernel) (by decide +kernel), WT_of 520 (by decide +kernel) (by decide +kernel)⟩
theorem l_X3_42 : kV RX3 42 yX3_taken := ⟨WT_of 522 (by decide +kernel) (by decide +kernel), WT_of 444 (by decide +kernel) (by decide +kernel), WT_of 445 (by decide +kernel) (by decide +kernel)⟩
theorem l_X6_139 : kS RX6 139 yX6_oneIf := ⟨WT_of 523 (by decide +kernel) (by decide +kernel), WT_of 524 (by decide +kernel) (by decide +kernel)⟩
theorem l_X6_143 : kV RX6 143 yX3_numberFrom := ⟨WT_of 526 (by decide +kernel) (by decide +kernel), WT_of 527 (by decide +kernel) (by decide +kernel), WT_of 528 (by decide +kernel) (by decide +kernel)⟩
theorem l_L_53 : kV RL 53 yX6_step := ⟨WT_of 530 (by decide +kernel) (by decide +kernel), WT_of 531 (by decide +kernel) (by decide +kernel), WT_of 532 (by decide +kernel) (by decide +kernel)⟩
theorem l_X6_146 : kS RX6 146 yX6_squareAfter := ⟨WT_of 534 (by decide +kernel) (by decide +kernel), WT_of 275 (by decide +kernel) (by decide +kernel)⟩
theorem l_L_57 : kV RL 57 yX6_ofHop := ⟨WT_of 535 (by decide +kernel) (by decide +kernel), WT_of 536 (by decide +kernel) (by decide +kernel), WT_of 537 (by decide +kernel) (by decide +kernel)⟩
theorem l_X6_150 : kV RX6 150 yX3_from := ⟨WT_of 539 (by decide +kernel) (by decide +kernel), WT_of 449 (by decide +kernel) (by decide +kernel), WT_of 450 (by decide +kernel) (by decide +kernel)⟩
theorem l_X6_153 : kV RX6 153 yX3_to := ⟨WT_of 540 (by decide +kernel) (by decide +kernel), WT_of 460 (by decide +kernel) (by decide +kernel), WT_of 461 (by decide +kernel) (by decide +kernel)⟩
theorem l_X6_156 : kV RX6 156 yX3_way := ⟨WT_of 541 (by decide +kernel) (by decide +kernel), WT_of 542 (by decide +kernel) (by decide +kernel), WT_of 543 (by decide +kernel) (by decide +kernel)⟩
theorem l_X6_159 : kV RX6 159 yX3_steps := ⟨WT_of 545 (by decide +kernel) (by decide +kernel), WT_of 465 (by decide +kernel) (by decide +kernel), WT_of 466 (by decide +kernel) (by decide +kernel)⟩
theorem l_X6_165 : kS RX6 165 yX6_isCrowned := ⟨WT_of 546 (by decide +kernel) (by decide +kernel), WT_of 469 (by decide +kernel) (by decide +kernel)⟩
theorem l_X6_169 : kV RX6 169 yX6_isJumpedOnBehind := ⟨WT_of 547 (by decide +kernel) (by decide +kernel), WT_of 549 (by decide +kernel) (by decide +kernel), WT_of 13 (by decide +kernel) (by decide +kernel)⟩
theorem l_X6_216 : kV RX6 216 yX5_tryHop := ⟨WT_of 551 (by decide +kernel) (by decide +kernel), WT_of 552 (by decide +kernel) (by decide +kernel), WT_of 553 (by decide +kernel) (by decide +kernel)⟩
theorem l_X5_27 : kV RX5 27 yX3_has := ⟨WT_of 555 (by decide +kernel) (by decide +kernel), WT_of 435 (by decide +kernel) (by decide +kernel), WT_of 436 (by decide +kernel) (by decide +kernel)⟩
theorem l_X5_31 : kV RX5 31 yX0_copyFrom := ⟨WT_of 556 (by decide +kernel) (by decide +kernel), WT_of 344 (by decide +kernel) (by decide +kernel), WT_of 345 (by decide +kernel) (by decide +kernel)⟩
theorem l_X5_35 : kV RX5 35 yX0_make := ⟨WT_of 557 (by decide +kernel) (by decide +kernel), WT_of 455 (by decide +kernel) (by decide +kernel), WT_of 456 (by decide +kernel) (by decide +kernel)⟩
theorem l_L_61 : kV RL 61 yX6_side := ⟨WT_of 558 (by decide +kernel) (by decide +kernel), WT_of 559 (by decide +kernel) (by decide +kernel), WT_of 560 (by decide +kernel) (by decide +kernel)⟩
theorem l_X6_172 : kV RX6 172 yX0_menOf := ⟨WT_of 562 (by decide +kernel) (by decide +kernel), WT_of 360 (by decide +kernel) (by decide +kernel), WT_of 361 (by decide +kernel) (by decide +kernel)⟩
theorem l_X6_175 : kV RX6 175 yX0_kingsOf := ⟨WT_of 563 (by decide +kernel) (by decide +kernel), WT_of 368 (by decide +kernel) (by decide +kernel), WT_of 369 (by decide +kernel) (by decide +kernel)⟩
theorem l_X6_185 : kV RX6 185 yX0_worthOf := ⟨WT_of 564 (by decide +kernel) (by decide +kernel), WT_of 565 (by decide +kernel) (by decide +kernel), WT_of 566 (by decide +kernel) (by decide +kernel)⟩
theorem l_L_65 : kV RL 65 yX6_count := ⟨WT_of 568 (by decide +kernel) (by decide +kernel), WT_of 569 (by decide +kernel) (by decide +kernel), WT_of 570 (by decide +kernel) (by decide +kernel)⟩
theorem l_X6_197 : kV RX6 197 yX1_timesOfNow := ⟨WT_of 572 (by decide +kernel) (by decide +kernel), WT_of 297 (by decide +kernel) (by decide +kernel), WT_of 298 (by decide +kernel) (by decide +kernel)⟩
theorem l_L_69 : kV RL 69 yX6_rows := ⟨WT_of 573 (by decide +kernel) (by decide +kernel), WT_of 574 (by decide +kernel) (by decide +kernel), WT_of 575 (by decide +kernel) (by decide +kernel)⟩
theorem l_X6_209 : kS RX6 209 yX6_numberOfRows := ⟨WT_of 577 (by decide +kernel) (by decide +kernel), WT_of 578 (by decide +kernel) (by decide +kernel)⟩
theorem l_X6_253 : kS RX6 253 yJ9_min_7cf53 := ⟨WT_of 580 (by decide +kernel) (by decide +kernel), WT_of 305 (by decide +kernel) (by decide +kernel)⟩
theorem l_L_73 : kV RL 73 yX6_worth := ⟨WT_of 581 (by decide +kernel) (by decide +kernel), WT_of 582 (by decide +kernel) (by decide +kernel), WT_of 583 (by decide +kernel) (by decide +kernel)⟩
theorem l_X6_213 : kS RX6 213 yX6_worthBehind := ⟨WT_of 585 (by decide +kernel) (by decide +kernel), WT_of 586 (by decide +kernel) (by decide +kernel)⟩
theorem l_L_77 : kV RL 77 yX6_best := ⟨WT_of 588 (by decide +kernel) (by decide +kernel), WT_of 589 (by decide +kernel) (by decide +kernel), WT_of 590 (by decide +kernel) (by decide +kernel)⟩
theorem l_L_83 : kV RL 83 yX6_put := ⟨WT_of 592 (by decide +kernel) (by decide +kernel), WT_of 593 (by decide +kernel) (by decide +kernel), WT_of 594 (by decide +kernel) (by decide +kernel)⟩
theorem l_X6_223 : kS RX6 223 yX4_numberOfSigns := ⟨WT_of 596 (by decide +kernel) (by decide +kernel), WT_of 597 (by decide +kernel) (by decide +kernel)⟩
theorem k_X4_19 : Cond.constantLong RX4 19 255 ∈ WT := WT_of 599 (by decide +kernel) (by decide +kernel)
theorem k_X4_21 : Cond.constantLong RX4 21 33 ∈ WT := WT_of 600 (by decide +kernel) (by decide +kernel)
theorem k_X4_23 : Cond.constantLong RX4 23 126 ∈ WT := WT_of 601 (by decide +kernel) (by decide +kernel)
theorem l_X6_227 : kV RX6 227 yX4_append := ⟨WT_of 602 (by decide +kernel) (by decide +kernel), WT_of 603 (by decide +kernel) (by decide +kernel), WT_of 604 (by decide +kernel) (by decide +kernel)⟩
theorem l_L_88 : kV RL 88 yX6_wipe := ⟨WT_of 606 (by decide +kernel) (by decide +kernel), WT_of 607 (by decide +kernel) (by decide +kernel), WT_of 608 (by decide +kernel) (by decide +kernel)⟩
theorem l_L_92 : kV RL 92 yX6_fault := ⟨WT_of 610 (by decide +kernel) (by decide +kernel), WT_of 611 (by decide +kernel) (by decide +kernel), WT_of 612 (by decide +kernel) (by decide +kernel)⟩
theorem l_L_96 : kV RL 96 yX6_undo := ⟨WT_of 614 (by decide +kernel) (by decide +kernel), WT_of 615 (by decide +kernel) (by decide +kernel), WT_of 616 (by decide +kernel) (by decide +kernel)⟩
theorem l_X6_231 : kV RX6 231 yX2_takeBack := ⟨WT_of 618 (by decide +kernel) (by decide +kernel), WT_of 619 (by decide +kernel) (by decide +kernel), WT_of 620 (by decide +kernel) (by decide +kernel)⟩
theorem l_L_100 : kV RL 100 yX6_save := ⟨WT_of 622 (by decide +kernel) (by decide +kernel), WT_of 623 (by decide +kernel) (by decide +kernel), WT_of 624 (by decide +kernel) (by decide +kernel)⟩
theorem l_X6_234 : kV RX6 234 yX1_copyFrom := ⟨WT_of 626 (by decide +kernel) (by decide +kernel), WT_of 340 (by decide +kernel) (by decide +kernel), WT_of 341 (by decide +kernel) (by decide +kernel)⟩
theorem l_L_104 : kV RL 104 yX6_restore := ⟨WT_of 627 (by decide +kernel) (by decide +kernel), WT_of 628 (by decide +kernel) (by decide +kernel), WT_of 629 (by decide +kernel) (by decide +kernel)⟩
theorem cl_L_10 : Cond.classLink RL 10 RX7 ∈ WT := WT_of 631 (by decide +kernel) (by decide +kernel)
theorem n_L_10 : kN RL 10 7 20 [.null, .null, .null, .null, .int 0, .null, .int 0, .null, .null, .null, .null, .null, .null, .null, .null, .null, .null, .int 0, .int 0, .int 0] := ⟨(RX7, TX7, 20), tyX7, KX7, rfl, cl_L_10, WT_of 632 (by decide +kernel) (by decide +kernel), WT_of 64 (by decide +kernel) (by decide +kernel), by decide +kernel⟩
theorem l_L_12 : kI RL 12 yX7_init := ⟨WT_of 633 (by decide +kernel) (by decide +kernel), WT_of 634 (by decide +kernel) (by decide +kernel), rfl⟩
theorem l_X7_1 : Cond.methodLink RX7 1 objectInit ∈ WT := WT_of 636 (by decide +kernel) (by decide +kernel)
theorem l_X7_57 : kV RX7 57 yX7_start := ⟨WT_of 637 (by decide +kernel) (by decide +kernel), WT_of 639 (by decide +kernel) (by decide +kernel), WT_of 14 (by decide +kernel) (by decide +kernel)⟩
theorem l_X7_69 : kS RX7 69 yX7_rowOf := ⟨WT_of 641 (by decide +kernel) (by decide +kernel), WT_of 642 (by decide +kernel) (by decide +kernel)⟩
theorem l_X7_140 : kV RX7 140 yX7_beginHere := ⟨WT_of 644 (by decide +kernel) (by decide +kernel), WT_of 646 (by decide +kernel) (by decide +kernel), WT_of 15 (by decide +kernel) (by decide +kernel)⟩
theorem l_X7_131 : kV RX7 131 yX7_forgetPositions := ⟨WT_of 648 (by decide +kernel) (by decide +kernel), WT_of 650 (by decide +kernel) (by decide +kernel), WT_of 16 (by decide +kernel) (by decide +kernel)⟩
theorem l_X7_134 : kV RX7 134 yX7_writePosition := ⟨WT_of 652 (by decide +kernel) (by decide +kernel), WT_of 654 (by decide +kernel) (by decide +kernel), WT_of 17 (by decide +kernel) (by decide +kernel)⟩
theorem l_X7_121 : kV RX7 121 yX7_squaresOf := ⟨WT_of 656 (by decide +kernel) (by decide +kernel), WT_of 658 (by decide +kernel) (by decide +kernel), WT_of 18 (by decide +kernel) (by decide +kernel)⟩
theorem l_X7_137 : kV RX7 137 yX7_judge := ⟨WT_of 660 (by decide +kernel) (by decide +kernel), WT_of 662 (by decide +kernel) (by decide +kernel), WT_of 19 (by decide +kernel) (by decide +kernel)⟩
theorem l_X7_124 : kV RX7 124 yX7_look := ⟨WT_of 664 (by decide +kernel) (by decide +kernel), WT_of 666 (by decide +kernel) (by decide +kernel), WT_of 20 (by decide +kernel) (by decide +kernel)⟩
theorem l_X7_117 : kV RX7 117 yX7_listHops := ⟨WT_of 668 (by decide +kernel) (by decide +kernel), WT_of 670 (by decide +kernel) (by decide +kernel), WT_of 21 (by decide +kernel) (by decide +kernel)⟩
theorem l_X7_108 : kV RX7 108 yX7_listAllJumps := ⟨WT_of 672 (by decide +kernel) (by decide +kernel), WT_of 674 (by decide +kernel) (by decide +kernel), WT_of 22 (by decide +kernel) (by decide +kernel)⟩
theorem l_X7_79 : kV RX7 79 yX7_pieceAt := ⟨WT_of 676 (by decide +kernel) (by decide +kernel), WT_of 678 (by decide +kernel) (by decide +kernel), WT_of 23 (by decide +kernel) (by decide +kernel)⟩
theorem l_X7_87 : kS RX7 87 yX7_sideOf := ⟨WT_of 680 (by decide +kernel) (by decide +kernel), WT_of 681 (by decide +kernel) (by decide +kernel)⟩
theorem l_X7_101 : kV RX7 101 yX7_goesWay := ⟨WT_of 683 (by decide +kernel) (by decide +kernel), WT_of 685 (by decide +kernel) (by decide +kernel), WT_of 24 (by decide +kernel) (by decide +kernel)⟩
theorem l_X7_83 : kS RX7 83 yX7_isKing := ⟨WT_of 687 (by decide +kernel) (by decide +kernel), WT_of 688 (by decide +kernel) (by decide +kernel)⟩
theorem l_X7_104 : kV RX7 104 yX7_listJumps := ⟨WT_of 690 (by decide +kernel) (by decide +kernel), WT_of 692 (by decide +kernel) (by decide +kernel), WT_of 25 (by decide +kernel) (by decide +kernel)⟩
theorem l_X7_90 : kS RX7 90 yX7_next := ⟨WT_of 694 (by decide +kernel) (by decide +kernel), WT_of 695 (by decide +kernel) (by decide +kernel)⟩
theorem l_X7_65 : kS RX7 65 yX7_columnOf := ⟨WT_of 697 (by decide +kernel) (by decide +kernel), WT_of 698 (by decide +kernel) (by decide +kernel)⟩
theorem l_X7_93 : kV RX7 93 yX7_isEmpty := ⟨WT_of 700 (by decide +kernel) (by decide +kernel), WT_of 702 (by decide +kernel) (by decide +kernel), WT_of 26 (by decide +kernel) (by decide +kernel)⟩
theorem l_X7_97 : kV RX7 97 yX7_list := ⟨WT_of 704 (by decide +kernel) (by decide +kernel), WT_of 706 (by decide +kernel) (by decide +kernel), WT_of 27 (by decide +kernel) (by decide +kernel)⟩
theorem l_X7_111 : kV RX7 111 yX7_listMoves := ⟨WT_of 708 (by decide +kernel) (by decide +kernel), WT_of 710 (by decide +kernel) (by decide +kernel), WT_of 28 (by decide +kernel) (by decide +kernel)⟩
theorem l_X7_127 : kV RX7 127 yX7_timesCome := ⟨WT_of 712 (by decide +kernel) (by decide +kernel), WT_of 714 (by decide +kernel) (by decide +kernel), WT_of 29 (by decide +kernel) (by decide +kernel)⟩
theorem f_X7_7 : FL RX7 7 7 0 (.array .int) true := ⟨(RX7, TX7, 20), tyX7, KX7, by decide, WT_of 716 (by decide +kernel) (by decide +kernel), rfl, rfl, fun h => by first | rfl | cases h⟩
theorem f_X7_13 : FL RX7 13 7 1 (.array .int) true := ⟨(RX7, TX7, 20), tyX7, KX7, by decide, WT_of 717 (by decide +kernel) (by decide +kernel), rfl, rfl, fun h => by first | rfl | cases h⟩
theorem f_X7_16 : FL RX7 16 7 2 (.array .int) true := ⟨(RX7, TX7, 20), tyX7, KX7, by decide, WT_of 718 (by decide +kernel) (by decide +kernel), rfl, rfl, fun h => by first | rfl | cases h⟩
theorem f_X7_19 : FL RX7 19 7 3 (.array .boolean) true := ⟨(RX7, TX7, 20), tyX7, KX7, by decide, WT_of 719 (by decide +kernel) (by decide +kernel), rfl, rfl, fun h => by first | rfl | cases h⟩
theorem f_X7_72 : FL RX7 72 7 4 .int false := ⟨(RX7, TX7, 20), tyX7, KX7, by decide, WT_of 720 (by decide +kernel) (by decide +kernel), rfl, rfl, fun h => by first | rfl | cases h⟩
theorem f_X7_23 : FL RX7 23 7 5 (.array .char) true := ⟨(RX7, TX7, 20), tyX7, KX7, by decide, WT_of 721 (by decide +kernel) (by decide +kernel), rfl, rfl, fun h => by first | rfl | cases h⟩
theorem f_X7_174 : FL RX7 174 7 6 .int false := ⟨(RX7, TX7, 20), tyX7, KX7, by decide, WT_of 722 (by decide +kernel) (by decide +kernel), rfl, rfl, fun h => by first | rfl | cases h⟩
theorem f_X7_27 : FL RX7 27 7 7 (.array .int) true := ⟨(RX7, TX7, 20), tyX7, KX7, by decide, WT_of 723 (by decide +kernel) (by decide +kernel), rfl, rfl, fun h => by first | rfl | cases h⟩
theorem f_X7_30 : FL RX7 30 7 8 (.array .int) true := ⟨(RX7, TX7, 20), tyX7, KX7, by decide, WT_of 724 (by decide +kernel) (by decide +kernel), rfl, rfl, fun h => by first | rfl | cases h⟩
theorem f_X7_33 : FL RX7 33 7 9 (.array .int) true := ⟨(RX7, TX7, 20), tyX7, KX7, by decide, WT_of 725 (by decide +kernel) (by decide +kernel), rfl, rfl, fun h => by first | rfl | cases h⟩
theorem f_X7_36 : FL RX7 36 7 10 (.array .int) true := ⟨(RX7, TX7, 20), tyX7, KX7, by decide, WT_of 726 (by decide +kernel) (by decide +kernel), rfl, rfl, fun h => by first | rfl | cases h⟩
theorem f_X7_39 : FL RX7 39 7 11 (.array .int) true := ⟨(RX7, TX7, 20), tyX7, KX7, by decide, WT_of 727 (by decide +kernel) (by decide +kernel), rfl, rfl, fun h => by first | rfl | cases h⟩
theorem f_X7_42 : FL RX7 42 7 12 (.array .int) true := ⟨(RX7, TX7, 20), tyX7, KX7, by decide, WT_of 728 (by decide +kernel) (by decide +kernel), rfl, rfl, fun h => by first | rfl | cases h⟩
theorem f_X7_45 : FL RX7 45 7 13 (.array .int) true := ⟨(RX7, TX7, 20), tyX7, KX7, by decide, WT_of 729 (by decide +kernel) (by decide +kernel), rfl, rfl, fun h => by first | rfl | cases h⟩
theorem f_X7_48 : FL RX7 48 7 14 (.array .int) true := ⟨(RX7, TX7, 20), tyX7, KX7, by decide, WT_of 730 (by decide +kernel) (by decide +kernel), rfl, rfl, fun h => by first | rfl | cases h⟩
theorem f_X7_51 : FL RX7 51 7 15 (.array .int) true := ⟨(RX7, TX7, 20), tyX7, KX7, by decide, WT_of 731 (by decide +kernel) (by decide +kernel), rfl, rfl, fun h => by first | rfl | cases h⟩
theorem f_X7_54 : FL RX7 54 7 16 (.array .int) true := ⟨(RX7, TX7, 20), tyX7, KX7, by decide, WT_of 732 (by decide +kernel) (by decide +kernel), rfl, rfl, fun h => by first | rfl | cases h⟩
theorem f_X7_212 : FL RX7 212 7 17 .int false := ⟨(RX7, TX7, 20), tyX7, KX7, by decide, WT_of 733 (by decide +kernel) (by decide +kernel), rfl, rfl, fun h => by first | rfl | cases h⟩
theorem f_X7_200 : FL RX7 200 7 18 .int false := ⟨(RX7, TX7, 20), tyX7, KX7, by decide, WT_of 734 (by decide +kernel) (by decide +kernel), rfl, rfl, fun h => by first | rfl | cases h⟩
theorem f_X7_203 : FL RX7 203 7 19 .int false := ⟨(RX7, TX7, 20), tyX7, KX7, by decide, WT_of 735 (by decide +kernel) (by decide +kernel), rfl, rfl, fun h => by first | rfl | cases h⟩
theorem l_L_99 : kV RL 99 yX7_undo := ⟨WT_of 778 (by decide +kernel) (by decide +kernel), WT_of 779 (by decide +kernel) (by decide +kernel), WT_of 780 (by decide +kernel) (by decide +kernel)⟩
theorem l_L_103 : kV RL 103 yX7_save := ⟨WT_of 782 (by decide +kernel) (by decide +kernel), WT_of 783 (by decide +kernel) (by decide +kernel), WT_of 784 (by decide +kernel) (by decide +kernel)⟩
theorem l_X7_61 : kS RX7 61 yX7_in := ⟨WT_of 786 (by decide +kernel) (by decide +kernel), WT_of 787 (by decide +kernel) (by decide +kernel)⟩
theorem l_L_107 : kV RL 107 yX7_restore := ⟨WT_of 789 (by decide +kernel) (by decide +kernel), WT_of 790 (by decide +kernel) (by decide +kernel), WT_of 791 (by decide +kernel) (by decide +kernel)⟩
theorem l_X7_76 : kV RX7 76 yX7_record := ⟨WT_of 793 (by decide +kernel) (by decide +kernel), WT_of 795 (by decide +kernel) (by decide +kernel), WT_of 30 (by decide +kernel) (by decide +kernel)⟩
theorem l_L_17 : kV RL 17 yX7_clock := ⟨WT_of 797 (by decide +kernel) (by decide +kernel), WT_of 798 (by decide +kernel) (by decide +kernel), WT_of 799 (by decide +kernel) (by decide +kernel)⟩
theorem l_L_22 : kV RL 22 yX7_begin := ⟨WT_of 801 (by decide +kernel) (by decide +kernel), WT_of 802 (by decide +kernel) (by decide +kernel), WT_of 803 (by decide +kernel) (by decide +kernel)⟩
theorem l_X7_146 : kV RX7 146 yX7_all := ⟨WT_of 805 (by decide +kernel) (by decide +kernel), WT_of 807 (by decide +kernel) (by decide +kernel), WT_of 31 (by decide +kernel) (by decide +kernel)⟩
theorem l_X7_143 : kV RX7 143 yX7_pieces := ⟨WT_of 809 (by decide +kernel) (by decide +kernel), WT_of 811 (by decide +kernel) (by decide +kernel), WT_of 32 (by decide +kernel) (by decide +kernel)⟩
theorem l_L_27 : kV RL 27 yX7_set := ⟨WT_of 813 (by decide +kernel) (by decide +kernel), WT_of 814 (by decide +kernel) (by decide +kernel), WT_of 815 (by decide +kernel) (by decide +kernel)⟩
theorem l_X7_149 : kS RX7 149 yX7_isSquare := ⟨WT_of 817 (by decide +kernel) (by decide +kernel), WT_of 818 (by decide +kernel) (by decide +kernel)⟩
theorem l_L_31 : kV RL 31 yX7_turn := ⟨WT_of 820 (by decide +kernel) (by decide +kernel), WT_of 821 (by decide +kernel) (by decide +kernel), WT_of 822 (by decide +kernel) (by decide +kernel)⟩
theorem l_L_35 : kV RL 35 yX7_hop := ⟨WT_of 824 (by decide +kernel) (by decide +kernel), WT_of 825 (by decide +kernel) (by decide +kernel), WT_of 826 (by decide +kernel) (by decide +kernel)⟩
theorem l_X7_156 : kV RX7 156 yX7_makeIt := ⟨WT_of 828 (by decide +kernel) (by decide +kernel), WT_of 830 (by decide +kernel) (by decide +kernel), WT_of 33 (by decide +kernel) (by decide +kernel)⟩
theorem l_X7_152 : kV RX7 152 yX7_go := ⟨WT_of 832 (by decide +kernel) (by decide +kernel), WT_of 834 (by decide +kernel) (by decide +kernel), WT_of 34 (by decide +kernel) (by decide +kernel)⟩
theorem l_X7_114 : kV RX7 114 yX7_becomesKing := ⟨WT_of 836 (by decide +kernel) (by decide +kernel), WT_of 838 (by decide +kernel) (by decide +kernel), WT_of 35 (by decide +kernel) (by decide +kernel)⟩
theorem l_L_39 : kV RL 39 yX7_play := ⟨WT_of 840 (by decide +kernel) (by decide +kernel), WT_of 841 (by decide +kernel) (by decide +kernel), WT_of 842 (by decide +kernel) (by decide +kernel)⟩
theorem l_X7_159 : kV RX7 159 yX7_hopFrom := ⟨WT_of 844 (by decide +kernel) (by decide +kernel), WT_of 846 (by decide +kernel) (by decide +kernel), WT_of 36 (by decide +kernel) (by decide +kernel)⟩
theorem l_L_48 : kV RL 48 yX7_giveUp := ⟨WT_of 848 (by decide +kernel) (by decide +kernel), WT_of 849 (by decide +kernel) (by decide +kernel), WT_of 850 (by decide +kernel) (by decide +kernel)⟩
theorem l_L_52 : kV RL 52 yX7_square := ⟨WT_of 852 (by decide +kernel) (by decide +kernel), WT_of 853 (by decide +kernel) (by decide +kernel), WT_of 854 (by decide +kernel) (by decide +kernel)⟩
theorem l_X7_162 : kV RX7 162 yX7_isInDanger := ⟨WT_of 856 (by decide +kernel) (by decide +kernel), WT_of 858 (by decide +kernel) (by decide +kernel), WT_of 37 (by decide +kernel) (by decide +kernel)⟩
theorem l_X7_165 : kV RX7 165 yX7_hopsFrom := ⟨WT_of 860 (by decide +kernel) (by decide +kernel), WT_of 862 (by decide +kernel) (by decide +kernel), WT_of 38 (by decide +kernel) (by decide +kernel)⟩
theorem l_L_56 : kV RL 56 yX7_step := ⟨WT_of 864 (by decide +kernel) (by decide +kernel), WT_of 865 (by decide +kernel) (by decide +kernel), WT_of 866 (by decide +kernel) (by decide +kernel)⟩
theorem l_L_60 : kV RL 60 yX7_ofHop := ⟨WT_of 868 (by decide +kernel) (by decide +kernel), WT_of 869 (by decide +kernel) (by decide +kernel), WT_of 870 (by decide +kernel) (by decide +kernel)⟩
theorem l_X7_168 : kV RX7 168 yX7_goesOn := ⟨WT_of 872 (by decide +kernel) (by decide +kernel), WT_of 874 (by decide +kernel) (by decide +kernel), WT_of 39 (by decide +kernel) (by decide +kernel)⟩
theorem l_L_64 : kV RL 64 yX7_side := ⟨WT_of 876 (by decide +kernel) (by decide +kernel), WT_of 877 (by decide +kernel) (by decide +kernel), WT_of 878 (by decide +kernel) (by decide +kernel)⟩
theorem l_L_68 : kV RL 68 yX7_count := ⟨WT_of 880 (by decide +kernel) (by decide +kernel), WT_of 881 (by decide +kernel) (by decide +kernel), WT_of 882 (by decide +kernel) (by decide +kernel)⟩
theorem l_X7_171 : kV RX7 171 yX7_hopsNow := ⟨WT_of 884 (by decide +kernel) (by decide +kernel), WT_of 886 (by decide +kernel) (by decide +kernel), WT_of 40 (by decide +kernel) (by decide +kernel)⟩
theorem l_L_72 : kV RL 72 yX7_rows := ⟨WT_of 888 (by decide +kernel) (by decide +kernel), WT_of 889 (by decide +kernel) (by decide +kernel), WT_of 890 (by decide +kernel) (by decide +kernel)⟩
theorem l_X7_177 : kV RX7 177 yX7_rowsOfTwo := ⟨WT_of 892 (by decide +kernel) (by decide +kernel), WT_of 894 (by decide +kernel) (by decide +kernel), WT_of 41 (by decide +kernel) (by decide +kernel)⟩
theorem l_X7_180 : kV RX7 180 yX7_rowsOfThree := ⟨WT_of 896 (by decide +kernel) (by decide +kernel), WT_of 898 (by decide +kernel) (by decide +kernel), WT_of 42 (by decide +kernel) (by decide +kernel)⟩
theorem l_L_76 : kV RL 76 yX7_worth := ⟨WT_of 900 (by decide +kernel) (by decide +kernel), WT_of 901 (by decide +kernel) (by decide +kernel), WT_of 902 (by decide +kernel) (by decide +kernel)⟩
theorem l_X7_183 : kV RX7 183 yX7_worthNow := ⟨WT_of 904 (by decide +kernel) (by decide +kernel), WT_of 906 (by decide +kernel) (by decide +kernel), WT_of 43 (by decide +kernel) (by decide +kernel)⟩
theorem l_X7_192 : kV RX7 192 yX7_worthOfOne := ⟨WT_of 908 (by decide +kernel) (by decide +kernel), WT_of 910 (by decide +kernel) (by decide +kernel), WT_of 44 (by decide +kernel) (by decide +kernel)⟩
theorem l_X7_186 : kV RX7 186 yX7_worthLost := ⟨WT_of 912 (by decide +kernel) (by decide +kernel), WT_of 914 (by decide +kernel) (by decide +kernel), WT_of 45 (by decide +kernel) (by decide +kernel)⟩
theorem l_X7_189 : kV RX7 189 yX7_isBetter := ⟨WT_of 916 (by decide +kernel) (by decide +kernel), WT_of 918 (by decide +kernel) (by decide +kernel), WT_of 46 (by decide +kernel) (by decide +kernel)⟩
theorem l_X7_195 : kV RX7 195 yX7_worthOfTwo := ⟨WT_of 920 (by decide +kernel) (by decide +kernel), WT_of 922 (by decide +kernel) (by decide +kernel), WT_of 47 (by decide +kernel) (by decide +kernel)⟩
theorem l_L_80 : kV RL 80 yX7_best := ⟨WT_of 924 (by decide +kernel) (by decide +kernel), WT_of 925 (by decide +kernel) (by decide +kernel), WT_of 926 (by decide +kernel) (by decide +kernel)⟩
theorem l_L_87 : kV RL 87 yX7_put := ⟨WT_of 928 (by decide +kernel) (by decide +kernel), WT_of 929 (by decide +kernel) (by decide +kernel), WT_of 930 (by decide +kernel) (by decide +kernel)⟩
theorem k_X7_198 : Cond.constantLong RX7 198 255 ∈ WT := WT_of 932 (by decide +kernel) (by decide +kernel)
theorem l_L_91 : kV RL 91 yX7_wipe := ⟨WT_of 933 (by decide +kernel) (by decide +kernel), WT_of 934 (by decide +kernel) (by decide +kernel), WT_of 935 (by decide +kernel) (by decide +kernel)⟩
theorem l_L_95 : kV RL 95 yX7_fault := ⟨WT_of 937 (by decide +kernel) (by decide +kernel), WT_of 938 (by decide +kernel) (by decide +kernel), WT_of 939 (by decide +kernel) (by decide +kernel)⟩
theorem l_X7_221 : kV RX7 221 yX7_readPad := ⟨WT_of 941 (by decide +kernel) (by decide +kernel), WT_of 943 (by decide +kernel) (by decide +kernel), WT_of 48 (by decide +kernel) (by decide +kernel)⟩
theorem l_X7_218 : kV RX7 218 yX7_readHop := ⟨WT_of 945 (by decide +kernel) (by decide +kernel), WT_of 947 (by decide +kernel) (by decide +kernel), WT_of 49 (by decide +kernel) (by decide +kernel)⟩
theorem l_X7_215 : kV RX7 215 yX7_number := ⟨WT_of 949 (by decide +kernel) (by decide +kernel), WT_of 951 (by decide +kernel) (by decide +kernel), WT_of 50 (by decide +kernel) (by decide +kernel)⟩
theorem l_X7_206 : kV RX7 206 yX7_letter := ⟨WT_of 953 (by decide +kernel) (by decide +kernel), WT_of 955 (by decide +kernel) (by decide +kernel), WT_of 51 (by decide +kernel) (by decide +kernel)⟩
theorem l_X7_209 : kV RX7 209 yX7_wants := ⟨WT_of 957 (by decide +kernel) (by decide +kernel), WT_of 959 (by decide +kernel) (by decide +kernel), WT_of 52 (by decide +kernel) (by decide +kernel)⟩
theorem l_L_44 : kV RL 44 yX7_playAll := ⟨WT_of 961 (by decide +kernel) (by decide +kernel), WT_of 962 (by decide +kernel) (by decide +kernel), WT_of 963 (by decide +kernel) (by decide +kernel)⟩
theorem l_X7_224 : kV RX7 224 yX7_plays := ⟨WT_of 965 (by decide +kernel) (by decide +kernel), WT_of 967 (by decide +kernel) (by decide +kernel), WT_of 53 (by decide +kernel) (by decide +kernel)⟩
theorem k_L_81 : Cond.constantLong RL 81 4294967295 ∈ WT := WT_of 969 (by decide +kernel) (by decide +kernel)
theorem w_obj1 : Cond.instanceMethod objectInit ∈ WT := WT_of 72 (by decide +kernel) (by decide +kernel)
theorem w_obj2 : Cond.code objectInit ⟨#[0xb1]⟩ 1 none ∈ WT := WT_of 73 (by decide +kernel) (by decide +kernel)
theorem w_cp1 : Cond.native arraycopyName ∈ WT := WT_of 349 (by decide +kernel) (by decide +kernel)
theorem w_cp2 : Cond.static arraycopyName ∈ WT := WT_of 348 (by decide +kernel) (by decide +kernel)
theorem w_cp3 : Cond.initialized "java/lang/System" ∈ WT := WT_of 65 (by decide +kernel) (by decide +kernel)
theorem w_ar_int : Cond.arrayClass .int ∈ WT := WT_of 108 (by decide +kernel) (by decide +kernel)
theorem w_ar_long : Cond.arrayClass .long ∈ WT := WT_of 144 (by decide +kernel) (by decide +kernel)
theorem w_ar_char : Cond.arrayClass .char ∈ WT := WT_of 175 (by decide +kernel) (by decide +kernel)
theorem w_ar_boolean : Cond.arrayClass .boolean ∈ WT := WT_of 777 (by decide +kernel) (by decide +kernel)
end
section
/-! ===== words of the contracts ===== -/
theorem gs_ne {w : PW} {h j : Nat} {c c' : PC} (hne : h ≠ j) (hw : w[j]? = some c') : (w.set h c)[j]? = some c' := by rw [List.getElem?_set_ne hne]; exact hw
theorem gs_eq {w : PW} {h : Nat} {c : PC} (hw : (w[h]?).isSome = true) : (w.set h c)[h]? = some c := by
  obtain ⟨c0, hc⟩ := Option.isSome_iff_exists.mp hw
  have := (List.getElem?_eq_some_iff.mp hc).1
  rw [List.getElem?_set_self this]
theorem gs_is {w : PW} {h j : Nat} {c : PC} (hw : (w[j]?).isSome = true) : ((w.set h c)[j]?).isSome = true := by
  by_cases e : h = j
  · subst e
    rw [gs_eq hw]
    rfl
  · rw [List.getElem?_set_ne e]
    exact hw
theorem is_of {w : PW} {h : Nat} {c : PC} (hw : w[h]? = some c) : (w[h]?).isSome = true := by rw [hw]; rfl
def rI (v : Int32) (w : PW) : Option Value → PW → Prop := fun r w1 => r = some (.int v) ∧ w1 = w
def rJ (v : Int64) (w : PW) : Option Value → PW → Prop := fun r w1 => r = some (.long v) ∧ w1 = w
def rR (h : Nat) (w : PW) : Option Value → PW → Prop := fun r w1 => r = some (.ref h) ∧ w1 = w
def rV (w : PW) : Option Value → PW → Prop := fun r w1 => r = none ∧ w1 = w
def bI (b : Bool) : Int32 := if b then 1 else 0
theorem bI01 (b : Bool) : bI b = 0 ∨ bI b = 1 := by cases b <;> simp [bI]
theorem bI_t {b : Bool} : bI b = 1 ↔ b = true := by cases b <;> simp [bI]
theorem bI_0 {b : Bool} : bI b = 0 ↔ b = false := by cases b <;> simp [bI]
section CONT
variable {Γ : CT} {X : MX} {R : Room} {sc : Option (Nat × (Nat → Int32))} {FZ : FX} {kc ks : Nat} {w w1 : PW} {pc : Nat} {ls : List (Option Value)} {st stk : List Value}
theorem qI {v : Int32} (k : Rn Γ X R sc FZ kc ks w1 pc ls (.int v :: st)) : ∀ r w2, rI v w1 r w2 → Rn Γ X R sc FZ kc ks w2 pc ls (r.toList ++ st) := by
  rintro _ _ ⟨rfl, rfl⟩
  exact k
theorem qJ {v : Int64} (k : Rn Γ X R sc FZ kc ks w1 pc ls (.long v :: st)) : ∀ r w2, rJ v w1 r w2 → Rn Γ X R sc FZ kc ks w2 pc ls (r.toList ++ st) := by
  rintro _ _ ⟨rfl, rfl⟩
  exact k
theorem qR {v : Nat} (k : Rn Γ X R sc FZ kc ks w1 pc ls (.ref v :: st)) : ∀ r w2, rR v w1 r w2 → Rn Γ X R sc FZ kc ks w2 pc ls (r.toList ++ st) := by
  rintro _ _ ⟨rfl, rfl⟩
  exact k
theorem qV (k : Rn Γ X R sc FZ kc ks w1 pc ls st) : ∀ r w2, rV w1 r w2 → Rn Γ X R sc FZ kc ks w2 pc ls (r.toList ++ st) := by
  rintro _ _ ⟨rfl, rfl⟩
  exact k
theorem r_callS0 {idx d : Nat} {y : MethodName} {Xc : MX} {As : List Value} {Q1 : Option Value → PW → Prop} (pc' : Nat) (hd : decode X.2.1 pc = .ok (.invokestatic idx, 3)) (hp : pc + 3 = pc') (hC : Cl Γ y Xc d 0 0 As w Q1) (hk : kS X.1 idx y) (hm : kM y Xc As.length) (hs : As.reverse ++ st = stk) (hroom : d < R.frames ∧ 19 + Xc.2.2.1 + 40 * d ≤ R.locals) (hst : stw st ≤ 8) (hcs : kc ≤ R.cells ∧ ks ≤ R.slots) (kk : ∀ (r : Option Value) (w1 : PW), Q1 r w1 → Rn Γ X R sc FZ kc ks w1 pc' ls (r.toList ++ st)) : Rn Γ X R sc FZ kc ks w pc ls stk := r_callS pc' hd hp hC hk hm hs hroom hst hcs kk
theorem r_callSN0 {idx d : Nat} {y : MethodName} {Xc : MX} {As : List Value} {Q1 : Option Value → PW → Prop} (pc' : Nat) (hd : decode X.2.1 pc = .ok (.invokestatic idx, 3)) (hp : pc + 3 = pc') (hC : Cl Γ y Xc d 0 0 As w Q1) (hk : kSN X.1 idx y) (hm : kM y Xc As.length) (hs : As.reverse ++ st = stk) (hroom : d < R.frames ∧ 19 + Xc.2.2.1 + 40 * d ≤ R.locals) (hst : stw st ≤ 8) (hcs : kc ≤ R.cells ∧ ks ≤ R.slots) (kk : ∀ (r : Option Value) (w1 : PW), Q1 r w1 → Rn Γ X R sc FZ kc ks w1 pc' ls (r.toList ++ st)) : Rn Γ X R sc FZ kc ks w pc ls stk := r_callSN pc' hd hp hC hk hm hs hroom hst hcs kk
theorem r_callV0 {h ci : Nat} {fs : List Value} {idx d : Nat} {y : MethodName} {Xc : MX} {As : List Value} {Q1 : Option Value → PW → Prop} (pc' : Nat) (hd : decode X.2.1 pc = .ok (.invokevirtual idx, 3)) (hp : pc + 3 = pc') (hC : Cl Γ y Xc d 0 0 (.ref h :: As) w Q1) (hk : kV X.1 idx y) (hm : kM y Xc As.length) (hs : As.reverse ++ .ref h :: st = stk) (hw : w[h]? = some (oB ci fs)) (hcl : (vwCl[ci]?).map (fun q => q.1) = some y.cls) (hroom : d < R.frames ∧ 19 + Xc.2.2.1 + 40 * d ≤ R.locals) (hst : stw st ≤ 8) (hcs : kc ≤ R.cells ∧ ks ≤ R.slots) (kk : ∀ (r : Option Value) (w1 : PW), Q1 r w1 → Rn Γ X R sc FZ kc ks w1 pc' ls (r.toList ++ st)) : Rn Γ X R sc FZ kc ks w pc ls stk := r_callV pc' hd hp hC hk hm hs hw hcl hroom hst hcs kk
end CONT
section CONT2
variable {Γ : CT} {X : MX} {R : Room} {sc : Option (Nat × (Nat → Int32))} {FZ : FX} {kc ks : Nat} {w w1 : PW} {pc : Nat} {ls : List (Option Value)} {st stk : List Value}
def rN (P : PW → Prop) : Option Value → PW → Prop := fun r w1 => r = none ∧ P w1
def rP (v : Int32) (P : PW → Prop) : Option Value → PW → Prop := fun r w1 => r = some (.int v) ∧ P w1
def rRP (v : Nat) (P : PW → Prop) : Option Value → PW → Prop := fun r w1 => r = some (.ref v) ∧ P w1
theorem qN {P : PW → Prop} (k : ∀ w2, P w2 → Rn Γ X R sc FZ kc ks w2 pc ls st) : ∀ r w2, rN P r w2 → Rn Γ X R sc FZ kc ks w2 pc ls (r.toList ++ st) := by
  rintro _ w2 ⟨rfl, h⟩
  exact k w2 h
theorem qP {v : Int32} {P : PW → Prop} (k : ∀ w2, P w2 → Rn Γ X R sc FZ kc ks w2 pc ls (.int v :: st)) : ∀ r w2, rP v P r w2 → Rn Γ X R sc FZ kc ks w2 pc ls (r.toList ++ st) := by
  rintro _ w2 ⟨rfl, h⟩
  exact k w2 h
theorem qRP {v : Nat} {P : PW → Prop} (k : ∀ w2, P w2 → Rn Γ X R sc FZ kc ks w2 pc ls (.ref v :: st)) : ∀ r w2, rRP v P r w2 → Rn Γ X R sc FZ kc ks w2 pc ls (r.toList ++ st) := by
  rintro _ w2 ⟨rfl, h⟩
  exact k w2 h
theorem HX.sw {h : Nat} {c0 c : PC} {s : State} {H : Heap} {locs : List Loc} (hw : w[h]? = some c0) (hH : HX Γ w s H locs) (he : va_at Γ.2.1 vwCl (Γ.1.1 + h, tE Γ c) H) : HX Γ (w.set h c) s H locs :=
  ⟨⟨tW_set ▸ hH.1.1.set (tW_D Γ w) (tW_get hw) he (fun _ _ => rfl), by rw [hH.1.2, List.length_set]⟩, hH.2.1, hH.2.2⟩
/-- only the places below its length matter of an array -/
theorem r_swI {h n : Nat} {f g : Nat → Int32} (hw : w[h]? = some (aI n f)) (he : ∀ k, k < n → f k = g k) (k : Rn Γ X R sc FZ kc ks (w.set h (aI n g)) pc ls st) : Rn Γ X R sc FZ kc ks w pc ls st := by
  intro p l e s m args below meth c C S H locs arr hH hL
  refine k p l e s m args below meth c C S H locs arr (hH.sw hw ?_) hL
  refine (hH.1.1 h _ (tW_get hw) : H[_]? = some (arrV (Γ.2.2 0) n (fun j => .int (f j)))).trans ?_
  exact congrArg some (arrV_ext fun k hk => congrArg Value.int (he k hk))
theorem r_swL {h n : Nat} {f g : Nat → Int64} (hw : w[h]? = some (aL n f)) (he : ∀ k, k < n → f k = g k) (k : Rn Γ X R sc FZ kc ks (w.set h (aL n g)) pc ls st) : Rn Γ X R sc FZ kc ks w pc ls st := by
  intro p l e s m args below meth c C S H locs arr hH hL
  refine k p l e s m args below meth c C S H locs arr (hH.sw hw ?_) hL
  refine (hH.1.1 h _ (tW_get hw) : H[_]? = some (arrV (Γ.2.2 3) n (fun j => .long (f j)))).trans ?_
  exact congrArg some (arrV_ext fun k hk => congrArg Value.long (he k hk))
end CONT2
theorem ix_of {x : Int32} {n : Nat} (h0 : ¬ x < 0) (h1 : ¬ nI n ≤ x) (hn : n < 2147483648) : ∃ j : Nat, j < n ∧ x = nI j := by
  rcases pk_ix x hn with h | h | h
  · exact absurd h h0
  · exact absurd h h1
  · exact h
end
section
/-! ===== the small functions of squares, pieces, sides ===== -/
theorem bI_of {P : Prop} [Decidable P] (h : P) : bI (decide P) = 1 := by simp [bI, h]
theorem bI_no {P : Prop} [Decidable P] (h : ¬ P) : bI (decide P) = 0 := by simp [bI, h]
def sdO (p : Int32) : Int32 := if p = 0 ∨ p = 1 then 0 else if p = 2 ∨ p = 3 then 1 else -6
def isKg (p : Int32) : Bool := decide (p = 1 ∨ p = 3)
def mayG (p : Int32) (way : Int32) : Bool := if p = 0 then decide (way < 2) else if p = 2 then decide (2 ≤ way) else decide (p ≠ -6)
def inI (v lo hi : Int32) : Bool := decide (lo ≤ v ∧ v ≤ hi)
def fmO (a b : Int32) : Int32 := if 0 ≤ (a ^^^ b) then a - a / b * b else if a - a / b * b = 0 then a - a / b * b else a - a / b * b + b
theorem i_nlt {a b : Int32} : ¬ a < b ↔ b ≤ a := Int32.not_lt
theorem i_nle {a b : Int32} : ¬ a ≤ b ↔ b < a := Int32.not_le
theorem i_lt48 {s : Int32} : s < 48 ↔ s ≤ 47 := by
  rw [Int32.lt_iff_toInt_lt, Int32.le_iff_toInt_le]
  show s.toInt < 48 ↔ s.toInt ≤ 47
  omega
theorem i_lt4 {s : Int32} : s < 4 ↔ s ≤ 3 := by
  rw [Int32.lt_iff_toInt_lt, Int32.le_iff_toInt_le]
  show s.toInt < 4 ↔ s.toInt ≤ 3
  omega
set_option maxRecDepth 100000 in
theorem tX6_isSquare {Γ : CT} {s : Int32} {w : PW}  : Cl Γ yX6_isSquare XX6_isSquare 0 0 0 [.int s] w (rI (bI (inI s 0 47)) w) := by
  refine Cl.of (ls := [some (.int s)]) rfl (by decide +kernel) (fun h => by cases h) (Nat.le_of_ble_eq_true rfl) rfl ?_
  refine r_iload_n 1 dX6_isSquare_0 rfl rfl ?_
  refine r_if_lt 14 4 dX6_isSquare_1 (by decide) rfl (fun q1 => ?_) (fun q1 => ?_)
  · refine r_iconst (v := 0) 15 dX6_isSquare_14 rfl (by decide) ?_
    refine r_bret dX6_isSquare_15 rfl (by first | exact Or.inl rfl | exact Or.inr rfl) (by decide) (by decide) ?_
    first | exact ⟨congrArg (fun z => some (Value.int z)) (bI_of (by simp only [Int32.lt_iff_toInt_lt, Int32.le_iff_toInt_le, ← Int32.toInt_inj] at *; simp at *; omega)).symm, rfl⟩ | exact ⟨congrArg (fun z => some (Value.int z)) (bI_no (by simp only [Int32.lt_iff_toInt_lt, Int32.le_iff_toInt_le, ← Int32.toInt_inj] at *; simp at *; omega)).symm, rfl⟩
  · refine r_iload_n 5 dX6_isSquare_4 rfl rfl ?_
    refine r_bipush (v := 48) 7 dX6_isSquare_5 rfl (by decide) ?_
    refine r_icmp_ge 14 10 dX6_isSquare_7 (by decide) rfl (fun q7 => ?_) (fun q7 => ?_)
    · refine r_iconst (v := 0) 15 dX6_isSquare_14 rfl (by decide) ?_
      refine r_bret dX6_isSquare_15 rfl (by first | exact Or.inl rfl | exact Or.inr rfl) (by decide) (by decide) ?_
      first | exact ⟨congrArg (fun z => some (Value.int z)) (bI_of (by simp only [Int32.lt_iff_toInt_lt, Int32.le_iff_toInt_le, ← Int32.toInt_inj] at *; simp at *; omega)).symm, rfl⟩ | exact ⟨congrArg (fun z => some (Value.int z)) (bI_no (by simp only [Int32.lt_iff_toInt_lt, Int32.le_iff_toInt_le, ← Int32.toInt_inj] at *; simp at *; omega)).symm, rfl⟩
    · refine r_iconst (v := 1) 11 dX6_isSquare_10 rfl (by decide) ?_
      refine r_goto 15 dX6_isSquare_11 (by decide) ?_
      refine r_bret dX6_isSquare_15 rfl (by first | exact Or.inl rfl | exact Or.inr rfl) (by decide) (by decide) ?_
      first | exact ⟨congrArg (fun z => some (Value.int z)) (bI_of (by simp only [Int32.lt_iff_toInt_lt, Int32.le_iff_toInt_le, ← Int32.toInt_inj] at *; simp at *; omega)).symm, rfl⟩ | exact ⟨congrArg (fun z => some (Value.int z)) (bI_no (by simp only [Int32.lt_iff_toInt_lt, Int32.le_iff_toInt_le, ← Int32.toInt_inj] at *; simp at *; omega)).symm, rfl⟩

set_option maxRecDepth 100000 in
theorem tX6_isPiece {Γ : CT} {s : Int32} {w : PW}  : Cl Γ yX6_isPiece XX6_isPiece 0 0 0 [.int s] w (rI (bI (inI s 0 3)) w) := by
  refine Cl.of (ls := [some (.int s)]) rfl (by decide +kernel) (fun h => by cases h) (Nat.le_of_ble_eq_true rfl) rfl ?_
  refine r_iload_n 1 dX6_isPiece_0 rfl rfl ?_
  refine r_if_lt 13 4 dX6_isPiece_1 (by decide) rfl (fun q1 => ?_) (fun q1 => ?_)
  · refine r_iconst (v := 0) 14 dX6_isPiece_13 rfl (by decide) ?_
    refine r_bret dX6_isPiece_14 rfl (by first | exact Or.inl rfl | exact Or.inr rfl) (by decide) (by decide) ?_
    first | exact ⟨congrArg (fun z => some (Value.int z)) (bI_of (by simp only [Int32.lt_iff_toInt_lt, Int32.le_iff_toInt_le, ← Int32.toInt_inj] at *; simp at *; omega)).symm, rfl⟩ | exact ⟨congrArg (fun z => some (Value.int z)) (bI_no (by simp only [Int32.lt_iff_toInt_lt, Int32.le_iff_toInt_le, ← Int32.toInt_inj] at *; simp at *; omega)).symm, rfl⟩
  · refine r_iload_n 5 dX6_isPiece_4 rfl rfl ?_
    refine r_iconst (v := 4) 6 dX6_isPiece_5 rfl (by decide) ?_
    refine r_icmp_ge 13 9 dX6_isPiece_6 (by decide) rfl (fun q6 => ?_) (fun q6 => ?_)
    · refine r_iconst (v := 0) 14 dX6_isPiece_13 rfl (by decide) ?_
      refine r_bret dX6_isPiece_14 rfl (by first | exact Or.inl rfl | exact Or.inr rfl) (by decide) (by decide) ?_
      first | exact ⟨congrArg (fun z => some (Value.int z)) (bI_of (by simp only [Int32.lt_iff_toInt_lt, Int32.le_iff_toInt_le, ← Int32.toInt_inj] at *; simp at *; omega)).symm, rfl⟩ | exact ⟨congrArg (fun z => some (Value.int z)) (bI_no (by simp only [Int32.lt_iff_toInt_lt, Int32.le_iff_toInt_le, ← Int32.toInt_inj] at *; simp at *; omega)).symm, rfl⟩
    · refine r_iconst (v := 1) 10 dX6_isPiece_9 rfl (by decide) ?_
      refine r_goto 14 dX6_isPiece_10 (by decide) ?_
      refine r_bret dX6_isPiece_14 rfl (by first | exact Or.inl rfl | exact Or.inr rfl) (by decide) (by decide) ?_
      first | exact ⟨congrArg (fun z => some (Value.int z)) (bI_of (by simp only [Int32.lt_iff_toInt_lt, Int32.le_iff_toInt_le, ← Int32.toInt_inj] at *; simp at *; omega)).symm, rfl⟩ | exact ⟨congrArg (fun z => some (Value.int z)) (bI_no (by simp only [Int32.lt_iff_toInt_lt, Int32.le_iff_toInt_le, ← Int32.toInt_inj] at *; simp at *; omega)).symm, rfl⟩

set_option maxRecDepth 100000 in
theorem tX6_isSide {Γ : CT} {s : Int32} {w : PW}  : Cl Γ yX6_isSide XX6_isSide 0 0 0 [.int s] w (rI (bI (decide (s = 0 ∨ s = 1))) w) := by
  refine Cl.of (ls := [some (.int s)]) rfl (by decide +kernel) (fun h => by cases h) (Nat.le_of_ble_eq_true rfl) rfl ?_
  refine r_iload_n 1 dX6_isSide_0 rfl rfl ?_
  refine r_if_eq 9 4 dX6_isSide_1 (by decide) rfl (fun q1 => ?_) (fun q1 => ?_)
  · refine r_iconst (v := 1) 10 dX6_isSide_9 rfl (by decide) ?_
    refine r_goto 14 dX6_isSide_10 (by decide) ?_
    refine r_bret dX6_isSide_14 rfl (by first | exact Or.inl rfl | exact Or.inr rfl) (by decide) (by decide) ?_
    exact ⟨by simp_all [inI, bI, i_nlt, i_nle], rfl⟩
  · refine r_iload_n 5 dX6_isSide_4 rfl rfl ?_
    refine r_iconst (v := 1) 6 dX6_isSide_5 rfl (by decide) ?_
    refine r_icmp_ne 13 9 dX6_isSide_6 (by decide) rfl (fun q6 => ?_) (fun q6 => ?_)
    · refine r_iconst (v := 0) 14 dX6_isSide_13 rfl (by decide) ?_
      refine r_bret dX6_isSide_14 rfl (by first | exact Or.inl rfl | exact Or.inr rfl) (by decide) (by decide) ?_
      exact ⟨by simp_all [inI, bI, i_nlt, i_nle], rfl⟩
    · refine r_iconst (v := 1) 10 dX6_isSide_9 rfl (by decide) ?_
      refine r_goto 14 dX6_isSide_10 (by decide) ?_
      refine r_bret dX6_isSide_14 rfl (by first | exact Or.inl rfl | exact Or.inr rfl) (by decide) (by decide) ?_
      exact ⟨by simp_all [inI, bI, i_nlt, i_nle], rfl⟩

set_option maxRecDepth 100000 in
theorem tX6_isKing {Γ : CT} {s : Int32} {w : PW}  : Cl Γ yX6_isKing XX6_isKing 0 0 0 [.int s] w (rI (bI (isKg s)) w) := by
  refine Cl.of (ls := [some (.int s)]) rfl (by decide +kernel) (fun h => by cases h) (Nat.le_of_ble_eq_true rfl) rfl ?_
  refine r_iload_n 1 dX6_isKing_0 rfl rfl ?_
  refine r_iconst (v := 1) 2 dX6_isKing_1 rfl (by decide) ?_
  refine r_icmp_eq 10 5 dX6_isKing_2 (by decide) rfl (fun q2 => ?_) (fun q2 => ?_)
  · refine r_iconst (v := 1) 11 dX6_isKing_10 rfl (by decide) ?_
    refine r_goto 15 dX6_isKing_11 (by decide) ?_
    refine r_bret dX6_isKing_15 rfl (by first | exact Or.inl rfl | exact Or.inr rfl) (by decide) (by decide) ?_
    exact ⟨by simp_all [isKg, bI, i_nlt, i_nle], rfl⟩
  · refine r_iload_n 6 dX6_isKing_5 rfl rfl ?_
    refine r_iconst (v := 3) 7 dX6_isKing_6 rfl (by decide) ?_
    refine r_icmp_ne 14 10 dX6_isKing_7 (by decide) rfl (fun q7 => ?_) (fun q7 => ?_)
    · refine r_iconst (v := 0) 15 dX6_isKing_14 rfl (by decide) ?_
      refine r_bret dX6_isKing_15 rfl (by first | exact Or.inl rfl | exact Or.inr rfl) (by decide) (by decide) ?_
      exact ⟨by simp_all [isKg, bI, i_nlt, i_nle], rfl⟩
    · refine r_iconst (v := 1) 11 dX6_isKing_10 rfl (by decide) ?_
      refine r_goto 15 dX6_isKing_11 (by decide) ?_
      refine r_bret dX6_isKing_15 rfl (by first | exact Or.inl rfl | exact Or.inr rfl) (by decide) (by decide) ?_
      exact ⟨by simp_all [isKg, bI, i_nlt, i_nle], rfl⟩

set_option maxRecDepth 100000 in
theorem tX6_sideOf {Γ : CT} {s : Int32} {w : PW}  : Cl Γ yX6_sideOf XX6_sideOf 0 0 0 [.int s] w (rI (sdO s) w) := by
  refine Cl.of (ls := [some (.int s)]) rfl (by decide +kernel) (fun h => by cases h) (Nat.le_of_ble_eq_true rfl) rfl ?_
  refine r_iload_n 1 dX6_sideOf_0 rfl rfl ?_
  refine r_if_eq 9 4 dX6_sideOf_1 (by decide) rfl (fun q1 => ?_) (fun q1 => ?_)
  · refine r_iconst (v := 0) 10 dX6_sideOf_9 rfl (by decide) ?_
    refine r_iret dX6_sideOf_10 rfl (by decide) (by decide) ?_
    exact ⟨by simp_all [sdO, bI, i_nlt, i_nle], rfl⟩
  · refine r_iload_n 5 dX6_sideOf_4 rfl rfl ?_
    refine r_iconst (v := 1) 6 dX6_sideOf_5 rfl (by decide) ?_
    refine r_icmp_ne 11 9 dX6_sideOf_6 (by decide) rfl (fun q6 => ?_) (fun q6 => ?_)
    · refine r_iload_n 12 dX6_sideOf_11 rfl rfl ?_
      refine r_iconst (v := 2) 13 dX6_sideOf_12 rfl (by decide) ?_
      refine r_icmp_eq 21 16 dX6_sideOf_13 (by decide) rfl (fun q13 => ?_) (fun q13 => ?_)
      · refine r_iconst (v := 1) 22 dX6_sideOf_21 rfl (by decide) ?_
        refine r_goto 27 dX6_sideOf_22 (by decide) ?_
        refine r_iret dX6_sideOf_27 rfl (by decide) (by decide) ?_
        exact ⟨by simp_all [sdO, bI, i_nlt, i_nle], rfl⟩
      · refine r_iload_n 17 dX6_sideOf_16 rfl rfl ?_
        refine r_iconst (v := 3) 18 dX6_sideOf_17 rfl (by decide) ?_
        refine r_icmp_ne 25 21 dX6_sideOf_18 (by decide) rfl (fun q18 => ?_) (fun q18 => ?_)
        · refine r_bipush (v := (-6)) 27 dX6_sideOf_25 rfl (by decide) ?_
          refine r_iret dX6_sideOf_27 rfl (by decide) (by decide) ?_
          exact ⟨by simp_all [sdO, bI, i_nlt, i_nle], rfl⟩
        · refine r_iconst (v := 1) 22 dX6_sideOf_21 rfl (by decide) ?_
          refine r_goto 27 dX6_sideOf_22 (by decide) ?_
          refine r_iret dX6_sideOf_27 rfl (by decide) (by decide) ?_
          exact ⟨by simp_all [sdO, bI, i_nlt, i_nle], rfl⟩
    · refine r_iconst (v := 0) 10 dX6_sideOf_9 rfl (by decide) ?_
      refine r_iret dX6_sideOf_10 rfl (by decide) (by decide) ?_
      exact ⟨by simp_all [sdO, bI, i_nlt, i_nle], rfl⟩

set_option maxRecDepth 100000 in
theorem tX6_kingOf {Γ : CT} {s : Int32} {w : PW}  : Cl Γ yX6_kingOf XX6_kingOf 0 0 0 [.int s] w (rI (if s = 0 then 1 else 3) w) := by
  refine Cl.of (ls := [some (.int s)]) rfl (by decide +kernel) (fun h => by cases h) (Nat.le_of_ble_eq_true rfl) rfl ?_
  refine r_iload_n 1 dX6_kingOf_0 rfl rfl ?_
  refine r_if_ne 8 4 dX6_kingOf_1 (by decide) rfl (fun q1 => ?_) (fun q1 => ?_)
  · refine r_iconst (v := 3) 9 dX6_kingOf_8 rfl (by decide) ?_
    refine r_iret dX6_kingOf_9 rfl (by decide) (by decide) ?_
    exact ⟨by simp_all [sdO, bI, i_nlt, i_nle], rfl⟩
  · refine r_iconst (v := 1) 5 dX6_kingOf_4 rfl (by decide) ?_
    refine r_goto 9 dX6_kingOf_5 (by decide) ?_
    refine r_iret dX6_kingOf_9 rfl (by decide) (by decide) ?_
    exact ⟨by simp_all [sdO, bI, i_nlt, i_nle], rfl⟩

set_option maxRecDepth 100000 in
theorem tX6_wonBy {Γ : CT} {s : Int32} {w : PW}  : Cl Γ yX6_wonBy XX6_wonBy 0 0 0 [.int s] w (rI (if s = 0 then 1 else 2) w) := by
  refine Cl.of (ls := [some (.int s)]) rfl (by decide +kernel) (fun h => by cases h) (Nat.le_of_ble_eq_true rfl) rfl ?_
  refine r_iload_n 1 dX6_wonBy_0 rfl rfl ?_
  refine r_if_ne 8 4 dX6_wonBy_1 (by decide) rfl (fun q1 => ?_) (fun q1 => ?_)
  · refine r_iconst (v := 2) 9 dX6_wonBy_8 rfl (by decide) ?_
    refine r_iret dX6_wonBy_9 rfl (by decide) (by decide) ?_
    exact ⟨by simp_all [sdO, bI, i_nlt, i_nle], rfl⟩
  · refine r_iconst (v := 1) 5 dX6_wonBy_4 rfl (by decide) ?_
    refine r_goto 9 dX6_wonBy_5 (by decide) ?_
    refine r_iret dX6_wonBy_9 rfl (by decide) (by decide) ?_
    exact ⟨by simp_all [sdO, bI, i_nlt, i_nle], rfl⟩

set_option maxRecDepth 100000 in
theorem tX6_oneIf {Γ : CT} {s : Int32} {w : PW}  : Cl Γ yX6_oneIf XX6_oneIf 0 0 0 [.int s] w (rI (if s = 0 then 0 else 1) w) := by
  refine Cl.of (ls := [some (.int s)]) rfl (by decide +kernel) (fun h => by cases h) (Nat.le_of_ble_eq_true rfl) rfl ?_
  refine r_iload_n 1 dX6_oneIf_0 rfl rfl ?_
  refine r_if_eq 8 4 dX6_oneIf_1 (by decide) rfl (fun q1 => ?_) (fun q1 => ?_)
  · refine r_iconst (v := 0) 9 dX6_oneIf_8 rfl (by decide) ?_
    refine r_iret dX6_oneIf_9 rfl (by decide) (by decide) ?_
    exact ⟨by simp_all [sdO, bI, i_nlt, i_nle], rfl⟩
  · refine r_iconst (v := 1) 5 dX6_oneIf_4 rfl (by decide) ?_
    refine r_goto 9 dX6_oneIf_5 (by decide) ?_
    refine r_iret dX6_oneIf_9 rfl (by decide) (by decide) ?_
    exact ⟨by simp_all [sdO, bI, i_nlt, i_nle], rfl⟩

set_option maxRecDepth 100000 in
theorem tX6_mayGo {Γ : CT} {s : Int32} {t : Int32} {w : PW}  : Cl Γ yX6_mayGo XX6_mayGo 0 0 0 [.int s, .int t] w (rI (bI (mayG s t)) w) := by
  refine Cl.of (ls := [some (.int s), some (.int t)]) rfl (by decide +kernel) (fun h => by cases h) (Nat.le_of_ble_eq_true rfl) rfl ?_
  refine r_iload_n 1 dX6_mayGo_0 rfl rfl ?_
  refine r_if_ne 15 4 dX6_mayGo_1 (by decide) rfl (fun q1 => ?_) (fun q1 => ?_)
  · refine r_iload_n 16 dX6_mayGo_15 rfl rfl ?_
    refine r_iconst (v := 2) 17 dX6_mayGo_16 rfl (by decide) ?_
    refine r_icmp_ne 33 20 dX6_mayGo_17 (by decide) rfl (fun q17 => ?_) (fun q17 => ?_)
    · refine r_iload_n 34 dX6_mayGo_33 rfl rfl ?_
      refine r_bipush (v := (-6)) 36 dX6_mayGo_34 rfl (by decide) ?_
      refine r_icmp_eq 43 39 dX6_mayGo_36 (by decide) rfl (fun q36 => ?_) (fun q36 => ?_)
      · refine r_iconst (v := 0) 44 dX6_mayGo_43 rfl (by decide) ?_
        refine r_bret dX6_mayGo_44 rfl (by first | exact Or.inl rfl | exact Or.inr rfl) (by decide) (by decide) ?_
        exact ⟨by simp_all [mayG, bI, i_nlt, i_nle], rfl⟩
      · refine r_iconst (v := 1) 40 dX6_mayGo_39 rfl (by decide) ?_
        refine r_goto 44 dX6_mayGo_40 (by decide) ?_
        refine r_bret dX6_mayGo_44 rfl (by first | exact Or.inl rfl | exact Or.inr rfl) (by decide) (by decide) ?_
        exact ⟨by simp_all [mayG, bI, i_nlt, i_nle], rfl⟩
    · refine r_iload_n 21 dX6_mayGo_20 rfl rfl ?_
      refine r_iconst (v := 2) 22 dX6_mayGo_21 rfl (by decide) ?_
      refine r_icmp_lt 29 25 dX6_mayGo_22 (by decide) rfl (fun q22 => ?_) (fun q22 => ?_)
      · refine r_iconst (v := 0) 30 dX6_mayGo_29 rfl (by decide) ?_
        refine r_goto 44 dX6_mayGo_30 (by decide) ?_
        refine r_bret dX6_mayGo_44 rfl (by first | exact Or.inl rfl | exact Or.inr rfl) (by decide) (by decide) ?_
        exact ⟨by simp_all [mayG, bI, i_nlt, i_nle], rfl⟩
      · refine r_iconst (v := 1) 26 dX6_mayGo_25 rfl (by decide) ?_
        refine r_goto 44 dX6_mayGo_26 (by decide) ?_
        refine r_bret dX6_mayGo_44 rfl (by first | exact Or.inl rfl | exact Or.inr rfl) (by decide) (by decide) ?_
        exact ⟨by simp_all [mayG, bI, i_nlt, i_nle], rfl⟩
  · refine r_iload_n 5 dX6_mayGo_4 rfl rfl ?_
    refine r_iconst (v := 2) 6 dX6_mayGo_5 rfl (by decide) ?_
    refine r_icmp_ge 13 9 dX6_mayGo_6 (by decide) rfl (fun q6 => ?_) (fun q6 => ?_)
    · refine r_iconst (v := 0) 14 dX6_mayGo_13 rfl (by decide) ?_
      refine r_bret dX6_mayGo_14 rfl (by first | exact Or.inl rfl | exact Or.inr rfl) (by decide) (by decide) ?_
      exact ⟨by simp_all [mayG, bI, i_nlt, i_nle], rfl⟩
    · refine r_iconst (v := 1) 10 dX6_mayGo_9 rfl (by decide) ?_
      refine r_goto 14 dX6_mayGo_10 (by decide) ?_
      refine r_bret dX6_mayGo_14 rfl (by first | exact Or.inl rfl | exact Or.inr rfl) (by decide) (by decide) ?_
      exact ⟨by simp_all [mayG, bI, i_nlt, i_nle], rfl⟩

set_option maxRecDepth 100000 in
theorem tX6_rowOf {Γ : CT} {s : Int32} {w : PW}  : Cl Γ yX6_rowOf XX6_rowOf 0 0 0 [.int s] w (rI (s / 6) w) := by
  refine Cl.of (ls := [some (.int s)]) rfl (by decide +kernel) (fun h => by cases h) (Nat.le_of_ble_eq_true rfl) rfl ?_
  refine r_iload_n 1 dX6_rowOf_0 rfl rfl ?_
  refine r_bipush (v := 6) 3 dX6_rowOf_1 rfl (by decide) ?_
  refine r_idiv 4 dX6_rowOf_3 rfl (by decide) ?_
  refine r_iret dX6_rowOf_4 rfl (by decide) (by decide) ?_
  exact ⟨rfl, rfl⟩

set_option maxRecDepth 100000 in
theorem tX6_columnOf {Γ : CT} {s : Int32} {w : PW}  : Cl Γ yX6_columnOf XX6_columnOf 0 0 0 [.int s] w (rI ((s - s / 6 * 6) * 2 + (s / 6 - s / 6 / 2 * 2)) w) := by
  refine Cl.of (ls := [some (.int s)]) rfl (by decide +kernel) (fun h => by cases h) (Nat.le_of_ble_eq_true rfl) rfl ?_
  refine r_iload_n 1 dX6_columnOf_0 rfl rfl ?_
  refine r_bipush (v := 6) 3 dX6_columnOf_1 rfl (by decide) ?_
  refine r_irem 4 dX6_columnOf_3 rfl (by decide) ?_
  refine r_iconst (v := 2) 5 dX6_columnOf_4 rfl (by decide) ?_
  refine r_imul 6 dX6_columnOf_5 rfl ?_
  refine r_iload_n 7 dX6_columnOf_6 rfl rfl ?_
  refine r_bipush (v := 6) 9 dX6_columnOf_7 rfl (by decide) ?_
  refine r_idiv 10 dX6_columnOf_9 rfl (by decide) ?_
  refine r_iconst (v := 2) 11 dX6_columnOf_10 rfl (by decide) ?_
  refine r_irem 12 dX6_columnOf_11 rfl (by decide) ?_
  refine r_iadd 13 dX6_columnOf_12 rfl ?_
  refine r_iret dX6_columnOf_13 rfl (by decide) (by decide) ?_
  exact ⟨rfl, rfl⟩


set_option maxRecDepth 100000 in
theorem tJ9_floorMod {Γ : CT} {a b : Int32} {w : PW} (hb : ¬ b = 0) : Cl Γ yJ9_floorMod_7cf53 XJ9_floorMod_7cf53 0 0 0 [.int a, .int b] w (rI (fmO a b) w) := by
  refine Cl.of (ls := [some (.int a), some (.int b), none]) rfl (by decide +kernel) (fun h => by cases h) (Nat.le_of_ble_eq_true rfl) rfl ?_
  refine r_iload_n 1 dJ9_floorMod_7cf53_0 rfl rfl ?_
  refine r_iload_n 2 dJ9_floorMod_7cf53_1 rfl rfl ?_
  refine r_irem 3 dJ9_floorMod_7cf53_2 rfl hb ?_
  refine r_istore_n (ls1 := [_, _, _]) 4 dJ9_floorMod_7cf53_3 rfl (by decide) rfl rfl ?_
  refine r_iload_n 5 dJ9_floorMod_7cf53_4 rfl rfl ?_
  refine r_iload_n 6 dJ9_floorMod_7cf53_5 rfl rfl ?_
  refine r_ixor 7 dJ9_floorMod_7cf53_6 rfl ?_
  refine r_if_ge 18 10 dJ9_floorMod_7cf53_7 (by decide) rfl (fun q7 => ?_) (fun q7 => ?_)
  · refine r_iload_n 19 dJ9_floorMod_7cf53_18 rfl rfl ?_
    refine r_iret dJ9_floorMod_7cf53_19 rfl (by decide) (by decide) ?_
    exact ⟨by simp_all [fmO], rfl⟩
  · refine r_iload_n 11 dJ9_floorMod_7cf53_10 rfl rfl ?_
    refine r_if_eq 18 14 dJ9_floorMod_7cf53_11 (by decide) rfl (fun q11 => ?_) (fun q11 => ?_)
    · refine r_iload_n 19 dJ9_floorMod_7cf53_18 rfl rfl ?_
      refine r_iret dJ9_floorMod_7cf53_19 rfl (by decide) (by decide) ?_
      exact ⟨by simp_all [fmO], rfl⟩
    · refine r_iload_n 15 dJ9_floorMod_7cf53_14 rfl rfl ?_
      refine r_iload_n 16 dJ9_floorMod_7cf53_15 rfl rfl ?_
      refine r_iadd 17 dJ9_floorMod_7cf53_16 rfl ?_
      refine r_iret dJ9_floorMod_7cf53_17 rfl (by decide) (by decide) ?_
      exact ⟨by simp_all [fmO], rfl⟩

set_option maxRecDepth 100000 in
theorem tJ9_max {Γ : CT} {a : Int32} {b : Int32} {w : PW}  : Cl Γ yJ9_max_7cf53 XJ9_max_7cf53 0 0 0 [.int a, .int b] w (rI (if a < b then b else a) w) := by
  refine Cl.of (ls := [some (.int a), some (.int b)]) rfl (by decide +kernel) (fun h => by cases h) (Nat.le_of_ble_eq_true rfl) rfl ?_
  refine r_iload_n 1 dJ9_max_7cf53_0 rfl rfl ?_
  refine r_iload_n 2 dJ9_max_7cf53_1 rfl rfl ?_
  refine r_icmp_lt 9 5 dJ9_max_7cf53_2 (by decide) rfl (fun q2 => ?_) (fun q2 => ?_)
  · refine r_iload_n 10 dJ9_max_7cf53_9 rfl rfl ?_
    refine r_iret dJ9_max_7cf53_10 rfl (by decide) (by decide) ?_
    exact ⟨by first | rw [if_pos q2] | rw [if_neg q2], rfl⟩
  · refine r_iload_n 6 dJ9_max_7cf53_5 rfl rfl ?_
    refine r_goto 10 dJ9_max_7cf53_6 (by decide) ?_
    refine r_iret dJ9_max_7cf53_10 rfl (by decide) (by decide) ?_
    exact ⟨by first | rw [if_pos q2] | rw [if_neg q2], rfl⟩

set_option maxRecDepth 100000 in
theorem tJ9_min {Γ : CT} {a : Int32} {b : Int32} {w : PW}  : Cl Γ yJ9_min_7cf53 XJ9_min_7cf53 0 0 0 [.int a, .int b] w (rI (if b < a then b else a) w) := by
  refine Cl.of (ls := [some (.int a), some (.int b)]) rfl (by decide +kernel) (fun h => by cases h) (Nat.le_of_ble_eq_true rfl) rfl ?_
  refine r_iload_n 1 dJ9_min_7cf53_0 rfl rfl ?_
  refine r_iload_n 2 dJ9_min_7cf53_1 rfl rfl ?_
  refine r_icmp_gt 9 5 dJ9_min_7cf53_2 (by decide) rfl (fun q2 => ?_) (fun q2 => ?_)
  · refine r_iload_n 10 dJ9_min_7cf53_9 rfl rfl ?_
    refine r_iret dJ9_min_7cf53_10 rfl (by decide) (by decide) ?_
    exact ⟨by first | rw [if_pos q2] | rw [if_neg q2], rfl⟩
  · refine r_iload_n 6 dJ9_min_7cf53_5 rfl rfl ?_
    refine r_goto 10 dJ9_min_7cf53_6 (by decide) ?_
    refine r_iret dJ9_min_7cf53_10 rfl (by decide) (by decide) ?_
    exact ⟨by first | rw [if_pos q2] | rw [if_neg q2], rfl⟩

set_option maxRecDepth 100000 in
theorem tX7_in {Γ : CT} {s : Int32} {a : Int32} {b : Int32} {w : PW}  : Cl Γ yX7_in XX7_in 0 0 0 [.int s, .int a, .int b] w (rI (bI (inI s a b)) w) := by
  refine Cl.of (ls := [some (.int s), some (.int a), some (.int b)]) rfl (by decide +kernel) (fun h => by cases h) (Nat.le_of_ble_eq_true rfl) rfl ?_
  refine r_iload_n 1 dX7_in_0 rfl rfl ?_
  refine r_iload_n 2 dX7_in_1 rfl rfl ?_
  refine r_icmp_lt 14 5 dX7_in_2 (by decide) rfl (fun q2 => ?_) (fun q2 => ?_)
  · refine r_iconst (v := 0) 15 dX7_in_14 rfl (by decide) ?_
    refine r_bret dX7_in_15 rfl (by first | exact Or.inl rfl | exact Or.inr rfl) (by decide) (by decide) ?_
    first | exact ⟨congrArg (fun z => some (Value.int z)) (bI_of (by simp only [Int32.lt_iff_toInt_lt, Int32.le_iff_toInt_le, ← Int32.toInt_inj] at *; simp at *; omega)).symm, rfl⟩ | exact ⟨congrArg (fun z => some (Value.int z)) (bI_no (by simp only [Int32.lt_iff_toInt_lt, Int32.le_iff_toInt_le, ← Int32.toInt_inj] at *; simp at *; omega)).symm, rfl⟩
  · refine r_iload_n 6 dX7_in_5 rfl rfl ?_
    refine r_iload_n 7 dX7_in_6 rfl rfl ?_
    refine r_icmp_gt 14 10 dX7_in_7 (by decide) rfl (fun q7 => ?_) (fun q7 => ?_)
    · refine r_iconst (v := 0) 15 dX7_in_14 rfl (by decide) ?_
      refine r_bret dX7_in_15 rfl (by first | exact Or.inl rfl | exact Or.inr rfl) (by decide) (by decide) ?_
      first | exact ⟨congrArg (fun z => some (Value.int z)) (bI_of (by simp only [Int32.lt_iff_toInt_lt, Int32.le_iff_toInt_le, ← Int32.toInt_inj] at *; simp at *; omega)).symm, rfl⟩ | exact ⟨congrArg (fun z => some (Value.int z)) (bI_no (by simp only [Int32.lt_iff_toInt_lt, Int32.le_iff_toInt_le, ← Int32.toInt_inj] at *; simp at *; omega)).symm, rfl⟩
    · refine r_iconst (v := 1) 11 dX7_in_10 rfl (by decide) ?_
      refine r_goto 15 dX7_in_11 (by decide) ?_
      refine r_bret dX7_in_15 rfl (by first | exact Or.inl rfl | exact Or.inr rfl) (by decide) (by decide) ?_
      first | exact ⟨congrArg (fun z => some (Value.int z)) (bI_of (by simp only [Int32.lt_iff_toInt_lt, Int32.le_iff_toInt_le, ← Int32.toInt_inj] at *; simp at *; omega)).symm, rfl⟩ | exact ⟨congrArg (fun z => some (Value.int z)) (bI_no (by simp only [Int32.lt_iff_toInt_lt, Int32.le_iff_toInt_le, ← Int32.toInt_inj] at *; simp at *; omega)).symm, rfl⟩

set_option maxRecDepth 100000 in
theorem tX7_isSquare {Γ : CT} {s : Int32} {w : PW}  : Cl Γ yX7_isSquare XX7_isSquare 1 0 0 [.int s] w (rI (bI (inI s 0 47)) w) := by
  refine Cl.of (ls := [some (.int s)]) rfl (by decide +kernel) (fun h => by cases h) (Nat.le_of_ble_eq_true rfl) rfl ?_
  refine r_iload_n 1 dX7_isSquare_0 rfl rfl ?_
  refine r_iconst (v := 0) 2 dX7_isSquare_1 rfl (by decide) ?_
  refine r_bipush (v := 47) 4 dX7_isSquare_2 rfl (by decide) ?_
  refine r_callS0 7 dX7_isSquare_4 rfl (tX7_in) l_X7_61 mX7_in rfl (by decide) (by decide) (by decide) (qI ?_)
  refine r_bret dX7_isSquare_7 rfl (bI01 _) (by decide) (by decide) ?_
  exact ⟨rfl, rfl⟩

set_option maxRecDepth 100000 in
theorem tX7_rowOf {Γ : CT} {s : Int32} {w : PW}  : Cl Γ yX7_rowOf XX7_rowOf 0 0 0 [.int s] w (rI (s / 6) w) := by
  refine Cl.of (ls := [some (.int s)]) rfl (by decide +kernel) (fun h => by cases h) (Nat.le_of_ble_eq_true rfl) rfl ?_
  refine r_iload_n 1 dX7_rowOf_0 rfl rfl ?_
  refine r_bipush (v := 6) 3 dX7_rowOf_1 rfl (by decide) ?_
  refine r_idiv 4 dX7_rowOf_3 rfl (by decide) ?_
  refine r_iret dX7_rowOf_4 rfl (by decide) (by decide) ?_
  exact ⟨rfl, rfl⟩

set_option maxRecDepth 100000 in
theorem tX7_columnOf {Γ : CT} {s : Int32} {w : PW}  : Cl Γ yX7_columnOf XX7_columnOf 0 0 0 [.int s] w (rI ((s - s / 6 * 6) * 2 + (s / 6 - s / 6 / 2 * 2)) w) := by
  refine Cl.of (ls := [some (.int s)]) rfl (by decide +kernel) (fun h => by cases h) (Nat.le_of_ble_eq_true rfl) rfl ?_
  refine r_iload_n 1 dX7_columnOf_0 rfl rfl ?_
  refine r_bipush (v := 6) 3 dX7_columnOf_1 rfl (by decide) ?_
  refine r_irem 4 dX7_columnOf_3 rfl (by decide) ?_
  refine r_iconst (v := 2) 5 dX7_columnOf_4 rfl (by decide) ?_
  refine r_imul 6 dX7_columnOf_5 rfl ?_
  refine r_iload_n 7 dX7_columnOf_6 rfl rfl ?_
  refine r_bipush (v := 6) 9 dX7_columnOf_7 rfl (by decide) ?_
  refine r_idiv 10 dX7_columnOf_9 rfl (by decide) ?_
  refine r_iconst (v := 2) 11 dX7_columnOf_10 rfl (by decide) ?_
  refine r_irem 12 dX7_columnOf_11 rfl (by decide) ?_
  refine r_iadd 13 dX7_columnOf_12 rfl ?_
  refine r_iret dX7_columnOf_13 rfl (by decide) (by decide) ?_
  exact ⟨rfl, rfl⟩

set_option maxRecDepth 100000 in
theorem tX7_isKing {Γ : CT} {s : Int32} {w : PW}  : Cl Γ yX7_isKing XX7_isKing 0 0 0 [.int s] w (rI (bI (isKg s)) w) := by
  refine Cl.of (ls := [some (.int s)]) rfl (by decide +kernel) (fun h => by cases h) (Nat.le_of_ble_eq_true rfl) rfl ?_
  refine r_iload_n 1 dX7_isKing_0 rfl rfl ?_
  refine r_iconst (v := 1) 2 dX7_isKing_1 rfl (by decide) ?_
  refine r_icmp_eq 10 5 dX7_isKing_2 (by decide) rfl (fun q2 => ?_) (fun q2 => ?_)
  · refine r_iconst (v := 1) 11 dX7_isKing_10 rfl (by decide) ?_
    refine r_goto 15 dX7_isKing_11 (by decide) ?_
    refine r_bret dX7_isKing_15 rfl (by first | exact Or.inl rfl | exact Or.inr rfl) (by decide) (by decide) ?_
    exact ⟨by simp_all [isKg, bI, i_nlt, i_nle], rfl⟩
  · refine r_iload_n 6 dX7_isKing_5 rfl rfl ?_
    refine r_iconst (v := 3) 7 dX7_isKing_6 rfl (by decide) ?_
    refine r_icmp_ne 14 10 dX7_isKing_7 (by decide) rfl (fun q7 => ?_) (fun q7 => ?_)
    · refine r_iconst (v := 0) 15 dX7_isKing_14 rfl (by decide) ?_
      refine r_bret dX7_isKing_15 rfl (by first | exact Or.inl rfl | exact Or.inr rfl) (by decide) (by decide) ?_
      exact ⟨by simp_all [isKg, bI, i_nlt, i_nle], rfl⟩
    · refine r_iconst (v := 1) 11 dX7_isKing_10 rfl (by decide) ?_
      refine r_goto 15 dX7_isKing_11 (by decide) ?_
      refine r_bret dX7_isKing_15 rfl (by first | exact Or.inl rfl | exact Or.inr rfl) (by decide) (by decide) ?_
      exact ⟨by simp_all [isKg, bI, i_nlt, i_nle], rfl⟩

set_option maxRecDepth 100000 in
theorem tX7_sideOf {Γ : CT} {s : Int32} {w : PW}  : Cl Γ yX7_sideOf XX7_sideOf 0 0 0 [.int s] w (rI (if s = -6 then -6 else s / 2) w) := by
  refine Cl.of (ls := [some (.int s)]) rfl (by decide +kernel) (fun h => by cases h) (Nat.le_of_ble_eq_true rfl) rfl ?_
  refine r_iload_n 1 dX7_sideOf_0 rfl rfl ?_
  refine r_bipush (v := (-6)) 3 dX7_sideOf_1 rfl (by decide) ?_
  refine r_icmp_ne 11 6 dX7_sideOf_3 (by decide) rfl (fun q3 => ?_) (fun q3 => ?_)
  · refine r_iload_n 12 dX7_sideOf_11 rfl rfl ?_
    refine r_iconst (v := 2) 13 dX7_sideOf_12 rfl (by decide) ?_
    refine r_idiv 14 dX7_sideOf_13 rfl (by decide) ?_
    refine r_iret dX7_sideOf_14 rfl (by decide) (by decide) ?_
    exact ⟨by simp_all [sdO, bI, i_nlt, i_nle], rfl⟩
  · refine r_bipush (v := (-6)) 8 dX7_sideOf_6 rfl (by decide) ?_
    refine r_goto 14 dX7_sideOf_8 (by decide) ?_
    refine r_iret dX7_sideOf_14 rfl (by decide) (by decide) ?_
    exact ⟨by simp_all [sdO, bI, i_nlt, i_nle], rfl⟩
end
section
/-! ===== squares, ways, steps ===== -/
def nx (s way : Nat) : Nat := ((s / 6 + (if way < 2 then 1 else 7)) % 8) * 6 + ((s % 6 * 2 + s / 6 % 2 + (if way % 2 = 0 then 1 else 11)) % 12) / 2
def nk (s way : Nat) : Nat → Nat
  | 0 => s
  | k + 1 => nx (nk s way k) way
theorem all2 {A B : Nat} {P : Nat → Nat → Bool} (h : (List.range A).all (fun a => (List.range B).all (fun b => P a b)) = true) {a b : Nat} (ha : a < A) (hb : b < B) : P a b = true := by
  have h1 := List.all_eq_true.mp h a (List.mem_range.mpr ha)
  exact List.all_eq_true.mp h1 b (List.mem_range.mpr hb)
theorem all3 {A B C : Nat} {P : Nat → Nat → Nat → Bool} (h : (List.range A).all (fun a => (List.range B).all (fun b => (List.range C).all (fun c => P a b c))) = true) {a b c : Nat} (ha : a < A) (hb : b < B) (hc : c < C) : P a b c = true := by
  have h1 := List.all_eq_true.mp h a (List.mem_range.mpr ha)
  have h2 := List.all_eq_true.mp h1 b (List.mem_range.mpr hb)
  exact List.all_eq_true.mp h2 c (List.mem_range.mpr hc)
theorem nx_lt (s way : Nat) : nx s way < 48 := by
  unfold nx
  have h1 : (s / 6 + (if way < 2 then 1 else 7)) % 8 < 8 := Nat.mod_lt _ (by decide)
  have h2 : (s % 6 * 2 + s / 6 % 2 + (if way % 2 = 0 then 1 else 11)) % 12 < 12 := Nat.mod_lt _ (by decide)
  omega
theorem nk_lt {s way k : Nat} (h : s < 48) : nk s way k < 48 := by
  cases k with
  | zero => exact h
  | succ k => exact nx_lt _ _
theorem nx_back {s way : Nat} (hs : s < 48) (hw : way < 4) : nx (nx s way) (3 - way) = s := of_decide_eq_true (all2 (A := 48) (B := 4) (P := fun s way => decide (nx (nx s way) (3 - way) = s)) (by decide +kernel) hs hw)
theorem nk_lap {s way : Nat} (hs : s < 48) (hw : way < 4) : nk s way 24 = s := of_decide_eq_true (all2 (A := 48) (B := 4) (P := fun s way => decide (nk s way 24 = s)) (by decide +kernel) hs hw)
theorem nk_ne {s way k : Nat} (hs : s < 48) (hw : way < 4) (h0 : 0 < k) (hk : k < 24) : nk s way k ≠ s := by
  have := of_decide_eq_true (all3 (A := 48) (B := 4) (C := 24) (P := fun s way k => decide (0 < k → nk s way k ≠ s)) (by decide +kernel) hs hw hk)
  exact this h0
theorem nk_add (s way j : Nat) : ∀ k, nk (nk s way j) way k = nk s way (j + k)
  | 0 => rfl
  | k + 1 => by
    show nx (nk (nk s way j) way k) way = nx (nk s way (j + k)) way
    rw [nk_add s way j k]
theorem nx_inj {s t way : Nat} (hs : s < 48) (ht : t < 48) (hw : way < 4) (h : nx s way = nx t way) : s = t := by
  rw [← nx_back hs hw, ← nx_back ht hw, h]
theorem nk_inj {way : Nat} (hw : way < 4) : ∀ (k : Nat) {s t : Nat}, s < 48 → t < 48 → nk s way k = nk t way k → s = t
  | 0, _, _, _, _, h => h
  | k + 1, _, _, hs, ht, h => nk_inj hw k hs ht (nx_inj (nk_lt hs) (nk_lt ht) hw h)
/-- the column, the row, a step, in the machine's numbers -/
def colI (s : Int32) : Int32 := (s - s / 6 * 6) * 2 + (s / 6 - s / 6 / 2 * 2)
def sqI (s way k : Int32) : Int32 := fmO (s / 6 + (if way < 2 then k else -k)) 8 * 6 + fmO (colI s + (if way - way / 2 * 2 = 0 then k else -k)) 12 / 2
theorem sqI_nk {s way k : Nat} (hs : s < 48) (hw : way < 4) (hk : k < 24) : sqI (nI s) (nI way) (nI k) = nI (nk s way k) := of_decide_eq_true (all3 (A := 48) (B := 4) (C := 24) (P := fun s way k => decide (sqI (nI s) (nI way) (nI k) = nI (nk s way k))) (by decide +kernel) hs hw hk)
def nxI (s way : Int32) : Int32 := 6 * ((s / 6 + (if way < 2 then 1 else 7)) - (s / 6 + (if way < 2 then 1 else 7)) / 8 * 8) + ((colI s + (if way - way / 2 * 2 = 0 then 1 else 11)) - (colI s + (if way - way / 2 * 2 = 0 then 1 else 11)) / 12 * 12) / 2
theorem nxI_nx {s way : Nat} (hs : s < 48) (hw : way < 4) : nxI (nI s) (nI way) = nI (nx s way) := of_decide_eq_true (all2 (A := 48) (B := 4) (P := fun s way => decide (nxI (nI s) (nI way) = nI (nx s way))) (by decide +kernel) hs hw)
theorem colI_col {s : Nat} (hs : s < 48) : colI (nI s) = nI (s % 6 * 2 + s / 6 % 2) := of_decide_eq_true (all2 (A := 48) (B := 1) (P := fun s _ => decide (colI (nI s) = nI (s % 6 * 2 + s / 6 % 2))) (by decide +kernel) hs (by decide : 0 < 1))
/-- a frame: the cells outside S are as they were -/
def Fr (w w' : PW) (S : Nat → Prop) : Prop := w'.length = w.length ∧ ∀ h, ¬ S h → w'[h]? = w[h]?
theorem Fr.rf {w : PW} {S : Nat → Prop} : Fr w w S := ⟨rfl, fun _ _ => rfl⟩
theorem Fr.tr {w w1 w2 : PW} {S : Nat → Prop} (h1 : Fr w w1 S) (h2 : Fr w1 w2 S) : Fr w w2 S := ⟨h2.1.trans h1.1, fun h hn => (h2.2 h hn).trans (h1.2 h hn)⟩
theorem Fr.mono {w w1 : PW} {S S' : Nat → Prop} (h1 : Fr w w1 S) (h : ∀ q, S q → S' q) : Fr w w1 S' := ⟨h1.1, fun q hn => h1.2 q (fun z => hn (h q z))⟩
theorem Fr.st {w : PW} {S : Nat → Prop} {h : Nat} {c : PC} (hS : S h) : Fr w (w.set h c) S := ⟨List.length_set, fun q hn => List.getElem?_set_ne (fun e => hn (by subst e; exact hS))⟩
theorem Fr.at {w w1 : PW} {S : Nat → Prop} {h : Nat} {c : PC} (hF : Fr w w1 S) (hn : ¬ S h) (hw : w[h]? = some c) : w1[h]? = some c := (hF.2 h hn).trans hw
end
section
/-! ===== the board: reads, counts, places ===== -/
def pAt (f : Nat → Int32) (s : Int32) : Int32 := if inI s 0 47 then f s.toNatClampNeg else -6
theorem inI_ix {x : Int32} {n : Nat} (hn : n < 2147483648) (h : inI x 0 (nI n) = true) : ∃ j : Nat, j ≤ n ∧ x = nI j := by
  have h1 := of_decide_eq_true h
  obtain ⟨j, hj, rfl⟩ := nI_of (x := x) (Int32.not_lt.mpr h1.1)
  exact ⟨j, (nI_leI hj hn).mp h1.2, rfl⟩
theorem inI_nI {j n : Nat} (hj : j ≤ n) (hn : n < 2147483648) : inI (nI j) 0 (nI n) = true := decide_eq_true ⟨nI_pos' (by omega), nI_le hj hn⟩
theorem inI_out {x : Int32} {n : Nat} (hn : n + 1 < 2147483648) (h : x < 0 ∨ nI (n + 1) ≤ x) : inI x 0 (nI n) = false := by
  refine decide_eq_false fun q => ?_
  rcases h with h | h
  · exact Int32.not_le.mpr h q.1
  · have h2 : nI (n + 1) ≤ nI n := Int32.le_trans h q.2
    have := (nI_leI hn (by omega)).mp h2
    omega
theorem pAt_nI {f : Nat → Int32} {j : Nat} (hj : j < 48) : pAt f (nI j) = f j := by
  unfold pAt
  rw [show inI (nI j) 0 47 = true from inI_nI (n := 47) (by omega) (by decide), if_pos rfl, nI_clamp (by omega)]
theorem pAt_out {f : Nat → Int32} {s : Int32} (h : s < 0 ∨ nI 48 ≤ s) : pAt f s = -6 := by
  unfold pAt
  rw [show inI s 0 47 = false from inI_out (n := 47) (by decide) h]
  rfl
def isBd (w : PW) (b : Nat) (f n : Nat → Int32) (mv jp : Int32) : Prop := w[b]? = some (oB 0 [.ref (b + 1), .ref (b + 2), .int mv, .int jp]) ∧ w[b + 1]? = some (aI 48 f) ∧ w[b + 2]? = some (aI 4 n)
def bS (b : Nat) : Nat → Prop := fun h => b ≤ h ∧ h < b + 3
def toBd (w : PW) (b : Nat) (f n : Nat → Int32) (mv jp : Int32) : PW → Prop := fun w1 => Fr w w1 (bS b) ∧ isBd w1 b f n mv jp
theorem isBd.fr {w w1 : PW} {b : Nat} {f n : Nat → Int32} {mv jp : Int32} {S : Nat → Prop} (h : isBd w b f n mv jp) (hF : Fr w w1 S) (hS : ∀ q, b ≤ q → q < b + 3 → ¬ S q) : isBd w1 b f n mv jp := ⟨hF.at (hS _ (by omega) (by omega)) h.1, hF.at (hS _ (by omega) (by omega)) h.2.1, hF.at (hS _ (by omega) (by omega)) h.2.2⟩
theorem isBd.setF {w : PW} {b : Nat} {f g n : Nat → Int32} {mv jp : Int32} (h : isBd w b f n mv jp) : toBd w b g n mv jp (w.set (b + 1) (aI 48 g)) := ⟨Fr.st ⟨by omega, by omega⟩, gs_ne (by omega) h.1, gs_eq (is_of h.2.1), gs_ne (by omega) h.2.2⟩
theorem isBd.setN {w : PW} {b : Nat} {f n g : Nat → Int32} {mv jp : Int32} (h : isBd w b f n mv jp) : toBd w b f g mv jp (w.set (b + 2) (aI 4 g)) := ⟨Fr.st ⟨by omega, by omega⟩, gs_ne (by omega) h.1, gs_ne (by omega) h.2.1, gs_eq (is_of h.2.2)⟩
theorem isBd.setO {w : PW} {b : Nat} {f n : Nat → Int32} {mv jp mv1 jp1 : Int32} (h : isBd w b f n mv jp) : toBd w b f n mv1 jp1 (w.set b (oB 0 [.ref (b + 1), .ref (b + 2), .int mv1, .int jp1])) := ⟨Fr.st ⟨by omega, by omega⟩, gs_eq (is_of h.1), gs_ne (by omega) h.2.1, gs_ne (by omega) h.2.2⟩
theorem toBd.tr {w w1 w2 : PW} {b : Nat} {f n f1 n1 : Nat → Int32} {mv jp mv1 jp1 : Int32} (h : toBd w b f n mv jp w1) (h2 : toBd w1 b f1 n1 mv1 jp1 w2) : toBd w b f1 n1 mv1 jp1 w2 := ⟨h.1.tr h2.1, h2.2⟩
def adN (n : Nat → Int32) (p more : Int32) : Nat → Int32 := if inI p 0 3 then upd n p.toNatClampNeg (n p.toNatClampNeg + more) else n
theorem adN_nI {n : Nat → Int32} {j : Nat} {m : Int32} (hj : j < 4) : adN n (nI j) m = upd n j (n j + m) := by
  unfold adN
  rw [show inI (nI j) 0 3 = true from inI_nI (n := 3) (by omega) (by decide), if_pos rfl, nI_clamp (by omega)]
theorem adN_out {n : Nat → Int32} {s m : Int32} (h : s < 0 ∨ nI 4 ≤ s) : adN n s m = n := by
  unfold adN
  rw [show inI s 0 3 = false from inI_out (n := 3) (by decide) h]
  rfl
def nOf (n : Nat → Int32) (p : Int32) : Int32 := if inI p 0 3 then n p.toNatClampNeg else 0
theorem nOf_nI {n : Nat → Int32} {j : Nat} (hj : j < 4) : nOf n (nI j) = n j := by
  unfold nOf
  rw [show inI (nI j) 0 3 = true from inI_nI (n := 3) (by omega) (by decide), if_pos rfl, nI_clamp (by omega)]
theorem nOf_out {n : Nat → Int32} {s : Int32} (h : s < 0 ∨ nI 4 ≤ s) : nOf n s = 0 := by
  unfold nOf
  rw [show inI s 0 3 = false from inI_out (n := 3) (by decide) h]
  rfl
def plF (f : Nat → Int32) (s p : Int32) : Nat → Int32 := if inI s 0 47 then upd f s.toNatClampNeg p else f
def plN (f n : Nat → Int32) (s p : Int32) : Nat → Int32 := if inI s 0 47 then adN (adN n (f s.toNatClampNeg) (-1)) p 1 else n
theorem plF_nI {f : Nat → Int32} {j : Nat} {p : Int32} (hj : j < 48) : plF f (nI j) p = upd f j p := by
  unfold plF
  rw [show inI (nI j) 0 47 = true from inI_nI (n := 47) (by omega) (by decide), if_pos rfl, nI_clamp (by omega)]
theorem plN_nI {f n : Nat → Int32} {j : Nat} {p : Int32} (hj : j < 48) : plN f n (nI j) p = adN (adN n (f j) (-1)) p 1 := by
  unfold plN
  rw [show inI (nI j) 0 47 = true from inI_nI (n := 47) (by omega) (by decide), if_pos rfl, nI_clamp (by omega)]
theorem plF_out {f : Nat → Int32} {s p : Int32} (h : s < 0 ∨ nI 48 ≤ s) : plF f s p = f := by
  unfold plF
  rw [show inI s 0 47 = false from inI_out (n := 47) (by decide) h]
  rfl
theorem plN_out {f n : Nat → Int32} {s p : Int32} (h : s < 0 ∨ nI 48 ≤ s) : plN f n s p = n := by
  unfold plN
  rw [show inI s 0 47 = false from inI_out (n := 47) (by decide) h]
  rfl
set_option maxRecDepth 100000 in
theorem tX6_squareAfter {Γ : CT} {w : PW} {s way k : Int32}  : Cl Γ yX6_squareAfter XX6_squareAfter 1 0 0 [.int s, .int way, .int k] w (rI (sqI s way k) w) := by
  refine Cl.of (ls := [some (.int s), some (.int way), some (.int k), none, none]) rfl (by decide +kernel) (fun h => by cases h) (Nat.le_of_ble_eq_true rfl) rfl ?_
  refine r_iload_n 1 dX6_squareAfter_0 rfl rfl ?_
  refine r_callS0 4 dX6_squareAfter_1 rfl (tX6_rowOf) l_X6_133 mX6_rowOf rfl (by decide) (Nat.le_of_ble_eq_true rfl) (by decide) (qI ?_)
  refine r_iload_n 5 dX6_squareAfter_4 rfl rfl ?_
  refine r_iconst (v := 2) 6 dX6_squareAfter_5 rfl (by decide) ?_
  refine r_icmp_ge 13 9 dX6_squareAfter_6 (by decide) rfl (fun q6 => ?_) (fun q6 => ?_)
  · refine r_iload_n 14 dX6_squareAfter_13 rfl rfl ?_
    refine r_ineg 15 dX6_squareAfter_14 rfl ?_
    refine r_iadd 16 dX6_squareAfter_15 rfl ?_
    refine r_istore_n (ls1 := [_, _, _, _, _]) 17 dX6_squareAfter_16 rfl (by decide) rfl rfl ?_
    refine r_iload_n 18 dX6_squareAfter_17 rfl rfl ?_
    refine r_callS0 21 dX6_squareAfter_18 rfl (tX6_columnOf) l_X6_130 mX6_columnOf rfl (by decide) (Nat.le_of_ble_eq_true rfl) (by decide) (qI ?_)
    refine r_iload_n 22 dX6_squareAfter_21 rfl rfl ?_
    refine r_iconst (v := 2) 23 dX6_squareAfter_22 rfl (by decide) ?_
    refine r_irem 24 dX6_squareAfter_23 rfl (by decide) ?_
    refine r_if_ne 31 27 dX6_squareAfter_24 (by decide) rfl (fun q24 => ?_) (fun q24 => ?_)
    · refine r_iload_n 32 dX6_squareAfter_31 rfl rfl ?_
      refine r_ineg 33 dX6_squareAfter_32 rfl ?_
      refine r_iadd 34 dX6_squareAfter_33 rfl ?_
      refine r_istore (ls1 := [_, _, _, _, _]) 36 dX6_squareAfter_34 rfl (by decide) rfl rfl ?_
      refine r_iload_n 37 dX6_squareAfter_36 rfl rfl ?_
      refine r_bipush (v := 8) 39 dX6_squareAfter_37 rfl (by decide) ?_
      refine r_callS0 42 dX6_squareAfter_39 rfl (tJ9_floorMod (by decide)) l_X6_258 mJ9_floorMod_7cf53 rfl (by decide) (Nat.le_of_ble_eq_true rfl) (by decide) (qI ?_)
      refine r_bipush (v := 6) 44 dX6_squareAfter_42 rfl (by decide) ?_
      refine r_imul 45 dX6_squareAfter_44 rfl ?_
      refine r_iload 47 dX6_squareAfter_45 rfl rfl ?_
      refine r_bipush (v := 12) 49 dX6_squareAfter_47 rfl (by decide) ?_
      refine r_callS0 52 dX6_squareAfter_49 rfl (tJ9_floorMod (by decide)) l_X6_258 mJ9_floorMod_7cf53 rfl (by decide) (Nat.le_of_ble_eq_true rfl) (by decide) (qI ?_)
      refine r_iconst (v := 2) 53 dX6_squareAfter_52 rfl (by decide) ?_
      refine r_idiv 54 dX6_squareAfter_53 rfl (by decide) ?_
      refine r_iadd 55 dX6_squareAfter_54 rfl ?_
      refine r_iret dX6_squareAfter_55 rfl (by decide) (by decide) ?_
      refine ⟨?_, rfl⟩
      first | rw [sqI, if_pos (Int32.not_le.mp q6), if_pos q24] | rw [sqI, if_pos (Int32.not_le.mp q6), if_neg q24] | rw [sqI, if_neg (Int32.not_lt.mpr q6), if_pos q24] | rw [sqI, if_neg (Int32.not_lt.mpr q6), if_neg q24]
      rfl
    · refine r_iload_n 28 dX6_squareAfter_27 rfl rfl ?_
      refine r_goto 33 dX6_squareAfter_28 (by decide) ?_
      refine r_iadd 34 dX6_squareAfter_33 rfl ?_
      refine r_istore (ls1 := [_, _, _, _, _]) 36 dX6_squareAfter_34 rfl (by decide) rfl rfl ?_
      refine r_iload_n 37 dX6_squareAfter_36 rfl rfl ?_
      refine r_bipush (v := 8) 39 dX6_squareAfter_37 rfl (by decide) ?_
      refine r_callS0 42 dX6_squareAfter_39 rfl (tJ9_floorMod (by decide)) l_X6_258 mJ9_floorMod_7cf53 rfl (by decide) (Nat.le_of_ble_eq_true rfl) (by decide) (qI ?_)
      refine r_bipush (v := 6) 44 dX6_squareAfter_42 rfl (by decide) ?_
      refine r_imul 45 dX6_squareAfter_44 rfl ?_
      refine r_iload 47 dX6_squareAfter_45 rfl rfl ?_
      refine r_bipush (v := 12) 49 dX6_squareAfter_47 rfl (by decide) ?_
      refine r_callS0 52 dX6_squareAfter_49 rfl (tJ9_floorMod (by decide)) l_X6_258 mJ9_floorMod_7cf53 rfl (by decide) (Nat.le_of_ble_eq_true rfl) (by decide) (qI ?_)
      refine r_iconst (v := 2) 53 dX6_squareAfter_52 rfl (by decide) ?_
      refine r_idiv 54 dX6_squareAfter_53 rfl (by decide) ?_
      refine r_iadd 55 dX6_squareAfter_54 rfl ?_
      refine r_iret dX6_squareAfter_55 rfl (by decide) (by decide) ?_
      refine ⟨?_, rfl⟩
      first | rw [sqI, if_pos (Int32.not_le.mp q6), if_pos q24] | rw [sqI, if_pos (Int32.not_le.mp q6), if_neg q24] | rw [sqI, if_neg (Int32.not_lt.mpr q6), if_pos q24] | rw [sqI, if_neg (Int32.not_lt.mpr q6), if_neg q24]
      rfl
  · refine r_iload_n 10 dX6_squareAfter_9 rfl rfl ?_
    refine r_goto 15 dX6_squareAfter_10 (by decide) ?_
    refine r_iadd 16 dX6_squareAfter_15 rfl ?_
    refine r_istore_n (ls1 := [_, _, _, _, _]) 17 dX6_squareAfter_16 rfl (by decide) rfl rfl ?_
    refine r_iload_n 18 dX6_squareAfter_17 rfl rfl ?_
    refine r_callS0 21 dX6_squareAfter_18 rfl (tX6_columnOf) l_X6_130 mX6_columnOf rfl (by decide) (Nat.le_of_ble_eq_true rfl) (by decide) (qI ?_)
    refine r_iload_n 22 dX6_squareAfter_21 rfl rfl ?_
    refine r_iconst (v := 2) 23 dX6_squareAfter_22 rfl (by decide) ?_
    refine r_irem 24 dX6_squareAfter_23 rfl (by decide) ?_
    refine r_if_ne 31 27 dX6_squareAfter_24 (by decide) rfl (fun q24 => ?_) (fun q24 => ?_)
    · refine r_iload_n 32 dX6_squareAfter_31 rfl rfl ?_
      refine r_ineg 33 dX6_squareAfter_32 rfl ?_
      refine r_iadd 34 dX6_squareAfter_33 rfl ?_
      refine r_istore (ls1 := [_, _, _, _, _]) 36 dX6_squareAfter_34 rfl (by decide) rfl rfl ?_
      refine r_iload_n 37 dX6_squareAfter_36 rfl rfl ?_
      refine r_bipush (v := 8) 39 dX6_squareAfter_37 rfl (by decide) ?_
      refine r_callS0 42 dX6_squareAfter_39 rfl (tJ9_floorMod (by decide)) l_X6_258 mJ9_floorMod_7cf53 rfl (by decide) (Nat.le_of_ble_eq_true rfl) (by decide) (qI ?_)
      refine r_bipush (v := 6) 44 dX6_squareAfter_42 rfl (by decide) ?_
      refine r_imul 45 dX6_squareAfter_44 rfl ?_
      refine r_iload 47 dX6_squareAfter_45 rfl rfl ?_
      refine r_bipush (v := 12) 49 dX6_squareAfter_47 rfl (by decide) ?_
      refine r_callS0 52 dX6_squareAfter_49 rfl (tJ9_floorMod (by decide)) l_X6_258 mJ9_floorMod_7cf53 rfl (by decide) (Nat.le_of_ble_eq_true rfl) (by decide) (qI ?_)
      refine r_iconst (v := 2) 53 dX6_squareAfter_52 rfl (by decide) ?_
      refine r_idiv 54 dX6_squareAfter_53 rfl (by decide) ?_
      refine r_iadd 55 dX6_squareAfter_54 rfl ?_
      refine r_iret dX6_squareAfter_55 rfl (by decide) (by decide) ?_
      refine ⟨?_, rfl⟩
      first | rw [sqI, if_pos (Int32.not_le.mp q6), if_pos q24] | rw [sqI, if_pos (Int32.not_le.mp q6), if_neg q24] | rw [sqI, if_neg (Int32.not_lt.mpr q6), if_pos q24] | rw [sqI, if_neg (Int32.not_lt.mpr q6), if_neg q24]
      rfl
    · refine r_iload_n 28 dX6_squareAfter_27 rfl rfl ?_
      refine r_goto 33 dX6_squareAfter_28 (by decide) ?_
      refine r_iadd 34 dX6_squareAfter_33 rfl ?_
      refine r_istore (ls1 := [_, _, _, _, _]) 36 dX6_squareAfter_34 rfl (by decide) rfl rfl ?_
      refine r_iload_n 37 dX6_squareAfter_36 rfl rfl ?_
      refine r_bipush (v := 8) 39 dX6_squareAfter_37 rfl (by decide) ?_
      refine r_callS0 42 dX6_squareAfter_39 rfl (tJ9_floorMod (by decide)) l_X6_258 mJ9_floorMod_7cf53 rfl (by decide) (Nat.le_of_ble_eq_true rfl) (by decide) (qI ?_)
      refine r_bipush (v := 6) 44 dX6_squareAfter_42 rfl (by decide) ?_
      refine r_imul 45 dX6_squareAfter_44 rfl ?_
      refine r_iload 47 dX6_squareAfter_45 rfl rfl ?_
      refine r_bipush (v := 12) 49 dX6_squareAfter_47 rfl (by decide) ?_
      refine r_callS0 52 dX6_squareAfter_49 rfl (tJ9_floorMod (by decide)) l_X6_258 mJ9_floorMod_7cf53 rfl (by decide) (Nat.le_of_ble_eq_true rfl) (by decide) (qI ?_)
      refine r_iconst (v := 2) 53 dX6_squareAfter_52 rfl (by decide) ?_
      refine r_idiv 54 dX6_squareAfter_53 rfl (by decide) ?_
      refine r_iadd 55 dX6_squareAfter_54 rfl ?_
      refine r_iret dX6_squareAfter_55 rfl (by decide) (by decide) ?_
      refine ⟨?_, rfl⟩
      first | rw [sqI, if_pos (Int32.not_le.mp q6), if_pos q24] | rw [sqI, if_pos (Int32.not_le.mp q6), if_neg q24] | rw [sqI, if_neg (Int32.not_lt.mpr q6), if_pos q24] | rw [sqI, if_neg (Int32.not_lt.mpr q6), if_neg q24]
      rfl

set_option maxRecDepth 100000 in
theorem tX7_next {Γ : CT} {w : PW} {s way : Int32}  : Cl Γ yX7_next XX7_next 1 0 0 [.int s, .int way] w (rI (nxI s way) w) := by
  refine Cl.of (ls := [some (.int s), some (.int way), none, none]) rfl (by decide +kernel) (fun h => by cases h) (Nat.le_of_ble_eq_true rfl) rfl ?_
  refine r_iload_n 1 dX7_next_0 rfl rfl ?_
  refine r_callS0 4 dX7_next_1 rfl (tX7_columnOf) l_X7_65 mX7_columnOf rfl (by decide) (Nat.le_of_ble_eq_true rfl) (by decide) (qI ?_)
  refine r_iload_n 5 dX7_next_4 rfl rfl ?_
  refine r_iconst (v := 2) 6 dX7_next_5 rfl (by decide) ?_
  refine r_irem 7 dX7_next_6 rfl (by decide) ?_
  refine r_if_ne 14 10 dX7_next_7 (by decide) rfl (fun q24 => ?_) (fun q24 => ?_)
  · refine r_bipush (v := 11) 16 dX7_next_14 rfl (by decide) ?_
    refine r_iadd 17 dX7_next_16 rfl ?_
    refine r_bipush (v := 12) 19 dX7_next_17 rfl (by decide) ?_
    refine r_irem 20 dX7_next_19 rfl (by decide) ?_
    refine r_istore_n (ls1 := [_, _, _, _]) 21 dX7_next_20 rfl (by decide) rfl rfl ?_
    refine r_iload_n 22 dX7_next_21 rfl rfl ?_
    refine r_callS0 25 dX7_next_22 rfl (tX7_rowOf) l_X7_69 mX7_rowOf rfl (by decide) (Nat.le_of_ble_eq_true rfl) (by decide) (qI ?_)
    refine r_iload_n 26 dX7_next_25 rfl rfl ?_
    refine r_iconst (v := 2) 27 dX7_next_26 rfl (by decide) ?_
    refine r_icmp_ge 34 30 dX7_next_27 (by decide) rfl (fun q6 => ?_) (fun q6 => ?_)
    · refine r_bipush (v := 7) 36 dX7_next_34 rfl (by decide) ?_
      refine r_iadd 37 dX7_next_36 rfl ?_
      refine r_bipush (v := 8) 39 dX7_next_37 rfl (by decide) ?_
      refine r_irem 40 dX7_next_39 rfl (by decide) ?_
      refine r_istore_n (ls1 := [_, _, _, _]) 41 dX7_next_40 rfl (by decide) rfl rfl ?_
      refine r_bipush (v := 6) 43 dX7_next_41 rfl (by decide) ?_
      refine r_iload_n 44 dX7_next_43 rfl rfl ?_
      refine r_imul 45 dX7_next_44 rfl ?_
      refine r_iload_n 46 dX7_next_45 rfl rfl ?_
      refine r_iconst (v := 2) 47 dX7_next_46 rfl (by decide) ?_
      refine r_idiv 48 dX7_next_47 rfl (by decide) ?_
      refine r_iadd 49 dX7_next_48 rfl ?_
      refine r_iret dX7_next_49 rfl (by decide) (by decide) ?_
      refine ⟨?_, rfl⟩
      first | rw [nxI, if_pos (Int32.not_le.mp q6), if_pos q24] | rw [nxI, if_pos (Int32.not_le.mp q6), if_neg q24] | rw [nxI, if_neg (Int32.not_lt.mpr q6), if_pos q24] | rw [nxI, if_neg (Int32.not_lt.mpr q6), if_neg q24]
      rfl
    · refine r_iconst (v := 1) 31 dX7_next_30 rfl (by decide) ?_
      refine r_goto 36 dX7_next_31 (by decide) ?_
      refine r_iadd 37 dX7_next_36 rfl ?_
      refine r_bipush (v := 8) 39 dX7_next_37 rfl (by decide) ?_
      refine r_irem 40 dX7_next_39 rfl (by decide) ?_
      refine r_istore_n (ls1 := [_, _, _, _]) 41 dX7_next_40 rfl (by decide) rfl rfl ?_
      refine r_bipush (v := 6) 43 dX7_next_41 rfl (by decide) ?_
      refine r_iload_n 44 dX7_next_43 rfl rfl ?_
      refine r_imul 45 dX7_next_44 rfl ?_
      refine r_iload_n 46 dX7_next_45 rfl rfl ?_
      refine r_iconst (v := 2) 47 dX7_next_46 rfl (by decide) ?_
      refine r_idiv 48 dX7_next_47 rfl (by decide) ?_
      refine r_iadd 49 dX7_next_48 rfl ?_
      refine r_iret dX7_next_49 rfl (by decide) (by decide) ?_
      refine ⟨?_, rfl⟩
      first | rw [nxI, if_pos (Int32.not_le.mp q6), if_pos q24] | rw [nxI, if_pos (Int32.not_le.mp q6), if_neg q24] | rw [nxI, if_neg (Int32.not_lt.mpr q6), if_pos q24] | rw [nxI, if_neg (Int32.not_lt.mpr q6), if_neg q24]
      rfl
  · refine r_iconst (v := 1) 11 dX7_next_10 rfl (by decide) ?_
    refine r_goto 16 dX7_next_11 (by decide) ?_
    refine r_iadd 17 dX7_next_16 rfl ?_
    refine r_bipush (v := 12) 19 dX7_next_17 rfl (by decide) ?_
    refine r_irem 20 dX7_next_19 rfl (by decide) ?_
    refine r_istore_n (ls1 := [_, _, _, _]) 21 dX7_next_20 rfl (by decide) rfl rfl ?_
    refine r_iload_n 22 dX7_next_21 rfl rfl ?_
    refine r_callS0 25 dX7_next_22 rfl (tX7_rowOf) l_X7_69 mX7_rowOf rfl (by decide) (Nat.le_of_ble_eq_true rfl) (by decide) (qI ?_)
    refine r_iload_n 26 dX7_next_25 rfl rfl ?_
    refine r_iconst (v := 2) 27 dX7_next_26 rfl (by decide) ?_
    refine r_icmp_ge 34 30 dX7_next_27 (by decide) rfl (fun q6 => ?_) (fun q6 => ?_)
    · refine r_bipush (v := 7) 36 dX7_next_34 rfl (by decide) ?_
      refine r_iadd 37 dX7_next_36 rfl ?_
      refine r_bipush (v := 8) 39 dX7_next_37 rfl (by decide) ?_
      refine r_irem 40 dX7_next_39 rfl (by decide) ?_
      refine r_istore_n (ls1 := [_, _, _, _]) 41 dX7_next_40 rfl (by decide) rfl rfl ?_
      refine r_bipush (v := 6) 43 dX7_next_41 rfl (by decide) ?_
      refine r_iload_n 44 dX7_next_43 rfl rfl ?_
      refine r_imul 45 dX7_next_44 rfl ?_
      refine r_iload_n 46 dX7_next_45 rfl rfl ?_
      refine r_iconst (v := 2) 47 dX7_next_46 rfl (by decide) ?_
      refine r_idiv 48 dX7_next_47 rfl (by decide) ?_
      refine r_iadd 49 dX7_next_48 rfl ?_
      refine r_iret dX7_next_49 rfl (by decide) (by decide) ?_
      refine ⟨?_, rfl⟩
      first | rw [nxI, if_pos (Int32.not_le.mp q6), if_pos q24] | rw [nxI, if_pos (Int32.not_le.mp q6), if_neg q24] | rw [nxI, if_neg (Int32.not_lt.mpr q6), if_pos q24] | rw [nxI, if_neg (Int32.not_lt.mpr q6), if_neg q24]
      rfl
    · refine r_iconst (v := 1) 31 dX7_next_30 rfl (by decide) ?_
      refine r_goto 36 dX7_next_31 (by decide) ?_
      refine r_iadd 37 dX7_next_36 rfl ?_
      refine r_bipush (v := 8) 39 dX7_next_37 rfl (by decide) ?_
      refine r_irem 40 dX7_next_39 rfl (by decide) ?_
      refine r_istore_n (ls1 := [_, _, _, _]) 41 dX7_next_40 rfl (by decide) rfl rfl ?_
      refine r_bipush (v := 6) 43 dX7_next_41 rfl (by decide) ?_
      refine r_iload_n 44 dX7_next_43 rfl rfl ?_
      refine r_imul 45 dX7_next_44 rfl ?_
      refine r_iload_n 46 dX7_next_45 rfl rfl ?_
      refine r_iconst (v := 2) 47 dX7_next_46 rfl (by decide) ?_
      refine r_idiv 48 dX7_next_47 rfl (by decide) ?_
      refine r_iadd 49 dX7_next_48 rfl ?_
      refine r_iret dX7_next_49 rfl (by decide) (by decide) ?_
      refine ⟨?_, rfl⟩
      first | rw [nxI, if_pos (Int32.not_le.mp q6), if_pos q24] | rw [nxI, if_pos (Int32.not_le.mp q6), if_neg q24] | rw [nxI, if_neg (Int32.not_lt.mpr q6), if_pos q24] | rw [nxI, if_neg (Int32.not_lt.mpr q6), if_neg q24]
      rfl

set_option maxRecDepth 100000 in
theorem tX0_pieceAt {Γ : CT} {w : PW} {b : Nat} {f n : Nat → Int32} {mv jp : Int32} {s : Int32} (hb : isBd w b f n mv jp) : Cl Γ yX0_pieceAt XX0_pieceAt 0 0 0 [.ref b, .int s] w (rI (pAt f s) w) := by
  refine Cl.of (ls := [some (.ref b), some (.int s)]) rfl (by decide +kernel) (fun h => by cases h) (Nat.le_of_ble_eq_true rfl) rfl ?_
  obtain ⟨h0, h1, h2⟩ := id hb
  refine r_iload_n 1 dX0_pieceAt_0 rfl rfl ?_
  refine r_if_lt 22 4 dX0_pieceAt_1 (by decide) rfl (fun q1 => ?_) (fun q1 => ?_)
  · refine r_bipush (v := (-6)) 24 dX0_pieceAt_22 rfl (by decide) ?_
    refine r_iret dX0_pieceAt_24 rfl (by decide) (by decide) ?_
    first | exact ⟨by rw [pAt_nI hj], rfl⟩ | exact ⟨by rw [pAt_out (Or.inl q1)], rfl⟩ | exact ⟨by rw [pAt_out (Or.inr q10)], rfl⟩
  · refine r_iload_n 5 dX0_pieceAt_4 rfl rfl ?_
    refine r_aload_n 6 dX0_pieceAt_5 rfl rfl rfl ?_
    refine r_getf 9 dX0_pieceAt_6 rfl f_X0_9.r (by repeat (first | assumption | refine gs_eq ?_ | refine gs_ne (by omega) ?_ | exact is_of (by assumption) | refine gs_is ?_)) rfl ?_
    refine r_alenI 10 dX0_pieceAt_9 rfl (by repeat (first | assumption | refine gs_eq ?_ | refine gs_ne (by omega) ?_ | exact is_of (by assumption) | refine gs_is ?_)) ?_
    refine r_icmp_ge 22 13 dX0_pieceAt_10 (by decide) rfl (fun q10 => ?_) (fun q10 => ?_)
    · refine r_bipush (v := (-6)) 24 dX0_pieceAt_22 rfl (by decide) ?_
      refine r_iret dX0_pieceAt_24 rfl (by decide) (by decide) ?_
      first | exact ⟨by rw [pAt_nI hj], rfl⟩ | exact ⟨by rw [pAt_out (Or.inl q1)], rfl⟩ | exact ⟨by rw [pAt_out (Or.inr q10)], rfl⟩
    · refine r_aload_n 14 dX0_pieceAt_13 rfl rfl rfl ?_
      refine r_getf 17 dX0_pieceAt_14 rfl f_X0_9.r (by repeat (first | assumption | refine gs_eq ?_ | refine gs_ne (by omega) ?_ | exact is_of (by assumption) | refine gs_is ?_)) rfl ?_
      refine r_iload_n 18 dX0_pieceAt_17 rfl rfl ?_
      obtain ⟨j, hj, rfl⟩ := ix_of q1 q10 (by decide)
      refine r_iald 19 dX0_pieceAt_18 rfl (j) (by repeat (first | assumption | refine gs_eq ?_ | refine gs_ne (by omega) ?_ | exact is_of (by assumption) | refine gs_is ?_)) rfl hj (by decide) ?_
      refine r_goto 24 dX0_pieceAt_19 (by decide) ?_
      refine r_iret dX0_pieceAt_24 rfl (by decide) (by decide) ?_
      first | exact ⟨by rw [pAt_nI hj], rfl⟩ | exact ⟨by rw [pAt_out (Or.inl q1)], rfl⟩ | exact ⟨by rw [pAt_out (Or.inr q10)], rfl⟩

set_option maxRecDepth 100000 in
theorem tX0_numberOf {Γ : CT} {w : PW} {b : Nat} {f n : Nat → Int32} {mv jp : Int32} {s : Int32} (hb : isBd w b f n mv jp) : Cl Γ yX0_numberOf XX0_numberOf 0 0 0 [.ref b, .int s] w (rI (nOf n s) w) := by
  refine Cl.of (ls := [some (.ref b), some (.int s)]) rfl (by decide +kernel) (fun h => by cases h) (Nat.le_of_ble_eq_true rfl) rfl ?_
  obtain ⟨h0, h1, h2⟩ := id hb
  refine r_iload_n 1 dX0_numberOf_0 rfl rfl ?_
  refine r_if_lt 22 4 dX0_numberOf_1 (by decide) rfl (fun q1 => ?_) (fun q1 => ?_)
  · refine r_iconst (v := 0) 23 dX0_numberOf_22 rfl (by decide) ?_
    refine r_iret dX0_numberOf_23 rfl (by decide) (by decide) ?_
    first | exact ⟨by rw [nOf_nI hj], rfl⟩ | exact ⟨by rw [nOf_out (Or.inl q1)], rfl⟩ | exact ⟨by rw [nOf_out (Or.inr q10)], rfl⟩
  · refine r_iload_n 5 dX0_numberOf_4 rfl rfl ?_
    refine r_aload_n 6 dX0_numberOf_5 rfl rfl rfl ?_
    refine r_getf 9 dX0_numberOf_6 rfl f_X0_15.r (by repeat (first | assumption | refine gs_eq ?_ | refine gs_ne (by omega) ?_ | exact is_of (by assumption) | refine gs_is ?_)) rfl ?_
    refine r_alenI 10 dX0_numberOf_9 rfl (by repeat (first | assumption | refine gs_eq ?_ | refine gs_ne (by omega) ?_ | exact is_of (by assumption) | refine gs_is ?_)) ?_
    refine r_icmp_ge 22 13 dX0_numberOf_10 (by decide) rfl (fun q10 => ?_) (fun q10 => ?_)
    · refine r_iconst (v := 0) 23 dX0_numberOf_22 rfl (by decide) ?_
      refine r_iret dX0_numberOf_23 rfl (by decide) (by decide) ?_
      first | exact ⟨by rw [nOf_nI hj], rfl⟩ | exact ⟨by rw [nOf_out (Or.inl q1)], rfl⟩ | exact ⟨by rw [nOf_out (Or.inr q10)], rfl⟩
    · refine r_aload_n 14 dX0_numberOf_13 rfl rfl rfl ?_
      refine r_getf 17 dX0_numberOf_14 rfl f_X0_15.r (by repeat (first | assumption | refine gs_eq ?_ | refine gs_ne (by omega) ?_ | exact is_of (by assumption) | refine gs_is ?_)) rfl ?_
      refine r_iload_n 18 dX0_numberOf_17 rfl rfl ?_
      obtain ⟨j, hj, rfl⟩ := ix_of q1 q10 (by decide)
      refine r_iald 19 dX0_numberOf_18 rfl (j) (by repeat (first | assumption | refine gs_eq ?_ | refine gs_ne (by omega) ?_ | exact is_of (by assumption) | refine gs_is ?_)) rfl hj (by decide) ?_
      refine r_goto 23 dX0_numberOf_19 (by decide) ?_
      refine r_iret dX0_numberOf_23 rfl (by decide) (by decide) ?_
      first | exact ⟨by rw [nOf_nI hj], rfl⟩ | exact ⟨by rw [nOf_out (Or.inl q1)], rfl⟩ | exact ⟨by rw [nOf_out (Or.inr q10)], rfl⟩

set_option maxRecDepth 100000 in
theorem tX0_addToNumber {Γ : CT} {w : PW} {b : Nat} {f n : Nat → Int32} {mv jp : Int32} {s m : Int32} (hb : isBd w b f n mv jp) : Cl Γ yX0_addToNumber XX0_addToNumber 0 0 0 [.ref b, .int s, .int m] w (rN (toBd w b f (adN n s m) mv jp)) := by
  refine Cl.of (ls := [some (.ref b), some (.int s), some (.int m)]) rfl (by decide +kernel) (fun h => by cases h) (Nat.le_of_ble_eq_true rfl) rfl ?_
  obtain ⟨h0, h1, h2⟩ := id hb
  refine r_iload_n 1 dX0_addToNumber_0 rfl rfl ?_
  refine r_if_lt 23 4 dX0_addToNumber_1 (by decide) rfl (fun q1 => ?_) (fun q1 => ?_)
  · refine r_vret dX0_addToNumber_23 rfl (by decide) (by decide) ?_
    first | exact ⟨rfl, by rw [adN_nI hj]; exact hb.setN⟩ | exact ⟨rfl, by rw [adN_out (Or.inl q1)]; exact ⟨Fr.rf, hb⟩⟩ | exact ⟨rfl, by rw [adN_out (Or.inr q10)]; exact ⟨Fr.rf, hb⟩⟩
  · refine r_iload_n 5 dX0_addToNumber_4 rfl rfl ?_
    refine r_aload_n 6 dX0_addToNumber_5 rfl rfl rfl ?_
    refine r_getf 9 dX0_addToNumber_6 rfl f_X0_15.r (by repeat (first | assumption | refine gs_eq ?_ | refine gs_ne (by omega) ?_ | exact is_of (by assumption) | refine gs_is ?_)) rfl ?_
    refine r_alenI 10 dX0_addToNumber_9 rfl (by repeat (first | assumption | refine gs_eq ?_ | refine gs_ne (by omega) ?_ | exact is_of (by assumption) | refine gs_is ?_)) ?_
    refine r_icmp_ge 23 13 dX0_addToNumber_10 (by decide) rfl (fun q10 => ?_) (fun q10 => ?_)
    · refine r_vret dX0_addToNumber_23 rfl (by decide) (by decide) ?_
      first | exact ⟨rfl, by rw [adN_nI hj]; exact hb.setN⟩ | exact ⟨rfl, by rw [adN_out (Or.inl q1)]; exact ⟨Fr.rf, hb⟩⟩ | exact ⟨rfl, by rw [adN_out (Or.inr q10)]; exact ⟨Fr.rf, hb⟩⟩
    · refine r_aload_n 14 dX0_addToNumber_13 rfl rfl rfl ?_
      refine r_getf 17 dX0_addToNumber_14 rfl f_X0_15.r (by repeat (first | assumption | refine gs_eq ?_ | refine gs_ne (by omega) ?_ | exact is_of (by assumption) | refine gs_is ?_)) rfl ?_
      refine r_iload_n 18 dX0_addToNumber_17 rfl rfl ?_
      refine r_dup2 19 dX0_addToNumber_18 rfl rfl rfl ?_
      obtain ⟨j, hj, rfl⟩ := ix_of q1 q10 (by decide)
      refine r_iald 20 dX0_addToNumber_19 rfl (j) (by repeat (first | assumption | refine gs_eq ?_ | refine gs_ne (by omega) ?_ | exact is_of (by assumption) | refine gs_is ?_)) rfl hj (by decide) ?_
      refine r_iload_n 21 dX0_addToNumber_20 rfl rfl ?_
      refine r_iadd 22 dX0_addToNumber_21 rfl ?_
      refine r_iast 23 dX0_addToNumber_22 rfl (j) (by repeat (first | assumption | refine gs_eq ?_ | refine gs_ne (by omega) ?_ | exact is_of (by assumption) | refine gs_is ?_)) rfl hj (by decide) ?_
      refine r_vret dX0_addToNumber_23 rfl (by decide) (by decide) ?_
      first | exact ⟨rfl, by rw [adN_nI hj]; exact hb.setN⟩ | exact ⟨rfl, by rw [adN_out (Or.inl q1)]; exact ⟨Fr.rf, hb⟩⟩ | exact ⟨rfl, by rw [adN_out (Or.inr q10)]; exact ⟨Fr.rf, hb⟩⟩

def menO (n : Nat → Int32) (s : Int32) : Int32 := nOf n (if s = 0 then 0 else 2)
def kngO (n : Nat → Int32) (s : Int32) : Int32 := nOf n (if s = 0 then 1 else 3)
set_option maxRecDepth 100000 in
theorem tX0_menOf {Γ : CT} {w : PW} {b : Nat} {f n : Nat → Int32} {mv jp : Int32} {s : Int32} (hb : isBd w b f n mv jp) : Cl Γ yX0_menOf XX0_menOf 1 0 0 [.ref b, .int s] w (rI (menO n s) w) := by
  refine Cl.of (ls := [some (.ref b), some (.int s)]) rfl (by decide +kernel) (fun h => by cases h) (Nat.le_of_ble_eq_true rfl) rfl ?_
  obtain ⟨h0, h1, h2⟩ := id hb
  refine r_aload_n 1 dX0_menOf_0 rfl rfl rfl ?_
  refine r_iload_n 2 dX0_menOf_1 rfl rfl ?_
  refine r_if_ne 9 5 dX0_menOf_2 (by decide) rfl (fun q2 => ?_) (fun q2 => ?_)
  · refine r_iconst (v := 2) 10 dX0_menOf_9 rfl (by decide) ?_
    refine r_callV0 13 dX0_menOf_10 rfl (tX0_numberOf hb) l_X0_44 mX0_numberOf rfl (by repeat (first | assumption | refine gs_eq ?_ | refine gs_ne (by omega) ?_ | exact is_of (by assumption) | refine gs_is ?_)) rfl (by decide) (Nat.le_of_ble_eq_true rfl) (by decide) (qI ?_)
    refine r_iret dX0_menOf_13 rfl (by decide) (by decide) ?_
    first | exact ⟨by rw [menO, if_pos q2], rfl⟩ | exact ⟨by rw [menO, if_neg q2], rfl⟩
  · refine r_iconst (v := 0) 6 dX0_menOf_5 rfl (by decide) ?_
    refine r_goto 10 dX0_menOf_6 (by decide) ?_
    refine r_callV0 13 dX0_menOf_10 rfl (tX0_numberOf hb) l_X0_44 mX0_numberOf rfl (by repeat (first | assumption | refine gs_eq ?_ | refine gs_ne (by omega) ?_ | exact is_of (by assumption) | refine gs_is ?_)) rfl (by decide) (Nat.le_of_ble_eq_true rfl) (by decide) (qI ?_)
    refine r_iret dX0_menOf_13 rfl (by decide) (by decide) ?_
    first | exact ⟨by rw [menO, if_pos q2], rfl⟩ | exact ⟨by rw [menO, if_neg q2], rfl⟩

set_option maxRecDepth 100000 in
theorem tX0_kingsOf {Γ : CT} {w : PW} {b : Nat} {f n : Nat → Int32} {mv jp : Int32} {s : Int32} (hb : isBd w b f n mv jp) : Cl Γ yX0_kingsOf XX0_kingsOf 1 0 0 [.ref b, .int s] w (rI (kngO n s) w) := by
  refine Cl.of (ls := [some (.ref b), some (.int s)]) rfl (by decide +kernel) (fun h => by cases h) (Nat.le_of_ble_eq_true rfl) rfl ?_
  obtain ⟨h0, h1, h2⟩ := id hb
  refine r_aload_n 1 dX0_kingsOf_0 rfl rfl rfl ?_
  refine r_iload_n 2 dX0_kingsOf_1 rfl rfl ?_
  refine r_callSN0 5 dX0_kingsOf_2 rfl (tX6_kingOf) l_X0_48 mX6_kingOf rfl (by decide) (Nat.le_of_ble_eq_true rfl) (by decide) (qI ?_)
  refine r_callV0 8 dX0_kingsOf_5 rfl (tX0_numberOf hb) l_X0_44 mX0_numberOf rfl (by repeat (first | assumption | refine gs_eq ?_ | refine gs_ne (by omega) ?_ | exact is_of (by assumption) | refine gs_is ?_)) rfl (by decide) (Nat.le_of_ble_eq_true rfl) (by decide) (qI ?_)
  refine r_iret dX0_kingsOf_8 rfl (by decide) (by decide) ?_
  exact ⟨rfl, rfl⟩

set_option maxRecDepth 100000 in
theorem tX0_piecesOf {Γ : CT} {w : PW} {b : Nat} {f n : Nat → Int32} {mv jp : Int32} {s : Int32} (hb : isBd w b f n mv jp) : Cl Γ yX0_piecesOf XX0_piecesOf 2 0 0 [.ref b, .int s] w (rI (menO n s + kngO n s) w) := by
  refine Cl.of (ls := [some (.ref b), some (.int s)]) rfl (by decide +kernel) (fun h => by cases h) (Nat.le_of_ble_eq_true rfl) rfl ?_
  obtain ⟨h0, h1, h2⟩ := id hb
  refine r_aload_n 1 dX0_piecesOf_0 rfl rfl rfl ?_
  refine r_iload_n 2 dX0_piecesOf_1 rfl rfl ?_
  refine r_callV0 5 dX0_piecesOf_2 rfl (tX0_menOf hb) l_X0_51 mX0_menOf rfl (by repeat (first | assumption | refine gs_eq ?_ | refine gs_ne (by omega) ?_ | exact is_of (by assumption) | refine gs_is ?_)) rfl (by decide) (Nat.le_of_ble_eq_true rfl) (by decide) (qI ?_)
  refine r_aload_n 6 dX0_piecesOf_5 rfl rfl rfl ?_
  refine r_iload_n 7 dX0_piecesOf_6 rfl rfl ?_
  refine r_callV0 10 dX0_piecesOf_7 rfl (tX0_kingsOf hb) l_X0_54 mX0_kingsOf rfl (by repeat (first | assumption | refine gs_eq ?_ | refine gs_ne (by omega) ?_ | exact is_of (by assumption) | refine gs_is ?_)) rfl (by decide) (Nat.le_of_ble_eq_true rfl) (by decide) (qI ?_)
  refine r_iadd 11 dX0_piecesOf_10 rfl ?_
  refine r_iret dX0_piecesOf_11 rfl (by decide) (by decide) ?_
  exact ⟨rfl, rfl⟩

set_option maxRecDepth 100000 in
theorem tX0_worthOf {Γ : CT} {w : PW} {b : Nat} {f n : Nat → Int32} {mv jp : Int32} {s : Int32} (hb : isBd w b f n mv jp) : Cl Γ yX0_worthOf XX0_worthOf 2 0 0 [.ref b, .int s] w (rI (menO n s + 3 * kngO n s) w) := by
  refine Cl.of (ls := [some (.ref b), some (.int s)]) rfl (by decide +kernel) (fun h => by cases h) (Nat.le_of_ble_eq_true rfl) rfl ?_
  obtain ⟨h0, h1, h2⟩ := id hb
  refine r_aload_n 1 dX0_worthOf_0 rfl rfl rfl ?_
  refine r_iload_n 2 dX0_worthOf_1 rfl rfl ?_
  refine r_callV0 5 dX0_worthOf_2 rfl (tX0_menOf hb) l_X0_51 mX0_menOf rfl (by repeat (first | assumption | refine gs_eq ?_ | refine gs_ne (by omega) ?_ | exact is_of (by assumption) | refine gs_is ?_)) rfl (by decide) (Nat.le_of_ble_eq_true rfl) (by decide) (qI ?_)
  refine r_iconst (v := 3) 6 dX0_worthOf_5 rfl (by decide) ?_
  refine r_aload_n 7 dX0_worthOf_6 rfl rfl rfl ?_
  refine r_iload_n 8 dX0_worthOf_7 rfl rfl ?_
  refine r_callV0 11 dX0_worthOf_8 rfl (tX0_kingsOf hb) l_X0_54 mX0_kingsOf rfl (by repeat (first | assumption | refine gs_eq ?_ | refine gs_ne (by omega) ?_ | exact is_of (by assumption) | refine gs_is ?_)) rfl (by decide) (Nat.le_of_ble_eq_true rfl) (by decide) (qI ?_)
  refine r_imul 12 dX0_worthOf_11 rfl ?_
  refine r_iadd 13 dX0_worthOf_12 rfl ?_
  refine r_iret dX0_worthOf_13 rfl (by decide) (by decide) ?_
  exact ⟨rfl, rfl⟩

set_option maxRecDepth 100000 in
theorem tX0_place {Γ : CT} {w : PW} {b : Nat} {f n : Nat → Int32} {mv jp : Int32} {s p : Int32} (hb : isBd w b f n mv jp) : Cl Γ yX0_place XX0_place 1 0 0 [.ref b, .int s, .int p] w (rN (toBd w b (plF f s p) (plN f n s p) mv jp)) := by
  refine Cl.of (ls := [some (.ref b), some (.int s), some (.int p)]) rfl (by decide +kernel) (fun h => by cases h) (Nat.le_of_ble_eq_true rfl) rfl ?_
  obtain ⟨h0, h1, h2⟩ := id hb
  refine r_iload_n 1 dX0_place_0 rfl rfl ?_
  refine r_if_lt 13 4 dX0_place_1 (by decide) rfl (fun q1 => ?_) (fun q1 => ?_)
  · refine r_vret dX0_place_13 rfl (by decide) (by decide) ?_
    first | exact ⟨rfl, by rw [plF_out (Or.inl q1), plN_out (Or.inl q1)]; exact ⟨Fr.rf, hb⟩⟩ | exact ⟨rfl, by rw [plF_out (Or.inr (Int32.not_lt.mp q10)), plN_out (Or.inr (Int32.not_lt.mp q10))]; exact ⟨Fr.rf, hb⟩⟩
  · refine r_iload_n 5 dX0_place_4 rfl rfl ?_
    refine r_aload_n 6 dX0_place_5 rfl rfl rfl ?_
    refine r_getf 9 dX0_place_6 rfl f_X0_9.r (by repeat (first | assumption | refine gs_eq ?_ | refine gs_ne (by omega) ?_ | exact is_of (by assumption) | refine gs_is ?_)) rfl ?_
    refine r_alenI 10 dX0_place_9 rfl (by repeat (first | assumption | refine gs_eq ?_ | refine gs_ne (by omega) ?_ | exact is_of (by assumption) | refine gs_is ?_)) ?_
    refine r_icmp_lt 14 13 dX0_place_10 (by decide) rfl (fun q10 => ?_) (fun q10 => ?_)
    · obtain ⟨j, hj, rfl⟩ := ix_of q1 (Int32.not_le.mpr q10) (by decide)
      refine r_aload_n 15 dX0_place_14 rfl rfl rfl ?_
      refine r_aload_n 16 dX0_place_15 rfl rfl rfl ?_
      refine r_getf 19 dX0_place_16 rfl f_X0_9.r (by repeat (first | assumption | refine gs_eq ?_ | refine gs_ne (by omega) ?_ | exact is_of (by assumption) | refine gs_is ?_)) rfl ?_
      refine r_iload_n 20 dX0_place_19 rfl rfl ?_
      refine r_iald 21 dX0_place_20 rfl (j) (by repeat (first | assumption | refine gs_eq ?_ | refine gs_ne (by omega) ?_ | exact is_of (by assumption) | refine gs_is ?_)) rfl hj (by decide) ?_
      refine r_iconst (v := (-1)) 22 dX0_place_21 rfl (by decide) ?_
      refine r_callV0 25 dX0_place_22 rfl (tX0_addToNumber hb) l_X0_41 mX0_addToNumber rfl (by repeat (first | assumption | refine gs_eq ?_ | refine gs_ne (by omega) ?_ | exact is_of (by assumption) | refine gs_is ?_)) rfl (by decide) (Nat.le_of_ble_eq_true rfl) (by decide) (qN fun w1 hq1 => ?_)
      obtain ⟨h0, h1, h2⟩ := id hq1.2
      refine r_aload_n 26 dX0_place_25 rfl rfl rfl ?_
      refine r_iload_n 27 dX0_place_26 rfl rfl ?_
      refine r_iconst (v := 1) 28 dX0_place_27 rfl (by decide) ?_
      refine r_callV0 31 dX0_place_28 rfl (tX0_addToNumber hq1.2) l_X0_41 mX0_addToNumber rfl (by repeat (first | assumption | refine gs_eq ?_ | refine gs_ne (by omega) ?_ | exact is_of (by assumption) | refine gs_is ?_)) rfl (by decide) (Nat.le_of_ble_eq_true rfl) (by decide) (qN fun w2 hq2 => ?_)
      obtain ⟨h0, h1, h2⟩ := id hq2.2
      refine r_aload_n 32 dX0_place_31 rfl rfl rfl ?_
      refine r_getf 35 dX0_place_32 rfl f_X0_9.r (by repeat (first | assumption | refine gs_eq ?_ | refine gs_ne (by omega) ?_ | exact is_of (by assumption) | refine gs_is ?_)) rfl ?_
      refine r_iload_n 36 dX0_place_35 rfl rfl ?_
      refine r_iload_n 37 dX0_place_36 rfl rfl ?_
      refine r_iast 38 dX0_place_37 rfl (j) (by repeat (first | assumption | refine gs_eq ?_ | refine gs_ne (by omega) ?_ | exact is_of (by assumption) | refine gs_is ?_)) rfl hj (by decide) ?_
      refine r_vret dX0_place_38 rfl (by decide) (by decide) ?_
      exact ⟨rfl, by rw [plF_nI hj, plN_nI hj]; exact (hq1.tr hq2).tr hq2.2.setF⟩
    · refine r_vret dX0_place_13 rfl (by decide) (by decide) ?_
      first | exact ⟨rfl, by rw [plF_out (Or.inl q1), plN_out (Or.inl q1)]; exact ⟨Fr.rf, hb⟩⟩ | exact ⟨rfl, by rw [plF_out (Or.inr (Int32.not_lt.mp q10)), plN_out (Or.inr (Int32.not_lt.mp q10))]; exact ⟨Fr.rf, hb⟩⟩
end
section
/-! ===== fill; the board emptied, filled, copied, made ===== -/
theorem fill_step {f : Nat → Int32} {i : Nat} {v : Int32} : upd (fun k => if k < i then v else f k) i v = fun k => if k < i + 1 then v else f k := by
  funext k
  unfold upd
  by_cases h : k = i
  · subst h; simp
  · by_cases h2 : k < i
    · simp [h, h2, show k < i + 1 by omega]
    · simp [h, h2, show ¬ k < i + 1 by omega]
set_option maxRecDepth 100000 in
theorem tJ7_fill {Γ : CT} {w : PW} {h N : Nat} {f : Nat → Int32} {v : Int32} (hw : w[h]? = some (aI N f)) (hN : N < 60000) : Cl Γ yJ7_fill_53178 XJ7_fill_53178 0 0 0 [.ref h, .int v] w (rN fun w1 => Fr w w1 (fun q => q = h) ∧ w1[h]? = some (aI N (fun _ => v))) := by
  have loop : ∀ (m i : Nat) (u : PW), i + m = N → u[h]? = some (aI N (fun k => if k < i then v else f k)) → Fr w u (fun q => q = h) → Rn Γ XJ7_fill_53178 (rmO 0 0 0) none (FinM (rN fun w1 => Fr w w1 (fun q => q = h) ∧ w1[h]? = some (aI N (fun _ => v))) 0 0) 0 0 u 5 [some (.ref h), some (.int v), some (.int (nI i)), some (.int (nI N))] [] := by
    intro m
    induction m with
    | zero =>
      intro i u hi hu hF
      refine r_iload_n 6 dJ7_fill_53178_5 rfl rfl ?_
      refine r_iload_n 7 dJ7_fill_53178_6 rfl rfl ?_
      refine r_icmp_ge 20 10 dJ7_fill_53178_7 (by decide) rfl (fun q7 => ?_) (fun q7 => absurd q7 (fun z => z (nI_le (by omega) (by omega))))
      refine r_swI (g := fun _ => v) hu (fun k hk => by rw [if_pos (by omega)]) ?_
      refine r_vret dJ7_fill_53178_20 rfl (by decide) (by decide) ?_
      exact ⟨rfl, hF.tr (Fr.st rfl), gs_eq (is_of hu)⟩
    | succ m ih =>
      intro i u hi hu hF
      refine r_iload_n 6 dJ7_fill_53178_5 rfl rfl ?_
      refine r_iload_n 7 dJ7_fill_53178_6 rfl rfl ?_
      refine r_icmp_ge 20 10 dJ7_fill_53178_7 (by decide) rfl (fun q7 => absurd q7 (nI_ge (by omega) (by omega))) (fun q7 => ?_)
      refine r_aload_n 11 dJ7_fill_53178_10 rfl rfl rfl ?_
      refine r_iload_n 12 dJ7_fill_53178_11 rfl rfl ?_
      refine r_iload_n 13 dJ7_fill_53178_12 rfl rfl ?_
      refine r_iast 14 dJ7_fill_53178_13 rfl (i) (by repeat (first | assumption | refine gs_eq ?_ | refine gs_ne (by omega) ?_ | exact is_of (by assumption) | refine gs_is ?_)) rfl (by omega) (by omega) ?_
      refine r_iinc (ls1 := [_, _, _, _]) 17 dJ7_fill_53178_14 rfl (by decide) rfl rfl (nI_1 i) rfl ?_
      refine r_goto 5 dJ7_fill_53178_17 (by decide) ?_
      exact ih (i + 1) _ (by omega) (by rw [← fill_step]; exact gs_eq (is_of hu)) (hF.tr (Fr.st rfl))
  refine Cl.of (ls := [some (.ref h), some (.int v), none, none]) rfl (by decide +kernel) (fun h => by cases h) (Nat.le_of_ble_eq_true rfl) rfl ?_
  refine r_iconst (v := 0) 1 dJ7_fill_53178_0 rfl (by decide) ?_
  refine r_istore_n (ls1 := [_, _, _, _]) 2 dJ7_fill_53178_1 rfl (by decide) rfl rfl ?_
  refine r_aload_n 3 dJ7_fill_53178_2 rfl rfl rfl ?_
  refine r_alenI 4 dJ7_fill_53178_3 rfl (by repeat (first | assumption | refine gs_eq ?_ | refine gs_ne (by omega) ?_ | exact is_of (by assumption) | refine gs_is ?_)) ?_
  refine r_istore_n (ls1 := [_, _, _, _]) 5 dJ7_fill_53178_4 rfl (by decide) rfl rfl ?_
  exact loop N 0 w (by omega) (by simpa using hw) Fr.rf

set_option maxRecDepth 100000 in
theorem tX0_empty {Γ : CT} {w : PW} {b : Nat} {f n : Nat → Int32} {mv jp : Int32} (hb : isBd w b f n mv jp) : Cl Γ yX0_empty XX0_empty 1 0 0 [.ref b] w (rN (toBd w b (fun _ => -6) (fun _ => 0) 0 (-6))) := by
  refine Cl.of (ls := [some (.ref b)]) rfl (by decide +kernel) (fun h => by cases h) (Nat.le_of_ble_eq_true rfl) rfl ?_
  obtain ⟨h0, h1, h2⟩ := id hb
  refine r_aload_n 1 dX0_empty_0 rfl rfl rfl ?_
  refine r_getf 4 dX0_empty_1 rfl f_X0_9.r (by repeat (first | assumption | refine gs_eq ?_ | refine gs_ne (by omega) ?_ | exact is_of (by assumption) | refine gs_is ?_)) rfl ?_
  refine r_bipush (v := (-6)) 6 dX0_empty_4 rfl (by decide) ?_
  refine r_callS0 9 dX0_empty_6 rfl (tJ7_fill h1 (by decide)) l_X0_25 mJ7_fill_53178 rfl (by decide) (Nat.le_of_ble_eq_true rfl) (by decide) (qN fun w1 hq1 => ?_)
  have g0 := hq1.1.at (by show ¬ _ = _; omega) h0
  refine r_aload_n 10 dX0_empty_9 rfl rfl rfl ?_
  refine r_getf 13 dX0_empty_10 rfl f_X0_15.r (by repeat (first | assumption | refine gs_eq ?_ | refine gs_ne (by omega) ?_ | exact is_of (by assumption) | refine gs_is ?_)) rfl ?_
  refine r_iconst (v := 0) 14 dX0_empty_13 rfl (by decide) ?_
  refine r_callS0 17 dX0_empty_14 rfl (tJ7_fill (hq1.1.at (by show ¬ _ = _; omega) h2) (by decide)) l_X0_25 mJ7_fill_53178 rfl (by decide) (Nat.le_of_ble_eq_true rfl) (by decide) (qN fun w2 hq2 => ?_)
  have g1 := hq2.1.at (by show ¬ _ = _; omega) hq1.2
  have g2 := hq2.2
  have g3 := hq2.1.at (by show ¬ _ = _; omega) g0
  have hB : toBd w b (fun _ => -6) (fun _ => 0) mv jp w2 := ⟨(hq1.1.mono (fun q e => ⟨by omega, by omega⟩)).tr (hq2.1.mono (fun q e => ⟨by omega, by omega⟩)), g3, g1, g2⟩
  refine r_aload_n 18 dX0_empty_17 rfl rfl rfl ?_
  refine r_iconst (v := 0) 19 dX0_empty_18 rfl (by decide) ?_
  refine r_putf (fs1 := [_, _, _, _]) 22 dX0_empty_19 rfl f_X0_18 (by repeat (first | assumption | refine gs_eq ?_ | refine gs_ne (by omega) ?_ | exact is_of (by assumption) | refine gs_is ?_)) rfl (by simp only [List.length_cons, List.length_nil]; omega) rfl ?_
  refine r_aload_n 23 dX0_empty_22 rfl rfl rfl ?_
  refine r_bipush (v := (-6)) 25 dX0_empty_23 rfl (by decide) ?_
  refine r_putf (fs1 := [_, _, _, _]) 28 dX0_empty_25 rfl f_X0_22 (by repeat (first | assumption | refine gs_eq ?_ | refine gs_ne (by omega) ?_ | exact is_of (by assumption) | refine gs_is ?_)) rfl (by simp only [List.length_cons, List.length_nil]; omega) rfl ?_
  refine r_vret dX0_empty_28 rfl (by decide) (by decide) ?_
  exact ⟨rfl, (hB.tr hB.2.setO).tr (hB.tr hB.2.setO).2.setO⟩

set_option maxRecDepth 100000 in
theorem tX0_copyFrom {Γ : CT} {w : PW} {b : Nat} {f n : Nat → Int32} {mv jp : Int32} {c : Nat} {f2 n2 : Nat → Int32} {mv2 jp2 : Int32} (hb : isBd w b f n mv jp) (hc : isBd w c f2 n2 mv2 jp2) (hbc : b + 3 ≤ c ∨ c + 3 ≤ b) : Cl Γ yX0_copyFrom XX0_copyFrom 1 0 0 [.ref b, .ref c] w (rN (toBd w b f2 n2 mv2 jp2)) := by
  refine Cl.of (ls := [some (.ref b), some (.ref c)]) rfl (by decide +kernel) (fun h => by cases h) (Nat.le_of_ble_eq_true rfl) rfl ?_
  obtain ⟨h0, h1, h2⟩ := id hb
  obtain ⟨c0, c1, c2⟩ := id hc
  refine r_aload_n 1 dX0_copyFrom_0 rfl rfl rfl ?_
  refine r_getf 4 dX0_copyFrom_1 rfl f_X0_9.r (by repeat (first | assumption | refine gs_eq ?_ | refine gs_ne (by omega) ?_ | exact is_of (by assumption) | refine gs_is ?_)) rfl ?_
  refine r_iconst (v := 0) 5 dX0_copyFrom_4 rfl (by decide) ?_
  refine r_aload_n 6 dX0_copyFrom_5 rfl rfl rfl ?_
  refine r_getf 9 dX0_copyFrom_6 rfl f_X0_9.r (by repeat (first | assumption | refine gs_eq ?_ | refine gs_ne (by omega) ?_ | exact is_of (by assumption) | refine gs_is ?_)) rfl ?_
  refine r_iconst (v := 0) 10 dX0_copyFrom_9 rfl (by decide) ?_
  refine r_bipush (v := 48) 12 dX0_copyFrom_10 rfl (by decide) ?_
  refine r_copyI 15 dX0_copyFrom_12 rfl (by repeat (first | assumption | refine gs_eq ?_ | refine gs_ne (by omega) ?_ | exact is_of (by assumption) | refine gs_is ?_)) (by repeat (first | assumption | refine gs_eq ?_ | refine gs_ne (by omega) ?_ | exact is_of (by assumption) | refine gs_is ?_)) rfl rfl rfl (by decide) l_X0_31 w_cp1 w_cp2 w_cp3 (Nat.le_of_ble_eq_true rfl) (by decide) ?_
  refine r_aload_n 16 dX0_copyFrom_15 rfl rfl rfl ?_
  refine r_getf 19 dX0_copyFrom_16 rfl f_X0_15.r (by repeat (first | assumption | refine gs_eq ?_ | refine gs_ne (by omega) ?_ | exact is_of (by assumption) | refine gs_is ?_)) rfl ?_
  refine r_iconst (v := 0) 20 dX0_copyFrom_19 rfl (by decide) ?_
  refine r_aload_n 21 dX0_copyFrom_20 rfl rfl rfl ?_
  refine r_getf 24 dX0_copyFrom_21 rfl f_X0_15.r (by repeat (first | assumption | refine gs_eq ?_ | refine gs_ne (by omega) ?_ | exact is_of (by assumption) | refine gs_is ?_)) rfl ?_
  refine r_iconst (v := 0) 25 dX0_copyFrom_24 rfl (by decide) ?_
  refine r_iconst (v := 4) 26 dX0_copyFrom_25 rfl (by decide) ?_
  refine r_copyI 29 dX0_copyFrom_26 rfl (by repeat (first | assumption | refine gs_eq ?_ | refine gs_ne (by omega) ?_ | exact is_of (by assumption) | refine gs_is ?_)) (by repeat (first | assumption | refine gs_eq ?_ | refine gs_ne (by omega) ?_ | exact is_of (by assumption) | refine gs_is ?_)) rfl rfl rfl (by decide) l_X0_31 w_cp1 w_cp2 w_cp3 (Nat.le_of_ble_eq_true rfl) (by decide) ?_
  refine r_aload_n 30 dX0_copyFrom_29 rfl rfl rfl ?_
  refine r_aload_n 31 dX0_copyFrom_30 rfl rfl rfl ?_
  refine r_getf 34 dX0_copyFrom_31 rfl f_X0_18.r (by repeat (first | assumption | refine gs_eq ?_ | refine gs_ne (by omega) ?_ | exact is_of (by assumption) | refine gs_is ?_)) rfl ?_
  refine r_putf (fs1 := [_, _, _, _]) 37 dX0_copyFrom_34 rfl f_X0_18 (by repeat (first | assumption | refine gs_eq ?_ | refine gs_ne (by omega) ?_ | exact is_of (by assumption) | refine gs_is ?_)) rfl (by simp only [List.length_cons, List.length_nil]; omega) rfl ?_
  refine r_aload_n 38 dX0_copyFrom_37 rfl rfl rfl ?_
  refine r_aload_n 39 dX0_copyFrom_38 rfl rfl rfl ?_
  refine r_getf 42 dX0_copyFrom_39 rfl f_X0_22.r (by repeat (first | assumption | refine gs_eq ?_ | refine gs_ne (by omega) ?_ | exact is_of (by assumption) | refine gs_is ?_)) rfl ?_
  refine r_putf (fs1 := [_, _, _, _]) 45 dX0_copyFrom_42 rfl f_X0_22 (by repeat (first | assumption | refine gs_eq ?_ | refine gs_ne (by omega) ?_ | exact is_of (by assumption) | refine gs_is ?_)) rfl (by simp only [List.length_cons, List.length_nil]; omega) rfl ?_
  refine r_vret dX0_copyFrom_45 rfl (by decide) (by decide) ?_
  exact ⟨rfl, (((hb.setF).tr (hb.setF).2.setN).tr ((hb.setF).tr (hb.setF).2.setN).2.setO).tr ((((hb.setF).tr (hb.setF).2.setN).tr ((hb.setF).tr (hb.setF).2.setN).2.setO)).2.setO⟩

def rowF (f : Nat → Int32) (p : Int32) (r : Nat) : Nat → (Nat → Int32)
  | 0 => f
  | i + 1 => plF (rowF f p r i) (nI (r * 6 + i)) p
def rowN (f n : Nat → Int32) (p : Int32) (r : Nat) : Nat → (Nat → Int32)
  | 0 => n
  | i + 1 => plN (rowF f p r i) (rowN f n p r i) (nI (r * 6 + i)) p
set_option maxRecDepth 100000 in
theorem tX0_fillRow {Γ : CT} {w : PW} {b : Nat} {f n : Nat → Int32} {mv jp : Int32} {p : Int32} {r : Nat} (hb : isBd w b f n mv jp) : Cl Γ yX0_fillRow XX0_fillRow 2 0 0 [.ref b, .int (nI r), .int p] w (rN (toBd w b (rowF f p r 6) (rowN f n p r 6) mv jp)) := by
  have loop : ∀ (m i : Nat) (u : PW), i + m = 6 → toBd w b (rowF f p r i) (rowN f n p r i) mv jp u → Rn Γ XX0_fillRow (rmO 2 0 0) none (FinM (rN (toBd w b (rowF f p r 6) (rowN f n p r 6) mv jp)) 0 0) 0 0 u 2 [some (.ref b), some (.int (nI r)), some (.int p), some (.int (nI i))] [] := by
    intro m
    induction m with
    | zero =>
      intro i u hi hu
      have h6 : i = 6 := by omega
      subst h6
      refine r_iload_n 3 dX0_fillRow_2 rfl rfl ?_
      refine r_bipush (v := nI 6) 5 dX0_fillRow_3 rfl (by decide) ?_
      refine r_icmp_ge 25 8 dX0_fillRow_5 (by decide) rfl (fun q5 => ?_) (fun q5 => absurd q5 (fun z => z (nI_le (by omega) (by omega))))
      refine r_vret dX0_fillRow_25 rfl (by decide) (by decide) ?_
      exact ⟨rfl, hu⟩
    | succ m ih =>
      intro i u hi hu
      obtain ⟨h0, h1, h2⟩ := id hu.2
      refine r_iload_n 3 dX0_fillRow_2 rfl rfl ?_
      refine r_bipush (v := nI 6) 5 dX0_fillRow_3 rfl (by decide) ?_
      refine r_icmp_ge 25 8 dX0_fillRow_5 (by decide) rfl (fun q5 => absurd q5 (nI_ge (by omega) (by omega))) (fun q5 => ?_)
      refine r_aload_n 9 dX0_fillRow_8 rfl rfl rfl ?_
      refine r_iload_n 10 dX0_fillRow_9 rfl rfl ?_
      refine r_bipush (v := nI 6) 12 dX0_fillRow_10 rfl (by decide) ?_
      refine r_imul 13 dX0_fillRow_12 rfl ?_
      refine r_iload_n 14 dX0_fillRow_13 rfl rfl ?_
      refine r_iadd 15 dX0_fillRow_14 rfl ?_
      refine r_iload_n 16 dX0_fillRow_15 rfl rfl ?_
      rw [pk_mul, nI_add]
      refine r_callV0 19 dX0_fillRow_16 rfl (tX0_place hu.2) l_X0_37 mX0_place rfl (by repeat (first | assumption | refine gs_eq ?_ | refine gs_ne (by omega) ?_ | exact is_of (by assumption) | refine gs_is ?_)) rfl (by decide) (Nat.le_of_ble_eq_true rfl) (by decide) (qN fun w1 hq1 => ?_)
      refine r_iinc (ls1 := [_, _, _, _]) 22 dX0_fillRow_19 rfl (by decide) rfl rfl (nI_1 i) rfl ?_
      refine r_goto 2 dX0_fillRow_22 (by decide) ?_
      exact ih (i + 1) _ (by omega) (hu.tr hq1)
  refine Cl.of (ls := [some (.ref b), some (.int (nI r)), some (.int p), none]) rfl (by decide +kernel) (fun h => by cases h) (Nat.le_of_ble_eq_true rfl) rfl ?_
  refine r_iconst (v := 0) 1 dX0_fillRow_0 rfl (by decide) ?_
  refine r_istore_n (ls1 := [_, _, _, _]) 2 dX0_fillRow_1 rfl (by decide) rfl rfl ?_
  exact loop 6 0 w (by omega) ⟨Fr.rf, hb⟩
end
section
/-! ===== what can be jumped over; whether there is a hop ===== -/
theorem tX0_pAt {Γ : CT} {w : PW} {b : Nat} {f n : Nat → Int32} {mv jp : Int32} (hb : isBd w b f n mv jp) {j : Nat} (hj : j < 48) : Cl Γ yX0_pieceAt XX0_pieceAt 0 0 0 [.ref b, .int (nI j)] w (rI (f j) w) := by
  rw [← pAt_nI (f := f) hj]
  exact tX0_pieceAt hb
theorem tX6_sq {Γ : CT} {w : PW} {s way k : Nat} (hs : s < 48) (hw : way < 4) (hk : k < 24) : Cl Γ yX6_squareAfter XX6_squareAfter 1 0 0 [.int (nI s), .int (nI way), .int (nI k)] w (rI (nI (nk s way k)) w) := by
  rw [← sqI_nk hs hw hk]
  exact tX6_squareAfter
theorem tX6_sq1 {Γ : CT} {w : PW} {s way : Nat} (hs : s < 48) (hw : way < 4) : Cl Γ yX6_squareAfter XX6_squareAfter 1 0 0 [.int (nI s), .int (nI way), .int (nI 1)] w (rI (nI (nx s way)) w) := tX6_sq (k := 1) hs hw (by decide)
def fe (f : Nat → Int32) (s way : Nat) : Nat → Nat → Nat
  | 0, k => k
  | n + 1, k => if f (nk s way k) = -6 then fe f s way n (k + 1) else k
def preyOk (f : Nat → Int32) (s way k : Nat) : Bool := decide (sdO (f (nk s way k)) = 1 - sdO (f s)) && decide (f (nk s way (k + 1)) = -6)
def feK (f : Nat → Int32) (s way : Nat) : Nat := fe f s way (if isKg (f s) = true then 21 else 0) 1
def prey (f : Nat → Int32) (s way : Nat) : Nat := if mayG (f s) (nI way) = true then (if preyOk f s way (feK f s way) = true then feK f s way else 0) else 0
theorem fe_le (f : Nat → Int32) (s way : Nat) : ∀ n k, k ≤ fe f s way n k ∧ fe f s way n k ≤ k + n
  | 0, k => ⟨Nat.le_refl _, Nat.le_refl _⟩
  | n + 1, k => by
    unfold fe
    split
    · have := fe_le f s way n (k + 1)
      omega
    · omega
theorem feK_le (f : Nat → Int32) (s way : Nat) : 1 ≤ feK f s way ∧ feK f s way ≤ 22 := by
  have := fe_le f s way (if isKg (f s) = true then 21 else 0) 1
  unfold feK
  split at this <;> split <;> first | omega | (simp_all; done) | (simp_all; omega)
theorem prey_le (f : Nat → Int32) (s way : Nat) : prey f s way ≤ 22 := by
  unfold prey
  have := feK_le f s way
  split
  · split <;> omega
  · omega
theorem prey_no {f : Nat → Int32} {s way : Nat} (h : mayG (f s) (nI way) = false) : prey f s way = 0 := by
  unfold prey
  rw [h]
  rfl
theorem prey_yes {f : Nat → Int32} {s way : Nat} (h : mayG (f s) (nI way) = true) (h1 : sdO (f (nk s way (feK f s way))) = 1 - sdO (f s)) (h2 : f (nk s way (feK f s way + 1)) = -6) : prey f s way = feK f s way := by
  unfold prey
  rw [if_pos h, if_pos]
  unfold preyOk
  rw [decide_eq_true h1, decide_eq_true h2]
  rfl
theorem prey_n1 {f : Nat → Int32} {s way : Nat} (h1 : ¬ sdO (f (nk s way (feK f s way))) = 1 - sdO (f s)) : prey f s way = 0 := by
  unfold prey
  split
  · rw [if_neg]
    unfold preyOk
    rw [decide_eq_false h1]
    simp
  · rfl
theorem prey_n2 {f : Nat → Int32} {s way : Nat} (h1 : ¬ f (nk s way (feK f s way + 1)) = -6) : prey f s way = 0 := by
  unfold prey
  split
  · rw [if_neg]
    unfold preyOk
    rw [decide_eq_false h1]
    simp
  · rfl
theorem any_t {n i : Nat} {p : Nat → Bool} (hi : i < n) (h : p i = true) : (List.range n).any p = true := List.any_eq_true.mpr ⟨i, List.mem_range.mpr hi, h⟩
theorem any_s {i : Nat} {p : Nat → Bool} (h : (List.range i).any p = false) (h1 : p i = false) : (List.range (i + 1)).any p = false := by
  rw [List.range_succ, List.any_append, h, List.any_cons, h1]
  rfl
def canJ (f : Nat → Int32) (s : Nat) : Bool := (List.range 4).any (fun way => decide (0 < prey f s way))
def hasW (f : Nat → Int32) (s way : Nat) : Bool := (mayG (f s) (nI way) && decide (f (nx s way) = -6)) || decide (0 < prey f s way)
def hasH (f : Nat → Int32) (mv : Int32) : Bool := (List.range 48).any (fun s => decide (sdO (f s) = mv) && (List.range 4).any (hasW f s))
theorem ne_f {b : Bool} (h : ¬ bI b = 0) : b = true := by cases b <;> simp [bI] at h ⊢
theorem eq_f {b : Bool} (h : bI b = 0) : ¬ b = true := by cases b <;> simp [bI] at h ⊢
theorem pos_n {n : Nat} (h : ¬ nI n ≤ 0) : 0 < n := by
  rcases Nat.eq_zero_or_pos n with e | e
  · subst e; exact absurd (by decide) h
  · exact e
theorem npos_n {n : Nat} (hn : n < 2147483648) (h : nI n ≤ 0) : ¬ 0 < n := fun z => nI_nle z hn h
set_option maxRecDepth 100000 in
theorem tX0_stepsToPrey {Γ : CT} {w : PW} {b : Nat} {f n : Nat → Int32} {mv jp : Int32} {s way : Nat} (hb : isBd w b f n mv jp) (hs : s < 48) (hw : way < 4) : Cl Γ yX0_stepsToPrey XX0_stepsToPrey 2 0 0 [.ref b, .int (nI s), .int (nI way)] w (rI (nI (prey f s way)) w) := by
  obtain ⟨h0, h1, h2⟩ := id hb
  have tail : ∀ (F k : Nat), k = feK f s way → mayG (f s) (nI way) = true → Rn Γ XX0_stepsToPrey (rmO 2 0 0) none (FinM (rI (nI (prey f s way)) w) 0 0) 0 0 w 75 [some (.ref b), some (.int (nI s)), some (.int (nI way)), some (.int (f s)), some (.int (nI F)), some (.int (nI k)), some (.int (nI (nk s way k))), none] [] := by
    intro F k hk hm
    have hk2 := feK_le f s way
    subst hk
    refine r_aload_n 76 dX0_stepsToPrey_75 rfl rfl rfl ?_
    refine r_iload 78 dX0_stepsToPrey_76 rfl rfl ?_
    refine r_callV0 81 dX0_stepsToPrey_78 rfl (tX0_pAt hb (nk_lt hs)) l_X0_57 mX0_pieceAt rfl (by repeat (first | assumption | refine gs_eq ?_ | refine gs_ne (by omega) ?_ | exact is_of (by assumption) | refine gs_is ?_)) rfl (by decide) (Nat.le_of_ble_eq_true rfl) (by decide) (qI ?_)
    refine r_callSN0 84 dX0_stepsToPrey_81 rfl (tX6_sideOf) l_X0_72 mX6_sideOf rfl (by decide) (Nat.le_of_ble_eq_true rfl) (by decide) (qI ?_)
    refine r_iconst (v := 1) 85 dX0_stepsToPrey_84 rfl (by decide) ?_
    refine r_iload_n 86 dX0_stepsToPrey_85 rfl rfl ?_
    refine r_callSN0 89 dX0_stepsToPrey_86 rfl (tX6_sideOf) l_X0_72 mX6_sideOf rfl (by decide) (Nat.le_of_ble_eq_true rfl) (by decide) (qI ?_)
    refine r_isub 90 dX0_stepsToPrey_89 rfl ?_
    refine r_icmp_ne 97 93 dX0_stepsToPrey_90 (by decide) rfl (fun q90 => ?_) (fun q90 => ?_)
    · refine r_iconst (v := 0) 98 dX0_stepsToPrey_97 rfl (by decide) ?_
      refine r_istore (ls1 := [_, _, _, _, _, _, _, _]) 100 dX0_stepsToPrey_98 rfl (by decide) rfl rfl ?_
      refine r_iload 102 dX0_stepsToPrey_100 rfl rfl ?_
      refine r_if_eq 126 105 dX0_stepsToPrey_102 (by decide) rfl (fun q102 => ?_) (fun q102 => ?_)
      · refine r_iconst (v := 0) 127 dX0_stepsToPrey_126 rfl (by decide) ?_
        refine r_iret dX0_stepsToPrey_127 rfl (by decide) (by decide) ?_
        first | exact absurd q102 (by decide) | exact ⟨by rw [prey_yes hm q90 q118], rfl⟩ | exact ⟨by rw [prey_n1 q90]; rfl, rfl⟩ | exact ⟨by rw [prey_n2 (f := f) q118]; rfl, rfl⟩
      · refine r_aload_n 106 dX0_stepsToPrey_105 rfl rfl rfl ?_
        refine r_iload 108 dX0_stepsToPrey_106 rfl rfl ?_
        refine r_iload_n 109 dX0_stepsToPrey_108 rfl rfl ?_
        refine r_iconst (v := nI 1) 110 dX0_stepsToPrey_109 rfl (by decide) ?_
        refine r_callSN0 113 dX0_stepsToPrey_110 rfl (tX6_sq1 (nk_lt hs) hw) l_X0_68 mX6_squareAfter rfl (by decide) (Nat.le_of_ble_eq_true rfl) (by decide) (qI ?_)
        refine r_callV0 116 dX0_stepsToPrey_113 rfl (tX0_pAt hb (nx_lt _ _)) l_X0_57 mX0_pieceAt rfl (by repeat (first | assumption | refine gs_eq ?_ | refine gs_ne (by omega) ?_ | exact is_of (by assumption) | refine gs_is ?_)) rfl (by decide) (Nat.le_of_ble_eq_true rfl) (by decide) (qI ?_)
        refine r_bipush (v := (-6)) 118 dX0_stepsToPrey_116 rfl (by decide) ?_
        refine r_icmp_ne 126 121 dX0_stepsToPrey_118 (by decide) rfl (fun q118 => ?_) (fun q118 => ?_)
        · refine r_iconst (v := 0) 127 dX0_stepsToPrey_126 rfl (by decide) ?_
          refine r_iret dX0_stepsToPrey_127 rfl (by decide) (by decide) ?_
          first | exact absurd q102 (by decide) | exact ⟨by rw [prey_yes hm q90 q118], rfl⟩ | exact ⟨by rw [prey_n1 q90]; rfl, rfl⟩ | exact ⟨by rw [prey_n2 (f := f) q118]; rfl, rfl⟩
        · refine r_iload 123 dX0_stepsToPrey_121 rfl rfl ?_
          refine r_goto 127 dX0_stepsToPrey_123 (by decide) ?_
          refine r_iret dX0_stepsToPrey_127 rfl (by decide) (by decide) ?_
          first | exact absurd q102 (by decide) | exact ⟨by rw [prey_yes hm q90 q118], rfl⟩ | exact ⟨by rw [prey_n1 q90]; rfl, rfl⟩ | exact ⟨by rw [prey_n2 (f := f) q118]; rfl, rfl⟩
    · refine r_iconst (v := 1) 94 dX0_stepsToPrey_93 rfl (by decide) ?_
      refine r_goto 98 dX0_stepsToPrey_94 (by decide) ?_
      refine r_istore (ls1 := [_, _, _, _, _, _, _, _]) 100 dX0_stepsToPrey_98 rfl (by decide) rfl rfl ?_
      refine r_iload 102 dX0_stepsToPrey_100 rfl rfl ?_
      refine r_if_eq 126 105 dX0_stepsToPrey_102 (by decide) rfl (fun q102 => ?_) (fun q102 => ?_)
      · refine r_iconst (v := 0) 127 dX0_stepsToPrey_126 rfl (by decide) ?_
        refine r_iret dX0_stepsToPrey_127 rfl (by decide) (by decide) ?_
        first | exact absurd q102 (by decide) | exact ⟨by rw [prey_yes hm q90 q118], rfl⟩ | exact ⟨by rw [prey_n1 q90]; rfl, rfl⟩ | exact ⟨by rw [prey_n2 (f := f) q118]; rfl, rfl⟩
      · refine r_aload_n 106 dX0_stepsToPrey_105 rfl rfl rfl ?_
        refine r_iload 108 dX0_stepsToPrey_106 rfl rfl ?_
        refine r_iload_n 109 dX0_stepsToPrey_108 rfl rfl ?_
        refine r_iconst (v := nI 1) 110 dX0_stepsToPrey_109 rfl (by decide) ?_
        refine r_callSN0 113 dX0_stepsToPrey_110 rfl (tX6_sq1 (nk_lt hs) hw) l_X0_68 mX6_squareAfter rfl (by decide) (Nat.le_of_ble_eq_true rfl) (by decide) (qI ?_)
        refine r_callV0 116 dX0_stepsToPrey_113 rfl (tX0_pAt hb (nx_lt _ _)) l_X0_57 mX0_pieceAt rfl (by repeat (first | assumption | refine gs_eq ?_ | refine gs_ne (by omega) ?_ | exact is_of (by assumption) | refine gs_is ?_)) rfl (by decide) (Nat.le_of_ble_eq_true rfl) (by decide) (qI ?_)
        refine r_bipush (v := (-6)) 118 dX0_stepsToPrey_116 rfl (by decide) ?_
        refine r_icmp_ne 126 121 dX0_stepsToPrey_118 (by decide) rfl (fun q118 => ?_) (fun q118 => ?_)
        · refine r_iconst (v := 0) 127 dX0_stepsToPrey_126 rfl (by decide) ?_
          refine r_iret dX0_stepsToPrey_127 rfl (by decide) (by decide) ?_
          first | exact absurd q102 (by decide) | exact ⟨by rw [prey_yes hm q90 q118], rfl⟩ | exact ⟨by rw [prey_n1 q90]; rfl, rfl⟩ | exact ⟨by rw [prey_n2 (f := f) q118]; rfl, rfl⟩
        · refine r_iload 123 dX0_stepsToPrey_121 rfl rfl ?_
          refine r_goto 127 dX0_stepsToPrey_123 (by decide) ?_
          refine r_iret dX0_stepsToPrey_127 rfl (by decide) (by decide) ?_
          first | exact absurd q102 (by decide) | exact ⟨by rw [prey_yes hm q90 q118], rfl⟩ | exact ⟨by rw [prey_n1 q90]; rfl, rfl⟩ | exact ⟨by rw [prey_n2 (f := f) q118]; rfl, rfl⟩
  have loop : ∀ (F : Nat), F < 24 → mayG (f s) (nI way) = true → ∀ (m k : Nat), k + m = F → fe f s way m k = feK f s way → Rn Γ XX0_stepsToPrey (rmO 2 0 0) none (FinM (rI (nI (prey f s way)) w) 0 0) 0 0 w 42 [some (.ref b), some (.int (nI s)), some (.int (nI way)), some (.int (f s)), some (.int (nI F)), some (.int (nI k)), some (.int (nI (nk s way k))), none] [] := by
    intro F hF hm m
    induction m with
    | zero =>
      intro k hk hfe
      refine r_iload 44 dX0_stepsToPrey_42 rfl rfl ?_
      refine r_iload 46 dX0_stepsToPrey_44 rfl rfl ?_
      refine r_icmp_ge 75 49 dX0_stepsToPrey_46 (by decide) rfl (fun q46 => ?_) (fun q46 => absurd q46 (fun z => z (nI_le (by omega) (by omega))))
      exact tail F k hfe hm
    | succ m ih =>
      intro k hk hfe
      refine r_iload 44 dX0_stepsToPrey_42 rfl rfl ?_
      refine r_iload 46 dX0_stepsToPrey_44 rfl rfl ?_
      refine r_icmp_ge 75 49 dX0_stepsToPrey_46 (by decide) rfl (fun q46 => absurd q46 (nI_ge (by omega) (by omega))) (fun q46 => ?_)
      refine r_aload_n 50 dX0_stepsToPrey_49 rfl rfl rfl ?_
      refine r_iload 52 dX0_stepsToPrey_50 rfl rfl ?_
      refine r_callV0 55 dX0_stepsToPrey_52 rfl (tX0_pAt hb (nk_lt hs)) l_X0_57 mX0_pieceAt rfl (by repeat (first | assumption | refine gs_eq ?_ | refine gs_ne (by omega) ?_ | exact is_of (by assumption) | refine gs_is ?_)) rfl (by decide) (Nat.le_of_ble_eq_true rfl) (by decide) (qI ?_)
      refine r_bipush (v := (-6)) 57 dX0_stepsToPrey_55 rfl (by decide) ?_
      refine r_icmp_ne 75 60 dX0_stepsToPrey_57 (by decide) rfl (fun q57 => ?_) (fun q57 => ?_)
      · exact tail F k (by rw [← hfe, fe, if_neg q57]) hm
      · refine r_iload 62 dX0_stepsToPrey_60 rfl rfl ?_
        refine r_iload_n 63 dX0_stepsToPrey_62 rfl rfl ?_
        refine r_iconst (v := nI 1) 64 dX0_stepsToPrey_63 rfl (by decide) ?_
        refine r_callSN0 67 dX0_stepsToPrey_64 rfl (tX6_sq1 (nk_lt hs) hw) l_X0_68 mX6_squareAfter rfl (by decide) (Nat.le_of_ble_eq_true rfl) (by decide) (qI ?_)
        refine r_istore (ls1 := [_, _, _, _, _, _, _, _]) 69 dX0_stepsToPrey_67 rfl (by decide) rfl rfl ?_
        refine r_iinc (ls1 := [_, _, _, _, _, _, _, _]) 72 dX0_stepsToPrey_69 rfl (by decide) rfl rfl (nI_1 k) rfl ?_
        refine r_goto 42 dX0_stepsToPrey_72 (by decide) ?_
        exact ih (k + 1) (by omega) (by rw [← hfe, fe, if_pos q57])
  refine Cl.of (ls := [some (.ref b), some (.int (nI s)), some (.int (nI way)), none, none, none, none, none]) rfl (by decide +kernel) (fun h => by cases h) (Nat.le_of_ble_eq_true rfl) rfl ?_
  refine r_aload_n 1 dX0_stepsToPrey_0 rfl rfl rfl ?_
  refine r_iload_n 2 dX0_stepsToPrey_1 rfl rfl ?_
  refine r_callV0 5 dX0_stepsToPrey_2 rfl (tX0_pAt hb hs) l_X0_57 mX0_pieceAt rfl (by repeat (first | assumption | refine gs_eq ?_ | refine gs_ne (by omega) ?_ | exact is_of (by assumption) | refine gs_is ?_)) rfl (by decide) (Nat.le_of_ble_eq_true rfl) (by decide) (qI ?_)
  refine r_istore_n (ls1 := [_, _, _, _, _, _, _, _]) 6 dX0_stepsToPrey_5 rfl (by decide) rfl rfl ?_
  refine r_iload_n 7 dX0_stepsToPrey_6 rfl rfl ?_
  refine r_iload_n 8 dX0_stepsToPrey_7 rfl rfl ?_
  refine r_callSN0 11 dX0_stepsToPrey_8 rfl (tX6_mayGo) l_X0_60 mX6_mayGo rfl (by decide) (Nat.le_of_ble_eq_true rfl) (by decide) (qI ?_)
  refine r_if_ne 16 14 dX0_stepsToPrey_11 (by decide) rfl (fun q11 => ?_) (fun q11 => ?_)
  · refine r_iload_n 17 dX0_stepsToPrey_16 rfl rfl ?_
    refine r_callSN0 20 dX0_stepsToPrey_17 rfl (tX6_isKing) l_X0_64 mX6_isKing rfl (by decide) (Nat.le_of_ble_eq_true rfl) (by decide) (qI ?_)
    refine r_if_eq 28 23 dX0_stepsToPrey_20 (by decide) rfl (fun q20 => ?_) (fun q20 => ?_)
    · refine r_iconst (v := nI 1) 29 dX0_stepsToPrey_28 rfl (by decide) ?_
      refine r_istore (ls1 := [_, _, _, _, _, _, _, _]) 31 dX0_stepsToPrey_29 rfl (by decide) rfl rfl ?_
      refine r_iconst (v := nI 1) 32 dX0_stepsToPrey_31 rfl (by decide) ?_
      refine r_istore (ls1 := [_, _, _, _, _, _, _, _]) 34 dX0_stepsToPrey_32 rfl (by decide) rfl rfl ?_
      refine r_iload_n 35 dX0_stepsToPrey_34 rfl rfl ?_
      refine r_iload_n 36 dX0_stepsToPrey_35 rfl rfl ?_
      refine r_iconst (v := nI 1) 37 dX0_stepsToPrey_36 rfl (by decide) ?_
      refine r_callSN0 40 dX0_stepsToPrey_37 rfl (tX6_sq1 hs hw) l_X0_68 mX6_squareAfter rfl (by decide) (Nat.le_of_ble_eq_true rfl) (by decide) (qI ?_)
      refine r_istore (ls1 := [_, _, _, _, _, _, _, _]) 42 dX0_stepsToPrey_40 rfl (by decide) rfl rfl ?_
      first | exact loop 22 (by decide) (ne_f q11) 21 1 rfl (by rw [feK, if_pos (ne_f q20)]) | exact loop 1 (by decide) (ne_f q11) 0 1 rfl (by rw [feK, if_neg (eq_f q20)])
    · refine r_bipush (v := nI 22) 25 dX0_stepsToPrey_23 rfl (by decide) ?_
      refine r_goto 29 dX0_stepsToPrey_25 (by decide) ?_
      refine r_istore (ls1 := [_, _, _, _, _, _, _, _]) 31 dX0_stepsToPrey_29 rfl (by decide) rfl rfl ?_
      refine r_iconst (v := nI 1) 32 dX0_stepsToPrey_31 rfl (by decide) ?_
      refine r_istore (ls1 := [_, _, _, _, _, _, _, _]) 34 dX0_stepsToPrey_32 rfl (by decide) rfl rfl ?_
      refine r_iload_n 35 dX0_stepsToPrey_34 rfl rfl ?_
      refine r_iload_n 36 dX0_stepsToPrey_35 rfl rfl ?_
      refine r_iconst (v := nI 1) 37 dX0_stepsToPrey_36 rfl (by decide) ?_
      refine r_callSN0 40 dX0_stepsToPrey_37 rfl (tX6_sq1 hs hw) l_X0_68 mX6_squareAfter rfl (by decide) (Nat.le_of_ble_eq_true rfl) (by decide) (qI ?_)
      refine r_istore (ls1 := [_, _, _, _, _, _, _, _]) 42 dX0_stepsToPrey_40 rfl (by decide) rfl rfl ?_
      first | exact loop 22 (by decide) (ne_f q11) 21 1 rfl (by rw [feK, if_pos (ne_f q20)]) | exact loop 1 (by decide) (ne_f q11) 0 1 rfl (by rw [feK, if_neg (eq_f q20)])
  · refine r_iconst (v := 0) 15 dX0_stepsToPrey_14 rfl (by decide) ?_
    refine r_iret dX0_stepsToPrey_15 rfl (by decide) (by decide) ?_
    exact ⟨by rw [prey_no (bI_0.mp q11)]; rfl, rfl⟩

set_option maxRecDepth 100000 in
theorem tX0_canJump {Γ : CT} {w : PW} {b : Nat} {f n : Nat → Int32} {mv jp : Int32} {s : Nat} (hb : isBd w b f n mv jp) (hs : s < 48) : Cl Γ yX0_canJump XX0_canJump 3 0 0 [.ref b, .int (nI s)] w (rI (bI (canJ f s)) w) := by
  obtain ⟨h0, h1, h2⟩ := id hb
  have loop : ∀ (m i : Nat) , i + m = 4 → (List.range i).any (fun way => decide (0 < prey f s way)) = false → Rn Γ XX0_canJump (rmO 3 0 0) none (FinM (rI (bI (canJ f s)) w) 0 0) 0 0 w 2 [some (.ref b), some (.int (nI s)), some (.int (nI i))] [] := by
    intro m
    induction m with
    | zero =>
      intro i  hi hu
      have h4 : i = 4 := by omega
      subst h4
      refine r_iload_n 3 dX0_canJump_2 rfl rfl ?_
      refine r_iconst (v := nI 4) 4 dX0_canJump_3 rfl (by decide) ?_
      refine r_icmp_ge 24 7 dX0_canJump_4 (by decide) rfl (fun q4 => ?_) (fun q4 => absurd q4 (fun z => z (nI_le (by omega) (by omega))))
      refine r_iconst (v := 0) 25 dX0_canJump_24 rfl (by decide) ?_
      refine r_bret dX0_canJump_25 rfl (by first | exact Or.inl rfl | exact Or.inr rfl) (by decide) (by decide) ?_
      exact ⟨by rw [canJ, hu]; rfl, rfl⟩
    | succ m ih =>
      intro i  hi hu
      refine r_iload_n 3 dX0_canJump_2 rfl rfl ?_
      refine r_iconst (v := nI 4) 4 dX0_canJump_3 rfl (by decide) ?_
      refine r_icmp_ge 24 7 dX0_canJump_4 (by decide) rfl (fun q4 => absurd q4 (nI_ge (by omega) (by omega))) (fun q4 => ?_)
      refine r_aload_n 8 dX0_canJump_7 rfl rfl rfl ?_
      refine r_iload_n 9 dX0_canJump_8 rfl rfl ?_
      refine r_iload_n 10 dX0_canJump_9 rfl rfl ?_
      refine r_callV0 13 dX0_canJump_10 rfl (tX0_stepsToPrey hb hs (by omega)) l_X0_75 mX0_stepsToPrey rfl (by repeat (first | assumption | refine gs_eq ?_ | refine gs_ne (by omega) ?_ | exact is_of (by assumption) | refine gs_is ?_)) rfl (by decide) (Nat.le_of_ble_eq_true rfl) (by decide) (qI ?_)
      refine r_if_le 18 16 dX0_canJump_13 (by decide) rfl (fun q13 => ?_) (fun q13 => ?_)
      · refine r_iinc (ls1 := [_, _, _]) 21 dX0_canJump_18 rfl (by decide) rfl rfl (nI_1 i) rfl ?_
        refine r_goto 2 dX0_canJump_21 (by decide) ?_
        exact ih (i + 1) (by omega) (any_s hu (decide_eq_false (npos_n (Nat.lt_of_le_of_lt (prey_le f s i) (by decide)) q13)))
      · refine r_iconst (v := 1) 17 dX0_canJump_16 rfl (by decide) ?_
        refine r_bret dX0_canJump_17 rfl (by first | exact Or.inl rfl | exact Or.inr rfl) (by decide) (by decide) ?_
        exact ⟨by rw [canJ, any_t (i := i) (by omega) (decide_eq_true (pos_n q13))]; rfl, rfl⟩
  refine Cl.of (ls := [some (.ref b), some (.int (nI s)), none]) rfl (by decide +kernel) (fun h => by cases h) (Nat.le_of_ble_eq_true rfl) rfl ?_
  refine r_iconst (v := nI 0) 1 dX0_canJump_0 rfl (by decide) ?_
  refine r_istore_n (ls1 := [_, _, _]) 2 dX0_canJump_1 rfl (by decide) rfl rfl ?_
  exact loop 4 0 rfl rfl

set_option maxRecDepth 100000 in
theorem tX0_hasHop {Γ : CT} {w : PW} {b : Nat} {f n : Nat → Int32} {mv jp : Int32} (hb : isBd w b f n mv jp) : Cl Γ yX0_hasHop XX0_hasHop 3 0 0 [.ref b] w (rI (bI (hasH f mv)) w) := by
  obtain ⟨h0, h1, h2⟩ := id hb
  have inner : ∀ (s : Nat), s < 48 → sdO (f s) = mv → ((List.range 4).any (hasW f s) = false → ∀ x2 x3 x4, nl x2 = true → nl x3 = true → Rn Γ XX0_hasHop (rmO 3 0 0) none (FinM (rI (bI (hasH f mv)) w) 0 0) 0 0 w 87 [some (.ref b), some (.int (nI s)), x2, x3, x4] []) → ∀ (m i : Nat) (x4 : Option Value), i + m = 4 → (List.range i).any (hasW f s) = false → Rn Γ XX0_hasHop (rmO 3 0 0) none (FinM (rI (bI (hasH f mv)) w) 0 0) 0 0 w 30 [some (.ref b), some (.int (nI s)), some (.int (f s)), some (.int (nI i)), x4] [] := by
    intro s hs hsd kk m
    induction m with
    | zero =>
      intro i x4 hi hu
      have h4 : i = 4 := by omega
      subst h4
      refine r_iload_n 31 dX0_hasHop_30 rfl rfl ?_
      refine r_iconst (v := nI 4) 32 dX0_hasHop_31 rfl (by decide) ?_
      refine r_icmp_ge 87 35 dX0_hasHop_32 (by decide) rfl (fun q32 => ?_) (fun q32 => absurd q32 (fun z => z (nI_le (by omega) (by omega))))
      exact kk hu _ _ _ rfl rfl
    | succ m ih =>
      intro i x4 hi hu
      have ret1 : hasW f s i = true → hasH f mv = true := fun hz => any_t hs (by rw [decide_eq_true hsd, any_t (i := i) (by omega) hz]; rfl)
      refine r_iload_n 31 dX0_hasHop_30 rfl rfl ?_
      refine r_iconst (v := nI 4) 32 dX0_hasHop_31 rfl (by decide) ?_
      refine r_icmp_ge 87 35 dX0_hasHop_32 (by decide) rfl (fun q32 => absurd q32 (nI_ge (by omega) (by omega))) (fun q32 => ?_)
      refine r_iload_n 36 dX0_hasHop_35 rfl rfl ?_
      refine r_iload_n 37 dX0_hasHop_36 rfl rfl ?_
      refine r_callSN0 40 dX0_hasHop_37 rfl (tX6_mayGo) l_X0_60 mX6_mayGo rfl (by decide) (Nat.le_of_ble_eq_true rfl) (by decide) (qI ?_)
      refine r_if_eq 62 43 dX0_hasHop_40 (by decide) rfl (fun q40 => ?_) (fun q40 => ?_)
      · refine r_iconst (v := 0) 63 dX0_hasHop_62 rfl (by decide) ?_
        refine r_istore (ls1 := [_, _, _, _, _]) 65 dX0_hasHop_63 rfl (by decide) rfl rfl ?_
        refine r_iload 67 dX0_hasHop_65 rfl rfl ?_
        refine r_if_ne 79 70 dX0_hasHop_67 (by decide) rfl (fun q67 => ?_) (fun q67 => ?_)
        · refine r_iconst (v := 1) 80 dX0_hasHop_79 rfl (by decide) ?_
          refine r_bret dX0_hasHop_80 rfl (by first | exact Or.inl rfl | exact Or.inr rfl) (by decide) (by decide) ?_
          first | exact absurd q67 (by decide) | exact ⟨by rw [ret1 (by rw [hasW, ne_f q40, decide_eq_true q55]; rfl)]; rfl, rfl⟩ | exact ⟨by rw [ret1 (by rw [hasW, decide_eq_true (pos_n q76)]; simp)]; rfl, rfl⟩
        · refine r_aload_n 71 dX0_hasHop_70 rfl rfl rfl ?_
          refine r_iload_n 72 dX0_hasHop_71 rfl rfl ?_
          refine r_iload_n 73 dX0_hasHop_72 rfl rfl ?_
          refine r_callV0 76 dX0_hasHop_73 rfl (tX0_stepsToPrey hb hs (by omega)) l_X0_75 mX0_stepsToPrey rfl (by repeat (first | assumption | refine gs_eq ?_ | refine gs_ne (by omega) ?_ | exact is_of (by assumption) | refine gs_is ?_)) rfl (by decide) (Nat.le_of_ble_eq_true rfl) (by decide) (qI ?_)
          refine r_if_le 81 79 dX0_hasHop_76 (by decide) rfl (fun q76 => ?_) (fun q76 => ?_)
          · refine r_iinc (ls1 := [_, _, _, _, _]) 84 dX0_hasHop_81 rfl (by decide) rfl rfl (nI_1 i) rfl ?_
            refine r_goto 30 dX0_hasHop_84 (by decide) ?_
            first | exact absurd q67 (by decide) | exact ih (i + 1) _ (by omega) (any_s hu (by rw [hasW, decide_eq_false (npos_n (Nat.lt_of_le_of_lt (prey_le f s i) (by decide)) q76)]; first | (rw [bI_0.mp q40]; rfl) | (rw [decide_eq_false q55]; simp)))
          · refine r_iconst (v := 1) 80 dX0_hasHop_79 rfl (by decide) ?_
            refine r_bret dX0_hasHop_80 rfl (by first | exact Or.inl rfl | exact Or.inr rfl) (by decide) (by decide) ?_
            first | exact absurd q67 (by decide) | exact ⟨by rw [ret1 (by rw [hasW, ne_f q40, decide_eq_true q55]; rfl)]; rfl, rfl⟩ | exact ⟨by rw [ret1 (by rw [hasW, decide_eq_true (pos_n q76)]; simp)]; rfl, rfl⟩
      · refine r_aload_n 44 dX0_hasHop_43 rfl rfl rfl ?_
        refine r_iload_n 45 dX0_hasHop_44 rfl rfl ?_
        refine r_iload_n 46 dX0_hasHop_45 rfl rfl ?_
        refine r_iconst (v := nI 1) 47 dX0_hasHop_46 rfl (by decide) ?_
        refine r_callSN0 50 dX0_hasHop_47 rfl (tX6_sq1 hs (by omega)) l_X0_68 mX6_squareAfter rfl (by decide) (Nat.le_of_ble_eq_true rfl) (by decide) (qI ?_)
        refine r_callV0 53 dX0_hasHop_50 rfl (tX0_pAt hb (nx_lt _ _)) l_X0_57 mX0_pieceAt rfl (by repeat (first | assumption | refine gs_eq ?_ | refine gs_ne (by omega) ?_ | exact is_of (by assumption) | refine gs_is ?_)) rfl (by decide) (Nat.le_of_ble_eq_true rfl) (by decide) (qI ?_)
        refine r_bipush (v := (-6)) 55 dX0_hasHop_53 rfl (by decide) ?_
        refine r_icmp_ne 62 58 dX0_hasHop_55 (by decide) rfl (fun q55 => ?_) (fun q55 => ?_)
        · refine r_iconst (v := 0) 63 dX0_hasHop_62 rfl (by decide) ?_
          refine r_istore (ls1 := [_, _, _, _, _]) 65 dX0_hasHop_63 rfl (by decide) rfl rfl ?_
          refine r_iload 67 dX0_hasHop_65 rfl rfl ?_
          refine r_if_ne 79 70 dX0_hasHop_67 (by decide) rfl (fun q67 => ?_) (fun q67 => ?_)
          · refine r_iconst (v := 1) 80 dX0_hasHop_79 rfl (by decide) ?_
            refine r_bret dX0_hasHop_80 rfl (by first | exact Or.inl rfl | exact Or.inr rfl) (by decide) (by decide) ?_
            first | exact absurd q67 (by decide) | exact ⟨by rw [ret1 (by rw [hasW, ne_f q40, decide_eq_true q55]; rfl)]; rfl, rfl⟩ | exact ⟨by rw [ret1 (by rw [hasW, decide_eq_true (pos_n q76)]; simp)]; rfl, rfl⟩
          · refine r_aload_n 71 dX0_hasHop_70 rfl rfl rfl ?_
            refine r_iload_n 72 dX0_hasHop_71 rfl rfl ?_
            refine r_iload_n 73 dX0_hasHop_72 rfl rfl ?_
            refine r_callV0 76 dX0_hasHop_73 rfl (tX0_stepsToPrey hb hs (by omega)) l_X0_75 mX0_stepsToPrey rfl (by repeat (first | assumption | refine gs_eq ?_ | refine gs_ne (by omega) ?_ | exact is_of (by assumption) | refine gs_is ?_)) rfl (by decide) (Nat.le_of_ble_eq_true rfl) (by decide) (qI ?_)
            refine r_if_le 81 79 dX0_hasHop_76 (by decide) rfl (fun q76 => ?_) (fun q76 => ?_)
            · refine r_iinc (ls1 := [_, _, _, _, _]) 84 dX0_hasHop_81 rfl (by decide) rfl rfl (nI_1 i) rfl ?_
              refine r_goto 30 dX0_hasHop_84 (by decide) ?_
              first | exact absurd q67 (by decide) | exact ih (i + 1) _ (by omega) (any_s hu (by rw [hasW, decide_eq_false (npos_n (Nat.lt_of_le_of_lt (prey_le f s i) (by decide)) q76)]; first | (rw [bI_0.mp q40]; rfl) | (rw [decide_eq_false q55]; simp)))
            · refine r_iconst (v := 1) 80 dX0_hasHop_79 rfl (by decide) ?_
              refine r_bret dX0_hasHop_80 rfl (by first | exact Or.inl rfl | exact Or.inr rfl) (by decide) (by decide) ?_
              first | exact absurd q67 (by decide) | exact ⟨by rw [ret1 (by rw [hasW, ne_f q40, decide_eq_true q55]; rfl)]; rfl, rfl⟩ | exact ⟨by rw [ret1 (by rw [hasW, decide_eq_true (pos_n q76)]; simp)]; rfl, rfl⟩
        · refine r_iconst (v := 1) 59 dX0_hasHop_58 rfl (by decide) ?_
          refine r_goto 63 dX0_hasHop_59 (by decide) ?_
          refine r_istore (ls1 := [_, _, _, _, _]) 65 dX0_hasHop_63 rfl (by decide) rfl rfl ?_
          refine r_iload 67 dX0_hasHop_65 rfl rfl ?_
          refine r_if_ne 79 70 dX0_hasHop_67 (by decide) rfl (fun q67 => ?_) (fun q67 => ?_)
          · refine r_iconst (v := 1) 80 dX0_hasHop_79 rfl (by decide) ?_
            refine r_bret dX0_hasHop_80 rfl (by first | exact Or.inl rfl | exact Or.inr rfl) (by decide) (by decide) ?_
            first | exact absurd q67 (by decide) | exact ⟨by rw [ret1 (by rw [hasW, ne_f q40, decide_eq_true q55]; rfl)]; rfl, rfl⟩ | exact ⟨by rw [ret1 (by rw [hasW, decide_eq_true (pos_n q76)]; simp)]; rfl, rfl⟩
          · refine r_aload_n 71 dX0_hasHop_70 rfl rfl rfl ?_
            refine r_iload_n 72 dX0_hasHop_71 rfl rfl ?_
            refine r_iload_n 73 dX0_hasHop_72 rfl rfl ?_
            refine r_callV0 76 dX0_hasHop_73 rfl (tX0_stepsToPrey hb hs (by omega)) l_X0_75 mX0_stepsToPrey rfl (by repeat (first | assumption | refine gs_eq ?_ | refine gs_ne (by omega) ?_ | exact is_of (by assumption) | refine gs_is ?_)) rfl (by decide) (Nat.le_of_ble_eq_true rfl) (by decide) (qI ?_)
            refine r_if_le 81 79 dX0_hasHop_76 (by decide) rfl (fun q76 => ?_) (fun q76 => ?_)
            · refine r_iinc (ls1 := [_, _, _, _, _]) 84 dX0_hasHop_81 rfl (by decide) rfl rfl (nI_1 i) rfl ?_
              refine r_goto 30 dX0_hasHop_84 (by decide) ?_
              first | exact absurd q67 (by decide) | exact ih (i + 1) _ (by omega) (any_s hu (by rw [hasW, decide_eq_false (npos_n (Nat.lt_of_le_of_lt (prey_le f s i) (by decide)) q76)]; first | (rw [bI_0.mp q40]; rfl) | (rw [decide_eq_false q55]; simp)))
            · refine r_iconst (v := 1) 80 dX0_hasHop_79 rfl (by decide) ?_
              refine r_bret dX0_hasHop_80 rfl (by first | exact Or.inl rfl | exact Or.inr rfl) (by decide) (by decide) ?_
              first | exact absurd q67 (by decide) | exact ⟨by rw [ret1 (by rw [hasW, ne_f q40, decide_eq_true q55]; rfl)]; rfl, rfl⟩ | exact ⟨by rw [ret1 (by rw [hasW, decide_eq_true (pos_n q76)]; simp)]; rfl, rfl⟩
  have outer : ∀ (m i : Nat) (x2 x3 x4 : Option Value), i + m = 48 → (List.range i).any (fun s => decide (sdO (f s) = mv) && (List.range 4).any (hasW f s)) = false → nl x2 = true → nl x3 = true → Rn Γ XX0_hasHop (rmO 3 0 0) none (FinM (rI (bI (hasH f mv)) w) 0 0) 0 0 w 2 [some (.ref b), some (.int (nI i)), x2, x3, x4] [] := by
    intro m
    induction m with
    | zero =>
      intro i x2 x3 x4 hi hu e2 e3
      have h4 : i = 48 := by omega
      subst h4
      refine r_iload_n 3 dX0_hasHop_2 rfl rfl ?_
      refine r_bipush (v := nI 48) 5 dX0_hasHop_3 rfl (by decide) ?_
      refine r_icmp_ge 93 8 dX0_hasHop_5 (by decide) rfl (fun q5 => ?_) (fun q5 => absurd q5 (fun z => z (nI_le (by omega) (by omega))))
      refine r_iconst (v := 0) 94 dX0_hasHop_93 rfl (by decide) ?_
      refine r_bret dX0_hasHop_94 rfl (by first | exact Or.inl rfl | exact Or.inr rfl) (by decide) (by decide) ?_
      exact ⟨by rw [hasH, hu]; rfl, rfl⟩
    | succ m ih =>
      intro i x2 x3 x4 hi hu e2 e3
      refine r_iload_n 3 dX0_hasHop_2 rfl rfl ?_
      refine r_bipush (v := nI 48) 5 dX0_hasHop_3 rfl (by decide) ?_
      refine r_icmp_ge 93 8 dX0_hasHop_5 (by decide) rfl (fun q5 => absurd q5 (nI_ge (by omega) (by omega))) (fun q5 => ?_)
      refine r_aload_n 9 dX0_hasHop_8 rfl rfl rfl ?_
      refine r_iload_n 10 dX0_hasHop_9 rfl rfl ?_
      refine r_callV0 13 dX0_hasHop_10 rfl (tX0_pAt hb (by omega)) l_X0_57 mX0_pieceAt rfl (by repeat (first | assumption | refine gs_eq ?_ | refine gs_ne (by omega) ?_ | exact is_of (by assumption) | refine gs_is ?_)) rfl (by decide) (Nat.le_of_ble_eq_true rfl) (by decide) (qI ?_)
      refine r_istore_n (ls1 := [_, _, _, _, _]) 14 dX0_hasHop_13 rfl (by decide) rfl rfl ?_
      refine r_iload_n 15 dX0_hasHop_14 rfl rfl ?_
      refine r_callSN0 18 dX0_hasHop_15 rfl (tX6_sideOf) l_X0_72 mX6_sideOf rfl (by decide) (Nat.le_of_ble_eq_true rfl) (by decide) (qI ?_)
      refine r_aload_n 19 dX0_hasHop_18 rfl rfl rfl ?_
      refine r_getf 22 dX0_hasHop_19 rfl f_X0_18.r (by repeat (first | assumption | refine gs_eq ?_ | refine gs_ne (by omega) ?_ | exact is_of (by assumption) | refine gs_is ?_)) rfl ?_
      refine r_icmp_eq 28 25 dX0_hasHop_22 (by decide) rfl (fun q22 => ?_) (fun q22 => ?_)
      · refine r_iconst (v := nI 0) 29 dX0_hasHop_28 rfl (by decide) ?_
        refine r_istore_n (ls1 := [_, _, _, _, _]) 30 dX0_hasHop_29 rfl (by decide) rfl rfl ?_
        refine inner i (by omega) q22 (fun hz x2 x3 x4 e2 e3 => ?_) 4 0 _ rfl rfl
        refine r_iinc (ls1 := [_, _, _, _, _]) 90 dX0_hasHop_87 rfl (by decide) rfl rfl (nI_1 i) rfl ?_
        refine r_goto 2 dX0_hasHop_90 (by decide) ?_
        exact ih (i + 1) _ _ _ (by omega) (any_s hu (by rw [hz]; simp)) e2 e3
      · refine r_goto 87 dX0_hasHop_25 (by decide) ?_
        refine r_iinc (ls1 := [_, _, _, _, _]) 90 dX0_hasHop_87 rfl (by decide) rfl rfl (nI_1 i) rfl ?_
        refine r_goto 2 dX0_hasHop_90 (by decide) ?_
        exact ih (i + 1) _ _ _ (by omega) (any_s hu (by rw [decide_eq_false q22]; rfl)) rfl e3
  refine Cl.of (ls := [some (.ref b), none, none, none, none]) rfl (by decide +kernel) (fun h => by cases h) (Nat.le_of_ble_eq_true rfl) rfl ?_
  refine r_iconst (v := nI 0) 1 dX0_hasHop_0 rfl (by decide) ?_
  refine r_istore_n (ls1 := [_, _, _, _, _]) 2 dX0_hasHop_1 rfl (by decide) rfl rfl ?_
  exact outer 48 0 _ _ _ rfl rfl rfl rfl
end
section
/-! ===== the list of hops ===== -/
abbrev HP : Type := Nat × Nat × Nat × Nat × Int32
def hpO (l : List HP) (a b c d e : Nat → Int32) : Prop := ∀ (i : Nat) (q : HP), l[i]? = some q → a i = nI q.1 ∧ b i = nI q.2.1 ∧ c i = nI q.2.2.1 ∧ d i = nI q.2.2.2.1 ∧ e i = q.2.2.2.2
def isHp (w : PW) (h : Nat) (l : List HP) : Prop := l.length ≤ 192 ∧ ∃ a b c d e : Nat → Int32, hpO l a b c d e ∧ w[h]? = some (oB 3 [.ref (h + 1), .ref (h + 2), .ref (h + 3), .ref (h + 4), .ref (h + 5), .int (nI l.length)]) ∧ w[h + 1]? = some (aI 192 a) ∧ w[h + 2]? = some (aI 192 b) ∧ w[h + 3]? = some (aI 192 c) ∧ w[h + 4]? = some (aI 192 d) ∧ w[h + 5]? = some (aI 192 e)
def hS (h : Nat) : Nat → Prop := fun q => h ≤ q ∧ q < h + 6
def toHp (w : PW) (h : Nat) (l : List HP) : PW → Prop := fun w1 => Fr w w1 (hS h) ∧ isHp w1 h l
theorem isHp.fr {w w1 : PW} {h : Nat} {l : List HP} {S : Nat → Prop} (k : isHp w h l) (hF : Fr w w1 S) (hn : ∀ q, h ≤ q → q < h + 6 → ¬ S q) : isHp w1 h l := by
  obtain ⟨k0, a, b, c, d, e, k1, k2, k3, k4, k5, k6, k7⟩ := k
  exact ⟨k0, a, b, c, d, e, k1, hF.at (hn _ (by omega) (by omega)) k2, hF.at (hn _ (by omega) (by omega)) k3, hF.at (hn _ (by omega) (by omega)) k4, hF.at (hn _ (by omega) (by omega)) k5, hF.at (hn _ (by omega) (by omega)) k6, hF.at (hn _ (by omega) (by omega)) k7⟩
theorem toHp.tr {w w1 w2 : PW} {h : Nat} {l l2 : List HP} (k : toHp w h l w1) (k2 : toHp w1 h l2 w2) : toHp w h l2 w2 := ⟨k.1.tr k2.1, k2.2⟩
def hasO (l : List HP) (x : Int32) : Bool := decide (0 ≤ x ∧ x < nI l.length)
theorem hasO_ix {l : List HP} {x : Int32} (hl : l.length < 2147483648) (h : hasO l x = true) : ∃ j : Nat, j < l.length ∧ x = nI j := by
  have h1 := of_decide_eq_true h
  exact ix_of (Int32.not_lt.mpr h1.1) (Int32.not_le.mpr h1.2) hl
theorem hasO_t {l : List HP} {j : Nat} (hl : l.length < 2147483648) (hj : j < l.length) : hasO l (nI j) = true := decide_eq_true ⟨nI_pos' (by omega), nI_lt hj hl⟩
theorem hasO_f {l : List HP} {x : Int32} (h : x < 0 ∨ nI l.length ≤ x) : hasO l x = false := by
  refine decide_eq_false fun q => ?_
  rcases h with h | h
  · exact Int32.not_le.mpr h q.1
  · exact Int32.not_lt.mpr h q.2
def fI (p : HP → Bool) : List HP → Nat → Int32
  | [], _ => -6
  | q :: t, k => if p q = true then nI k else fI p t (k + 1)
def isFT (x y : Int32) (q : HP) : Bool := decide (nI q.1 = x) && decide (nI q.2.1 = y)
theorem drop_c {α : Type} {l : List α} {i : Nat} (hi : i < l.length) : ∃ q, l[i]? = some q ∧ l.drop i = q :: l.drop (i + 1) := ⟨l[i], List.getElem?_eq_getElem hi, List.drop_eq_getElem_cons hi⟩
set_option maxRecDepth 100000 in
theorem tX3_has {Γ : CT} {w : PW} {h : Nat} {l : List HP} {x : Int32} (hh : isHp w h l) : Cl Γ yX3_has XX3_has 0 0 0 [.ref h, .int x] w (rI (bI (hasO l x)) w) := by
  refine Cl.of (ls := [some (.ref h), some (.int x)]) rfl (by decide +kernel) (fun h => by cases h) (Nat.le_of_ble_eq_true rfl) rfl ?_
  obtain ⟨hl, ca, cb, cc, cd, ce, hO, h0, h1, h2, h3, h4, h5⟩ := id hh
  refine r_iload_n 1 dX3_has_0 rfl rfl ?_
  refine r_if_lt 23 4 dX3_has_1 (by decide) rfl (fun q1 => ?_) (fun q1 => ?_)
  · refine r_iconst (v := 0) 24 dX3_has_23 rfl (by decide) ?_
    refine r_bret dX3_has_24 rfl (by first | exact Or.inl rfl | exact Or.inr rfl) (by decide) (by decide) ?_
    first | exact ⟨by rw [hasO_f (Or.inl q1)]; rfl, rfl⟩ | exact ⟨by rw [hasO_f (Or.inr q9)]; rfl, rfl⟩ | exact ⟨by rw [hasO, decide_eq_true ⟨Int32.not_lt.mp q1, Int32.not_le.mp q9⟩]; rfl, rfl⟩ | exact absurd (Int32.lt_of_le_of_lt q16 (Int32.not_le.mp q9)) (nI_nlt (a := 192) hl (by decide))
  · refine r_iload_n 5 dX3_has_4 rfl rfl ?_
    refine r_aload_n 6 dX3_has_5 rfl rfl rfl ?_
    refine r_getf 9 dX3_has_6 rfl f_X3_27.r (by repeat (first | assumption | refine gs_eq ?_ | refine gs_ne (by omega) ?_ | exact is_of (by assumption) | refine gs_is ?_)) rfl ?_
    refine r_icmp_ge 23 12 dX3_has_9 (by decide) rfl (fun q9 => ?_) (fun q9 => ?_)
    · refine r_iconst (v := 0) 24 dX3_has_23 rfl (by decide) ?_
      refine r_bret dX3_has_24 rfl (by first | exact Or.inl rfl | exact Or.inr rfl) (by decide) (by decide) ?_
      first | exact ⟨by rw [hasO_f (Or.inl q1)]; rfl, rfl⟩ | exact ⟨by rw [hasO_f (Or.inr q9)]; rfl, rfl⟩ | exact ⟨by rw [hasO, decide_eq_true ⟨Int32.not_lt.mp q1, Int32.not_le.mp q9⟩]; rfl, rfl⟩ | exact absurd (Int32.lt_of_le_of_lt q16 (Int32.not_le.mp q9)) (nI_nlt (a := 192) hl (by decide))
    · refine r_iload_n 13 dX3_has_12 rfl rfl ?_
      refine r_sipush (v := 192) 16 dX3_has_13 rfl (by decide) ?_
      refine r_icmp_ge 23 19 dX3_has_16 (by decide) rfl (fun q16 => ?_) (fun q16 => ?_)
      · refine r_iconst (v := 0) 24 dX3_has_23 rfl (by decide) ?_
        refine r_bret dX3_has_24 rfl (by first | exact Or.inl rfl | exact Or.inr rfl) (by decide) (by decide) ?_
        first | exact ⟨by rw [hasO_f (Or.inl q1)]; rfl, rfl⟩ | exact ⟨by rw [hasO_f (Or.inr q9)]; rfl, rfl⟩ | exact ⟨by rw [hasO, decide_eq_true ⟨Int32.not_lt.mp q1, Int32.not_le.mp q9⟩]; rfl, rfl⟩ | exact absurd (Int32.lt_of_le_of_lt q16 (Int32.not_le.mp q9)) (nI_nlt (a := 192) hl (by decide))
      · refine r_iconst (v := 1) 20 dX3_has_19 rfl (by decide) ?_
        refine r_goto 24 dX3_has_20 (by decide) ?_
        refine r_bret dX3_has_24 rfl (by first | exact Or.inl rfl | exact Or.inr rfl) (by decide) (by decide) ?_
        first | exact ⟨by rw [hasO_f (Or.inl q1)]; rfl, rfl⟩ | exact ⟨by rw [hasO_f (Or.inr q9)]; rfl, rfl⟩ | exact ⟨by rw [hasO, decide_eq_true ⟨Int32.not_lt.mp q1, Int32.not_le.mp q9⟩]; rfl, rfl⟩ | exact absurd (Int32.lt_of_le_of_lt q16 (Int32.not_le.mp q9)) (nI_nlt (a := 192) hl (by decide))

set_option maxRecDepth 100000 in
theorem tX3_from {Γ : CT} {w : PW} {h : Nat} {l : List HP} {j : Nat} {q : HP} (hh : isHp w h l) (hq : l[j]? = some q) : Cl Γ yX3_from XX3_from 1 0 0 [.ref h, .int (nI j)] w (rI (nI q.1) w) := by
  refine Cl.of (ls := [some (.ref h), some (.int (nI j))]) rfl (by decide +kernel) (fun h => by cases h) (Nat.le_of_ble_eq_true rfl) rfl ?_
  obtain ⟨hl, ca, cb, cc, cd, ce, hO, h0, h1, h2, h3, h4, h5⟩ := id hh
  have hj : j < l.length := (List.getElem?_eq_some_iff.mp hq).1
  refine r_aload_n 1 dX3_from_0 rfl rfl rfl ?_
  refine r_iload_n 2 dX3_from_1 rfl rfl ?_
  refine r_callV0 5 dX3_from_2 rfl (tX3_has hh) l_X3_31 mX3_has rfl (by repeat (first | assumption | refine gs_eq ?_ | refine gs_ne (by omega) ?_ | exact is_of (by assumption) | refine gs_is ?_)) rfl (by decide) (Nat.le_of_ble_eq_true rfl) (by decide) (qI ?_)
  refine r_if_eq 17 8 dX3_from_5 (by decide) rfl (fun q5 => absurd q5 (by rw [hasO_t (by omega) hj]; decide)) (fun q5 => ?_)
  refine r_aload_n 9 dX3_from_8 rfl rfl rfl ?_
  refine r_getf 12 dX3_from_9 rfl f_X3_11.r (by repeat (first | assumption | refine gs_eq ?_ | refine gs_ne (by omega) ?_ | exact is_of (by assumption) | refine gs_is ?_)) rfl ?_
  refine r_iload_n 13 dX3_from_12 rfl rfl ?_
  refine r_iald 14 dX3_from_13 rfl (j) (by repeat (first | assumption | refine gs_eq ?_ | refine gs_ne (by omega) ?_ | exact is_of (by assumption) | refine gs_is ?_)) rfl (by omega) (by decide) ?_
  refine r_goto 19 dX3_from_14 (by decide) ?_
  refine r_iret dX3_from_19 rfl (by decide) (by decide) ?_
  exact ⟨by rw [(hO j q hq).1], rfl⟩

set_option maxRecDepth 100000 in
theorem tX3_to {Γ : CT} {w : PW} {h : Nat} {l : List HP} {j : Nat} {q : HP} (hh : isHp w h l) (hq : l[j]? = some q) : Cl Γ yX3_to XX3_to 1 0 0 [.ref h, .int (nI j)] w (rI (nI q.2.1) w) := by
  refine Cl.of (ls := [some (.ref h), some (.int (nI j))]) rfl (by decide +kernel) (fun h => by cases h) (Nat.le_of_ble_eq_true rfl) rfl ?_
  obtain ⟨hl, ca, cb, cc, cd, ce, hO, h0, h1, h2, h3, h4, h5⟩ := id hh
  have hj : j < l.length := (List.getElem?_eq_some_iff.mp hq).1
  refine r_aload_n 1 dX3_to_0 rfl rfl rfl ?_
  refine r_iload_n 2 dX3_to_1 rfl rfl ?_
  refine r_callV0 5 dX3_to_2 rfl (tX3_has hh) l_X3_31 mX3_has rfl (by repeat (first | assumption | refine gs_eq ?_ | refine gs_ne (by omega) ?_ | exact is_of (by assumption) | refine gs_is ?_)) rfl (by decide) (Nat.le_of_ble_eq_true rfl) (by decide) (qI ?_)
  refine r_if_eq 17 8 dX3_to_5 (by decide) rfl (fun q5 => absurd q5 (by rw [hasO_t (by omega) hj]; decide)) (fun q5 => ?_)
  refine r_aload_n 9 dX3_to_8 rfl rfl rfl ?_
  refine r_getf 12 dX3_to_9 rfl f_X3_15.r (by repeat (first | assumption | refine gs_eq ?_ | refine gs_ne (by omega) ?_ | exact is_of (by assumption) | refine gs_is ?_)) rfl ?_
  refine r_iload_n 13 dX3_to_12 rfl rfl ?_
  refine r_iald 14 dX3_to_13 rfl (j) (by repeat (first | assumption | refine gs_eq ?_ | refine gs_ne (by omega) ?_ | exact is_of (by assumption) | refine gs_is ?_)) rfl (by omega) (by decide) ?_
  refine r_goto 19 dX3_to_14 (by decide) ?_
  refine r_iret dX3_to_19 rfl (by decide) (by decide) ?_
  exact ⟨by rw [(hO j q hq).2.1], rfl⟩

set_option maxRecDepth 100000 in
theorem tX3_way {Γ : CT} {w : PW} {h : Nat} {l : List HP} {j : Nat} {q : HP} (hh : isHp w h l) (hq : l[j]? = some q) : Cl Γ yX3_way XX3_way 1 0 0 [.ref h, .int (nI j)] w (rI (nI q.2.2.1) w) := by
  refine Cl.of (ls := [some (.ref h), some (.int (nI j))]) rfl (by decide +kernel) (fun h => by cases h) (Nat.le_of_ble_eq_true rfl) rfl ?_
  obtain ⟨hl, ca, cb, cc, cd, ce, hO, h0, h1, h2, h3, h4, h5⟩ := id hh
  have hj : j < l.length := (List.getElem?_eq_some_iff.mp hq).1
  refine r_aload_n 1 dX3_way_0 rfl rfl rfl ?_
  refine r_iload_n 2 dX3_way_1 rfl rfl ?_
  refine r_callV0 5 dX3_way_2 rfl (tX3_has hh) l_X3_31 mX3_has rfl (by repeat (first | assumption | refine gs_eq ?_ | refine gs_ne (by omega) ?_ | exact is_of (by assumption) | refine gs_is ?_)) rfl (by decide) (Nat.le_of_ble_eq_true rfl) (by decide) (qI ?_)
  refine r_if_eq 17 8 dX3_way_5 (by decide) rfl (fun q5 => absurd q5 (by rw [hasO_t (by omega) hj]; decide)) (fun q5 => ?_)
  refine r_aload_n 9 dX3_way_8 rfl rfl rfl ?_
  refine r_getf 12 dX3_way_9 rfl f_X3_18.r (by repeat (first | assumption | refine gs_eq ?_ | refine gs_ne (by omega) ?_ | exact is_of (by assumption) | refine gs_is ?_)) rfl ?_
  refine r_iload_n 13 dX3_way_12 rfl rfl ?_
  refine r_iald 14 dX3_way_13 rfl (j) (by repeat (first | assumption | refine gs_eq ?_ | refine gs_ne (by omega) ?_ | exact is_of (by assumption) | refine gs_is ?_)) rfl (by omega) (by decide) ?_
  refine r_goto 19 dX3_way_14 (by decide) ?_
  refine r_iret dX3_way_19 rfl (by decide) (by decide) ?_
  exact ⟨by rw [(hO j q hq).2.2.1], rfl⟩

set_option maxRecDepth 100000 in
theorem tX3_steps {Γ : CT} {w : PW} {h : Nat} {l : List HP} {j : Nat} {q : HP} (hh : isHp w h l) (hq : l[j]? = some q) : Cl Γ yX3_steps XX3_steps 1 0 0 [.ref h, .int (nI j)] w (rI (nI q.2.2.2.1) w) := by
  refine Cl.of (ls := [some (.ref h), some (.int (nI j))]) rfl (by decide +kernel) (fun h => by cases h) (Nat.le_of_ble_eq_true rfl) rfl ?_
  obtain ⟨hl, ca, cb, cc, cd, ce, hO, h0, h1, h2, h3, h4, h5⟩ := id hh
  have hj : j < l.length := (List.getElem?_eq_some_iff.mp hq).1
  refine r_aload_n 1 dX3_steps_0 rfl rfl rfl ?_
  refine r_iload_n 2 dX3_steps_1 rfl rfl ?_
  refine r_callV0 5 dX3_steps_2 rfl (tX3_has hh) l_X3_31 mX3_has rfl (by repeat (first | assumption | refine gs_eq ?_ | refine gs_ne (by omega) ?_ | exact is_of (by assumption) | refine gs_is ?_)) rfl (by decide) (Nat.le_of_ble_eq_true rfl) (by decide) (qI ?_)
  refine r_if_eq 17 8 dX3_steps_5 (by decide) rfl (fun q5 => absurd q5 (by rw [hasO_t (by omega) hj]; decide)) (fun q5 => ?_)
  refine r_aload_n 9 dX3_steps_8 rfl rfl rfl ?_
  refine r_getf 12 dX3_steps_9 rfl f_X3_21.r (by repeat (first | assumption | refine gs_eq ?_ | refine gs_ne (by omega) ?_ | exact is_of (by assumption) | refine gs_is ?_)) rfl ?_
  refine r_iload_n 13 dX3_steps_12 rfl rfl ?_
  refine r_iald 14 dX3_steps_13 rfl (j) (by repeat (first | assumption | refine gs_eq ?_ | refine gs_ne (by omega) ?_ | exact is_of (by assumption) | refine gs_is ?_)) rfl (by omega) (by decide) ?_
  refine r_goto 18 dX3_steps_14 (by decide) ?_
  refine r_iret dX3_steps_18 rfl (by decide) (by decide) ?_
  exact ⟨by rw [(hO j q hq).2.2.2.1], rfl⟩

set_option maxRecDepth 100000 in
theorem tX3_taken {Γ : CT} {w : PW} {h : Nat} {l : List HP} {j : Nat} {q : HP} (hh : isHp w h l) (hq : l[j]? = some q) : Cl Γ yX3_taken XX3_taken 1 0 0 [.ref h, .int (nI j)] w (rI (q.2.2.2.2) w) := by
  refine Cl.of (ls := [some (.ref h), some (.int (nI j))]) rfl (by decide +kernel) (fun h => by cases h) (Nat.le_of_ble_eq_true rfl) rfl ?_
  obtain ⟨hl, ca, cb, cc, cd, ce, hO, h0, h1, h2, h3, h4, h5⟩ := id hh
  have hj : j < l.length := (List.getElem?_eq_some_iff.mp hq).1
  refine r_aload_n 1 dX3_taken_0 rfl rfl rfl ?_
  refine r_iload_n 2 dX3_taken_1 rfl rfl ?_
  refine r_callV0 5 dX3_taken_2 rfl (tX3_has hh) l_X3_31 mX3_has rfl (by repeat (first | assumption | refine gs_eq ?_ | refine gs_ne (by omega) ?_ | exact is_of (by assumption) | refine gs_is ?_)) rfl (by decide) (Nat.le_of_ble_eq_true rfl) (by decide) (qI ?_)
  refine r_if_eq 17 8 dX3_taken_5 (by decide) rfl (fun q5 => absurd q5 (by rw [hasO_t (by omega) hj]; decide)) (fun q5 => ?_)
  refine r_aload_n 9 dX3_taken_8 rfl rfl rfl ?_
  refine r_getf 12 dX3_taken_9 rfl f_X3_24.r (by repeat (first | assumption | refine gs_eq ?_ | refine gs_ne (by omega) ?_ | exact is_of (by assumption) | refine gs_is ?_)) rfl ?_
  refine r_iload_n 13 dX3_taken_12 rfl rfl ?_
  refine r_iald 14 dX3_taken_13 rfl (j) (by repeat (first | assumption | refine gs_eq ?_ | refine gs_ne (by omega) ?_ | exact is_of (by assumption) | refine gs_is ?_)) rfl (by omega) (by decide) ?_
  refine r_goto 19 dX3_taken_14 (by decide) ?_
  refine r_iret dX3_taken_19 rfl (by decide) (by decide) ?_
  exact ⟨by rw [(hO j q hq).2.2.2.2], rfl⟩

set_option maxRecDepth 100000 in
theorem tX3_find {Γ : CT} {w : PW} {h : Nat} {l : List HP} {x y : Int32} (hh : isHp w h l) : Cl Γ yX3_find XX3_find 2 0 0 [.ref h, .int x, .int y] w (rI (fI (isFT x y) l 0) w) := by
  obtain ⟨hl, ca, cb, cc, cd, ce, hO, h0, h1, h2, h3, h4, h5⟩ := id hh
  have loop : ∀ (m i : Nat) , i + m = l.length → fI (isFT x y) (l.drop i) i = fI (isFT x y) l 0 → Rn Γ XX3_find (rmO 2 0 0) none (FinM (rI (fI (isFT x y) l 0) w) 0 0) 0 0 w 2 [some (.ref h), some (.int x), some (.int y), some (.int (nI i))] [] := by
    intro m
    induction m with
    | zero =>
      intro i  hi hu
      have h9 : i = l.length := by omega
      subst h9
      refine r_iload_n 3 dX3_find_2 rfl rfl ?_
      refine r_aload_n 4 dX3_find_3 rfl rfl rfl ?_
      refine r_getf 7 dX3_find_4 rfl f_X3_27.r (by repeat (first | assumption | refine gs_eq ?_ | refine gs_ne (by omega) ?_ | exact is_of (by assumption) | refine gs_is ?_)) rfl ?_
      refine r_icmp_ge 36 10 dX3_find_7 (by decide) rfl (fun q7 => ?_) (fun q7 => absurd q7 (fun z => z (nI_le (by omega) (by omega))))
      refine r_bipush (v := (-6)) 38 dX3_find_36 rfl (by decide) ?_
      refine r_iret dX3_find_38 rfl (by decide) (by decide) ?_
      exact ⟨by rw [← hu, List.drop_length]; rfl, rfl⟩
    | succ m ih =>
      intro i  hi hu
      obtain ⟨q, hq, hd⟩ := drop_c (l := l) (i := i) (by omega)
      rw [hd, fI] at hu
      refine r_iload_n 3 dX3_find_2 rfl rfl ?_
      refine r_aload_n 4 dX3_find_3 rfl rfl rfl ?_
      refine r_getf 7 dX3_find_4 rfl f_X3_27.r (by repeat (first | assumption | refine gs_eq ?_ | refine gs_ne (by omega) ?_ | exact is_of (by assumption) | refine gs_is ?_)) rfl ?_
      refine r_icmp_ge 36 10 dX3_find_7 (by decide) rfl (fun q7 => absurd q7 (nI_ge (by omega) (by omega))) (fun q7 => ?_)
      refine r_aload_n 11 dX3_find_10 rfl rfl rfl ?_
      refine r_iload_n 12 dX3_find_11 rfl rfl ?_
      refine r_callV0 15 dX3_find_12 rfl (tX3_from hh hq) l_X3_35 mX3_from rfl (by repeat (first | assumption | refine gs_eq ?_ | refine gs_ne (by omega) ?_ | exact is_of (by assumption) | refine gs_is ?_)) rfl (by decide) (Nat.le_of_ble_eq_true rfl) (by decide) (qI ?_)
      refine r_iload_n 16 dX3_find_15 rfl rfl ?_
      refine r_icmp_ne 30 19 dX3_find_16 (by decide) rfl (fun q16 => ?_) (fun q16 => ?_)
      · refine r_iinc (ls1 := [_, _, _, _]) 33 dX3_find_30 rfl (by decide) rfl rfl (nI_1 i) rfl ?_
        refine r_goto 2 dX3_find_33 (by decide) ?_
        exact ih (i + 1) (by omega) (by rw [← hu, if_neg (by first | (rw [isFT, decide_eq_false q16]; simp) | (rw [isFT, decide_eq_false q25]; simp))])
      · refine r_aload_n 20 dX3_find_19 rfl rfl rfl ?_
        refine r_iload_n 21 dX3_find_20 rfl rfl ?_
        refine r_callV0 24 dX3_find_21 rfl (tX3_to hh hq) l_X3_39 mX3_to rfl (by repeat (first | assumption | refine gs_eq ?_ | refine gs_ne (by omega) ?_ | exact is_of (by assumption) | refine gs_is ?_)) rfl (by decide) (Nat.le_of_ble_eq_true rfl) (by decide) (qI ?_)
        refine r_iload_n 25 dX3_find_24 rfl rfl ?_
        refine r_icmp_ne 30 28 dX3_find_25 (by decide) rfl (fun q25 => ?_) (fun q25 => ?_)
        · refine r_iinc (ls1 := [_, _, _, _]) 33 dX3_find_30 rfl (by decide) rfl rfl (nI_1 i) rfl ?_
          refine r_goto 2 dX3_find_33 (by decide) ?_
          exact ih (i + 1) (by omega) (by rw [← hu, if_neg (by first | (rw [isFT, decide_eq_false q16]; simp) | (rw [isFT, decide_eq_false q25]; simp))])
        · refine r_iload_n 29 dX3_find_28 rfl rfl ?_
          refine r_iret dX3_find_29 rfl (by decide) (by decide) ?_
          exact ⟨by rw [← hu, if_pos (by rw [isFT, decide_eq_true q16, decide_eq_true q25]; rfl)], rfl⟩
  refine Cl.of (ls := [some (.ref h), some (.int x), some (.int y), none]) rfl (by decide +kernel) (fun h => by cases h) (Nat.le_of_ble_eq_true rfl) rfl ?_
  refine r_iconst (v := nI 0) 1 dX3_find_0 rfl (by decide) ?_
  refine r_istore_n (ls1 := [_, _, _, _]) 2 dX3_find_1 rfl (by decide) rfl rfl ?_
  exact loop l.length 0 (by omega) rfl

set_option maxRecDepth 100000 in
theorem tX3_numberFrom {Γ : CT} {w : PW} {h : Nat} {l : List HP} {x : Int32} (hh : isHp w h l) : Cl Γ yX3_numberFrom XX3_numberFrom 2 0 0 [.ref h, .int x] w (rI (nI (l.countP (fun q => decide (nI q.1 = x)))) w) := by
  obtain ⟨hl, ca, cb, cc, cd, ce, hO, h0, h1, h2, h3, h4, h5⟩ := id hh
  have loop : ∀ (m i : Nat) (c : Nat), i + m = l.length → c + (l.drop i).countP (fun q => decide (nI q.1 = x)) = l.countP (fun q => decide (nI q.1 = x)) → Rn Γ XX3_numberFrom (rmO 2 0 0) none (FinM (rI (nI (l.countP (fun q => decide (nI q.1 = x)))) w) 0 0) 0 0 w 4 [some (.ref h), some (.int x), some (.int (nI c)), some (.int (nI i))] [] := by
    intro m
    induction m with
    | zero =>
      intro i c hi hu
      have h9 : i = l.length := by omega
      subst h9
      rw [List.drop_length] at hu
      refine r_iload_n 5 dX3_numberFrom_4 rfl rfl ?_
      refine r_aload_n 6 dX3_numberFrom_5 rfl rfl rfl ?_
      refine r_getf 9 dX3_numberFrom_6 rfl f_X3_27.r (by repeat (first | assumption | refine gs_eq ?_ | refine gs_ne (by omega) ?_ | exact is_of (by assumption) | refine gs_is ?_)) rfl ?_
      refine r_icmp_ge 30 12 dX3_numberFrom_9 (by decide) rfl (fun q9 => ?_) (fun q9 => absurd q9 (fun z => z (nI_le (by omega) (by omega))))
      refine r_iload_n 31 dX3_numberFrom_30 rfl rfl ?_
      refine r_iret dX3_numberFrom_31 rfl (by decide) (by decide) ?_
      exact ⟨by rw [← hu]; rfl, rfl⟩
    | succ m ih =>
      intro i c hi hu
      obtain ⟨q, hq, hd⟩ := drop_c (l := l) (i := i) (by omega)
      rw [hd, List.countP_cons] at hu
      refine r_iload_n 5 dX3_numberFrom_4 rfl rfl ?_
      refine r_aload_n 6 dX3_numberFrom_5 rfl rfl rfl ?_
      refine r_getf 9 dX3_numberFrom_6 rfl f_X3_27.r (by repeat (first | assumption | refine gs_eq ?_ | refine gs_ne (by omega) ?_ | exact is_of (by assumption) | refine gs_is ?_)) rfl ?_
      refine r_icmp_ge 30 12 dX3_numberFrom_9 (by decide) rfl (fun q9 => absurd q9 (nI_ge (by omega) (by omega))) (fun q9 => ?_)
      refine r_aload_n 13 dX3_numberFrom_12 rfl rfl rfl ?_
      refine r_iload_n 14 dX3_numberFrom_13 rfl rfl ?_
      refine r_callV0 17 dX3_numberFrom_14 rfl (tX3_from hh hq) l_X3_35 mX3_from rfl (by repeat (first | assumption | refine gs_eq ?_ | refine gs_ne (by omega) ?_ | exact is_of (by assumption) | refine gs_is ?_)) rfl (by decide) (Nat.le_of_ble_eq_true rfl) (by decide) (qI ?_)
      refine r_iload_n 18 dX3_numberFrom_17 rfl rfl ?_
      refine r_icmp_ne 24 21 dX3_numberFrom_18 (by decide) rfl (fun q18 => ?_) (fun q18 => ?_)
      · refine r_iinc (ls1 := [_, _, _, _]) 27 dX3_numberFrom_24 rfl (by decide) rfl rfl (nI_1 i) rfl ?_
        refine r_goto 4 dX3_numberFrom_27 (by decide) ?_
        first | exact ih (i + 1) (c + 1) (by omega) (by rw [if_pos (decide_eq_true q18)] at hu; omega) | exact ih (i + 1) c (by omega) (by rw [if_neg (by rw [decide_eq_false q18]; decide)] at hu; omega)
      · refine r_iinc (ls1 := [_, _, _, _]) 24 dX3_numberFrom_21 rfl (by decide) rfl rfl (nI_1 c) rfl ?_
        refine r_iinc (ls1 := [_, _, _, _]) 27 dX3_numberFrom_24 rfl (by decide) rfl rfl (nI_1 i) rfl ?_
        refine r_goto 4 dX3_numberFrom_27 (by decide) ?_
        first | exact ih (i + 1) (c + 1) (by omega) (by rw [if_pos (decide_eq_true q18)] at hu; omega) | exact ih (i + 1) c (by omega) (by rw [if_neg (by rw [decide_eq_false q18]; decide)] at hu; omega)
  refine Cl.of (ls := [some (.ref h), some (.int x), none, none]) rfl (by decide +kernel) (fun h => by cases h) (Nat.le_of_ble_eq_true rfl) rfl ?_
  refine r_iconst (v := nI 0) 1 dX3_numberFrom_0 rfl (by decide) ?_
  refine r_istore_n (ls1 := [_, _, _, _]) 2 dX3_numberFrom_1 rfl (by decide) rfl rfl ?_
  refine r_iconst (v := nI 0) 3 dX3_numberFrom_2 rfl (by decide) ?_
  refine r_istore_n (ls1 := [_, _, _, _]) 4 dX3_numberFrom_3 rfl (by decide) rfl rfl ?_
  exact loop l.length 0 0 (by omega) (by simp)

set_option maxRecDepth 100000 in
theorem tX3_takes {Γ : CT} {w : PW} {h : Nat} {l : List HP} {x : Int32} (hh : isHp w h l) : Cl Γ yX3_takes XX3_takes 2 0 0 [.ref h, .int x] w (rI (bI (l.any (fun q => decide (q.2.2.2.2 = x)))) w) := by
  obtain ⟨hl, ca, cb, cc, cd, ce, hO, h0, h1, h2, h3, h4, h5⟩ := id hh
  have loop : ∀ (m i : Nat) , i + m = l.length → (l.drop i).any (fun q => decide (q.2.2.2.2 = x)) = l.any (fun q => decide (q.2.2.2.2 = x)) → Rn Γ XX3_takes (rmO 2 0 0) none (FinM (rI (bI (l.any (fun q => decide (q.2.2.2.2 = x)))) w) 0 0) 0 0 w 2 [some (.ref h), some (.int x), some (.int (nI i))] [] := by
    intro m
    induction m with
    | zero =>
      intro i  hi hu
      have h9 : i = l.length := by omega
      subst h9
      rw [List.drop_length] at hu
      refine r_iload_n 3 dX3_takes_2 rfl rfl ?_
      refine r_aload_n 4 dX3_takes_3 rfl rfl rfl ?_
      refine r_getf 7 dX3_takes_4 rfl f_X3_27.r (by repeat (first | assumption | refine gs_eq ?_ | refine gs_ne (by omega) ?_ | exact is_of (by assumption) | refine gs_is ?_)) rfl ?_
      refine r_icmp_ge 27 10 dX3_takes_7 (by decide) rfl (fun q7 => ?_) (fun q7 => absurd q7 (fun z => z (nI_le (by omega) (by omega))))
      refine r_iconst (v := 0) 28 dX3_takes_27 rfl (by decide) ?_
      refine r_bret dX3_takes_28 rfl (by first | exact Or.inl rfl | exact Or.inr rfl) (by decide) (by decide) ?_
      exact ⟨by rw [← hu]; rfl, rfl⟩
    | succ m ih =>
      intro i  hi hu
      obtain ⟨q, hq, hd⟩ := drop_c (l := l) (i := i) (by omega)
      rw [hd, List.any_cons] at hu
      refine r_iload_n 3 dX3_takes_2 rfl rfl ?_
      refine r_aload_n 4 dX3_takes_3 rfl rfl rfl ?_
      refine r_getf 7 dX3_takes_4 rfl f_X3_27.r (by repeat (first | assumption | refine gs_eq ?_ | refine gs_ne (by omega) ?_ | exact is_of (by assumption) | refine gs_is ?_)) rfl ?_
      refine r_icmp_ge 27 10 dX3_takes_7 (by decide) rfl (fun q7 => absurd q7 (nI_ge (by omega) (by omega))) (fun q7 => ?_)
      refine r_aload_n 11 dX3_takes_10 rfl rfl rfl ?_
      refine r_iload_n 12 dX3_takes_11 rfl rfl ?_
      refine r_callV0 15 dX3_takes_12 rfl (tX3_taken hh hq) l_X3_42 mX3_taken rfl (by repeat (first | assumption | refine gs_eq ?_ | refine gs_ne (by omega) ?_ | exact is_of (by assumption) | refine gs_is ?_)) rfl (by decide) (Nat.le_of_ble_eq_true rfl) (by decide) (qI ?_)
      refine r_iload_n 16 dX3_takes_15 rfl rfl ?_
      refine r_icmp_ne 21 19 dX3_takes_16 (by decide) rfl (fun q16 => ?_) (fun q16 => ?_)
      · refine r_iinc (ls1 := [_, _, _]) 24 dX3_takes_21 rfl (by decide) rfl rfl (nI_1 i) rfl ?_
        refine r_goto 2 dX3_takes_24 (by decide) ?_
        exact ih (i + 1) (by omega) (by rw [← hu, decide_eq_false q16]; rfl)
      · refine r_iconst (v := 1) 20 dX3_takes_19 rfl (by decide) ?_
        refine r_bret dX3_takes_20 rfl (by first | exact Or.inl rfl | exact Or.inr rfl) (by decide) (by decide) ?_
        exact ⟨by rw [← hu, decide_eq_true q16]; rfl, rfl⟩
  refine Cl.of (ls := [some (.ref h), some (.int x), none]) rfl (by decide +kernel) (fun h => by cases h) (Nat.le_of_ble_eq_true rfl) rfl ?_
  refine r_iconst (v := nI 0) 1 dX3_takes_0 rfl (by decide) ?_
  refine r_istore_n (ls1 := [_, _, _]) 2 dX3_takes_1 rfl (by decide) rfl rfl ?_
  exact loop l.length 0 (by omega) rfl

theorem hpO_add {l : List HP} {a b c d e : Nat → Int32} {q : HP} (h : hpO l a b c d e) : hpO (l ++ [q]) (upd a l.length (nI q.1)) (upd b l.length (nI q.2.1)) (upd c l.length (nI q.2.2.1)) (upd d l.length (nI q.2.2.2.1)) (upd e l.length q.2.2.2.2) := by
  intro i z hz
  rw [List.getElem?_append] at hz
  by_cases hi : i < l.length
  · rw [if_pos hi] at hz
    have hne : i ≠ l.length := by omega
    obtain ⟨g1, g2, g3, g4, g5⟩ := h i z hz
    exact ⟨by rw [pk_un hne]; exact g1, by rw [pk_un hne]; exact g2, by rw [pk_un hne]; exact g3, by rw [pk_un hne]; exact g4, by rw [pk_un hne]; exact g5⟩
  · rw [if_neg hi] at hz
    have h1 : i - l.length < 1 := (List.getElem?_eq_some_iff.mp hz).1
    have h2 : i = l.length := by omega
    subst h2
    rw [Nat.sub_self] at hz
    cases hz
    exact ⟨pk_us, pk_us, pk_us, pk_us, pk_us⟩
set_option maxRecDepth 100000 in
theorem tX3_add {Γ : CT} {w : PW} {h : Nat} {l : List HP} {q : HP} (hh : isHp w h l) (h192 : l.length < 192) : Cl Γ yX3_add XX3_add 0 0 0 [.ref h, .int (nI q.1), .int (nI q.2.1), .int (nI q.2.2.1), .int (nI q.2.2.2.1), .int q.2.2.2.2] w (rN (toHp w h (l ++ [q]))) := by
  refine Cl.of (ls := [some (.ref h), some (.int (nI q.1)), some (.int (nI q.2.1)), some (.int (nI q.2.2.1)), some (.int (nI q.2.2.2.1)), some (.int q.2.2.2.2)]) rfl (by decide +kernel) (fun h => by cases h) (Nat.le_of_ble_eq_true rfl) rfl ?_
  obtain ⟨hl, ca, cb, cc, cd, ce, hO, h0, h1, h2, h3, h4, h5⟩ := id hh
  refine r_aload_n 1 dX3_add_0 rfl rfl rfl ?_
  refine r_getf 4 dX3_add_1 rfl f_X3_27.r (by repeat (first | assumption | refine gs_eq ?_ | refine gs_ne (by omega) ?_ | exact is_of (by assumption) | refine gs_is ?_)) rfl ?_
  refine r_if_lt 17 7 dX3_add_4 (by decide) rfl (fun q4 => absurd q4 (nI_pos (by omega))) (fun q4 => ?_)
  refine r_aload_n 8 dX3_add_7 rfl rfl rfl ?_
  refine r_getf 11 dX3_add_8 rfl f_X3_27.r (by repeat (first | assumption | refine gs_eq ?_ | refine gs_ne (by omega) ?_ | exact is_of (by assumption) | refine gs_is ?_)) rfl ?_
  refine r_sipush (v := nI 192) 14 dX3_add_11 rfl (by decide) ?_
  refine r_icmp_lt 18 17 dX3_add_14 (by decide) rfl (fun q14 => ?_) (fun q14 => absurd q14 (fun z => z (nI_lt (by omega) (by omega))))
  refine r_aload_n 19 dX3_add_18 rfl rfl rfl ?_
  refine r_getf 22 dX3_add_19 rfl f_X3_11.r (by repeat (first | assumption | refine gs_eq ?_ | refine gs_ne (by omega) ?_ | exact is_of (by assumption) | refine gs_is ?_)) rfl ?_
  refine r_aload_n 23 dX3_add_22 rfl rfl rfl ?_
  refine r_getf 26 dX3_add_23 rfl f_X3_27.r (by repeat (first | assumption | refine gs_eq ?_ | refine gs_ne (by omega) ?_ | exact is_of (by assumption) | refine gs_is ?_)) rfl ?_
  refine r_iload_n 27 dX3_add_26 rfl rfl ?_
  refine r_iast 28 dX3_add_27 rfl (l.length) (by repeat (first | assumption | refine gs_eq ?_ | refine gs_ne (by omega) ?_ | exact is_of (by assumption) | refine gs_is ?_)) rfl h192 (by decide) ?_
  refine r_aload_n 29 dX3_add_28 rfl rfl rfl ?_
  refine r_getf 32 dX3_add_29 rfl f_X3_15.r (by repeat (first | assumption | refine gs_eq ?_ | refine gs_ne (by omega) ?_ | exact is_of (by assumption) | refine gs_is ?_)) rfl ?_
  refine r_aload_n 33 dX3_add_32 rfl rfl rfl ?_
  refine r_getf 36 dX3_add_33 rfl f_X3_27.r (by repeat (first | assumption | refine gs_eq ?_ | refine gs_ne (by omega) ?_ | exact is_of (by assumption) | refine gs_is ?_)) rfl ?_
  refine r_iload_n 37 dX3_add_36 rfl rfl ?_
  refine r_iast 38 dX3_add_37 rfl (l.length) (by repeat (first | assumption | refine gs_eq ?_ | refine gs_ne (by omega) ?_ | exact is_of (by assumption) | refine gs_is ?_)) rfl h192 (by decide) ?_
  refine r_aload_n 39 dX3_add_38 rfl rfl rfl ?_
  refine r_getf 42 dX3_add_39 rfl f_X3_18.r (by repeat (first | assumption | refine gs_eq ?_ | refine gs_ne (by omega) ?_ | exact is_of (by assumption) | refine gs_is ?_)) rfl ?_
  refine r_aload_n 43 dX3_add_42 rfl rfl rfl ?_
  refine r_getf 46 dX3_add_43 rfl f_X3_27.r (by repeat (first | assumption | refine gs_eq ?_ | refine gs_ne (by omega) ?_ | exact is_of (by assumption) | refine gs_is ?_)) rfl ?_
  refine r_iload_n 47 dX3_add_46 rfl rfl ?_
  refine r_iast 48 dX3_add_47 rfl (l.length) (by repeat (first | assumption | refine gs_eq ?_ | refine gs_ne (by omega) ?_ | exact is_of (by assumption) | refine gs_is ?_)) rfl h192 (by decide) ?_
  refine r_aload_n 49 dX3_add_48 rfl rfl rfl ?_
  refine r_getf 52 dX3_add_49 rfl f_X3_21.r (by repeat (first | assumption | refine gs_eq ?_ | refine gs_ne (by omega) ?_ | exact is_of (by assumption) | refine gs_is ?_)) rfl ?_
  refine r_aload_n 53 dX3_add_52 rfl rfl rfl ?_
  refine r_getf 56 dX3_add_53 rfl f_X3_27.r (by repeat (first | assumption | refine gs_eq ?_ | refine gs_ne (by omega) ?_ | exact is_of (by assumption) | refine gs_is ?_)) rfl ?_
  refine r_iload 58 dX3_add_56 rfl rfl ?_
  refine r_iast 59 dX3_add_58 rfl (l.length) (by repeat (first | assumption | refine gs_eq ?_ | refine gs_ne (by omega) ?_ | exact is_of (by assumption) | refine gs_is ?_)) rfl h192 (by decide) ?_
  refine r_aload_n 60 dX3_add_59 rfl rfl rfl ?_
  refine r_getf 63 dX3_add_60 rfl f_X3_24.r (by repeat (first | assumption | refine gs_eq ?_ | refine gs_ne (by omega) ?_ | exact is_of (by assumption) | refine gs_is ?_)) rfl ?_
  refine r_aload_n 64 dX3_add_63 rfl rfl rfl ?_
  refine r_getf 67 dX3_add_64 rfl f_X3_27.r (by repeat (first | assumption | refine gs_eq ?_ | refine gs_ne (by omega) ?_ | exact is_of (by assumption) | refine gs_is ?_)) rfl ?_
  refine r_iload 69 dX3_add_67 rfl rfl ?_
  refine r_iast 70 dX3_add_69 rfl (l.length) (by repeat (first | assumption | refine gs_eq ?_ | refine gs_ne (by omega) ?_ | exact is_of (by assumption) | refine gs_is ?_)) rfl h192 (by decide) ?_
  refine r_aload_n 71 dX3_add_70 rfl rfl rfl ?_
  refine r_dup 72 dX3_add_71 rfl rfl ?_
  refine r_getf 75 dX3_add_72 rfl f_X3_27.r (by repeat (first | assumption | refine gs_eq ?_ | refine gs_ne (by omega) ?_ | exact is_of (by assumption) | refine gs_is ?_)) rfl ?_
  refine r_iconst (v := 1) 76 dX3_add_75 rfl (by decide) ?_
  refine r_iadd 77 dX3_add_76 rfl ?_
  refine r_putf (fs1 := [_, _, _, _, _, _]) 80 dX3_add_77 rfl f_X3_27 (by repeat (first | assumption | refine gs_eq ?_ | refine gs_ne (by omega) ?_ | exact is_of (by assumption) | refine gs_is ?_)) rfl (by simp only [List.length_cons, List.length_nil]; omega) rfl ?_
  refine r_vret dX3_add_80 rfl (by decide) (by decide) ?_
  refine ⟨rfl, (((((Fr.st ⟨by omega, by omega⟩).tr (Fr.st ⟨by omega, by omega⟩)).tr (Fr.st ⟨by omega, by omega⟩)).tr (Fr.st ⟨by omega, by omega⟩)).tr (Fr.st ⟨by omega, by omega⟩)).tr (Fr.st ⟨by omega, by omega⟩), by rw [List.length_append]; exact h192, _, _, _, _, _, hpO_add hO, ?_, ?_, ?_, ?_, ?_, ?_⟩
  · rw [List.length_append, show nI (l.length + [q].length) = nI l.length + 1 from nI_succ _]
    exact (by repeat (first | assumption | refine gs_eq ?_ | refine gs_ne (by omega) ?_ | exact is_of (by assumption) | refine gs_is ?_))
  · exact (by repeat (first | assumption | refine gs_eq ?_ | refine gs_ne (by omega) ?_ | exact is_of (by assumption) | refine gs_is ?_))
  · exact (by repeat (first | assumption | refine gs_eq ?_ | refine gs_ne (by omega) ?_ | exact is_of (by assumption) | refine gs_is ?_))
  · exact (by repeat (first | assumption | refine gs_eq ?_ | refine gs_ne (by omega) ?_ | exact is_of (by assumption) | refine gs_is ?_))
  · exact (by repeat (first | assumption | refine gs_eq ?_ | refine gs_ne (by omega) ?_ | exact is_of (by assumption) | refine gs_is ?_))
  · exact (by repeat (first | assumption | refine gs_eq ?_ | refine gs_ne (by omega) ?_ | exact is_of (by assumption) | refine gs_is ?_))
end
section
/-! ===== hops listed ===== -/
theorem isBd.o {w : PW} {b : Nat} {f n : Nat → Int32} {mv jp : Int32} (h : isBd w b f n mv jp) : w[b]? = some (oB 0 [.ref (b + 1), .ref (b + 2), .int mv, .int jp]) := h.1
theorem isHp.o {w : PW} {h : Nat} {l : List HP} (k : isHp w h l) : w[h]? = some (oB 3 [.ref (h + 1), .ref (h + 2), .ref (h + 3), .ref (h + 4), .ref (h + 5), .int (nI l.length)]) := k.2.choose_spec.choose_spec.choose_spec.choose_spec.choose_spec.2.1
def ld (f : Nat → Int32) (s way : Nat) (t : Int32) : Nat → Nat → List HP
  | 0, _ => []
  | n + 1, k => if f (nk s way k) = -6 then (s, nk s way k, way, k, t) :: ld f s way t n (k + 1) else []
def tkO (s way sb : Nat) : Int32 := if 0 < sb then nI (nk s way sb) else -6
def lands (f : Nat → Int32) (s way sb far : Nat) : List HP := ld f s way (tkO s way sb) (far - sb) (sb + 1)
def jAt (f : Nat → Int32) (s way : Nat) : List HP := if 0 < prey f s way then lands f s way (prey f s way) (if isKg (f s) = true then 23 else 2) else []
def mAt (f : Nat → Int32) (s way : Nat) : List HP := if mayG (f s) (nI way) = true then lands f s way 0 (if isKg (f s) = true then 23 else 1) else []
def jSq (f : Nat → Int32) (side jp : Int32) (s : Nat) : List HP := if sdO (f s) = side ∧ (jp = -6 ∨ jp = nI s) then (List.range 4).flatMap (jAt f s) else []
def allJ (f : Nat → Int32) (side jp : Int32) : List HP := (List.range 48).flatMap (jSq f side jp)
def mSq (f : Nat → Int32) (side : Int32) (s : Nat) : List HP := if sdO (f s) = side then (List.range 4).flatMap (mAt f s) else []
def allM (f : Nat → Int32) (side : Int32) : List HP := (List.range 48).flatMap (mSq f side)
def hopsC (f : Nat → Int32) (mv jp : Int32) : List HP := if (allJ f mv jp).length = 0 then allM f mv else allJ f mv jp
theorem fm_s {α : Type} {g : Nat → List α} {i : Nat} : (List.range (i + 1)).flatMap g = (List.range i).flatMap g ++ g i := by
  rw [List.range_succ, List.flatMap_append]
  simp
theorem fm_len {α : Type} {g : Nat → List α} {i : Nat} : ∀ {n : Nat}, i ≤ n → ((List.range i).flatMap g).length ≤ ((List.range n).flatMap g).length
  | 0, h => by rw [Nat.le_zero.mp h]; exact Nat.le_refl _
  | n + 1, h => by
    rcases Nat.lt_or_ge i (n + 1) with h1 | h1
    · rw [fm_s, List.length_append]
      have := fm_len (g := g) (i := i) (n := n) (by omega)
      omega
    · rw [show i = n + 1 by omega]
      exact Nat.le_refl _
theorem isHp.zero {w : PW} {h : Nat} {l : List HP} (k : isHp w h l) : toHp w h [] (w.set h (oB 3 [.ref (h + 1), .ref (h + 2), .ref (h + 3), .ref (h + 4), .ref (h + 5), .int 0])) := by
  obtain ⟨k0, a, b, c, d, e, k1, k2, k3, k4, k5, k6, k7⟩ := k
  exact ⟨Fr.st ⟨by omega, by omega⟩, by simp, a, b, c, d, e, (fun i q h => by simp at h), gs_eq (is_of k2), gs_ne (by omega) k3, gs_ne (by omega) k4, gs_ne (by omega) k5, gs_ne (by omega) k6, gs_ne (by omega) k7⟩
def apH (b h : Nat) : Prop := b + 3 ≤ h ∨ h + 6 ≤ b
theorem apH.hb {b h q : Nat} (k : apH b h) (h1 : b ≤ q) (h2 : q < b + 3) : ¬ hS h q := by
  unfold hS
  unfold apH at k
  omega
theorem nI_z {n : Nat} (hn : n ≤ 192) (h : nI n = 0) : n = 0 := by
  rcases Nat.eq_zero_or_pos n with e | e
  · exact e
  · exact absurd h (nI_ne0 e (by omega))
set_option maxRecDepth 100000 in
theorem tX3_addLandings {Γ : CT} {w : PW} {b h : Nat} {f n : Nat → Int32} {mv jp : Int32} {l : List HP} {s way sb far : Nat} (hb : isBd w b f n mv jp) (hh : isHp w h l) (hap : apH b h) (hs : s < 48) (hw : way < 4) (hsb : sb ≤ far) (hfar : far < 24) (h192 : (l ++ lands f s way sb far).length ≤ 192) : Cl Γ yX3_addLandings XX3_addLandings 2 0 0 [.ref h, .ref b, .int (nI s), .int (nI way), .int (nI sb), .int (nI far)] w (rN (toHp w h (l ++ lands f s way sb far))) := by
  have loop : ∀ (z t : Int32) (m k : Nat) (u : PW) (P : List HP), k + m = far + 1 → P ++ ld f s way t m k = lands f s way sb far → toHp w h (l ++ P) u → Rn Γ XX3_addLandings (rmO 2 0 0) none (FinM (rN (toHp w h (l ++ lands f s way sb far))) 0 0) 0 0 u 38 [some (.ref h), some (.ref b), some (.int (nI s)), some (.int (nI way)), some (.int (nI sb)), some (.int (nI far)), some (.int z), some (.int t), some (.int (nI (nk s way k))), some (.int (nI k))] [] := by
    intro z t m
    induction m with
    | zero =>
      intro k u P hk hP hu
      refine r_iload 40 dX3_addLandings_38 rfl rfl ?_
      refine r_iload 42 dX3_addLandings_40 rfl rfl ?_
      refine r_icmp_gt 83 45 dX3_addLandings_42 (by decide) rfl (fun q42 => ?_) (fun q42 => absurd q42 (fun z => z (nI_lt (by omega) (by omega))))
      refine r_vret dX3_addLandings_83 rfl (by decide) (by decide) ?_
      exact ⟨rfl, by rw [← hP, ld, List.append_nil]; exact hu⟩
    | succ m ih =>
      intro k u P hk hP hu
      have hbu : isBd u b f n mv jp := hb.fr hu.1 (fun q h1 h2 => hap.hb h1 h2)
      have hlen : (l ++ P).length + (ld f s way t (m + 1) k).length ≤ 192 := by
        rw [← List.length_append, List.append_assoc, hP]
        exact h192
      rw [ld] at hP hlen
      refine r_iload 40 dX3_addLandings_38 rfl rfl ?_
      refine r_iload 42 dX3_addLandings_40 rfl rfl ?_
      refine r_icmp_gt 83 45 dX3_addLandings_42 (by decide) rfl (fun q42 => absurd q42 (nI_nlt (by omega) (by omega))) (fun q42 => ?_)
      refine r_aload_n 46 dX3_addLandings_45 rfl rfl rfl ?_
      refine r_iload 48 dX3_addLandings_46 rfl rfl ?_
      refine r_callV0 51 dX3_addLandings_48 rfl (tX0_pAt hbu (nk_lt hs)) l_X3_61 mX0_pieceAt rfl (by repeat (first | assumption | exact isBd.o (by assumption) | exact isHp.o (by assumption) | refine gs_eq ?_ | refine gs_ne (by omega) ?_ | exact is_of (by assumption) | refine gs_is ?_)) rfl (by decide) (Nat.le_of_ble_eq_true rfl) (by decide) (qI ?_)
      refine r_bipush (v := (-6)) 53 dX3_addLandings_51 rfl (by decide) ?_
      refine r_icmp_ne 83 56 dX3_addLandings_53 (by decide) rfl (fun q53 => ?_) (fun q53 => ?_)
      · refine r_vret dX3_addLandings_83 rfl (by decide) (by decide) ?_
        exact ⟨rfl, by rw [← hP, if_neg q53, List.append_nil]; exact hu⟩
      · refine r_aload_n 57 dX3_addLandings_56 rfl rfl rfl ?_
        refine r_iload_n 58 dX3_addLandings_57 rfl rfl ?_
        refine r_iload 60 dX3_addLandings_58 rfl rfl ?_
        refine r_iload_n 61 dX3_addLandings_60 rfl rfl ?_
        refine r_iload 63 dX3_addLandings_61 rfl rfl ?_
        refine r_iload 65 dX3_addLandings_63 rfl rfl ?_
        refine r_callV0 68 dX3_addLandings_65 rfl (tX3_add (q := (s, nk s way k, way, k, t)) hu.2 (by rw [if_pos q53, List.length_cons] at hlen; omega)) l_X3_86 mX3_add rfl hu.2.2.choose_spec.choose_spec.choose_spec.choose_spec.choose_spec.2.1 rfl (by decide) (Nat.le_of_ble_eq_true rfl) (by decide) (qN fun u1 hu1 => ?_)
        refine r_iload 70 dX3_addLandings_68 rfl rfl ?_
        refine r_iload_n 71 dX3_addLandings_70 rfl rfl ?_
        refine r_iconst (v := nI 1) 72 dX3_addLandings_71 rfl (by decide) ?_
        refine r_callSN0 75 dX3_addLandings_72 rfl (tX6_sq1 (nk_lt hs) hw) l_X3_82 mX6_squareAfter rfl (by decide) (Nat.le_of_ble_eq_true rfl) (by decide) (qI ?_)
        refine r_istore (ls1 := [_, _, _, _, _, _, _, _, _, _]) 77 dX3_addLandings_75 rfl (by decide) rfl rfl ?_
        refine r_iinc (ls1 := [_, _, _, _, _, _, _, _, _, _]) 80 dX3_addLandings_77 rfl (by decide) rfl rfl (nI_1 k) rfl ?_
        refine r_goto 38 dX3_addLandings_80 (by decide) ?_
        exact ih (k + 1) u1 (P ++ [(s, nk s way k, way, k, t)]) (by omega) (by rw [← hP, if_pos q53, List.append_assoc]; rfl) (by rw [← List.append_assoc]; exact hu.tr hu1)
  refine Cl.of (ls := [some (.ref h), some (.ref b), some (.int (nI s)), some (.int (nI way)), some (.int (nI sb)), some (.int (nI far)), none, none, none, none]) rfl (by decide +kernel) (fun h => by cases h) (Nat.le_of_ble_eq_true rfl) rfl ?_
  refine r_iload_n 1 dX3_addLandings_0 rfl rfl ?_
  refine r_iload_n 2 dX3_addLandings_1 rfl rfl ?_
  refine r_iload 4 dX3_addLandings_2 rfl rfl ?_
  refine r_callSN0 7 dX3_addLandings_4 rfl (tX6_sq hs hw (by omega)) l_X3_82 mX6_squareAfter rfl (by decide) (Nat.le_of_ble_eq_true rfl) (by decide) (qI ?_)
  refine r_istore (ls1 := [_, _, _, _, _, _, _, _, _, _]) 9 dX3_addLandings_7 rfl (by decide) rfl rfl ?_
  refine r_iload 11 dX3_addLandings_9 rfl rfl ?_
  refine r_if_le 19 14 dX3_addLandings_11 (by decide) rfl (fun q11 => ?_) (fun q11 => ?_)
  · refine r_bipush (v := (-6)) 21 dX3_addLandings_19 rfl (by decide) ?_
    refine r_istore (ls1 := [_, _, _, _, _, _, _, _, _, _]) 23 dX3_addLandings_21 rfl (by decide) rfl rfl ?_
    refine r_iload 25 dX3_addLandings_23 rfl rfl ?_
    refine r_iload_n 26 dX3_addLandings_25 rfl rfl ?_
    refine r_iconst (v := nI 1) 27 dX3_addLandings_26 rfl (by decide) ?_
    refine r_callSN0 30 dX3_addLandings_27 rfl (tX6_sq1 (nk_lt hs) hw) l_X3_82 mX6_squareAfter rfl (by decide) (Nat.le_of_ble_eq_true rfl) (by decide) (qI ?_)
    refine r_istore (ls1 := [_, _, _, _, _, _, _, _, _, _]) 32 dX3_addLandings_30 rfl (by decide) rfl rfl ?_
    refine r_iload 34 dX3_addLandings_32 rfl rfl ?_
    refine r_iconst (v := nI 1) 35 dX3_addLandings_34 rfl (by decide) ?_
    refine r_iadd 36 dX3_addLandings_35 rfl ?_
    rw [nI_add]
    refine r_istore (ls1 := [_, _, _, _, _, _, _, _, _, _]) 38 dX3_addLandings_36 rfl (by decide) rfl rfl ?_
    first | exact loop _ _ (far - sb) (sb + 1) w [] (by omega) (by rw [List.nil_append, lands, tkO, if_pos (pos_n q11)]) (by rw [List.append_nil]; exact ⟨Fr.rf, hh⟩) | exact loop _ _ (far - sb) (sb + 1) w [] (by omega) (by rw [List.nil_append, lands, tkO, if_neg (npos_n (by omega) q11)]) (by rw [List.append_nil]; exact ⟨Fr.rf, hh⟩)
  · refine r_iload 16 dX3_addLandings_14 rfl rfl ?_
    refine r_goto 21 dX3_addLandings_16 (by decide) ?_
    refine r_istore (ls1 := [_, _, _, _, _, _, _, _, _, _]) 23 dX3_addLandings_21 rfl (by decide) rfl rfl ?_
    refine r_iload 25 dX3_addLandings_23 rfl rfl ?_
    refine r_iload_n 26 dX3_addLandings_25 rfl rfl ?_
    refine r_iconst (v := nI 1) 27 dX3_addLandings_26 rfl (by decide) ?_
    refine r_callSN0 30 dX3_addLandings_27 rfl (tX6_sq1 (nk_lt hs) hw) l_X3_82 mX6_squareAfter rfl (by decide) (Nat.le_of_ble_eq_true rfl) (by decide) (qI ?_)
    refine r_istore (ls1 := [_, _, _, _, _, _, _, _, _, _]) 32 dX3_addLandings_30 rfl (by decide) rfl rfl ?_
    refine r_iload 34 dX3_addLandings_32 rfl rfl ?_
    refine r_iconst (v := nI 1) 35 dX3_addLandings_34 rfl (by decide) ?_
    refine r_iadd 36 dX3_addLandings_35 rfl ?_
    rw [nI_add]
    refine r_istore (ls1 := [_, _, _, _, _, _, _, _, _, _]) 38 dX3_addLandings_36 rfl (by decide) rfl rfl ?_
    first | exact loop _ _ (far - sb) (sb + 1) w [] (by omega) (by rw [List.nil_append, lands, tkO, if_pos (pos_n q11)]) (by rw [List.append_nil]; exact ⟨Fr.rf, hh⟩) | exact loop _ _ (far - sb) (sb + 1) w [] (by omega) (by rw [List.nil_append, lands, tkO, if_neg (npos_n (by omega) q11)]) (by rw [List.append_nil]; exact ⟨Fr.rf, hh⟩)

theorem prey_far {f : Nat → Int32} {s way : Nat} (h : prey f s way ≤ 22) (h0 : 0 < prey f s way) : prey f s way ≤ (if isKg (f s) = true then 23 else 2) := by
  split
  · omega
  · next hk =>
    have h1 : prey f s way ≤ feK f s way := by
      unfold prey
      split
      · split <;> omega
      · omega
    have h2 : feK f s way = 1 := by
      unfold feK
      rw [if_neg hk]
      rfl
    omega
set_option maxRecDepth 100000 in
theorem tX3_listJumps {Γ : CT} {w : PW} {b h : Nat} {f n : Nat → Int32} {mv jp : Int32} {l : List HP} {side cj : Int32} (hb : isBd w b f n mv jp) (hh : isHp w h l) (hap : apH b h) (h192 : (allJ f side cj).length ≤ 192) : Cl Γ yX3_listJumps XX3_listJumps 3 0 0 [.ref h, .ref b, .int side, .int cj] w (rN (toHp w h (allJ f side cj))) := by
  obtain ⟨b0, b1, b2⟩ := id hb
  obtain ⟨hl, ca, cb, cc, cd, ce, hO, h0, h1, h2, h3, h4, h5⟩ := id hh
  have inner : ∀ (s far : Nat) (pre : List HP), s < 48 → far = (if isKg (f s) = true then 23 else 2) → (pre ++ (List.range 4).flatMap (jAt f s)).length ≤ 192 → (∀ (u : PW) x5 x6 x7 x8, toHp w h (pre ++ (List.range 4).flatMap (jAt f s)) u → nl x5 = true → nl x6 = true → nl x7 = true → nl x8 = true → Rn Γ XX3_listJumps (rmO 3 0 0) none (FinM (rN (toHp w h (allJ f side cj))) 0 0) 0 0 u 106 [some (.ref h), some (.ref b), some (.int side), some (.int cj), some (.int (nI s)), x5, x6, x7, x8] []) → ∀ (m i : Nat) (u : PW) (x8 : Option Value), i + m = 4 → nl x8 = true → toHp w h (pre ++ (List.range i).flatMap (jAt f s)) u → Rn Γ XX3_listJumps (rmO 3 0 0) none (FinM (rN (toHp w h (allJ f side cj))) 0 0) 0 0 u 66 [some (.ref h), some (.ref b), some (.int side), some (.int cj), some (.int (nI s)), some (.int (f s)), some (.int (nI far)), some (.int (nI i)), x8] [] := by
    intro s far pre hs hfar hlen kk m
    induction m with
    | zero =>
      intro i u x8 hi e8 hu
      have h4 : i = 4 := by omega
      subst h4
      refine r_iload 68 dX3_listJumps_66 rfl rfl ?_
      refine r_iconst (v := nI 4) 69 dX3_listJumps_68 rfl (by decide) ?_
      refine r_icmp_ge 106 72 dX3_listJumps_69 (by decide) rfl (fun q69 => ?_) (fun q69 => absurd q69 (fun z => z (nI_le (by omega) (by omega))))
      exact kk u _ _ _ _ hu rfl rfl rfl e8
    | succ m ih =>
      intro i u x8 hi e8 hu
      have hbu : isBd u b f n mv jp := hb.fr hu.1 (fun q h1 h2 => hap.hb h1 h2)
      have hp22 := prey_le f s i
      have hlen2 : (pre ++ (List.range i).flatMap (jAt f s)).length + (jAt f s i).length ≤ 192 := by
        have h9 := fm_len (g := jAt f s) (i := i + 1) (n := 4) (by omega)
        rw [fm_s, List.length_append] at h9
        rw [List.length_append] at hlen ⊢
        omega
      refine r_iload 68 dX3_listJumps_66 rfl rfl ?_
      refine r_iconst (v := nI 4) 69 dX3_listJumps_68 rfl (by decide) ?_
      refine r_icmp_ge 106 72 dX3_listJumps_69 (by decide) rfl (fun q69 => absurd q69 (nI_ge (by omega) (by omega))) (fun q69 => ?_)
      refine r_aload_n 73 dX3_listJumps_72 rfl rfl rfl ?_
      refine r_iload 75 dX3_listJumps_73 rfl rfl ?_
      refine r_iload 77 dX3_listJumps_75 rfl rfl ?_
      refine r_callV0 80 dX3_listJumps_77 rfl (tX0_stepsToPrey hbu hs (by omega)) l_X3_70 mX0_stepsToPrey rfl (by repeat (first | assumption | exact isBd.o (by assumption) | exact isHp.o (by assumption) | refine gs_eq ?_ | refine gs_ne (by omega) ?_ | exact is_of (by assumption) | refine gs_is ?_)) rfl (by decide) (Nat.le_of_ble_eq_true rfl) (by decide) (qI ?_)
      refine r_istore (ls1 := [_, _, _, _, _, _, _, _, _]) 82 dX3_listJumps_80 rfl (by decide) rfl rfl ?_
      refine r_iload 84 dX3_listJumps_82 rfl rfl ?_
      refine r_if_le 100 87 dX3_listJumps_84 (by decide) rfl (fun q84 => ?_) (fun q84 => ?_)
      · refine r_iinc (ls1 := [_, _, _, _, _, _, _, _, _]) 103 dX3_listJumps_100 rfl (by decide) rfl rfl (nI_1 i) rfl ?_
        refine r_goto 66 dX3_listJumps_103 (by decide) ?_
        first | exact ih (i + 1) u1 _ (by omega) rfl (by rw [fm_s, ← List.append_assoc, jAt, if_pos (pos_n q84), ← hfar]; exact hu.tr hu1) | exact ih (i + 1) u _ (by omega) rfl (by rw [fm_s, jAt, if_neg (npos_n (by omega) q84), List.append_nil]; exact hu)
      · refine r_aload_n 88 dX3_listJumps_87 rfl rfl rfl ?_
        refine r_aload_n 89 dX3_listJumps_88 rfl rfl rfl ?_
        refine r_iload 91 dX3_listJumps_89 rfl rfl ?_
        refine r_iload 93 dX3_listJumps_91 rfl rfl ?_
        refine r_iload 95 dX3_listJumps_93 rfl rfl ?_
        refine r_iload 97 dX3_listJumps_95 rfl rfl ?_
        refine r_callV0 100 dX3_listJumps_97 rfl (tX3_addLandings hbu hu.2 hap hs (by omega) (by have := prey_far hp22 (pos_n q84); subst hfar; exact this) (by subst hfar; split <;> decide) (by rw [jAt, if_pos (pos_n q84), ← hfar] at hlen2; rw [List.length_append]; omega)) l_X3_74 mX3_addLandings rfl hu.2.2.choose_spec.choose_spec.choose_spec.choose_spec.choose_spec.2.1 rfl (by decide) (Nat.le_of_ble_eq_true rfl) (by decide) (qN fun u1 hu1 => ?_)
        refine r_iinc (ls1 := [_, _, _, _, _, _, _, _, _]) 103 dX3_listJumps_100 rfl (by decide) rfl rfl (nI_1 i) rfl ?_
        refine r_goto 66 dX3_listJumps_103 (by decide) ?_
        first | exact ih (i + 1) u1 _ (by omega) rfl (by rw [fm_s, ← List.append_assoc, jAt, if_pos (pos_n q84), ← hfar]; exact hu.tr hu1) | exact ih (i + 1) u _ (by omega) rfl (by rw [fm_s, jAt, if_neg (npos_n (by omega) q84), List.append_nil]; exact hu)
  have outer : ∀ (m i : Nat) (u : PW) (x5 x6 x7 x8 : Option Value), i + m = 48 → toHp w h ((List.range i).flatMap (jSq f side cj)) u → nl x5 = true → nl x6 = true → nl x7 = true → nl x8 = true → Rn Γ XX3_listJumps (rmO 3 0 0) none (FinM (rN (toHp w h (allJ f side cj))) 0 0) 0 0 u 8 [some (.ref h), some (.ref b), some (.int side), some (.int cj), some (.int (nI i)), x5, x6, x7, x8] [] := by
    intro m
    induction m with
    | zero =>
      intro i u x5 x6 x7 x8 hi hu e5 e6 e7 e8
      have h4 : i = 48 := by omega
      subst h4
      refine r_iload 10 dX3_listJumps_8 rfl rfl ?_
      refine r_bipush (v := nI 48) 12 dX3_listJumps_10 rfl (by decide) ?_
      refine r_icmp_ge 112 15 dX3_listJumps_12 (by decide) rfl (fun q12 => ?_) (fun q12 => absurd q12 (fun z => z (nI_le (by omega) (by omega))))
      refine r_vret dX3_listJumps_112 rfl (by decide) (by decide) ?_
      exact ⟨rfl, hu⟩
    | succ m ih =>
      intro i u x5 x6 x7 x8 hi hu e5 e6 e7 e8
      have hbu : isBd u b f n mv jp := hb.fr hu.1 (fun q h1 h2 => hap.hb h1 h2)
      have hlen : ((List.range i).flatMap (jSq f side cj) ++ jSq f side cj i).length ≤ 192 := by
        rw [← fm_s]
        exact Nat.le_trans (fm_len (by omega)) h192
      refine r_iload 10 dX3_listJumps_8 rfl rfl ?_
      refine r_bipush (v := nI 48) 12 dX3_listJumps_10 rfl (by decide) ?_
      refine r_icmp_ge 112 15 dX3_listJumps_12 (by decide) rfl (fun q12 => absurd q12 (nI_ge (by omega) (by omega))) (fun q12 => ?_)
      refine r_aload_n 16 dX3_listJumps_15 rfl rfl rfl ?_
      refine r_iload 18 dX3_listJumps_16 rfl rfl ?_
      refine r_callV0 21 dX3_listJumps_18 rfl (tX0_pAt hbu (by omega)) l_X3_61 mX0_pieceAt rfl (by repeat (first | assumption | exact isBd.o (by assumption) | exact isHp.o (by assumption) | refine gs_eq ?_ | refine gs_ne (by omega) ?_ | exact is_of (by assumption) | refine gs_is ?_)) rfl (by decide) (Nat.le_of_ble_eq_true rfl) (by decide) (qI ?_)
      refine r_istore (ls1 := [_, _, _, _, _, _, _, _, _]) 23 dX3_listJumps_21 rfl (by decide) rfl rfl ?_
      refine r_iload 25 dX3_listJumps_23 rfl rfl ?_
      refine r_callSN0 28 dX3_listJumps_25 rfl (tX6_sideOf) l_X3_64 mX6_sideOf rfl (by decide) (Nat.le_of_ble_eq_true rfl) (by decide) (qI ?_)
      refine r_iload_n 29 dX3_listJumps_28 rfl rfl ?_
      refine r_icmp_ne 106 32 dX3_listJumps_29 (by decide) rfl (fun q29 => ?_) (fun q29 => ?_)
      · refine r_iinc (ls1 := [_, _, _, _, _, _, _, _, _]) 109 dX3_listJumps_106 rfl (by decide) rfl rfl (nI_1 i) rfl ?_
        refine r_goto 8 dX3_listJumps_109 (by decide) ?_
        exact ih (i + 1) u _ _ _ _ (by omega) (by rw [fm_s, show jSq f side cj i = [] by unfold jSq; rw [if_neg]; first | exact (fun z => q29 z.1) | exact (fun z => z.2.elim q35 q41), List.append_nil]; exact hu) (by first | rfl | assumption) e6 e7 e8
      · refine r_iload_n 33 dX3_listJumps_32 rfl rfl ?_
        refine r_bipush (v := (-6)) 35 dX3_listJumps_33 rfl (by decide) ?_
        refine r_icmp_eq 47 38 dX3_listJumps_35 (by decide) rfl (fun q35 => ?_) (fun q35 => ?_)
        · refine r_iload 49 dX3_listJumps_47 rfl rfl ?_
          refine r_callSN0 52 dX3_listJumps_49 rfl (tX6_isKing) l_X3_67 mX6_isKing rfl (by decide) (Nat.le_of_ble_eq_true rfl) (by decide) (qI ?_)
          refine r_if_eq 60 55 dX3_listJumps_52 (by decide) rfl (fun q52 => ?_) (fun q52 => ?_)
          · refine r_iconst (v := nI 2) 61 dX3_listJumps_60 rfl (by decide) ?_
            refine r_istore (ls1 := [_, _, _, _, _, _, _, _, _]) 63 dX3_listJumps_61 rfl (by decide) rfl rfl ?_
            refine r_iconst (v := nI 0) 64 dX3_listJumps_63 rfl (by decide) ?_
            refine r_istore (ls1 := [_, _, _, _, _, _, _, _, _]) 66 dX3_listJumps_64 rfl (by decide) rfl rfl ?_
            have hj : jSq f side cj i = (List.range 4).flatMap (jAt f i) := by
              unfold jSq
              rw [if_pos]
              exact ⟨q29, by first | exact Or.inl q35 | exact Or.inr q41⟩
            rw [hj] at hlen
            refine inner i _ _ (by omega) (by first | (rw [if_pos (ne_f q52)]) | (rw [if_neg (eq_f q52)])) hlen (fun u1 x5 x6 x7 x8 hu1 e5 e6 e7 e8 => ?_) 4 0 u _ (by omega) e8 (by rw [show (List.range 0).flatMap (jAt f i) = [] from rfl, List.append_nil]; exact hu)
            refine r_iinc (ls1 := [_, _, _, _, _, _, _, _, _]) 109 dX3_listJumps_106 rfl (by decide) rfl rfl (nI_1 i) rfl ?_
            refine r_goto 8 dX3_listJumps_109 (by decide) ?_
            exact ih (i + 1) u1 _ _ _ _ (by omega) (by rw [fm_s, hj]; exact hu1) e5 e6 e7 e8
          · refine r_bipush (v := nI 23) 57 dX3_listJumps_55 rfl (by decide) ?_
            refine r_goto 61 dX3_listJumps_57 (by decide) ?_
            refine r_istore (ls1 := [_, _, _, _, _, _, _, _, _]) 63 dX3_listJumps_61 rfl (by decide) rfl rfl ?_
            refine r_iconst (v := nI 0) 64 dX3_listJumps_63 rfl (by decide) ?_
            refine r_istore (ls1 := [_, _, _, _, _, _, _, _, _]) 66 dX3_listJumps_64 rfl (by decide) rfl rfl ?_
            have hj : jSq f side cj i = (List.range 4).flatMap (jAt f i) := by
              unfold jSq
              rw [if_pos]
              exact ⟨q29, by first | exact Or.inl q35 | exact Or.inr q41⟩
            rw [hj] at hlen
            refine inner i _ _ (by omega) (by first | (rw [if_pos (ne_f q52)]) | (rw [if_neg (eq_f q52)])) hlen (fun u1 x5 x6 x7 x8 hu1 e5 e6 e7 e8 => ?_) 4 0 u _ (by omega) e8 (by rw [show (List.range 0).flatMap (jAt f i) = [] from rfl, List.append_nil]; exact hu)
            refine r_iinc (ls1 := [_, _, _, _, _, _, _, _, _]) 109 dX3_listJumps_106 rfl (by decide) rfl rfl (nI_1 i) rfl ?_
            refine r_goto 8 dX3_listJumps_109 (by decide) ?_
            exact ih (i + 1) u1 _ _ _ _ (by omega) (by rw [fm_s, hj]; exact hu1) e5 e6 e7 e8
        · refine r_iload_n 39 dX3_listJumps_38 rfl rfl ?_
          refine r_iload 41 dX3_listJumps_39 rfl rfl ?_
          refine r_icmp_eq 47 44 dX3_listJumps_41 (by decide) rfl (fun q41 => ?_) (fun q41 => ?_)
          · refine r_iload 49 dX3_listJumps_47 rfl rfl ?_
            refine r_callSN0 52 dX3_listJumps_49 rfl (tX6_isKing) l_X3_67 mX6_isKing rfl (by decide) (Nat.le_of_ble_eq_true rfl) (by decide) (qI ?_)
            refine r_if_eq 60 55 dX3_listJumps_52 (by decide) rfl (fun q52 => ?_) (fun q52 => ?_)
            · refine r_iconst (v := nI 2) 61 dX3_listJumps_60 rfl (by decide) ?_
              refine r_istore (ls1 := [_, _, _, _, _, _, _, _, _]) 63 dX3_listJumps_61 rfl (by decide) rfl rfl ?_
              refine r_iconst (v := nI 0) 64 dX3_listJumps_63 rfl (by decide) ?_
              refine r_istore (ls1 := [_, _, _, _, _, _, _, _, _]) 66 dX3_listJumps_64 rfl (by decide) rfl rfl ?_
              have hj : jSq f side cj i = (List.range 4).flatMap (jAt f i) := by
                unfold jSq
                rw [if_pos]
                exact ⟨q29, by first | exact Or.inl q35 | exact Or.inr q41⟩
              rw [hj] at hlen
              refine inner i _ _ (by omega) (by first | (rw [if_pos (ne_f q52)]) | (rw [if_neg (eq_f q52)])) hlen (fun u1 x5 x6 x7 x8 hu1 e5 e6 e7 e8 => ?_) 4 0 u _ (by omega) e8 (by rw [show (List.range 0).flatMap (jAt f i) = [] from rfl, List.append_nil]; exact hu)
              refine r_iinc (ls1 := [_, _, _, _, _, _, _, _, _]) 109 dX3_listJumps_106 rfl (by decide) rfl rfl (nI_1 i) rfl ?_
              refine r_goto 8 dX3_listJumps_109 (by decide) ?_
              exact ih (i + 1) u1 _ _ _ _ (by omega) (by rw [fm_s, hj]; exact hu1) e5 e6 e7 e8
            · refine r_bipush (v := nI 23) 57 dX3_listJumps_55 rfl (by decide) ?_
              refine r_goto 61 dX3_listJumps_57 (by decide) ?_
              refine r_istore (ls1 := [_, _, _, _, _, _, _, _, _]) 63 dX3_listJumps_61 rfl (by decide) rfl rfl ?_
              refine r_iconst (v := nI 0) 64 dX3_listJumps_63 rfl (by decide) ?_
              refine r_istore (ls1 := [_, _, _, _, _, _, _, _, _]) 66 dX3_listJumps_64 rfl (by decide) rfl rfl ?_
              have hj : jSq f side cj i = (List.range 4).flatMap (jAt f i) := by
                unfold jSq
                rw [if_pos]
                exact ⟨q29, by first | exact Or.inl q35 | exact Or.inr q41⟩
              rw [hj] at hlen
              refine inner i _ _ (by omega) (by first | (rw [if_pos (ne_f q52)]) | (rw [if_neg (eq_f q52)])) hlen (fun u1 x5 x6 x7 x8 hu1 e5 e6 e7 e8 => ?_) 4 0 u _ (by omega) e8 (by rw [show (List.range 0).flatMap (jAt f i) = [] from rfl, List.append_nil]; exact hu)
              refine r_iinc (ls1 := [_, _, _, _, _, _, _, _, _]) 109 dX3_listJumps_106 rfl (by decide) rfl rfl (nI_1 i) rfl ?_
              refine r_goto 8 dX3_listJumps_109 (by decide) ?_
              exact ih (i + 1) u1 _ _ _ _ (by omega) (by rw [fm_s, hj]; exact hu1) e5 e6 e7 e8
          · refine r_goto 106 dX3_listJumps_44 (by decide) ?_
            refine r_iinc (ls1 := [_, _, _, _, _, _, _, _, _]) 109 dX3_listJumps_106 rfl (by decide) rfl rfl (nI_1 i) rfl ?_
            refine r_goto 8 dX3_listJumps_109 (by decide) ?_
            exact ih (i + 1) u _ _ _ _ (by omega) (by rw [fm_s, show jSq f side cj i = [] by unfold jSq; rw [if_neg]; first | exact (fun z => q29 z.1) | exact (fun z => z.2.elim q35 q41), List.append_nil]; exact hu) (by first | rfl | assumption) e6 e7 e8
  refine Cl.of (ls := [some (.ref h), some (.ref b), some (.int side), some (.int cj), none, none, none, none, none]) rfl (by decide +kernel) (fun h => by cases h) (Nat.le_of_ble_eq_true rfl) rfl ?_
  refine r_aload_n 1 dX3_listJumps_0 rfl rfl rfl ?_
  refine r_iconst (v := 0) 2 dX3_listJumps_1 rfl (by decide) ?_
  refine r_putf (fs1 := [_, _, _, _, _, _]) 5 dX3_listJumps_2 rfl f_X3_27 (by repeat (first | assumption | exact isBd.o (by assumption) | exact isHp.o (by assumption) | refine gs_eq ?_ | refine gs_ne (by omega) ?_ | exact is_of (by assumption) | refine gs_is ?_)) rfl (by simp only [List.length_cons, List.length_nil]; omega) rfl ?_
  refine r_iconst (v := nI 0) 6 dX3_listJumps_5 rfl (by decide) ?_
  refine r_istore (ls1 := [_, _, _, _, _, _, _, _, _]) 8 dX3_listJumps_6 rfl (by decide) rfl rfl ?_
  exact outer 48 0 _ _ _ _ _ (by omega) hh.zero rfl rfl rfl rfl

set_option maxRecDepth 100000 in
theorem tX3_listPlainHops {Γ : CT} {w : PW} {b h : Nat} {f n : Nat → Int32} {mv jp : Int32} {l : List HP} (hb : isBd w b f n mv jp) (hh : isHp w h l) (hap : apH b h) (h192 : (allM f mv).length ≤ 192) : Cl Γ yX3_listPlainHops XX3_listPlainHops 3 0 0 [.ref h, .ref b] w (rN (toHp w h (allM f mv))) := by
  obtain ⟨b0, b1, b2⟩ := id hb
  obtain ⟨hl, ca, cb, cc, cd, ce, hO, h0, h1, h2, h3, h4, h5⟩ := id hh
  have inner : ∀ (s far : Nat) (pre : List HP), s < 48 → far = (if isKg (f s) = true then 23 else 1) → (pre ++ (List.range 4).flatMap (mAt f s)).length ≤ 192 → (∀ (u : PW) x3 x4 x5, toHp w h (pre ++ (List.range 4).flatMap (mAt f s)) u → nl x3 = true → nl x4 = true → nl x5 = true → Rn Γ XX3_listPlainHops (rmO 3 0 0) none (FinM (rN (toHp w h (allM f mv))) 0 0) 0 0 u 83 [some (.ref h), some (.ref b), some (.int (nI s)), x3, x4, x5] []) → ∀ (m i : Nat) (u : PW), i + m = 4 → toHp w h (pre ++ (List.range i).flatMap (mAt f s)) u → Rn Γ XX3_listPlainHops (rmO 3 0 0) none (FinM (rN (toHp w h (allM f mv))) 0 0) 0 0 u 51 [some (.ref h), some (.ref b), some (.int (nI s)), some (.int (f s)), some (.int (nI far)), some (.int (nI i))] [] := by
    intro s far pre hs hfar hlen kk m
    induction m with
    | zero =>
      intro i u hi hu
      have h4 : i = 4 := by omega
      subst h4
      refine r_iload 53 dX3_listPlainHops_51 rfl rfl ?_
      refine r_iconst (v := nI 4) 54 dX3_listPlainHops_53 rfl (by decide) ?_
      refine r_icmp_ge 83 57 dX3_listPlainHops_54 (by decide) rfl (fun q54 => ?_) (fun q54 => absurd q54 (fun z => z (nI_le (by omega) (by omega))))
      exact kk u _ _ _ hu rfl rfl rfl
    | succ m ih =>
      intro i u hi hu
      have hbu : isBd u b f n mv jp := hb.fr hu.1 (fun q h1 h2 => hap.hb h1 h2)
      have hlen2 : (pre ++ (List.range i).flatMap (mAt f s)).length + (mAt f s i).length ≤ 192 := by
        have h9 := fm_len (g := mAt f s) (i := i + 1) (n := 4) (by omega)
        rw [fm_s, List.length_append] at h9
        rw [List.length_append] at hlen ⊢
        omega
      refine r_iload 53 dX3_listPlainHops_51 rfl rfl ?_
      refine r_iconst (v := nI 4) 54 dX3_listPlainHops_53 rfl (by decide) ?_
      refine r_icmp_ge 83 57 dX3_listPlainHops_54 (by decide) rfl (fun q54 => absurd q54 (nI_ge (by omega) (by omega))) (fun q54 => ?_)
      refine r_iload_n 58 dX3_listPlainHops_57 rfl rfl ?_
      refine r_iload 60 dX3_listPlainHops_58 rfl rfl ?_
      refine r_callSN0 63 dX3_listPlainHops_60 rfl (tX6_mayGo) l_X3_78 mX6_mayGo rfl (by decide) (Nat.le_of_ble_eq_true rfl) (by decide) (qI ?_)
      refine r_if_eq 77 66 dX3_listPlainHops_63 (by decide) rfl (fun q63 => ?_) (fun q63 => ?_)
      · refine r_iinc (ls1 := [_, _, _, _, _, _]) 80 dX3_listPlainHops_77 rfl (by decide) rfl rfl (nI_1 i) rfl ?_
        refine r_goto 51 dX3_listPlainHops_80 (by decide) ?_
        first | exact ih (i + 1) u1 (by omega) (by rw [fm_s, ← List.append_assoc, mAt, if_pos (ne_f q63), ← hfar]; exact hu.tr hu1) | exact ih (i + 1) u (by omega) (by rw [fm_s, mAt, if_neg (eq_f q63), List.append_nil]; exact hu)
      · refine r_aload_n 67 dX3_listPlainHops_66 rfl rfl rfl ?_
        refine r_aload_n 68 dX3_listPlainHops_67 rfl rfl rfl ?_
        refine r_iload_n 69 dX3_listPlainHops_68 rfl rfl ?_
        refine r_iload 71 dX3_listPlainHops_69 rfl rfl ?_
        refine r_iconst (v := nI 0) 72 dX3_listPlainHops_71 rfl (by decide) ?_
        refine r_iload 74 dX3_listPlainHops_72 rfl rfl ?_
        refine r_callV0 77 dX3_listPlainHops_74 rfl (tX3_addLandings hbu hu.2 hap hs (by omega) (Nat.zero_le _) (by subst hfar; split <;> decide) (by rw [mAt, if_pos (ne_f q63), ← hfar] at hlen2; rw [List.length_append]; omega)) l_X3_74 mX3_addLandings rfl hu.2.2.choose_spec.choose_spec.choose_spec.choose_spec.choose_spec.2.1 rfl (by decide) (Nat.le_of_ble_eq_true rfl) (by decide) (qN fun u1 hu1 => ?_)
        refine r_iinc (ls1 := [_, _, _, _, _, _]) 80 dX3_listPlainHops_77 rfl (by decide) rfl rfl (nI_1 i) rfl ?_
        refine r_goto 51 dX3_listPlainHops_80 (by decide) ?_
        first | exact ih (i + 1) u1 (by omega) (by rw [fm_s, ← List.append_assoc, mAt, if_pos (ne_f q63), ← hfar]; exact hu.tr hu1) | exact ih (i + 1) u (by omega) (by rw [fm_s, mAt, if_neg (eq_f q63), List.append_nil]; exact hu)
  have outer : ∀ (m i : Nat) (u : PW) (x3 x4 x5 : Option Value), i + m = 48 → toHp w h ((List.range i).flatMap (mSq f mv)) u → nl x3 = true → nl x4 = true → nl x5 = true → Rn Γ XX3_listPlainHops (rmO 3 0 0) none (FinM (rN (toHp w h (allM f mv))) 0 0) 0 0 u 7 [some (.ref h), some (.ref b), some (.int (nI i)), x3, x4, x5] [] := by
    intro m
    induction m with
    | zero =>
      intro i u x3 x4 x5 hi hu e3 e4 e5
      have h4 : i = 48 := by omega
      subst h4
      refine r_iload_n 8 dX3_listPlainHops_7 rfl rfl ?_
      refine r_bipush (v := nI 48) 10 dX3_listPlainHops_8 rfl (by decide) ?_
      refine r_icmp_ge 89 13 dX3_listPlainHops_10 (by decide) rfl (fun q10 => ?_) (fun q10 => absurd q10 (fun z => z (nI_le (by omega) (by omega))))
      refine r_vret dX3_listPlainHops_89 rfl (by decide) (by decide) ?_
      exact ⟨rfl, hu⟩
    | succ m ih =>
      intro i u x3 x4 x5 hi hu e3 e4 e5
      have hbu : isBd u b f n mv jp := hb.fr hu.1 (fun q h1 h2 => hap.hb h1 h2)
      obtain ⟨g0, g1, g2⟩ := id hbu
      have hlen : ((List.range i).flatMap (mSq f mv) ++ mSq f mv i).length ≤ 192 := by
        rw [← fm_s]
        exact Nat.le_trans (fm_len (by omega)) h192
      refine r_iload_n 8 dX3_listPlainHops_7 rfl rfl ?_
      refine r_bipush (v := nI 48) 10 dX3_listPlainHops_8 rfl (by decide) ?_
      refine r_icmp_ge 89 13 dX3_listPlainHops_10 (by decide) rfl (fun q10 => absurd q10 (nI_ge (by omega) (by omega))) (fun q10 => ?_)
      refine r_aload_n 14 dX3_listPlainHops_13 rfl rfl rfl ?_
      refine r_iload_n 15 dX3_listPlainHops_14 rfl rfl ?_
      refine r_callV0 18 dX3_listPlainHops_15 rfl (tX0_pAt hbu (by omega)) l_X3_61 mX0_pieceAt rfl (by repeat (first | assumption | exact isBd.o (by assumption) | exact isHp.o (by assumption) | refine gs_eq ?_ | refine gs_ne (by omega) ?_ | exact is_of (by assumption) | refine gs_is ?_)) rfl (by decide) (Nat.le_of_ble_eq_true rfl) (by decide) (qI ?_)
      refine r_istore_n (ls1 := [_, _, _, _, _, _]) 19 dX3_listPlainHops_18 rfl (by decide) rfl rfl ?_
      refine r_iload_n 20 dX3_listPlainHops_19 rfl rfl ?_
      refine r_callSN0 23 dX3_listPlainHops_20 rfl (tX6_sideOf) l_X3_64 mX6_sideOf rfl (by decide) (Nat.le_of_ble_eq_true rfl) (by decide) (qI ?_)
      refine r_aload_n 24 dX3_listPlainHops_23 rfl rfl rfl ?_
      refine r_getf 27 dX3_listPlainHops_24 rfl f_X3_45.r (by repeat (first | assumption | exact isBd.o (by assumption) | exact isHp.o (by assumption) | refine gs_eq ?_ | refine gs_ne (by omega) ?_ | exact is_of (by assumption) | refine gs_is ?_)) rfl ?_
      refine r_icmp_eq 33 30 dX3_listPlainHops_27 (by decide) rfl (fun q27 => ?_) (fun q27 => ?_)
      · refine r_iload_n 34 dX3_listPlainHops_33 rfl rfl ?_
        refine r_callSN0 37 dX3_listPlainHops_34 rfl (tX6_isKing) l_X3_67 mX6_isKing rfl (by decide) (Nat.le_of_ble_eq_true rfl) (by decide) (qI ?_)
        refine r_if_eq 45 40 dX3_listPlainHops_37 (by decide) rfl (fun q37 => ?_) (fun q37 => ?_)
        · refine r_iconst (v := nI 1) 46 dX3_listPlainHops_45 rfl (by decide) ?_
          refine r_istore (ls1 := [_, _, _, _, _, _]) 48 dX3_listPlainHops_46 rfl (by decide) rfl rfl ?_
          refine r_iconst (v := nI 0) 49 dX3_listPlainHops_48 rfl (by decide) ?_
          refine r_istore (ls1 := [_, _, _, _, _, _]) 51 dX3_listPlainHops_49 rfl (by decide) rfl rfl ?_
          have hj : mSq f mv i = (List.range 4).flatMap (mAt f i) := by
            unfold mSq
            rw [if_pos q27]
          rw [hj] at hlen
          refine inner i _ _ (by omega) (by first | (rw [if_pos (ne_f q37)]) | (rw [if_neg (eq_f q37)])) hlen (fun u1 x3 x4 x5 hu1 e3 e4 e5 => ?_) 4 0 u (by omega) (by rw [show (List.range 0).flatMap (mAt f i) = [] from rfl, List.append_nil]; exact hu)
          refine r_iinc (ls1 := [_, _, _, _, _, _]) 86 dX3_listPlainHops_83 rfl (by decide) rfl rfl (nI_1 i) rfl ?_
          refine r_goto 7 dX3_listPlainHops_86 (by decide) ?_
          exact ih (i + 1) u1 _ _ _ (by omega) (by rw [fm_s, hj]; exact hu1) e3 e4 e5
        · refine r_bipush (v := nI 23) 42 dX3_listPlainHops_40 rfl (by decide) ?_
          refine r_goto 46 dX3_listPlainHops_42 (by decide) ?_
          refine r_istore (ls1 := [_, _, _, _, _, _]) 48 dX3_listPlainHops_46 rfl (by decide) rfl rfl ?_
          refine r_iconst (v := nI 0) 49 dX3_listPlainHops_48 rfl (by decide) ?_
          refine r_istore (ls1 := [_, _, _, _, _, _]) 51 dX3_listPlainHops_49 rfl (by decide) rfl rfl ?_
          have hj : mSq f mv i = (List.range 4).flatMap (mAt f i) := by
            unfold mSq
            rw [if_pos q27]
          rw [hj] at hlen
          refine inner i _ _ (by omega) (by first | (rw [if_pos (ne_f q37)]) | (rw [if_neg (eq_f q37)])) hlen (fun u1 x3 x4 x5 hu1 e3 e4 e5 => ?_) 4 0 u (by omega) (by rw [show (List.range 0).flatMap (mAt f i) = [] from rfl, List.append_nil]; exact hu)
          refine r_iinc (ls1 := [_, _, _, _, _, _]) 86 dX3_listPlainHops_83 rfl (by decide) rfl rfl (nI_1 i) rfl ?_
          refine r_goto 7 dX3_listPlainHops_86 (by decide) ?_
          exact ih (i + 1) u1 _ _ _ (by omega) (by rw [fm_s, hj]; exact hu1) e3 e4 e5
      · refine r_goto 83 dX3_listPlainHops_30 (by decide) ?_
        refine r_iinc (ls1 := [_, _, _, _, _, _]) 86 dX3_listPlainHops_83 rfl (by decide) rfl rfl (nI_1 i) rfl ?_
        refine r_goto 7 dX3_listPlainHops_86 (by decide) ?_
        exact ih (i + 1) u _ _ _ (by omega) (by rw [fm_s, show mSq f mv i = [] by unfold mSq; rw [if_neg q27], List.append_nil]; exact hu) rfl e4 e5
  refine Cl.of (ls := [some (.ref h), some (.ref b), none, none, none, none]) rfl (by decide +kernel) (fun h => by cases h) (Nat.le_of_ble_eq_true rfl) rfl ?_
  refine r_aload_n 1 dX3_listPlainHops_0 rfl rfl rfl ?_
  refine r_iconst (v := 0) 2 dX3_listPlainHops_1 rfl (by decide) ?_
  refine r_putf (fs1 := [_, _, _, _, _, _]) 5 dX3_listPlainHops_2 rfl f_X3_27 (by repeat (first | assumption | exact isBd.o (by assumption) | exact isHp.o (by assumption) | refine gs_eq ?_ | refine gs_ne (by omega) ?_ | exact is_of (by assumption) | refine gs_is ?_)) rfl (by simp only [List.length_cons, List.length_nil]; omega) rfl ?_
  refine r_iconst (v := nI 0) 6 dX3_listPlainHops_5 rfl (by decide) ?_
  refine r_istore_n (ls1 := [_, _, _, _, _, _]) 7 dX3_listPlainHops_6 rfl (by decide) rfl rfl ?_
  exact outer 48 0 _ _ _ _ (by omega) hh.zero rfl rfl rfl

set_option maxRecDepth 100000 in
theorem tX3_list {Γ : CT} {w : PW} {b h : Nat} {f n : Nat → Int32} {mv jp : Int32} {l : List HP} (hb : isBd w b f n mv jp) (hh : isHp w h l) (hap : apH b h) (hj : (allJ f mv jp).length ≤ 192) (hm : (allM f mv).length ≤ 192) : Cl Γ yX3_list XX3_list 4 0 0 [.ref h, .ref b] w (rN (toHp w h (hopsC f mv jp))) := by
  refine Cl.of (ls := [some (.ref h), some (.ref b)]) rfl (by decide +kernel) (fun h => by cases h) (Nat.le_of_ble_eq_true rfl) rfl ?_
  obtain ⟨b0, b1, b2⟩ := id hb
  have hh0 := hh.2.choose_spec.choose_spec.choose_spec.choose_spec.choose_spec.2.1
  refine r_aload_n 1 dX3_list_0 rfl rfl rfl ?_
  refine r_aload_n 2 dX3_list_1 rfl rfl rfl ?_
  refine r_aload_n 3 dX3_list_2 rfl rfl rfl ?_
  refine r_getf 6 dX3_list_3 rfl f_X3_45.r (by repeat (first | assumption | exact isBd.o (by assumption) | exact isHp.o (by assumption) | refine gs_eq ?_ | refine gs_ne (by omega) ?_ | exact is_of (by assumption) | refine gs_is ?_)) rfl ?_
  refine r_aload_n 7 dX3_list_6 rfl rfl rfl ?_
  refine r_getf 10 dX3_list_7 rfl f_X3_50.r (by repeat (first | assumption | exact isBd.o (by assumption) | exact isHp.o (by assumption) | refine gs_eq ?_ | refine gs_ne (by omega) ?_ | exact is_of (by assumption) | refine gs_is ?_)) rfl ?_
  refine r_callV0 13 dX3_list_10 rfl (tX3_listJumps hb hh hap hj) l_X3_53 mX3_listJumps rfl (by repeat (first | assumption | exact isBd.o (by assumption) | exact isHp.o (by assumption) | refine gs_eq ?_ | refine gs_ne (by omega) ?_ | exact is_of (by assumption) | refine gs_is ?_)) rfl (by decide) (Nat.le_of_ble_eq_true rfl) (by decide) (qN fun w1 hq1 => ?_)
  have hh1 := hq1.2.2.choose_spec.choose_spec.choose_spec.choose_spec.choose_spec.2.1
  refine r_aload_n 14 dX3_list_13 rfl rfl rfl ?_
  refine r_getf 17 dX3_list_14 rfl f_X3_27.r (by repeat (first | assumption | exact isBd.o (by assumption) | exact isHp.o (by assumption) | refine gs_eq ?_ | refine gs_ne (by omega) ?_ | exact is_of (by assumption) | refine gs_is ?_)) rfl ?_
  refine r_if_ne 25 20 dX3_list_17 (by decide) rfl (fun q17 => ?_) (fun q17 => ?_)
  · refine r_vret dX3_list_25 rfl (by decide) (by decide) ?_
    first | exact ⟨rfl, by rw [hopsC, if_pos (nI_z hq1.2.1 q17)]; exact hq1.tr hq2⟩ | exact ⟨rfl, by rw [hopsC, if_neg (fun z => q17 (by rw [z]; rfl))]; exact hq1⟩
  · refine r_aload_n 21 dX3_list_20 rfl rfl rfl ?_
    refine r_aload_n 22 dX3_list_21 rfl rfl rfl ?_
    refine r_callV0 25 dX3_list_22 rfl (tX3_listPlainHops (hb.fr hq1.1 (fun q h1 h2 => hap.hb h1 h2)) hq1.2 hap hm) l_X3_57 mX3_listPlainHops rfl (by repeat (first | assumption | exact isBd.o (by assumption) | exact isHp.o (by assumption) | refine gs_eq ?_ | refine gs_ne (by omega) ?_ | exact is_of (by assumption) | refine gs_is ?_)) rfl (by decide) (Nat.le_of_ble_eq_true rfl) (by decide) (qN fun w2 hq2 => ?_)
    refine r_vret dX3_list_25 rfl (by decide) (by decide) ?_
    first | exact ⟨rfl, by rw [hopsC, if_pos (nI_z hq1.2.1 q17)]; exact hq1.tr hq2⟩ | exact ⟨rfl, by rw [hopsC, if_neg (fun z => q17 (by rw [z]; rfl))]; exact hq1⟩
end
section
/-! ===== a hop made on a board; a third of a position; the board behind a hop ===== -/
theorem r_top {Γ : CT} {X : MX} {R : Room} {sc : Option (Nat × (Nat → Int32))} {FZ : FX} {kc ks : Nat} {w : PW} {pc : Nat} {ls : List (Option Value)} {st : List Value} {a : Int32} (b : Int32) (h : a = b) (k : Rn Γ X R sc FZ kc ks w pc ls (.int b :: st)) : Rn Γ X R sc FZ kc ks w pc ls (.int a :: st) := h ▸ k
theorem r_topl {Γ : CT} {X : MX} {R : Room} {sc : Option (Nat × (Nat → Int32))} {FZ : FX} {kc ks : Nat} {w : PW} {pc : Nat} {ls : List (Option Value)} {st : List Value} {a : Int64} (b : Int64) (h : a = b) (k : Rn Γ X R sc FZ kc ks w pc ls (.long b :: st)) : Rn Γ X R sc FZ kc ks w pc ls (.long a :: st) := h ▸ k
def crO (p s k : Int32) : Bool := if p = 0 then decide (8 ≤ s / 6 + k) else if p = 2 then decide (s / 6 - k < 0) else false
def mkP (f : Nat → Int32) (mv : Int32) (q : HP) : Int32 := if crO (f q.1) (nI q.1) (nI q.2.2.2.1) = true then (if mv = 0 then 1 else 3) else f q.1
def mkF (f : Nat → Int32) (mv : Int32) (q : HP) : Nat → Int32 := plF (plF (plF f (nI q.1) (-6)) q.2.2.2.2 (-6)) (nI q.2.1) (mkP f mv q)
def mkN (f n : Nat → Int32) (mv : Int32) (q : HP) : Nat → Int32 := plN (plF (plF f (nI q.1) (-6)) q.2.2.2.2 (-6)) (plN (plF f (nI q.1) (-6)) (plN f n (nI q.1) (-6)) q.2.2.2.2 (-6)) (nI q.2.1) (mkP f mv q)
def mkJ (f : Nat → Int32) (mv : Int32) (q : HP) : Int32 := if ¬ q.2.2.2.2 = -6 ∧ canJ (mkF f mv q) q.2.1 = true then nI q.2.1 else -6
def mkM (f : Nat → Int32) (mv : Int32) (q : HP) : Int32 := if mkJ f mv q = -6 then 1 - mv else mv
set_option maxRecDepth 100000 in
theorem tX6_isCrowned {Γ : CT} {w : PW} {p s k : Int32}  : Cl Γ yX6_isCrowned XX6_isCrowned 1 0 0 [.int p, .int s, .int k] w (rI (bI (crO p s k)) w) := by
  refine Cl.of (ls := [some (.int p), some (.int s), some (.int k)]) rfl (by decide +kernel) (fun h => by cases h) (Nat.le_of_ble_eq_true rfl) rfl ?_
  refine r_iload_n 1 dX6_isCrowned_0 rfl rfl ?_
  refine r_if_ne 21 4 dX6_isCrowned_1 (by decide) rfl (fun q1 => ?_) (fun q1 => ?_)
  · refine r_iload_n 22 dX6_isCrowned_21 rfl rfl ?_
    refine r_iconst (v := 2) 23 dX6_isCrowned_22 rfl (by decide) ?_
    refine r_icmp_ne 39 26 dX6_isCrowned_23 (by decide) rfl (fun q23 => ?_) (fun q23 => ?_)
    · refine r_iconst (v := 0) 40 dX6_isCrowned_39 rfl (by decide) ?_
      refine r_bret dX6_isCrowned_40 rfl (by first | exact Or.inl rfl | exact Or.inr rfl) (by decide) (by decide) ?_
      first | exact ⟨by rw [crO, if_neg q1, if_pos q23, decide_eq_true (Int32.not_le.mp q32)]; rfl, rfl⟩ | exact ⟨by rw [crO, if_neg q1, if_pos q23, decide_eq_false (Int32.not_lt.mpr q32)]; rfl, rfl⟩ | exact ⟨by rw [crO, if_neg q1, if_neg q23]; rfl, rfl⟩
    · refine r_iload_n 27 dX6_isCrowned_26 rfl rfl ?_
      refine r_callS0 30 dX6_isCrowned_27 rfl (tX6_rowOf) l_X6_133 mX6_rowOf rfl (by decide) (Nat.le_of_ble_eq_true rfl) (by decide) (qI ?_)
      refine r_iload_n 31 dX6_isCrowned_30 rfl rfl ?_
      refine r_isub 32 dX6_isCrowned_31 rfl ?_
      refine r_if_ge 39 35 dX6_isCrowned_32 (by decide) rfl (fun q32 => ?_) (fun q32 => ?_)
      · refine r_iconst (v := 0) 40 dX6_isCrowned_39 rfl (by decide) ?_
        refine r_bret dX6_isCrowned_40 rfl (by first | exact Or.inl rfl | exact Or.inr rfl) (by decide) (by decide) ?_
        first | exact ⟨by rw [crO, if_neg q1, if_pos q23, decide_eq_true (Int32.not_le.mp q32)]; rfl, rfl⟩ | exact ⟨by rw [crO, if_neg q1, if_pos q23, decide_eq_false (Int32.not_lt.mpr q32)]; rfl, rfl⟩ | exact ⟨by rw [crO, if_neg q1, if_neg q23]; rfl, rfl⟩
      · refine r_iconst (v := 1) 36 dX6_isCrowned_35 rfl (by decide) ?_
        refine r_goto 40 dX6_isCrowned_36 (by decide) ?_
        refine r_bret dX6_isCrowned_40 rfl (by first | exact Or.inl rfl | exact Or.inr rfl) (by decide) (by decide) ?_
        first | exact ⟨by rw [crO, if_neg q1, if_pos q23, decide_eq_true (Int32.not_le.mp q32)]; rfl, rfl⟩ | exact ⟨by rw [crO, if_neg q1, if_pos q23, decide_eq_false (Int32.not_lt.mpr q32)]; rfl, rfl⟩ | exact ⟨by rw [crO, if_neg q1, if_neg q23]; rfl, rfl⟩
  · refine r_iload_n 5 dX6_isCrowned_4 rfl rfl ?_
    refine r_callS0 8 dX6_isCrowned_5 rfl (tX6_rowOf) l_X6_133 mX6_rowOf rfl (by decide) (Nat.le_of_ble_eq_true rfl) (by decide) (qI ?_)
    refine r_iload_n 9 dX6_isCrowned_8 rfl rfl ?_
    refine r_iadd 10 dX6_isCrowned_9 rfl ?_
    refine r_bipush (v := 8) 12 dX6_isCrowned_10 rfl (by decide) ?_
    refine r_icmp_lt 19 15 dX6_isCrowned_12 (by decide) rfl (fun q12 => ?_) (fun q12 => ?_)
    · refine r_iconst (v := 0) 20 dX6_isCrowned_19 rfl (by decide) ?_
      refine r_bret dX6_isCrowned_20 rfl (by first | exact Or.inl rfl | exact Or.inr rfl) (by decide) (by decide) ?_
      first | exact ⟨by rw [crO, if_pos q1, decide_eq_true (Int32.not_lt.mp q12)]; rfl, rfl⟩ | exact ⟨by rw [crO, if_pos q1, decide_eq_false (Int32.not_le.mpr q12)]; rfl, rfl⟩
    · refine r_iconst (v := 1) 16 dX6_isCrowned_15 rfl (by decide) ?_
      refine r_goto 20 dX6_isCrowned_16 (by decide) ?_
      refine r_bret dX6_isCrowned_20 rfl (by first | exact Or.inl rfl | exact Or.inr rfl) (by decide) (by decide) ?_
      first | exact ⟨by rw [crO, if_pos q1, decide_eq_true (Int32.not_lt.mp q12)]; rfl, rfl⟩ | exact ⟨by rw [crO, if_pos q1, decide_eq_false (Int32.not_le.mpr q12)]; rfl, rfl⟩

theorem apH.hh {b h q : Nat} (k : apH b h) (h1 : h ≤ q) (h2 : q < h + 6) : ¬ bS b q := by
  unfold bS
  unfold apH at k
  omega
set_option maxRecDepth 100000 in
theorem tX0_make {Γ : CT} {w : PW} {b h : Nat} {f n : Nat → Int32} {mv jp : Int32} {l : List HP} {j : Nat} {q : HP} (hb : isBd w b f n mv jp) (hh : isHp w h l) (hap : apH b h) (hq : l[j]? = some q) (hto : q.2.1 < 48) (hfr : q.1 < 48) : Cl Γ yX0_make XX0_make 4 0 0 [.ref b, .ref h, .int (nI j)] w (rN (toBd w b (mkF f mv q) (mkN f n mv q) (mkM f mv q) (mkJ f mv q))) := by
  refine Cl.of (ls := [some (.ref b), some (.ref h), some (.int (nI j)), none, none, none, none, none]) rfl (by decide +kernel) (fun h => by cases h) (Nat.le_of_ble_eq_true rfl) rfl ?_
  refine r_aload_n 1 dX0_make_0 rfl rfl rfl ?_
  refine r_iload_n 2 dX0_make_1 rfl rfl ?_
  refine r_callV0 5 dX0_make_2 rfl (tX3_from hh hq) l_X0_79 mX3_from rfl (by repeat (first | assumption | exact isBd.o (by assumption) | exact isHp.o (by assumption) | refine gs_eq ?_ | refine gs_ne (by omega) ?_ | exact is_of (by assumption) | refine gs_is ?_)) rfl (by decide) (Nat.le_of_ble_eq_true rfl) (by decide) (qI ?_)
  refine r_istore_n (ls1 := [_, _, _, _, _, _, _, _]) 6 dX0_make_5 rfl (by decide) rfl rfl ?_
  refine r_aload_n 7 dX0_make_6 rfl rfl rfl ?_
  refine r_iload_n 8 dX0_make_7 rfl rfl ?_
  refine r_callV0 11 dX0_make_8 rfl (tX3_to hh hq) l_X0_84 mX3_to rfl (by repeat (first | assumption | exact isBd.o (by assumption) | exact isHp.o (by assumption) | refine gs_eq ?_ | refine gs_ne (by omega) ?_ | exact is_of (by assumption) | refine gs_is ?_)) rfl (by decide) (Nat.le_of_ble_eq_true rfl) (by decide) (qI ?_)
  refine r_istore (ls1 := [_, _, _, _, _, _, _, _]) 13 dX0_make_11 rfl (by decide) rfl rfl ?_
  refine r_aload_n 14 dX0_make_13 rfl rfl rfl ?_
  refine r_iload_n 15 dX0_make_14 rfl rfl ?_
  refine r_callV0 18 dX0_make_15 rfl (tX3_taken hh hq) l_X0_87 mX3_taken rfl (by repeat (first | assumption | exact isBd.o (by assumption) | exact isHp.o (by assumption) | refine gs_eq ?_ | refine gs_ne (by omega) ?_ | exact is_of (by assumption) | refine gs_is ?_)) rfl (by decide) (Nat.le_of_ble_eq_true rfl) (by decide) (qI ?_)
  refine r_istore (ls1 := [_, _, _, _, _, _, _, _]) 20 dX0_make_18 rfl (by decide) rfl rfl ?_
  refine r_aload_n 21 dX0_make_20 rfl rfl rfl ?_
  refine r_iload_n 22 dX0_make_21 rfl rfl ?_
  refine r_callV0 25 dX0_make_22 rfl (tX0_pAt hb hfr) l_X0_57 mX0_pieceAt rfl (by repeat (first | assumption | exact isBd.o (by assumption) | exact isHp.o (by assumption) | refine gs_eq ?_ | refine gs_ne (by omega) ?_ | exact is_of (by assumption) | refine gs_is ?_)) rfl (by decide) (Nat.le_of_ble_eq_true rfl) (by decide) (qI ?_)
  refine r_istore (ls1 := [_, _, _, _, _, _, _, _]) 27 dX0_make_25 rfl (by decide) rfl rfl ?_
  refine r_iload 29 dX0_make_27 rfl rfl ?_
  refine r_iload_n 30 dX0_make_29 rfl rfl ?_
  refine r_aload_n 31 dX0_make_30 rfl rfl rfl ?_
  refine r_iload_n 32 dX0_make_31 rfl rfl ?_
  refine r_callV0 35 dX0_make_32 rfl (tX3_steps hh hq) l_X0_90 mX3_steps rfl (by repeat (first | assumption | exact isBd.o (by assumption) | exact isHp.o (by assumption) | refine gs_eq ?_ | refine gs_ne (by omega) ?_ | exact is_of (by assumption) | refine gs_is ?_)) rfl (by decide) (Nat.le_of_ble_eq_true rfl) (by decide) (qI ?_)
  refine r_callSN0 38 dX0_make_35 rfl (tX6_isCrowned) l_X0_93 mX6_isCrowned rfl (by decide) (Nat.le_of_ble_eq_true rfl) (by decide) (qI ?_)
  refine r_istore (ls1 := [_, _, _, _, _, _, _, _]) 40 dX0_make_38 rfl (by decide) rfl rfl ?_
  refine r_aload_n 41 dX0_make_40 rfl rfl rfl ?_
  refine r_iload_n 42 dX0_make_41 rfl rfl ?_
  refine r_bipush (v := (-6)) 44 dX0_make_42 rfl (by decide) ?_
  refine r_callV0 47 dX0_make_44 rfl (tX0_place hb) l_X0_37 mX0_place rfl (by repeat (first | assumption | exact isBd.o (by assumption) | exact isHp.o (by assumption) | refine gs_eq ?_ | refine gs_ne (by omega) ?_ | exact is_of (by assumption) | refine gs_is ?_)) rfl (by decide) (Nat.le_of_ble_eq_true rfl) (by decide) (qN fun w1 h1 => ?_)
  have g1 := h1.2
  refine r_aload_n 48 dX0_make_47 rfl rfl rfl ?_
  refine r_iload 50 dX0_make_48 rfl rfl ?_
  refine r_bipush (v := (-6)) 52 dX0_make_50 rfl (by decide) ?_
  refine r_callV0 55 dX0_make_52 rfl (tX0_place h1.2) l_X0_37 mX0_place rfl (by repeat (first | assumption | exact isBd.o (by assumption) | exact isHp.o (by assumption) | refine gs_eq ?_ | refine gs_ne (by omega) ?_ | exact is_of (by assumption) | refine gs_is ?_)) rfl (by decide) (Nat.le_of_ble_eq_true rfl) (by decide) (qN fun w2 h2 => ?_)
  have g2 := h2.2
  refine r_aload_n 56 dX0_make_55 rfl rfl rfl ?_
  refine r_iload 58 dX0_make_56 rfl rfl ?_
  refine r_iload 60 dX0_make_58 rfl rfl ?_
  refine r_if_eq 73 63 dX0_make_60 (by decide) rfl (fun q60 => ?_) (fun q60 => ?_)
  · refine r_iload 75 dX0_make_73 rfl rfl ?_
    refine r_top (mkP f mv q) (by first | (rw [mkP, if_pos (ne_f q60)]; done) | rw [mkP, if_neg (eq_f q60)]) ?_
    refine r_callV0 78 dX0_make_75 rfl (tX0_place h2.2) l_X0_37 mX0_place rfl (by repeat (first | assumption | exact isBd.o (by assumption) | exact isHp.o (by assumption) | refine gs_eq ?_ | refine gs_ne (by omega) ?_ | exact is_of (by assumption) | refine gs_is ?_)) rfl (by decide) (Nat.le_of_ble_eq_true rfl) (by decide) (qN fun w3 h3 => ?_)
    have g3 : isBd w3 b (mkF f mv q) (mkN f n mv q) mv jp := h3.2
    obtain ⟨gg, -, -⟩ := id g3
    refine r_aload_n 79 dX0_make_78 rfl rfl rfl ?_
    refine r_iload 81 dX0_make_79 rfl rfl ?_
    refine r_bipush (v := (-6)) 83 dX0_make_81 rfl (by decide) ?_
    refine r_icmp_eq 100 86 dX0_make_83 (by decide) rfl (fun q83 => ?_) (fun q83 => ?_)
    · refine r_bipush (v := (-6)) 102 dX0_make_100 rfl (by decide) ?_
      refine r_top (mkJ f mv q) (by first | (rw [mkJ, if_pos ⟨q83, ne_f q92⟩]; done) | (rw [mkJ, if_neg (fun z => z.1 q83)]; done) | (rw [mkJ, if_neg (fun z => eq_f q92 z.2)]; done)) ?_
      refine r_putf (fs1 := [_, _, _, _]) 105 dX0_make_102 rfl f_X0_22 (by repeat (first | assumption | exact isBd.o (by assumption) | exact isHp.o (by assumption) | refine gs_eq ?_ | refine gs_ne (by omega) ?_ | exact is_of (by assumption) | refine gs_is ?_)) rfl (by simp only [List.length_cons, List.length_nil]; omega) rfl ?_
      refine r_aload_n 106 dX0_make_105 rfl rfl rfl ?_
      refine r_getf 109 dX0_make_106 rfl f_X0_22.r (by repeat (first | assumption | exact isBd.o (by assumption) | exact isHp.o (by assumption) | refine gs_eq ?_ | refine gs_ne (by omega) ?_ | exact is_of (by assumption) | refine gs_is ?_)) rfl ?_
      refine r_bipush (v := (-6)) 111 dX0_make_109 rfl (by decide) ?_
      refine r_icmp_ne 124 114 dX0_make_111 (by decide) rfl (fun q111 => ?_) (fun q111 => ?_)
      · refine r_vret dX0_make_124 rfl (by decide) (by decide) ?_
        have hJ : toBd w b (mkF f mv q) (mkN f n mv q) mv jp w3 := (h1.tr h2).tr h3
        first | exact ⟨rfl, by rw [mkM, if_neg q111]; exact hJ.tr g3.setO⟩ | exact ⟨rfl, by rw [mkM, if_pos q111]; exact (hJ.tr g3.setO).tr g3.setO.2.setO⟩
      · refine r_aload_n 115 dX0_make_114 rfl rfl rfl ?_
        refine r_iconst (v := 1) 116 dX0_make_115 rfl (by decide) ?_
        refine r_aload_n 117 dX0_make_116 rfl rfl rfl ?_
        refine r_getf 120 dX0_make_117 rfl f_X0_18.r (by repeat (first | assumption | exact isBd.o (by assumption) | exact isHp.o (by assumption) | refine gs_eq ?_ | refine gs_ne (by omega) ?_ | exact is_of (by assumption) | refine gs_is ?_)) rfl ?_
        refine r_isub 121 dX0_make_120 rfl ?_
        refine r_putf (fs1 := [_, _, _, _]) 124 dX0_make_121 rfl f_X0_18 (by repeat (first | assumption | exact isBd.o (by assumption) | exact isHp.o (by assumption) | refine gs_eq ?_ | refine gs_ne (by omega) ?_ | exact is_of (by assumption) | refine gs_is ?_)) rfl (by simp only [List.length_cons, List.length_nil]; omega) rfl ?_
        refine r_vret dX0_make_124 rfl (by decide) (by decide) ?_
        have hJ : toBd w b (mkF f mv q) (mkN f n mv q) mv jp w3 := (h1.tr h2).tr h3
        first | exact ⟨rfl, by rw [mkM, if_neg q111]; exact hJ.tr g3.setO⟩ | exact ⟨rfl, by rw [mkM, if_pos q111]; exact (hJ.tr g3.setO).tr g3.setO.2.setO⟩
    · refine r_aload_n 87 dX0_make_86 rfl rfl rfl ?_
      refine r_iload 89 dX0_make_87 rfl rfl ?_
      refine r_callV0 92 dX0_make_89 rfl (tX0_canJump h3.2 hto) l_X0_97 mX0_canJump rfl (by repeat (first | assumption | exact isBd.o (by assumption) | exact isHp.o (by assumption) | refine gs_eq ?_ | refine gs_ne (by omega) ?_ | exact is_of (by assumption) | refine gs_is ?_)) rfl (by decide) (Nat.le_of_ble_eq_true rfl) (by decide) (qI ?_)
      refine r_if_eq 100 95 dX0_make_92 (by decide) rfl (fun q92 => ?_) (fun q92 => ?_)
      · refine r_bipush (v := (-6)) 102 dX0_make_100 rfl (by decide) ?_
        refine r_top (mkJ f mv q) (by first | (rw [mkJ, if_pos ⟨q83, ne_f q92⟩]; done) | (rw [mkJ, if_neg (fun z => z.1 q83)]; done) | (rw [mkJ, if_neg (fun z => eq_f q92 z.2)]; done)) ?_
        refine r_putf (fs1 := [_, _, _, _]) 105 dX0_make_102 rfl f_X0_22 (by repeat (first | assumption | exact isBd.o (by assumption) | exact isHp.o (by assumption) | refine gs_eq ?_ | refine gs_ne (by omega) ?_ | exact is_of (by assumption) | refine gs_is ?_)) rfl (by simp only [List.length_cons, List.length_nil]; omega) rfl ?_
        refine r_aload_n 106 dX0_make_105 rfl rfl rfl ?_
        refine r_getf 109 dX0_make_106 rfl f_X0_22.r (by repeat (first | assumption | exact isBd.o (by assumption) | exact isHp.o (by assumption) | refine gs_eq ?_ | refine gs_ne (by omega) ?_ | exact is_of (by assumption) | refine gs_is ?_)) rfl ?_
        refine r_bipush (v := (-6)) 111 dX0_make_109 rfl (by decide) ?_
        refine r_icmp_ne 124 114 dX0_make_111 (by decide) rfl (fun q111 => ?_) (fun q111 => ?_)
        · refine r_vret dX0_make_124 rfl (by decide) (by decide) ?_
          have hJ : toBd w b (mkF f mv q) (mkN f n mv q) mv jp w3 := (h1.tr h2).tr h3
          first | exact ⟨rfl, by rw [mkM, if_neg q111]; exact hJ.tr g3.setO⟩ | exact ⟨rfl, by rw [mkM, if_pos q111]; exact (hJ.tr g3.setO).tr g3.setO.2.setO⟩
        · refine r_aload_n 115 dX0_make_114 rfl rfl rfl ?_
          refine r_iconst (v := 1) 116 dX0_make_115 rfl (by decide) ?_
          refine r_aload_n 117 dX0_make_116 rfl rfl rfl ?_
          refine r_getf 120 dX0_make_117 rfl f_X0_18.r (by repeat (first | assumption | exact isBd.o (by assumption) | exact isHp.o (by assumption) | refine gs_eq ?_ | refine gs_ne (by omega) ?_ | exact is_of (by assumption) | refine gs_is ?_)) rfl ?_
          refine r_isub 121 dX0_make_120 rfl ?_
          refine r_putf (fs1 := [_, _, _, _]) 124 dX0_make_121 rfl f_X0_18 (by repeat (first | assumption | exact isBd.o (by assumption) | exact isHp.o (by assumption) | refine gs_eq ?_ | refine gs_ne (by omega) ?_ | exact is_of (by assumption) | refine gs_is ?_)) rfl (by simp only [List.length_cons, List.length_nil]; omega) rfl ?_
          refine r_vret dX0_make_124 rfl (by decide) (by decide) ?_
          have hJ : toBd w b (mkF f mv q) (mkN f n mv q) mv jp w3 := (h1.tr h2).tr h3
          first | exact ⟨rfl, by rw [mkM, if_neg q111]; exact hJ.tr g3.setO⟩ | exact ⟨rfl, by rw [mkM, if_pos q111]; exact (hJ.tr g3.setO).tr g3.setO.2.setO⟩
      · refine r_iload 97 dX0_make_95 rfl rfl ?_
        refine r_goto 102 dX0_make_97 (by decide) ?_
        refine r_top (mkJ f mv q) (by first | (rw [mkJ, if_pos ⟨q83, ne_f q92⟩]; done) | (rw [mkJ, if_neg (fun z => z.1 q83)]; done) | (rw [mkJ, if_neg (fun z => eq_f q92 z.2)]; done)) ?_
        refine r_putf (fs1 := [_, _, _, _]) 105 dX0_make_102 rfl f_X0_22 (by repeat (first | assumption | exact isBd.o (by assumption) | exact isHp.o (by assumption) | refine gs_eq ?_ | refine gs_ne (by omega) ?_ | exact is_of (by assumption) | refine gs_is ?_)) rfl (by simp only [List.length_cons, List.length_nil]; omega) rfl ?_
        refine r_aload_n 106 dX0_make_105 rfl rfl rfl ?_
        refine r_getf 109 dX0_make_106 rfl f_X0_22.r (by repeat (first | assumption | exact isBd.o (by assumption) | exact isHp.o (by assumption) | refine gs_eq ?_ | refine gs_ne (by omega) ?_ | exact is_of (by assumption) | refine gs_is ?_)) rfl ?_
        refine r_bipush (v := (-6)) 111 dX0_make_109 rfl (by decide) ?_
        refine r_icmp_ne 124 114 dX0_make_111 (by decide) rfl (fun q111 => ?_) (fun q111 => ?_)
        · refine r_vret dX0_make_124 rfl (by decide) (by decide) ?_
          have hJ : toBd w b (mkF f mv q) (mkN f n mv q) mv jp w3 := (h1.tr h2).tr h3
          first | exact ⟨rfl, by rw [mkM, if_neg q111]; exact hJ.tr g3.setO⟩ | exact ⟨rfl, by rw [mkM, if_pos q111]; exact (hJ.tr g3.setO).tr g3.setO.2.setO⟩
        · refine r_aload_n 115 dX0_make_114 rfl rfl rfl ?_
          refine r_iconst (v := 1) 116 dX0_make_115 rfl (by decide) ?_
          refine r_aload_n 117 dX0_make_116 rfl rfl rfl ?_
          refine r_getf 120 dX0_make_117 rfl f_X0_18.r (by repeat (first | assumption | exact isBd.o (by assumption) | exact isHp.o (by assumption) | refine gs_eq ?_ | refine gs_ne (by omega) ?_ | exact is_of (by assumption) | refine gs_is ?_)) rfl ?_
          refine r_isub 121 dX0_make_120 rfl ?_
          refine r_putf (fs1 := [_, _, _, _]) 124 dX0_make_121 rfl f_X0_18 (by repeat (first | assumption | exact isBd.o (by assumption) | exact isHp.o (by assumption) | refine gs_eq ?_ | refine gs_ne (by omega) ?_ | exact is_of (by assumption) | refine gs_is ?_)) rfl (by simp only [List.length_cons, List.length_nil]; omega) rfl ?_
          refine r_vret dX0_make_124 rfl (by decide) (by decide) ?_
          have hJ : toBd w b (mkF f mv q) (mkN f n mv q) mv jp w3 := (h1.tr h2).tr h3
          first | exact ⟨rfl, by rw [mkM, if_neg q111]; exact hJ.tr g3.setO⟩ | exact ⟨rfl, by rw [mkM, if_pos q111]; exact (hJ.tr g3.setO).tr g3.setO.2.setO⟩
  · refine r_aload_n 64 dX0_make_63 rfl rfl rfl ?_
    refine r_getf 67 dX0_make_64 rfl f_X0_18.r (by repeat (first | assumption | exact isBd.o (by assumption) | exact isHp.o (by assumption) | refine gs_eq ?_ | refine gs_ne (by omega) ?_ | exact is_of (by assumption) | refine gs_is ?_)) rfl ?_
    refine r_callSN0 70 dX0_make_67 rfl (tX6_kingOf) l_X0_48 mX6_kingOf rfl (by decide) (Nat.le_of_ble_eq_true rfl) (by decide) (qI ?_)
    refine r_goto 75 dX0_make_70 (by decide) ?_
    refine r_top (mkP f mv q) (by first | (rw [mkP, if_pos (ne_f q60)]; done) | rw [mkP, if_neg (eq_f q60)]) ?_
    refine r_callV0 78 dX0_make_75 rfl (tX0_place h2.2) l_X0_37 mX0_place rfl (by repeat (first | assumption | exact isBd.o (by assumption) | exact isHp.o (by assumption) | refine gs_eq ?_ | refine gs_ne (by omega) ?_ | exact is_of (by assumption) | refine gs_is ?_)) rfl (by decide) (Nat.le_of_ble_eq_true rfl) (by decide) (qN fun w3 h3 => ?_)
    have g3 : isBd w3 b (mkF f mv q) (mkN f n mv q) mv jp := h3.2
    obtain ⟨gg, -, -⟩ := id g3
    refine r_aload_n 79 dX0_make_78 rfl rfl rfl ?_
    refine r_iload 81 dX0_make_79 rfl rfl ?_
    refine r_bipush (v := (-6)) 83 dX0_make_81 rfl (by decide) ?_
    refine r_icmp_eq 100 86 dX0_make_83 (by decide) rfl (fun q83 => ?_) (fun q83 => ?_)
    · refine r_bipush (v := (-6)) 102 dX0_make_100 rfl (by decide) ?_
      refine r_top (mkJ f mv q) (by first | (rw [mkJ, if_pos ⟨q83, ne_f q92⟩]; done) | (rw [mkJ, if_neg (fun z => z.1 q83)]; done) | (rw [mkJ, if_neg (fun z => eq_f q92 z.2)]; done)) ?_
      refine r_putf (fs1 := [_, _, _, _]) 105 dX0_make_102 rfl f_X0_22 (by repeat (first | assumption | exact isBd.o (by assumption) | exact isHp.o (by assumption) | refine gs_eq ?_ | refine gs_ne (by omega) ?_ | exact is_of (by assumption) | refine gs_is ?_)) rfl (by simp only [List.length_cons, List.length_nil]; omega) rfl ?_
      refine r_aload_n 106 dX0_make_105 rfl rfl rfl ?_
      refine r_getf 109 dX0_make_106 rfl f_X0_22.r (by repeat (first | assumption | exact isBd.o (by assumption) | exact isHp.o (by assumption) | refine gs_eq ?_ | refine gs_ne (by omega) ?_ | exact is_of (by assumption) | refine gs_is ?_)) rfl ?_
      refine r_bipush (v := (-6)) 111 dX0_make_109 rfl (by decide) ?_
      refine r_icmp_ne 124 114 dX0_make_111 (by decide) rfl (fun q111 => ?_) (fun q111 => ?_)
      · refine r_vret dX0_make_124 rfl (by decide) (by decide) ?_
        have hJ : toBd w b (mkF f mv q) (mkN f n mv q) mv jp w3 := (h1.tr h2).tr h3
        first | exact ⟨rfl, by rw [mkM, if_neg q111]; exact hJ.tr g3.setO⟩ | exact ⟨rfl, by rw [mkM, if_pos q111]; exact (hJ.tr g3.setO).tr g3.setO.2.setO⟩
      · refine r_aload_n 115 dX0_make_114 rfl rfl rfl ?_
        refine r_iconst (v := 1) 116 dX0_make_115 rfl (by decide) ?_
        refine r_aload_n 117 dX0_make_116 rfl rfl rfl ?_
        refine r_getf 120 dX0_make_117 rfl f_X0_18.r (by repeat (first | assumption | exact isBd.o (by assumption) | exact isHp.o (by assumption) | refine gs_eq ?_ | refine gs_ne (by omega) ?_ | exact is_of (by assumption) | refine gs_is ?_)) rfl ?_
        refine r_isub 121 dX0_make_120 rfl ?_
        refine r_putf (fs1 := [_, _, _, _]) 124 dX0_make_121 rfl f_X0_18 (by repeat (first | assumption | exact isBd.o (by assumption) | exact isHp.o (by assumption) | refine gs_eq ?_ | refine gs_ne (by omega) ?_ | exact is_of (by assumption) | refine gs_is ?_)) rfl (by simp only [List.length_cons, List.length_nil]; omega) rfl ?_
        refine r_vret dX0_make_124 rfl (by decide) (by decide) ?_
        have hJ : toBd w b (mkF f mv q) (mkN f n mv q) mv jp w3 := (h1.tr h2).tr h3
        first | exact ⟨rfl, by rw [mkM, if_neg q111]; exact hJ.tr g3.setO⟩ | exact ⟨rfl, by rw [mkM, if_pos q111]; exact (hJ.tr g3.setO).tr g3.setO.2.setO⟩
    · refine r_aload_n 87 dX0_make_86 rfl rfl rfl ?_
      refine r_iload 89 dX0_make_87 rfl rfl ?_
      refine r_callV0 92 dX0_make_89 rfl (tX0_canJump h3.2 hto) l_X0_97 mX0_canJump rfl (by repeat (first | assumption | exact isBd.o (by assumption) | exact isHp.o (by assumption) | refine gs_eq ?_ | refine gs_ne (by omega) ?_ | exact is_of (by assumption) | refine gs_is ?_)) rfl (by decide) (Nat.le_of_ble_eq_true rfl) (by decide) (qI ?_)
      refine r_if_eq 100 95 dX0_make_92 (by decide) rfl (fun q92 => ?_) (fun q92 => ?_)
      · refine r_bipush (v := (-6)) 102 dX0_make_100 rfl (by decide) ?_
        refine r_top (mkJ f mv q) (by first | (rw [mkJ, if_pos ⟨q83, ne_f q92⟩]; done) | (rw [mkJ, if_neg (fun z => z.1 q83)]; done) | (rw [mkJ, if_neg (fun z => eq_f q92 z.2)]; done)) ?_
        refine r_putf (fs1 := [_, _, _, _]) 105 dX0_make_102 rfl f_X0_22 (by repeat (first | assumption | exact isBd.o (by assumption) | exact isHp.o (by assumption) | refine gs_eq ?_ | refine gs_ne (by omega) ?_ | exact is_of (by assumption) | refine gs_is ?_)) rfl (by simp only [List.length_cons, List.length_nil]; omega) rfl ?_
        refine r_aload_n 106 dX0_make_105 rfl rfl rfl ?_
        refine r_getf 109 dX0_make_106 rfl f_X0_22.r (by repeat (first | assumption | exact isBd.o (by assumption) | exact isHp.o (by assumption) | refine gs_eq ?_ | refine gs_ne (by omega) ?_ | exact is_of (by assumption) | refine gs_is ?_)) rfl ?_
        refine r_bipush (v := (-6)) 111 dX0_make_109 rfl (by decide) ?_
        refine r_icmp_ne 124 114 dX0_make_111 (by decide) rfl (fun q111 => ?_) (fun q111 => ?_)
        · refine r_vret dX0_make_124 rfl (by decide) (by decide) ?_
          have hJ : toBd w b (mkF f mv q) (mkN f n mv q) mv jp w3 := (h1.tr h2).tr h3
          first | exact ⟨rfl, by rw [mkM, if_neg q111]; exact hJ.tr g3.setO⟩ | exact ⟨rfl, by rw [mkM, if_pos q111]; exact (hJ.tr g3.setO).tr g3.setO.2.setO⟩
        · refine r_aload_n 115 dX0_make_114 rfl rfl rfl ?_
          refine r_iconst (v := 1) 116 dX0_make_115 rfl (by decide) ?_
          refine r_aload_n 117 dX0_make_116 rfl rfl rfl ?_
          refine r_getf 120 dX0_make_117 rfl f_X0_18.r (by repeat (first | assumption | exact isBd.o (by assumption) | exact isHp.o (by assumption) | refine gs_eq ?_ | refine gs_ne (by omega) ?_ | exact is_of (by assumption) | refine gs_is ?_)) rfl ?_
          refine r_isub 121 dX0_make_120 rfl ?_
          refine r_putf (fs1 := [_, _, _, _]) 124 dX0_make_121 rfl f_X0_18 (by repeat (first | assumption | exact isBd.o (by assumption) | exact isHp.o (by assumption) | refine gs_eq ?_ | refine gs_ne (by omega) ?_ | exact is_of (by assumption) | refine gs_is ?_)) rfl (by simp only [List.length_cons, List.length_nil]; omega) rfl ?_
          refine r_vret dX0_make_124 rfl (by decide) (by decide) ?_
          have hJ : toBd w b (mkF f mv q) (mkN f n mv q) mv jp w3 := (h1.tr h2).tr h3
          first | exact ⟨rfl, by rw [mkM, if_neg q111]; exact hJ.tr g3.setO⟩ | exact ⟨rfl, by rw [mkM, if_pos q111]; exact (hJ.tr g3.setO).tr g3.setO.2.setO⟩
      · refine r_iload 97 dX0_make_95 rfl rfl ?_
        refine r_goto 102 dX0_make_97 (by decide) ?_
        refine r_top (mkJ f mv q) (by first | (rw [mkJ, if_pos ⟨q83, ne_f q92⟩]; done) | (rw [mkJ, if_neg (fun z => z.1 q83)]; done) | (rw [mkJ, if_neg (fun z => eq_f q92 z.2)]; done)) ?_
        refine r_putf (fs1 := [_, _, _, _]) 105 dX0_make_102 rfl f_X0_22 (by repeat (first | assumption | exact isBd.o (by assumption) | exact isHp.o (by assumption) | refine gs_eq ?_ | refine gs_ne (by omega) ?_ | exact is_of (by assumption) | refine gs_is ?_)) rfl (by simp only [List.length_cons, List.length_nil]; omega) rfl ?_
        refine r_aload_n 106 dX0_make_105 rfl rfl rfl ?_
        refine r_getf 109 dX0_make_106 rfl f_X0_22.r (by repeat (first | assumption | exact isBd.o (by assumption) | exact isHp.o (by assumption) | refine gs_eq ?_ | refine gs_ne (by omega) ?_ | exact is_of (by assumption) | refine gs_is ?_)) rfl ?_
        refine r_bipush (v := (-6)) 111 dX0_make_109 rfl (by decide) ?_
        refine r_icmp_ne 124 114 dX0_make_111 (by decide) rfl (fun q111 => ?_) (fun q111 => ?_)
        · refine r_vret dX0_make_124 rfl (by decide) (by decide) ?_
          have hJ : toBd w b (mkF f mv q) (mkN f n mv q) mv jp w3 := (h1.tr h2).tr h3
          first | exact ⟨rfl, by rw [mkM, if_neg q111]; exact hJ.tr g3.setO⟩ | exact ⟨rfl, by rw [mkM, if_pos q111]; exact (hJ.tr g3.setO).tr g3.setO.2.setO⟩
        · refine r_aload_n 115 dX0_make_114 rfl rfl rfl ?_
          refine r_iconst (v := 1) 116 dX0_make_115 rfl (by decide) ?_
          refine r_aload_n 117 dX0_make_116 rfl rfl rfl ?_
          refine r_getf 120 dX0_make_117 rfl f_X0_18.r (by repeat (first | assumption | exact isBd.o (by assumption) | exact isHp.o (by assumption) | refine gs_eq ?_ | refine gs_ne (by omega) ?_ | exact is_of (by assumption) | refine gs_is ?_)) rfl ?_
          refine r_isub 121 dX0_make_120 rfl ?_
          refine r_putf (fs1 := [_, _, _, _]) 124 dX0_make_121 rfl f_X0_18 (by repeat (first | assumption | exact isBd.o (by assumption) | exact isHp.o (by assumption) | refine gs_eq ?_ | refine gs_ne (by omega) ?_ | exact is_of (by assumption) | refine gs_is ?_)) rfl (by simp only [List.length_cons, List.length_nil]; omega) rfl ?_
          refine r_vret dX0_make_124 rfl (by decide) (by decide) ?_
          have hJ : toBd w b (mkF f mv q) (mkN f n mv q) mv jp w3 := (h1.tr h2).tr h3
          first | exact ⟨rfl, by rw [mkM, if_neg q111]; exact hJ.tr g3.setO⟩ | exact ⟨rfl, by rw [mkM, if_pos q111]; exact (hJ.tr g3.setO).tr g3.setO.2.setO⟩

def th (f : Nat → Int32) : Nat → Nat → Int64 → Int64
  | 0, _, b => b
  | n + 1, s, b => th f n (s + 1) ((b <<< ((3 : Int32).toInt64 &&& 63)) ||| (if f s = -6 then 4 else f s).toInt64)
def thO (f : Nat → Int32) (mv jp : Int32) (p : Nat) : Int64 := th f 16 (p * 16) (if p = 0 then mv.toInt64 else if p = 1 then (jp - (-6)).toInt64 else 0)
theorem nI_one {p : Nat} (hp : p < 3) (h : nI p = 1) : p = 1 := (nI_eq (by omega) (by decide : 1 < 2 ^ 31)).mp h
set_option maxRecDepth 100000 in
theorem tX0_third {Γ : CT} {w : PW} {b p : Nat} {f n : Nat → Int32} {mv jp : Int32} (hb : isBd w b f n mv jp) (hp3 : p < 3) : Cl Γ yX0_third XX0_third 1 0 0 [.ref b, .int (nI p)] w (rJ (thO f mv jp p) w) := by
  have loop : ∀ (m i : Nat) (z : Int64) (x6 : Option Value), i + m = 16 → nl x6 = true → th f m (p * 16 + i) z = thO f mv jp p → Rn Γ XX0_third (rmO 1 0 0) none (FinM (rJ (thO f mv jp p) w) 0 0) 0 0 w 38 [some (.ref b), some (.int (nI p)), some (.int (nI (p * 16))), some (.long z), none, some (.int (nI (p * 16 + i))), x6] [] := by
    intro m
    induction m with
    | zero =>
      intro i z x6 hi e6 hz
      refine r_iload 40 dX0_third_38 rfl rfl ?_
      refine r_iload_n 41 dX0_third_40 rfl rfl ?_
      refine r_bipush (v := nI 16) 43 dX0_third_41 rfl (by decide) ?_
      refine r_iadd 44 dX0_third_43 rfl ?_
      rw [nI_add]
      refine r_icmp_ge 80 47 dX0_third_44 (by decide) rfl (fun q44 => ?_) (fun q44 => absurd q44 (fun z => z (nI_le (by omega) (by omega))))
      refine r_lload_n 81 dX0_third_80 rfl rfl ?_
      refine r_lret dX0_third_81 rfl (by decide) (by decide) ?_
      exact ⟨by rw [← hz]; rfl, rfl⟩
    | succ m ih =>
      intro i z x6 hi e6 hz
      refine r_iload 40 dX0_third_38 rfl rfl ?_
      refine r_iload_n 41 dX0_third_40 rfl rfl ?_
      refine r_bipush (v := nI 16) 43 dX0_third_41 rfl (by decide) ?_
      refine r_iadd 44 dX0_third_43 rfl ?_
      rw [nI_add]
      refine r_icmp_ge 80 47 dX0_third_44 (by decide) rfl (fun q44 => absurd q44 (nI_ge (by omega) (by omega))) (fun q44 => ?_)
      refine r_aload_n 48 dX0_third_47 rfl rfl rfl ?_
      refine r_iload 50 dX0_third_48 rfl rfl ?_
      refine r_callV0 53 dX0_third_50 rfl (tX0_pAt hb (by omega)) l_X0_57 mX0_pieceAt rfl (by repeat (first | assumption | exact isBd.o (by assumption) | exact isHp.o (by assumption) | refine gs_eq ?_ | refine gs_ne (by omega) ?_ | exact is_of (by assumption) | refine gs_is ?_)) rfl (by decide) (Nat.le_of_ble_eq_true rfl) (by decide) (qI ?_)
      refine r_istore (ls1 := [_, _, _, _, _, _, _]) 55 dX0_third_53 rfl (by decide) rfl rfl ?_
      refine r_lload_n 56 dX0_third_55 rfl rfl ?_
      refine r_iconst (v := 3) 57 dX0_third_56 rfl (by decide) ?_
      refine r_lshl 58 dX0_third_57 rfl rfl ?_
      refine r_iload 60 dX0_third_58 rfl rfl ?_
      refine r_bipush (v := (-6)) 62 dX0_third_60 rfl (by decide) ?_
      refine r_icmp_ne 69 65 dX0_third_62 (by decide) rfl (fun q62 => ?_) (fun q62 => ?_)
      · refine r_iload 71 dX0_third_69 rfl rfl ?_
        refine r_top (if f (p * 16 + i) = -6 then 4 else f (p * 16 + i)) (by first | (rw [if_pos q62]; done) | rw [if_neg q62]) ?_
        refine r_i2l 72 dX0_third_71 rfl rfl ?_
        refine r_lor 73 dX0_third_72 rfl ?_
        refine r_lstore_n (ls1 := [_, _, _, _, _, _, _]) 74 dX0_third_73 rfl (by decide) rfl rfl ?_
        refine r_iinc (ls1 := [_, _, _, _, _, _, _]) 77 dX0_third_74 rfl (by decide) rfl rfl (nI_1 _) rfl ?_
        refine r_goto 38 dX0_third_77 (by decide) ?_
        exact ih (i + 1) _ _ (by omega) rfl (by rw [← hz, th]; rfl)
      · refine r_iconst (v := 4) 66 dX0_third_65 rfl (by decide) ?_
        refine r_goto 71 dX0_third_66 (by decide) ?_
        refine r_top (if f (p * 16 + i) = -6 then 4 else f (p * 16 + i)) (by first | (rw [if_pos q62]; done) | rw [if_neg q62]) ?_
        refine r_i2l 72 dX0_third_71 rfl rfl ?_
        refine r_lor 73 dX0_third_72 rfl ?_
        refine r_lstore_n (ls1 := [_, _, _, _, _, _, _]) 74 dX0_third_73 rfl (by decide) rfl rfl ?_
        refine r_iinc (ls1 := [_, _, _, _, _, _, _]) 77 dX0_third_74 rfl (by decide) rfl rfl (nI_1 _) rfl ?_
        refine r_goto 38 dX0_third_77 (by decide) ?_
        exact ih (i + 1) _ _ (by omega) rfl (by rw [← hz, th]; rfl)
  refine Cl.of (ls := [some (.ref b), some (.int (nI p)), none, none, none, none, none]) rfl (by decide +kernel) (fun h => by cases h) (Nat.le_of_ble_eq_true rfl) rfl ?_
  refine r_iload_n 1 dX0_third_0 rfl rfl ?_
  refine r_bipush (v := nI 16) 3 dX0_third_1 rfl (by decide) ?_
  refine r_imul 4 dX0_third_3 rfl ?_
  rw [pk_mul]
  refine r_istore_n (ls1 := [_, _, _, _, _, _, _]) 5 dX0_third_4 rfl (by decide) rfl rfl ?_
  refine r_iload_n 6 dX0_third_5 rfl rfl ?_
  refine r_if_ne 17 9 dX0_third_6 (by decide) rfl (fun q6 => ?_) (fun q6 => ?_)
  · refine r_iload_n 18 dX0_third_17 rfl rfl ?_
    refine r_iconst (v := 1) 19 dX0_third_18 rfl (by decide) ?_
    refine r_icmp_ne 33 22 dX0_third_19 (by decide) rfl (fun q19 => ?_) (fun q19 => ?_)
    · refine r_lconst (v := 0) 34 dX0_third_33 rfl (by decide) ?_
      refine r_lstore_n (ls1 := [_, _, _, _, _, _, _]) 35 dX0_third_34 rfl (by decide) rfl rfl ?_
      refine r_iload_n 36 dX0_third_35 rfl rfl ?_
      refine r_istore (ls1 := [_, _, _, _, _, _, _]) 38 dX0_third_36 rfl (by decide) rfl rfl ?_
      first
        | exact loop 16 0 _ _ rfl rfl (by rw [thO, if_pos (nI_z (by omega) q6)]; rfl)
        | exact loop 16 0 _ _ rfl rfl (by rw [thO, if_neg (fun z => q6 (by rw [z]; rfl)), if_pos (nI_one hp3 q19)]; rfl)
        | exact loop 16 0 _ _ rfl rfl (by rw [thO, if_neg (fun z => q6 (by rw [z]; rfl)), if_neg (fun z => q19 (by rw [z]; rfl))]; rfl)
    · refine r_aload_n 23 dX0_third_22 rfl rfl rfl ?_
      refine r_getf 26 dX0_third_23 rfl f_X0_22.r (by repeat (first | assumption | exact isBd.o (by assumption) | exact isHp.o (by assumption) | refine gs_eq ?_ | refine gs_ne (by omega) ?_ | exact is_of (by assumption) | refine gs_is ?_)) rfl ?_
      refine r_bipush (v := (-6)) 28 dX0_third_26 rfl (by decide) ?_
      refine r_isub 29 dX0_third_28 rfl ?_
      refine r_i2l 30 dX0_third_29 rfl rfl ?_
      refine r_goto 34 dX0_third_30 (by decide) ?_
      refine r_lstore_n (ls1 := [_, _, _, _, _, _, _]) 35 dX0_third_34 rfl (by decide) rfl rfl ?_
      refine r_iload_n 36 dX0_third_35 rfl rfl ?_
      refine r_istore (ls1 := [_, _, _, _, _, _, _]) 38 dX0_third_36 rfl (by decide) rfl rfl ?_
      first
        | exact loop 16 0 _ _ rfl rfl (by rw [thO, if_pos (nI_z (by omega) q6)]; rfl)
        | exact loop 16 0 _ _ rfl rfl (by rw [thO, if_neg (fun z => q6 (by rw [z]; rfl)), if_pos (nI_one hp3 q19)]; rfl)
        | exact loop 16 0 _ _ rfl rfl (by rw [thO, if_neg (fun z => q6 (by rw [z]; rfl)), if_neg (fun z => q19 (by rw [z]; rfl))]; rfl)
  · refine r_aload_n 10 dX0_third_9 rfl rfl rfl ?_
    refine r_getf 13 dX0_third_10 rfl f_X0_18.r (by repeat (first | assumption | exact isBd.o (by assumption) | exact isHp.o (by assumption) | refine gs_eq ?_ | refine gs_ne (by omega) ?_ | exact is_of (by assumption) | refine gs_is ?_)) rfl ?_
    refine r_i2l 14 dX0_third_13 rfl rfl ?_
    refine r_goto 34 dX0_third_14 (by decide) ?_
    refine r_lstore_n (ls1 := [_, _, _, _, _, _, _]) 35 dX0_third_34 rfl (by decide) rfl rfl ?_
    refine r_iload_n 36 dX0_third_35 rfl rfl ?_
    refine r_istore (ls1 := [_, _, _, _, _, _, _]) 38 dX0_third_36 rfl (by decide) rfl rfl ?_
    first
      | exact loop 16 0 _ _ rfl rfl (by rw [thO, if_pos (nI_z (by omega) q6)]; rfl)
      | exact loop 16 0 _ _ rfl rfl (by rw [thO, if_neg (fun z => q6 (by rw [z]; rfl)), if_pos (nI_one hp3 q19)]; rfl)
      | exact loop 16 0 _ _ rfl rfl (by rw [thO, if_neg (fun z => q6 (by rw [z]; rfl)), if_neg (fun z => q19 (by rw [z]; rfl))]; rfl)

set_option maxRecDepth 100000 in
theorem tX5_tryHop {Γ : CT} {w : PW} {y y1 pb ph nb nh : Nat} {nv : Value} {f n f2 n2 : Nat → Int32} {mv jp mv2 jp2 : Int32} {l : List HP} {j : Nat} {q : HP} (hy : w[y]? = some (oB 5 [.ref pb, .ref ph, .ref y1])) (hy1 : w[y1]? = some (oB 5 [.ref nb, .ref nh, nv])) (hb : isBd w pb f n mv jp) (hh : isHp w ph l) (hn : isBd w nb f2 n2 mv2 jp2) (hq : l[j]? = some q) (hto : q.2.1 < 48) (hfr : q.1 < 48) (ha1 : pb + 3 ≤ nb ∨ nb + 3 ≤ pb) (ha2 : apH nb ph) (hz1 : y < nb ∨ nb + 3 ≤ y) (hz2 : y1 < nb ∨ nb + 3 ≤ y1) : Cl Γ yX5_tryHop XX5_tryHop 5 0 0 [.ref y, .int (nI j)] w (rN (toBd w nb (mkF f mv q) (mkN f n mv q) (mkM f mv q) (mkJ f mv q))) := by
  refine Cl.of (ls := [some (.ref y), some (.int (nI j))]) rfl (by decide +kernel) (fun h => by cases h) (Nat.le_of_ble_eq_true rfl) rfl ?_
  refine r_aload_n 1 dX5_tryHop_0 rfl rfl rfl ?_
  refine r_getf 4 dX5_tryHop_1 rfl f_X5_23.r (by repeat (first | assumption | exact isBd.o (by assumption) | exact isHp.o (by assumption) | refine gs_eq ?_ | refine gs_ne (by omega) ?_ | exact is_of (by assumption) | refine gs_is ?_)) rfl ?_
  refine r_ifnull 7 dX5_tryHop_4 rfl ?_
  refine r_aload_n 8 dX5_tryHop_7 rfl rfl rfl ?_
  refine r_getf 11 dX5_tryHop_8 rfl f_X5_19.r (by repeat (first | assumption | exact isBd.o (by assumption) | exact isHp.o (by assumption) | refine gs_eq ?_ | refine gs_ne (by omega) ?_ | exact is_of (by assumption) | refine gs_is ?_)) rfl ?_
  refine r_iload_n 12 dX5_tryHop_11 rfl rfl ?_
  refine r_callV0 15 dX5_tryHop_12 rfl (tX3_has hh) l_X5_27 mX3_has rfl (by repeat (first | assumption | exact isBd.o (by assumption) | exact isHp.o (by assumption) | refine gs_eq ?_ | refine gs_ne (by omega) ?_ | exact is_of (by assumption) | refine gs_is ?_)) rfl (by decide) (Nat.le_of_ble_eq_true rfl) (by decide) (qI ?_)
  refine r_if_ne 19 18 dX5_tryHop_15 (by decide) rfl (fun q15 => ?_) (fun q15 => absurd q15 (fun z => absurd (hasO_t (l := l) (j := j) (by have := hh.1; omega) (List.getElem?_eq_some_iff.mp hq).1) (by rw [bI_0.mp z]; decide)))
  refine r_aload_n 20 dX5_tryHop_19 rfl rfl rfl ?_
  refine r_getf 23 dX5_tryHop_20 rfl f_X5_23.r (by repeat (first | assumption | exact isBd.o (by assumption) | exact isHp.o (by assumption) | refine gs_eq ?_ | refine gs_ne (by omega) ?_ | exact is_of (by assumption) | refine gs_is ?_)) rfl ?_
  refine r_getf 26 dX5_tryHop_23 rfl f_X5_10.r (by repeat (first | assumption | exact isBd.o (by assumption) | exact isHp.o (by assumption) | refine gs_eq ?_ | refine gs_ne (by omega) ?_ | exact is_of (by assumption) | refine gs_is ?_)) rfl ?_
  refine r_aload_n 27 dX5_tryHop_26 rfl rfl rfl ?_
  refine r_getf 30 dX5_tryHop_27 rfl f_X5_10.r (by repeat (first | assumption | exact isBd.o (by assumption) | exact isHp.o (by assumption) | refine gs_eq ?_ | refine gs_ne (by omega) ?_ | exact is_of (by assumption) | refine gs_is ?_)) rfl ?_
  refine r_callV0 33 dX5_tryHop_30 rfl (tX0_copyFrom hn hb (by omega)) l_X5_31 mX0_copyFrom rfl (by repeat (first | assumption | exact isBd.o (by assumption) | exact isHp.o (by assumption) | refine gs_eq ?_ | refine gs_ne (by omega) ?_ | exact is_of (by assumption) | refine gs_is ?_)) rfl (by decide) (Nat.le_of_ble_eq_true rfl) (by decide) (qN fun w1 h1 => ?_)
  have g0 := h1.1.at (h := y) (by unfold bS; omega) hy
  have g1 := h1.1.at (h := y1) (by unfold bS; omega) hy1
  have g2 := h1.2
  have g3 := hh.fr h1.1 (fun q a b => ha2.hh a b)
  refine r_aload_n 34 dX5_tryHop_33 rfl rfl rfl ?_
  refine r_getf 37 dX5_tryHop_34 rfl f_X5_23.r (by repeat (first | assumption | exact isBd.o (by assumption) | exact isHp.o (by assumption) | refine gs_eq ?_ | refine gs_ne (by omega) ?_ | exact is_of (by assumption) | refine gs_is ?_)) rfl ?_
  refine r_getf 40 dX5_tryHop_37 rfl f_X5_10.r (by repeat (first | assumption | exact isBd.o (by assumption) | exact isHp.o (by assumption) | refine gs_eq ?_ | refine gs_ne (by omega) ?_ | exact is_of (by assumption) | refine gs_is ?_)) rfl ?_
  refine r_aload_n 41 dX5_tryHop_40 rfl rfl rfl ?_
  refine r_getf 44 dX5_tryHop_41 rfl f_X5_19.r (by repeat (first | assumption | exact isBd.o (by assumption) | exact isHp.o (by assumption) | refine gs_eq ?_ | refine gs_ne (by omega) ?_ | exact is_of (by assumption) | refine gs_is ?_)) rfl ?_
  refine r_iload_n 45 dX5_tryHop_44 rfl rfl ?_
  refine r_callV0 48 dX5_tryHop_45 rfl (tX0_make h1.2 (hh.fr h1.1 (fun q a b => ha2.hh a b)) ha2 hq hto hfr) l_X5_35 mX0_make rfl (by repeat (first | assumption | exact isBd.o (by assumption) | exact isHp.o (by assumption) | refine gs_eq ?_ | refine gs_ne (by omega) ?_ | exact is_of (by assumption) | refine gs_is ?_)) rfl (by decide) (Nat.le_of_ble_eq_true rfl) (by decide) (qN fun w2 h2 => ?_)
  refine r_vret dX5_tryHop_48 rfl (by decide) (by decide) ?_
  exact ⟨rfl, h1.tr h2⟩
end
