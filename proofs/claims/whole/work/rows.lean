section
-- ===== PART A: goes FIRST, ahead of the names: the tables' words, and 'selects' of the private methods out of them =====
/-- a private method of a class that the tables say can be made, by its rows of tables_1 -/
def lw_okq (q : MethodName × Nat) : Prop := (q.1.cls ≠ "java/lang/invoke/MethodHandle" ∧ q.1.cls ≠ "java/lang/invoke/VarHandle") ∧ Cond.instantiable q.1.cls q.2 ∈ tables_1 ∧ Cond.privateMethod q.1 ∈ tables_1 ∧ Cond.instanceMethod q.1 ∈ tables_1
theorem lw_p0 : lw_okq (⟨"ProgressTracker", "fail", "(I)I"⟩, 5) := ⟨⟨by decide +kernel, by decide +kernel⟩, List.mem_of_getElem? (i := 14) (by decide +kernel), List.mem_of_getElem? (i := 227) (by decide +kernel), List.mem_of_getElem? (i := 228) (by decide +kernel)⟩
theorem lw_p1 : lw_okq (⟨"ProgressTracker", "save", "()V"⟩, 5) := ⟨⟨by decide +kernel, by decide +kernel⟩, List.mem_of_getElem? (i := 14) (by decide +kernel), List.mem_of_getElem? (i := 231) (by decide +kernel), List.mem_of_getElem? (i := 232) (by decide +kernel)⟩
theorem lw_p2 : lw_okq (⟨"ProgressTracker", "dropOldest", "()V"⟩, 5) := ⟨⟨by decide +kernel, by decide +kernel⟩, List.mem_of_getElem? (i := 14) (by decide +kernel), List.mem_of_getElem? (i := 235) (by decide +kernel), List.mem_of_getElem? (i := 236) (by decide +kernel)⟩
theorem lw_p3 : lw_okq (⟨"ProgressTracker$View", "makeRoom", "(I)V"⟩, 4) := ⟨⟨by decide +kernel, by decide +kernel⟩, List.mem_of_getElem? (i := 122) (by decide +kernel), List.mem_of_getElem? (i := 264) (by decide +kernel), List.mem_of_getElem? (i := 265) (by decide +kernel)⟩
theorem lw_p4 : lw_okq (⟨"ProgressTracker$View", "firstRowFrom", "(I)I"⟩, 4) := ⟨⟨by decide +kernel, by decide +kernel⟩, List.mem_of_getElem? (i := 122) (by decide +kernel), List.mem_of_getElem? (i := 308) (by decide +kernel), List.mem_of_getElem? (i := 309) (by decide +kernel)⟩
theorem lw_p5 : lw_okq (⟨"ProgressTracker$View", "insert", "(III)V"⟩, 4) := ⟨⟨by decide +kernel, by decide +kernel⟩, List.mem_of_getElem? (i := 122) (by decide +kernel), List.mem_of_getElem? (i := 312) (by decide +kernel), List.mem_of_getElem? (i := 313) (by decide +kernel)⟩
theorem lw_p6 : lw_okq (⟨"ProgressTracker$View", "remove", "(I)V"⟩, 4) := ⟨⟨by decide +kernel, by decide +kernel⟩, List.mem_of_getElem? (i := 122) (by decide +kernel), List.mem_of_getElem? (i := 316) (by decide +kernel), List.mem_of_getElem? (i := 317) (by decide +kernel)⟩
theorem lw_p7 : lw_okq (⟨"ProgressTracker$Graph", "putEdge", "(IIZ)V"⟩, 6) := ⟨⟨by decide +kernel, by decide +kernel⟩, List.mem_of_getElem? (i := 58) (by decide +kernel), List.mem_of_getElem? (i := 336) (by decide +kernel), List.mem_of_getElem? (i := 337) (by decide +kernel)⟩
theorem lw_p8 : lw_okq (⟨"ProgressTracker$Graph", "returnsWithoutFeedback", "(I)Z"⟩, 6) := ⟨⟨by decide +kernel, by decide +kernel⟩, List.mem_of_getElem? (i := 58) (by decide +kernel), List.mem_of_getElem? (i := 343) (by decide +kernel), List.mem_of_getElem? (i := 344) (by decide +kernel)⟩
theorem lw_p9 : lw_okq (⟨"ProgressTracker$Graph", "staysWithoutFeedback", "(II)Z"⟩, 6) := ⟨⟨by decide +kernel, by decide +kernel⟩, List.mem_of_getElem? (i := 58) (by decide +kernel), List.mem_of_getElem? (i := 350) (by decide +kernel), List.mem_of_getElem? (i := 351) (by decide +kernel)⟩
theorem lw_p10 : lw_okq (⟨"ProgressTracker$Ways", "makeRows", "()V"⟩, 7) := ⟨⟨by decide +kernel, by decide +kernel⟩, List.mem_of_getElem? (i := 24) (by decide +kernel), List.mem_of_getElem? (i := 400) (by decide +kernel), List.mem_of_getElem? (i := 401) (by decide +kernel)⟩
theorem lw_p11 : lw_okq (⟨"ProgressTracker$Ways", "search", "(LProgressTracker$Graph;I)V"⟩, 7) := ⟨⟨by decide +kernel, by decide +kernel⟩, List.mem_of_getElem? (i := 24) (by decide +kernel), List.mem_of_getElem? (i := 404) (by decide +kernel), List.mem_of_getElem? (i := 405) (by decide +kernel)⟩
theorem lw_p12 : lw_okq (⟨"ProgressTracker$Ways", "addPlace", "(II)V"⟩, 7) := ⟨⟨by decide +kernel, by decide +kernel⟩, List.mem_of_getElem? (i := 24) (by decide +kernel), List.mem_of_getElem? (i := 414) (by decide +kernel), List.mem_of_getElem? (i := 415) (by decide +kernel)⟩
theorem lw_p13 : lw_okq (⟨"ProgressTracker", "beginEvent", "()V"⟩, 5) := ⟨⟨by decide +kernel, by decide +kernel⟩, List.mem_of_getElem? (i := 14) (by decide +kernel), List.mem_of_getElem? (i := 441) (by decide +kernel), List.mem_of_getElem? (i := 442) (by decide +kernel)⟩
theorem lw_p14 : lw_okq (⟨"ProgressTracker$UpdateQueue", "makeRoomAtEnd", "()V"⟩, 3) := ⟨⟨by decide +kernel, by decide +kernel⟩, List.mem_of_getElem? (i := 144) (by decide +kernel), List.mem_of_getElem? (i := 461) (by decide +kernel), List.mem_of_getElem? (i := 462) (by decide +kernel)⟩
theorem lw_p15 : lw_okq (⟨"ProgressTracker", "leastDeliverable", "(II)I"⟩, 5) := ⟨⟨by decide +kernel, by decide +kernel⟩, List.mem_of_getElem? (i := 14) (by decide +kernel), List.mem_of_getElem? (i := 520) (by decide +kernel), List.mem_of_getElem? (i := 521) (by decide +kernel)⟩
def lw_privs_1 : List (MethodName × Nat) := [(⟨"ProgressTracker", "fail", "(I)I"⟩, 5), (⟨"ProgressTracker", "save", "()V"⟩, 5), (⟨"ProgressTracker", "dropOldest", "()V"⟩, 5), (⟨"ProgressTracker$View", "makeRoom", "(I)V"⟩, 4), (⟨"ProgressTracker$View", "firstRowFrom", "(I)I"⟩, 4), (⟨"ProgressTracker$View", "insert", "(III)V"⟩, 4), (⟨"ProgressTracker$View", "remove", "(I)V"⟩, 4), (⟨"ProgressTracker$Graph", "putEdge", "(IIZ)V"⟩, 6), (⟨"ProgressTracker$Graph", "returnsWithoutFeedback", "(I)Z"⟩, 6), (⟨"ProgressTracker$Graph", "staysWithoutFeedback", "(II)Z"⟩, 6), (⟨"ProgressTracker$Ways", "makeRows", "()V"⟩, 7), (⟨"ProgressTracker$Ways", "search", "(LProgressTracker$Graph;I)V"⟩, 7), (⟨"ProgressTracker$Ways", "addPlace", "(II)V"⟩, 7), (⟨"ProgressTracker", "beginEvent", "()V"⟩, 5), (⟨"ProgressTracker$UpdateQueue", "makeRoomAtEnd", "()V"⟩, 3), (⟨"ProgressTracker", "leastDeliverable", "(II)I"⟩, 5)]
theorem lw_r1 : ∀ q ∈ lw_privs_1, lw_okq q := List.forall_mem_cons.mpr ⟨lw_p0, List.forall_mem_cons.mpr ⟨lw_p1, List.forall_mem_cons.mpr ⟨lw_p2, List.forall_mem_cons.mpr ⟨lw_p3, List.forall_mem_cons.mpr ⟨lw_p4, List.forall_mem_cons.mpr ⟨lw_p5, List.forall_mem_cons.mpr ⟨lw_p6, List.forall_mem_cons.mpr ⟨lw_p7, List.forall_mem_cons.mpr ⟨lw_p8, List.forall_mem_cons.mpr ⟨lw_p9, List.forall_mem_cons.mpr ⟨lw_p10, List.forall_mem_cons.mpr ⟨lw_p11, List.forall_mem_cons.mpr ⟨lw_p12, List.forall_mem_cons.mpr ⟨lw_p13, List.forall_mem_cons.mpr ⟨lw_p14, List.forall_mem_cons.mpr ⟨lw_p15, fun _ h => absurd h List.not_mem_nil⟩⟩⟩⟩⟩⟩⟩⟩⟩⟩⟩⟩⟩⟩⟩⟩
theorem lw_p16 : lw_okq (⟨"ProgressTracker", "isOnFrontier", "(LProgressTracker$View;I)Z"⟩, 5) := ⟨⟨by decide +kernel, by decide +kernel⟩, List.mem_of_getElem? (i := 14) (by decide +kernel), List.mem_of_getElem? (i := 536) (by decide +kernel), List.mem_of_getElem? (i := 537) (by decide +kernel)⟩
theorem lw_p17 : lw_okq (⟨"ProgressTracker", "mixGraph", "(J)J"⟩, 5) := ⟨⟨by decide +kernel, by decide +kernel⟩, List.mem_of_getElem? (i := 14) (by decide +kernel), List.mem_of_getElem? (i := 640) (by decide +kernel), List.mem_of_getElem? (i := 641) (by decide +kernel)⟩
theorem lw_p18 : lw_okq (⟨"ProgressTracker", "mixMail", "(JI)J"⟩, 5) := ⟨⟨by decide +kernel, by decide +kernel⟩, List.mem_of_getElem? (i := 14) (by decide +kernel), List.mem_of_getElem? (i := 644) (by decide +kernel), List.mem_of_getElem? (i := 645) (by decide +kernel)⟩
theorem lw_p19 : lw_okq (⟨"ProgressTracker", "mixNotifications", "(JI)J"⟩, 5) := ⟨⟨by decide +kernel, by decide +kernel⟩, List.mem_of_getElem? (i := 14) (by decide +kernel), List.mem_of_getElem? (i := 648) (by decide +kernel), List.mem_of_getElem? (i := 649) (by decide +kernel)⟩
theorem lw_p20 : lw_okq (⟨"ProgressTracker", "mixView", "(JI)J"⟩, 5) := ⟨⟨by decide +kernel, by decide +kernel⟩, List.mem_of_getElem? (i := 14) (by decide +kernel), List.mem_of_getElem? (i := 652) (by decide +kernel), List.mem_of_getElem? (i := 653) (by decide +kernel)⟩
theorem lw_p21 : lw_okq (⟨"ProgressTracker", "markFrontier", "(LProgressTracker$View;)I"⟩, 5) := ⟨⟨by decide +kernel, by decide +kernel⟩, List.mem_of_getElem? (i := 14) (by decide +kernel), List.mem_of_getElem? (i := 656) (by decide +kernel), List.mem_of_getElem? (i := 657) (by decide +kernel)⟩
theorem lw_p22 : lw_okq (⟨"ProgressTrackerModel", "fails", "(I)I"⟩, 14) := ⟨⟨by decide +kernel, by decide +kernel⟩, List.mem_of_getElem? (i := 660) (by decide +kernel), List.mem_of_getElem? (i := 716) (by decide +kernel), List.mem_of_getElem? (i := 717) (by decide +kernel)⟩
theorem lw_p23 : lw_okq (⟨"ProgressTrackerModel", "saves", "()V"⟩, 14) := ⟨⟨by decide +kernel, by decide +kernel⟩, List.mem_of_getElem? (i := 660) (by decide +kernel), List.mem_of_getElem? (i := 727) (by decide +kernel), List.mem_of_getElem? (i := 728) (by decide +kernel)⟩
theorem lw_p24 : lw_okq (⟨"ProgressTrackerModel", "viewAt", "(III)I"⟩, 14) := ⟨⟨by decide +kernel, by decide +kernel⟩, List.mem_of_getElem? (i := 660) (by decide +kernel), List.mem_of_getElem? (i := 732) (by decide +kernel), List.mem_of_getElem? (i := 733) (by decide +kernel)⟩
theorem lw_p25 : lw_okq (⟨"ProgressTrackerModel", "isNode", "(I)Z"⟩, 14) := ⟨⟨by decide +kernel, by decide +kernel⟩, List.mem_of_getElem? (i := 660) (by decide +kernel), List.mem_of_getElem? (i := 740) (by decide +kernel), List.mem_of_getElem? (i := 741) (by decide +kernel)⟩
theorem lw_p26 : lw_okq (⟨"ProgressTrackerModel", "mayLead", "(III)Z"⟩, 14) := ⟨⟨by decide +kernel, by decide +kernel⟩, List.mem_of_getElem? (i := 660) (by decide +kernel), List.mem_of_getElem? (i := 744) (by decide +kernel), List.mem_of_getElem? (i := 745) (by decide +kernel)⟩
theorem lw_p27 : lw_okq (⟨"ProgressTrackerModel", "isInput", "(I)Z"⟩, 14) := ⟨⟨by decide +kernel, by decide +kernel⟩, List.mem_of_getElem? (i := 660) (by decide +kernel), List.mem_of_getElem? (i := 748) (by decide +kernel), List.mem_of_getElem? (i := 749) (by decide +kernel)⟩
theorem lw_p28 : lw_okq (⟨"ProgressTrackerModel", "returns", "(IIII)Z"⟩, 14) := ⟨⟨by decide +kernel, by decide +kernel⟩, List.mem_of_getElem? (i := 660) (by decide +kernel), List.mem_of_getElem? (i := 752) (by decide +kernel), List.mem_of_getElem? (i := 753) (by decide +kernel)⟩
theorem lw_p29 : lw_okq (⟨"ProgressTrackerModel", "isEdge", "(I)Z"⟩, 14) := ⟨⟨by decide +kernel, by decide +kernel⟩, List.mem_of_getElem? (i := 660) (by decide +kernel), List.mem_of_getElem? (i := 760) (by decide +kernel), List.mem_of_getElem? (i := 761) (by decide +kernel)⟩
theorem lw_p30 : lw_okq (⟨"ProgressTrackerModel", "kindOf", "(I)I"⟩, 14) := ⟨⟨by decide +kernel, by decide +kernel⟩, List.mem_of_getElem? (i := 660) (by decide +kernel), List.mem_of_getElem? (i := 764) (by decide +kernel), List.mem_of_getElem? (i := 765) (by decide +kernel)⟩
theorem lw_p31 : lw_okq (⟨"ProgressTrackerModel", "isTime", "(II)Z"⟩, 14) := ⟨⟨by decide +kernel, by decide +kernel⟩, List.mem_of_getElem? (i := 660) (by decide +kernel), List.mem_of_getElem? (i := 772) (by decide +kernel), List.mem_of_getElem? (i := 773) (by decide +kernel)⟩
def lw_privs_2 : List (MethodName × Nat) := [(⟨"ProgressTracker", "isOnFrontier", "(LProgressTracker$View;I)Z"⟩, 5), (⟨"ProgressTracker", "mixGraph", "(J)J"⟩, 5), (⟨"ProgressTracker", "mixMail", "(JI)J"⟩, 5), (⟨"ProgressTracker", "mixNotifications", "(JI)J"⟩, 5), (⟨"ProgressTracker", "mixView", "(JI)J"⟩, 5), (⟨"ProgressTracker", "markFrontier", "(LProgressTracker$View;)I"⟩, 5), (⟨"ProgressTrackerModel", "fails", "(I)I"⟩, 14), (⟨"ProgressTrackerModel", "saves", "()V"⟩, 14), (⟨"ProgressTrackerModel", "viewAt", "(III)I"⟩, 14), (⟨"ProgressTrackerModel", "isNode", "(I)Z"⟩, 14), (⟨"ProgressTrackerModel", "mayLead", "(III)Z"⟩, 14), (⟨"ProgressTrackerModel", "isInput", "(I)Z"⟩, 14), (⟨"ProgressTrackerModel", "returns", "(IIII)Z"⟩, 14), (⟨"ProgressTrackerModel", "isEdge", "(I)Z"⟩, 14), (⟨"ProgressTrackerModel", "kindOf", "(I)I"⟩, 14), (⟨"ProgressTrackerModel", "isTime", "(II)Z"⟩, 14)]
theorem lw_r2 : ∀ q ∈ lw_privs_2, lw_okq q := List.forall_mem_cons.mpr ⟨lw_p16, List.forall_mem_cons.mpr ⟨lw_p17, List.forall_mem_cons.mpr ⟨lw_p18, List.forall_mem_cons.mpr ⟨lw_p19, List.forall_mem_cons.mpr ⟨lw_p20, List.forall_mem_cons.mpr ⟨lw_p21, List.forall_mem_cons.mpr ⟨lw_p22, List.forall_mem_cons.mpr ⟨lw_p23, List.forall_mem_cons.mpr ⟨lw_p24, List.forall_mem_cons.mpr ⟨lw_p25, List.forall_mem_cons.mpr ⟨lw_p26, List.forall_mem_cons.mpr ⟨lw_p27, List.forall_mem_cons.mpr ⟨lw_p28, List.forall_mem_cons.mpr ⟨lw_p29, List.forall_mem_cons.mpr ⟨lw_p30, List.forall_mem_cons.mpr ⟨lw_p31, fun _ h => absurd h List.not_mem_nil⟩⟩⟩⟩⟩⟩⟩⟩⟩⟩⟩⟩⟩⟩⟩⟩
theorem lw_p32 : lw_okq (⟨"ProgressTrackerModel", "depthAt", "(I)I"⟩, 14) := ⟨⟨by decide +kernel, by decide +kernel⟩, List.mem_of_getElem? (i := 660) (by decide +kernel), List.mem_of_getElem? (i := 776) (by decide +kernel), List.mem_of_getElem? (i := 777) (by decide +kernel)⟩
theorem lw_p33 : lw_okq (⟨"ProgressTrackerModel", "moved", "(II)I"⟩, 14) := ⟨⟨by decide +kernel, by decide +kernel⟩, List.mem_of_getElem? (i := 660) (by decide +kernel), List.mem_of_getElem? (i := 780) (by decide +kernel), List.mem_of_getElem? (i := 781) (by decide +kernel)⟩
theorem lw_p34 : lw_okq (⟨"ProgressTrackerModel", "isPlace", "(I)Z"⟩, 14) := ⟨⟨by decide +kernel, by decide +kernel⟩, List.mem_of_getElem? (i := 660) (by decide +kernel), List.mem_of_getElem? (i := 788) (by decide +kernel), List.mem_of_getElem? (i := 789) (by decide +kernel)⟩
theorem lw_p35 : lw_okq (⟨"ProgressTrackerModel", "goes", "(II)V"⟩, 14) := ⟨⟨by decide +kernel, by decide +kernel⟩, List.mem_of_getElem? (i := 660) (by decide +kernel), List.mem_of_getElem? (i := 792) (by decide +kernel), List.mem_of_getElem? (i := 793) (by decide +kernel)⟩
theorem lw_p36 : lw_okq (⟨"ProgressTrackerModel", "reaches", "(II)V"⟩, 14) := ⟨⟨by decide +kernel, by decide +kernel⟩, List.mem_of_getElem? (i := 660) (by decide +kernel), List.mem_of_getElem? (i := 796) (by decide +kernel), List.mem_of_getElem? (i := 797) (by decide +kernel)⟩
theorem lw_p37 : lw_okq (⟨"ProgressTrackerModel", "isFullLine", "(II)Z"⟩, 14) := ⟨⟨by decide +kernel, by decide +kernel⟩, List.mem_of_getElem? (i := 660) (by decide +kernel), List.mem_of_getElem? (i := 811) (by decide +kernel), List.mem_of_getElem? (i := 812) (by decide +kernel)⟩
theorem lw_p38 : lw_okq (⟨"ProgressTrackerModel", "lineOf", "(II)I"⟩, 14) := ⟨⟨by decide +kernel, by decide +kernel⟩, List.mem_of_getElem? (i := 660) (by decide +kernel), List.mem_of_getElem? (i := 815) (by decide +kernel), List.mem_of_getElem? (i := 816) (by decide +kernel)⟩
theorem lw_p39 : lw_okq (⟨"ProgressTrackerModel", "puts", "(III)V"⟩, 14) := ⟨⟨by decide +kernel, by decide +kernel⟩, List.mem_of_getElem? (i := 660) (by decide +kernel), List.mem_of_getElem? (i := 819) (by decide +kernel), List.mem_of_getElem? (i := 820) (by decide +kernel)⟩
theorem lw_p40 : lw_okq (⟨"ProgressTrackerModel", "updates", "(IIII)V"⟩, 14) := ⟨⟨by decide +kernel, by decide +kernel⟩, List.mem_of_getElem? (i := 660) (by decide +kernel), List.mem_of_getElem? (i := 823) (by decide +kernel), List.mem_of_getElem? (i := 824) (by decide +kernel)⟩
theorem lw_p41 : lw_okq (⟨"ProgressTrackerModel", "areEdges", "(I)Z"⟩, 14) := ⟨⟨by decide +kernel, by decide +kernel⟩, List.mem_of_getElem? (i := 660) (by decide +kernel), List.mem_of_getElem? (i := 840) (by decide +kernel), List.mem_of_getElem? (i := 841) (by decide +kernel)⟩
theorem lw_p42 : lw_okq (⟨"ProgressTrackerModel", "startAt", "(II)Z"⟩, 14) := ⟨⟨by decide +kernel, by decide +kernel⟩, List.mem_of_getElem? (i := 660) (by decide +kernel), List.mem_of_getElem? (i := 844) (by decide +kernel), List.mem_of_getElem? (i := 845) (by decide +kernel)⟩
theorem lw_p43 : lw_okq (⟨"ProgressTrackerModel", "isOneFull", "(II)Z"⟩, 14) := ⟨⟨by decide +kernel, by decide +kernel⟩, List.mem_of_getElem? (i := 660) (by decide +kernel), List.mem_of_getElem? (i := 851) (by decide +kernel), List.mem_of_getElem? (i := 852) (by decide +kernel)⟩
theorem lw_p44 : lw_okq (⟨"ProgressTrackerModel", "takes", "(I)I"⟩, 14) := ⟨⟨by decide +kernel, by decide +kernel⟩, List.mem_of_getElem? (i := 660) (by decide +kernel), List.mem_of_getElem? (i := 855) (by decide +kernel), List.mem_of_getElem? (i := 856) (by decide +kernel)⟩
theorem lw_p45 : lw_okq (⟨"ProgressTrackerModel", "violates", "(II)Z"⟩, 14) := ⟨⟨by decide +kernel, by decide +kernel⟩, List.mem_of_getElem? (i := 660) (by decide +kernel), List.mem_of_getElem? (i := 859) (by decide +kernel), List.mem_of_getElem? (i := 860) (by decide +kernel)⟩
theorem lw_p46 : lw_okq (⟨"ProgressTrackerModel", "putsAll", "(IIII)V"⟩, 14) := ⟨⟨by decide +kernel, by decide +kernel⟩, List.mem_of_getElem? (i := 660) (by decide +kernel), List.mem_of_getElem? (i := 866) (by decide +kernel), List.mem_of_getElem? (i := 867) (by decide +kernel)⟩
theorem lw_p47 : lw_okq (⟨"ProgressTrackerModel", "findsFrontier", "(I)V"⟩, 14) := ⟨⟨by decide +kernel, by decide +kernel⟩, List.mem_of_getElem? (i := 660) (by decide +kernel), List.mem_of_getElem? (i := 874) (by decide +kernel), List.mem_of_getElem? (i := 875) (by decide +kernel)⟩
def lw_privs_3 : List (MethodName × Nat) := [(⟨"ProgressTrackerModel", "depthAt", "(I)I"⟩, 14), (⟨"ProgressTrackerModel", "moved", "(II)I"⟩, 14), (⟨"ProgressTrackerModel", "isPlace", "(I)Z"⟩, 14), (⟨"ProgressTrackerModel", "goes", "(II)V"⟩, 14), (⟨"ProgressTrackerModel", "reaches", "(II)V"⟩, 14), (⟨"ProgressTrackerModel", "isFullLine", "(II)Z"⟩, 14), (⟨"ProgressTrackerModel", "lineOf", "(II)I"⟩, 14), (⟨"ProgressTrackerModel", "puts", "(III)V"⟩, 14), (⟨"ProgressTrackerModel", "updates", "(IIII)V"⟩, 14), (⟨"ProgressTrackerModel", "areEdges", "(I)Z"⟩, 14), (⟨"ProgressTrackerModel", "startAt", "(II)Z"⟩, 14), (⟨"ProgressTrackerModel", "isOneFull", "(II)Z"⟩, 14), (⟨"ProgressTrackerModel", "takes", "(I)I"⟩, 14), (⟨"ProgressTrackerModel", "violates", "(II)Z"⟩, 14), (⟨"ProgressTrackerModel", "putsAll", "(IIII)V"⟩, 14), (⟨"ProgressTrackerModel", "findsFrontier", "(I)V"⟩, 14)]
theorem lw_r3 : ∀ q ∈ lw_privs_3, lw_okq q := List.forall_mem_cons.mpr ⟨lw_p32, List.forall_mem_cons.mpr ⟨lw_p33, List.forall_mem_cons.mpr ⟨lw_p34, List.forall_mem_cons.mpr ⟨lw_p35, List.forall_mem_cons.mpr ⟨lw_p36, List.forall_mem_cons.mpr ⟨lw_p37, List.forall_mem_cons.mpr ⟨lw_p38, List.forall_mem_cons.mpr ⟨lw_p39, List.forall_mem_cons.mpr ⟨lw_p40, List.forall_mem_cons.mpr ⟨lw_p41, List.forall_mem_cons.mpr ⟨lw_p42, List.forall_mem_cons.mpr ⟨lw_p43, List.forall_mem_cons.mpr ⟨lw_p44, List.forall_mem_cons.mpr ⟨lw_p45, List.forall_mem_cons.mpr ⟨lw_p46, List.forall_mem_cons.mpr ⟨lw_p47, fun _ h => absurd h List.not_mem_nil⟩⟩⟩⟩⟩⟩⟩⟩⟩⟩⟩⟩⟩⟩⟩⟩
theorem lw_p48 : lw_okq (⟨"ProgressTrackerModel", "findsActive", "(I)V"⟩, 14) := ⟨⟨by decide +kernel, by decide +kernel⟩, List.mem_of_getElem? (i := 660) (by decide +kernel), List.mem_of_getElem? (i := 878) (by decide +kernel), List.mem_of_getElem? (i := 879) (by decide +kernel)⟩
theorem lw_p49 : lw_okq (⟨"ProgressTrackerModel", "nextAt", "(II)I"⟩, 14) := ⟨⟨by decide +kernel, by decide +kernel⟩, List.mem_of_getElem? (i := 660) (by decide +kernel), List.mem_of_getElem? (i := 882) (by decide +kernel), List.mem_of_getElem? (i := 883) (by decide +kernel)⟩
theorem lw_p50 : lw_okq (⟨"ProgressTrackerModel", "isOnFrontier", "(II)Z"⟩, 14) := ⟨⟨by decide +kernel, by decide +kernel⟩, List.mem_of_getElem? (i := 660) (by decide +kernel), List.mem_of_getElem? (i := 886) (by decide +kernel), List.mem_of_getElem? (i := 887) (by decide +kernel)⟩
theorem lw_p51 : lw_okq (⟨"ProgressTrackerModel", "requestsOf", "(II)I"⟩, 14) := ⟨⟨by decide +kernel, by decide +kernel⟩, List.mem_of_getElem? (i := 660) (by decide +kernel), List.mem_of_getElem? (i := 906) (by decide +kernel), List.mem_of_getElem? (i := 907) (by decide +kernel)⟩
theorem lw_p52 : lw_okq (⟨"ProgressTrackerModel", "frontierAt", "(I)I"⟩, 14) := ⟨⟨by decide +kernel, by decide +kernel⟩, List.mem_of_getElem? (i := 660) (by decide +kernel), List.mem_of_getElem? (i := 926) (by decide +kernel), List.mem_of_getElem? (i := 927) (by decide +kernel)⟩
theorem lw_p53 : lw_okq (⟨"ProgressTrackerModel", "mix", "(I)V"⟩, 14) := ⟨⟨by decide +kernel, by decide +kernel⟩, List.mem_of_getElem? (i := 660) (by decide +kernel), List.mem_of_getElem? (i := 951) (by decide +kernel), List.mem_of_getElem? (i := 952) (by decide +kernel)⟩
theorem lw_p54 : lw_okq (⟨"ProgressTrackerModel", "mixWorker", "(I)V"⟩, 14) := ⟨⟨by decide +kernel, by decide +kernel⟩, List.mem_of_getElem? (i := 660) (by decide +kernel), List.mem_of_getElem? (i := 956) (by decide +kernel), List.mem_of_getElem? (i := 957) (by decide +kernel)⟩
def lw_privs_4 : List (MethodName × Nat) := [(⟨"ProgressTrackerModel", "findsActive", "(I)V"⟩, 14), (⟨"ProgressTrackerModel", "nextAt", "(II)I"⟩, 14), (⟨"ProgressTrackerModel", "isOnFrontier", "(II)Z"⟩, 14), (⟨"ProgressTrackerModel", "requestsOf", "(II)I"⟩, 14), (⟨"ProgressTrackerModel", "frontierAt", "(I)I"⟩, 14), (⟨"ProgressTrackerModel", "mix", "(I)V"⟩, 14), (⟨"ProgressTrackerModel", "mixWorker", "(I)V"⟩, 14)]
theorem lw_r4 : ∀ q ∈ lw_privs_4, lw_okq q := List.forall_mem_cons.mpr ⟨lw_p48, List.forall_mem_cons.mpr ⟨lw_p49, List.forall_mem_cons.mpr ⟨lw_p50, List.forall_mem_cons.mpr ⟨lw_p51, List.forall_mem_cons.mpr ⟨lw_p52, List.forall_mem_cons.mpr ⟨lw_p53, List.forall_mem_cons.mpr ⟨lw_p54, fun _ h => absurd h List.not_mem_nil⟩⟩⟩⟩⟩⟩⟩
def lw_privs : List (MethodName × Nat) := lw_privs_1 ++ (lw_privs_2 ++ (lw_privs_3 ++ (lw_privs_4)))
def lw_tbl : List Cond := k2_sels lw_privs ++ tables_1
theorem lw_privs_ok : ∀ q ∈ lw_privs, lw_okq q := by
  show ∀ q ∈ lw_privs_1 ++ (lw_privs_2 ++ (lw_privs_3 ++ (lw_privs_4))), lw_okq q
  exact List.forall_mem_append.mpr ⟨lw_r1, List.forall_mem_append.mpr ⟨lw_r2, List.forall_mem_append.mpr ⟨lw_r3, lw_r4⟩⟩⟩
end
section
def RX0 : String := "ProgressTracker$Graph"
def TX0 : u_T := fun k => match k with
  | 0 => ("ProgressTracker$Graph", "nodeCount", "I", false)
  | 1 => ("ProgressTracker$Graph", "edgeCount", "I", false)
  | 2 => ("ProgressTracker$Graph", "depths", "[I", true)
  | 3 => ("ProgressTracker$Graph", "starts", "[I", true)
  | 4 => ("ProgressTracker$Graph", "ends", "[I", true)
  | _ => ("ProgressTracker$Graph", "kinds", "[I", true)
def tyX0 : Nat → FieldType := fun k => match k with
  | 0 => .int
  | 1 => .int
  | 2 => .array .int
  | 3 => .array .int
  | 4 => .array .int
  | _ => .array .int
theorem nmX0 : ∀ a, a < 6 → ∀ b, b < 6 → a ≠ b → (TX0 a).2.1 ≠ (TX0 b).2.1 := by decide +kernel
theorem tyX0_ok : ∀ k, k < 6 → parseFieldDescriptor (TX0 k).2.2.1 = some (tyX0 k) := by decide +kernel
abbrev cX0_init : ByteArray := prog_2_method_1_code
def yX0_init : MethodName := ⟨RX0, "<init>", "()V"⟩
abbrev cX0_hasNode : ByteArray := prog_2_method_2_code
def yX0_hasNode : MethodName := ⟨RX0, "hasNode", "(I)Z"⟩
abbrev cX0_hasEdge : ByteArray := prog_2_method_3_code
def yX0_hasEdge : MethodName := ⟨RX0, "hasEdge", "(I)Z"⟩
abbrev cX0_hasEdges : ByteArray := prog_2_method_4_code
def yX0_hasEdges : MethodName := ⟨RX0, "hasEdges", "(I)Z"⟩
abbrev cX0_startAllAt : ByteArray := prog_2_method_5_code
def yX0_startAllAt : MethodName := ⟨RX0, "startAllAt", "(II)Z"⟩
abbrev cX0_hasLocation : ByteArray := prog_2_method_6_code
def yX0_hasLocation : MethodName := ⟨RX0, "hasLocation", "(I)Z"⟩
abbrev cX0_hasTime : ByteArray := prog_2_method_7_code
def yX0_hasTime : MethodName := ⟨RX0, "hasTime", "(II)Z"⟩
abbrev cX0_timeAfter : ByteArray := prog_2_method_8_code
def yX0_timeAfter : MethodName := ⟨RX0, "timeAfter", "(II)I"⟩
abbrev cX0_appendNode : ByteArray := prog_2_method_9_code
def yX0_appendNode : MethodName := ⟨RX0, "appendNode", "(I)I"⟩
abbrev cX0_allowsEdge : ByteArray := prog_2_method_10_code
def yX0_allowsEdge : MethodName := ⟨RX0, "allowsEdge", "(IIZ)Z"⟩
abbrev cX0_appendEdge : ByteArray := prog_2_method_11_code
def yX0_appendEdge : MethodName := ⟨RX0, "appendEdge", "(IIZ)I"⟩
abbrev cX0_putEdge : ByteArray := prog_2_method_12_code
def yX0_putEdge : MethodName := ⟨RX0, "putEdge", "(IIZ)V"⟩
abbrev cX0_kindBetween : ByteArray := prog_2_method_13_code
def yX0_kindBetween : MethodName := ⟨RX0, "kindBetween", "(IIZ)I"⟩
abbrev cX0_returnsWithoutFeedback : ByteArray := prog_2_method_14_code
def yX0_returnsWithoutFeedback : MethodName := ⟨RX0, "returnsWithoutFeedback", "(I)Z"⟩
abbrev cX0_staysWithoutFeedback : ByteArray := prog_2_method_15_code
def yX0_staysWithoutFeedback : MethodName := ⟨RX0, "staysWithoutFeedback", "(II)Z"⟩
abbrev cX0_isAsLargeAs : ByteArray := prog_2_method_16_code
def yX0_isAsLargeAs : MethodName := ⟨RX0, "isAsLargeAs", "(LProgressTracker$Graph;)Z"⟩
abbrev cX0_copyFrom : ByteArray := prog_2_method_17_code
def yX0_copyFrom : MethodName := ⟨RX0, "copyFrom", "(LProgressTracker$Graph;)V"⟩
abbrev cX0_contains : ByteArray := prog_2_method_18_code
def yX0_contains : MethodName := ⟨RX0, "contains", "(II)Z"⟩
def RX1 : String := "ProgressTracker$Mail"
def TX1 : u_T := fun k => match k with
  | 0 => ("ProgressTracker$Mail", "sizes", "[I", true)
  | _ => ("ProgressTracker$Mail", "times", "[I", true)
def tyX1 : Nat → FieldType := fun k => match k with
  | 0 => .array .int
  | _ => .array .int
theorem nmX1 : ∀ a, a < 2 → ∀ b, b < 2 → a ≠ b → (TX1 a).2.1 ≠ (TX1 b).2.1 := by decide +kernel
theorem tyX1_ok : ∀ k, k < 2 → parseFieldDescriptor (TX1 k).2.2.1 = some (tyX1 k) := by decide +kernel
abbrev cX1_init : ByteArray := prog_3_method_1_code
def yX1_init : MethodName := ⟨RX1, "<init>", "()V"⟩
abbrev cX1_sizeOf : ByteArray := prog_3_method_2_code
def yX1_sizeOf : MethodName := ⟨RX1, "sizeOf", "(II)I"⟩
abbrev cX1_timeOf : ByteArray := prog_3_method_3_code
def yX1_timeOf : MethodName := ⟨RX1, "timeOf", "(III)I"⟩
abbrev cX1_isFull : ByteArray := prog_3_method_4_code
def yX1_isFull : MethodName := ⟨RX1, "isFull", "(II)Z"⟩
abbrev cX1_isAnyFull : ByteArray := prog_3_method_5_code
def yX1_isAnyFull : MethodName := ⟨RX1, "isAnyFull", "(II)Z"⟩
abbrev cX1_put : ByteArray := prog_3_method_6_code
def yX1_put : MethodName := ⟨RX1, "put", "(III)V"⟩
abbrev cX1_take : ByteArray := prog_3_method_7_code
def yX1_take : MethodName := ⟨RX1, "take", "(II)I"⟩
abbrev cX1_copyFrom : ByteArray := prog_3_method_8_code
def yX1_copyFrom : MethodName := ⟨RX1, "copyFrom", "(LProgressTracker$Mail;)V"⟩
def RX2 : String := "ProgressTracker$State"
def TX2 : u_T := fun k => match k with
  | 0 => ("ProgressTracker$State", "started", "Z", false)
  | 1 => ("ProgressTracker$State", "deliveries", "I", false)
  | 2 => ("ProgressTracker$State", "lateArrivals", "I", false)
  | 3 => ("ProgressTracker$State", "graph", "LProgressTracker$Graph;", true)
  | 4 => ("ProgressTracker$State", "mail", "LProgressTracker$Mail;", true)
  | 5 => ("ProgressTracker$State", "wishes", "LProgressTracker$Wishes;", true)
  | 6 => ("ProgressTracker$State", "views", "[LProgressTracker$View;", true)
  | 7 => ("ProgressTracker$State", "queues", "[LProgressTracker$UpdateQueue;", true)
  | 8 => ("ProgressTracker$State", "openEpochs", "[I", true)
  | _ => ("ProgressTracker$State", "deliveredCounters", "[I", true)
def tyX2 : Nat → FieldType := fun k => match k with
  | 0 => .boolean
  | 1 => .int
  | 2 => .int
  | 3 => .object "ProgressTracker$Graph"
  | 4 => .object "ProgressTracker$Mail"
  | 5 => .object "ProgressTracker$Wishes"
  | 6 => .array (.object "ProgressTracker$View")
  | 7 => .array (.object "ProgressTracker$UpdateQueue")
  | 8 => .array .int
  | _ => .array .int
theorem nmX2 : ∀ a, a < 10 → ∀ b, b < 10 → a ≠ b → (TX2 a).2.1 ≠ (TX2 b).2.1 := by decide +kernel
theorem tyX2_ok : ∀ k, k < 10 → parseFieldDescriptor (TX2 k).2.2.1 = some (tyX2 k) := by decide +kernel
abbrev cX2_init : ByteArray := prog_4_method_1_code
def yX2_init : MethodName := ⟨RX2, "<init>", "()V"⟩
abbrev cX2_isInput : ByteArray := prog_4_method_2_code
def yX2_isInput : MethodName := ⟨RX2, "isInput", "(I)Z"⟩
abbrev cX2_appendNode : ByteArray := prog_4_method_3_code
def yX2_appendNode : MethodName := ⟨RX2, "appendNode", "(IZ)I"⟩
abbrev cX2_putMessages : ByteArray := prog_4_method_4_code
def yX2_putMessages : MethodName := ⟨RX2, "putMessages", "(IIII)V"⟩
abbrev cX2_putMessage : ByteArray := prog_4_method_5_code
def yX2_putMessage : MethodName := ⟨RX2, "putMessage", "(IIII)V"⟩
abbrev cX2_update : ByteArray := prog_4_method_6_code
def yX2_update : MethodName := ⟨RX2, "update", "(III)V"⟩
abbrev cX2_recordDelivery : ByteArray := prog_4_method_7_code
def yX2_recordDelivery : MethodName := ⟨RX2, "recordDelivery", "(II)V"⟩
abbrev cX2_recordArrival : ByteArray := prog_4_method_8_code
def yX2_recordArrival : MethodName := ⟨RX2, "recordArrival", "(II)V"⟩
abbrev cX2_copyFrom : ByteArray := prog_4_method_9_code
def yX2_copyFrom : MethodName := ⟨RX2, "copyFrom", "(LProgressTracker$State;)V"⟩
def RX3 : String := "ProgressTracker$UpdateQueue"
def TX3 : u_T := fun k => match k with
  | 0 => ("ProgressTracker$UpdateQueue", "first", "I", false)
  | 1 => ("ProgressTracker$UpdateQueue", "size", "I", false)
  | _ => ("ProgressTracker$UpdateQueue", "updates", "[I", false)
def tyX3 : Nat → FieldType := fun k => match k with
  | 0 => .int
  | 1 => .int
  | _ => .array .int
theorem nmX3 : ∀ a, a < 3 → ∀ b, b < 3 → a ≠ b → (TX3 a).2.1 ≠ (TX3 b).2.1 := by decide +kernel
theorem tyX3_ok : ∀ k, k < 3 → parseFieldDescriptor (TX3 k).2.2.1 = some (tyX3 k) := by decide +kernel
abbrev cX3_init : ByteArray := prog_5_method_1_code
def yX3_init : MethodName := ⟨RX3, "<init>", "()V"⟩
abbrev cX3_add : ByteArray := prog_5_method_2_code
def yX3_add : MethodName := ⟨RX3, "add", "(II)V"⟩
abbrev cX3_moveTo : ByteArray := prog_5_method_3_code
def yX3_moveTo : MethodName := ⟨RX3, "moveTo", "(LProgressTracker$View;I)I"⟩
abbrev cX3_copyFrom : ByteArray := prog_5_method_4_code
def yX3_copyFrom : MethodName := ⟨RX3, "copyFrom", "(LProgressTracker$UpdateQueue;)V"⟩
abbrev cX3_makeRoomAtEnd : ByteArray := prog_5_method_5_code
def yX3_makeRoomAtEnd : MethodName := ⟨RX3, "makeRoomAtEnd", "()V"⟩
def RX4 : String := "ProgressTracker$View"
def TX4 : u_T := fun k => match k with
  | 0 => ("ProgressTracker$View", "size", "I", false)
  | 1 => ("ProgressTracker$View", "stamps", "[I", false)
  | 2 => ("ProgressTracker$View", "counts", "[I", false)
  | _ => ("ProgressTracker$View", "marks", "[I", false)
def tyX4 : Nat → FieldType := fun k => match k with
  | 0 => .int
  | 1 => .array .int
  | 2 => .array .int
  | _ => .array .int
theorem nmX4 : ∀ a, a < 4 → ∀ b, b < 4 → a ≠ b → (TX4 a).2.1 ≠ (TX4 b).2.1 := by decide +kernel
theorem tyX4_ok : ∀ k, k < 4 → parseFieldDescriptor (TX4 k).2.2.1 = some (tyX4 k) := by decide +kernel
abbrev cX4_init : ByteArray := prog_6_method_1_code
def yX4_init : MethodName := ⟨RX4, "<init>", "()V"⟩
abbrev cX4_countOf : ByteArray := prog_6_method_2_code
def yX4_countOf : MethodName := ⟨RX4, "countOf", "(I)I"⟩
abbrev cX4_rowOf : ByteArray := prog_6_method_3_code
def yX4_rowOf : MethodName := ⟨RX4, "rowOf", "(I)I"⟩
abbrev cX4_countActive : ByteArray := prog_6_method_4_code
def yX4_countActive : MethodName := ⟨RX4, "countActive", "()I"⟩
abbrev cX4_change : ByteArray := prog_6_method_5_code
def yX4_change : MethodName := ⟨RX4, "change", "(II)V"⟩
abbrev cX4_copyFrom : ByteArray := prog_6_method_6_code
def yX4_copyFrom : MethodName := ⟨RX4, "copyFrom", "(LProgressTracker$View;)V"⟩
abbrev cX4_firstRowFrom : ByteArray := prog_6_method_7_code
def yX4_firstRowFrom : MethodName := ⟨RX4, "firstRowFrom", "(I)I"⟩
abbrev cX4_insert : ByteArray := prog_6_method_8_code
def yX4_insert : MethodName := ⟨RX4, "insert", "(III)V"⟩
abbrev cX4_remove : ByteArray := prog_6_method_9_code
def yX4_remove : MethodName := ⟨RX4, "remove", "(I)V"⟩
abbrev cX4_makeRoom : ByteArray := prog_6_method_10_code
def yX4_makeRoom : MethodName := ⟨RX4, "makeRoom", "(I)V"⟩
def RX5 : String := "ProgressTracker$Ways"
def TX5 : u_T := fun k => match k with
  | 0 => ("ProgressTracker$Ways", "least", "[I", false)
  | 1 => ("ProgressTracker$Ways", "foundIn", "[I", false)
  | 2 => ("ProgressTracker$Ways", "seenBy", "[I", false)
  | 3 => ("ProgressTracker$Ways", "places", "[I", false)
  | 4 => ("ProgressTracker$Ways", "placeCount", "I", false)
  | 5 => ("ProgressTracker$Ways", "generation", "I", false)
  | _ => ("ProgressTracker$Ways", "searches", "I", false)
def tyX5 : Nat → FieldType := fun k => match k with
  | 0 => .array .int
  | 1 => .array .int
  | 2 => .array .int
  | 3 => .array .int
  | 4 => .int
  | 5 => .int
  | _ => .int
theorem nmX5 : ∀ a, a < 7 → ∀ b, b < 7 → a ≠ b → (TX5 a).2.1 ≠ (TX5 b).2.1 := by decide +kernel
theorem tyX5_ok : ∀ k, k < 7 → parseFieldDescriptor (TX5 k).2.2.1 = some (tyX5 k) := by decide +kernel
abbrev cX5_init : ByteArray := prog_7_method_1_code
def yX5_init : MethodName := ⟨RX5, "<init>", "()V"⟩
abbrev cX5_forget : ByteArray := prog_7_method_2_code
def yX5_forget : MethodName := ⟨RX5, "forget", "()V"⟩
abbrev cX5_lead : ByteArray := prog_7_method_3_code
def yX5_lead : MethodName := ⟨RX5, "lead", "(LProgressTracker$Graph;II)Z"⟩
abbrev cX5_leastCounters : ByteArray := prog_7_method_4_code
def yX5_leastCounters : MethodName := ⟨RX5, "leastCounters", "(LProgressTracker$Graph;II)I"⟩
abbrev cX5_makeRows : ByteArray := prog_7_method_5_code
def yX5_makeRows : MethodName := ⟨RX5, "makeRows", "()V"⟩
abbrev cX5_search : ByteArray := prog_7_method_6_code
def yX5_search : MethodName := ⟨RX5, "search", "(LProgressTracker$Graph;I)V"⟩
abbrev cX5_addPlace : ByteArray := prog_7_method_7_code
def yX5_addPlace : MethodName := ⟨RX5, "addPlace", "(II)V"⟩
def RX6 : String := "ProgressTracker$Wishes"
def TX6 : u_T := fun k => match k with
  | 0 => ("ProgressTracker$Wishes", "sizes", "[I", true)
  | _ => ("ProgressTracker$Wishes", "stamps", "[I", true)
def tyX6 : Nat → FieldType := fun k => match k with
  | 0 => .array .int
  | _ => .array .int
theorem nmX6 : ∀ a, a < 2 → ∀ b, b < 2 → a ≠ b → (TX6 a).2.1 ≠ (TX6 b).2.1 := by decide +kernel
theorem tyX6_ok : ∀ k, k < 2 → parseFieldDescriptor (TX6 k).2.2.1 = some (tyX6 k) := by decide +kernel
abbrev cX6_init : ByteArray := prog_8_method_1_code
def yX6_init : MethodName := ⟨RX6, "<init>", "()V"⟩
abbrev cX6_sizeOf : ByteArray := prog_8_method_2_code
def yX6_sizeOf : MethodName := ⟨RX6, "sizeOf", "(I)I"⟩
abbrev cX6_stampAt : ByteArray := prog_8_method_3_code
def yX6_stampAt : MethodName := ⟨RX6, "stampAt", "(II)I"⟩
abbrev cX6_isFull : ByteArray := prog_8_method_4_code
def yX6_isFull : MethodName := ⟨RX6, "isFull", "(I)Z"⟩
abbrev cX6_countAt : ByteArray := prog_8_method_5_code
def yX6_countAt : MethodName := ⟨RX6, "countAt", "(II)I"⟩
abbrev cX6_put : ByteArray := prog_8_method_6_code
def yX6_put : MethodName := ⟨RX6, "put", "(II)V"⟩
abbrev cX6_remove : ByteArray := prog_8_method_7_code
def yX6_remove : MethodName := ⟨RX6, "remove", "(II)V"⟩
abbrev cX6_copyFrom : ByteArray := prog_8_method_8_code
def yX6_copyFrom : MethodName := ⟨RX6, "copyFrom", "(LProgressTracker$Wishes;)V"⟩
def RX7 : String := "ProgressTracker"
def TX7 : u_T := fun k => match k with
  | 0 => ("ProgressTracker", "errors", "[I", true)
  | 1 => ("ProgressTracker", "saved", "[LProgressTracker$State;", true)
  | 2 => ("ProgressTracker", "ways", "LProgressTracker$Ways;", true)
  | 3 => ("ProgressTracker", "now", "LProgressTracker$State;", false)
  | _ => ("ProgressTracker", "savedCount", "I", false)
def tyX7 : Nat → FieldType := fun k => match k with
  | 0 => .array .int
  | 1 => .array (.object "ProgressTracker$State")
  | 2 => .object "ProgressTracker$Ways"
  | 3 => .object "ProgressTracker$State"
  | _ => .int
theorem nmX7 : ∀ a, a < 5 → ∀ b, b < 5 → a ≠ b → (TX7 a).2.1 ≠ (TX7 b).2.1 := by decide +kernel
theorem tyX7_ok : ∀ k, k < 5 → parseFieldDescriptor (TX7 k).2.2.1 = some (tyX7 k) := by decide +kernel
abbrev cX7_init : ByteArray := prog_1_method_1_code
def yX7_init : MethodName := ⟨RX7, "<init>", "()V"⟩
abbrev cX7_addNode : ByteArray := prog_1_method_2_code
def yX7_addNode : MethodName := ⟨RX7, "addNode", "(II)I"⟩
abbrev cX7_addEdge : ByteArray := prog_1_method_3_code
def yX7_addEdge : MethodName := ⟨RX7, "addEdge", "(III)I"⟩
abbrev cX7_kind : ByteArray := prog_1_method_4_code
def yX7_kind : MethodName := ⟨RX7, "kind", "(I)I"⟩
abbrev cX7_move : ByteArray := prog_1_method_5_code
def yX7_move : MethodName := ⟨RX7, "move", "(II)I"⟩
abbrev cX7_couldResultIn : ByteArray := prog_1_method_6_code
def yX7_couldResultIn : MethodName := ⟨RX7, "couldResultIn", "(IIII)I"⟩
abbrev cX7_earliest : ByteArray := prog_1_method_7_code
def yX7_earliest : MethodName := ⟨RX7, "earliest", "(III)I"⟩
abbrev cX7_send : ByteArray := prog_1_method_8_code
def yX7_send : MethodName := ⟨RX7, "send", "(II)I"⟩
abbrev cX7_advance : ByteArray := prog_1_method_9_code
def yX7_advance : MethodName := ⟨RX7, "advance", "(I)I"⟩
abbrev cX7_close : ByteArray := prog_1_method_10_code
def yX7_close : MethodName := ⟨RX7, "close", "(I)I"⟩
abbrev cX7_process : ByteArray := prog_1_method_11_code
def yX7_process : MethodName := ⟨RX7, "process", "(IIIII)I"⟩
abbrev cX7_deliver : ByteArray := prog_1_method_12_code
def yX7_deliver : MethodName := ⟨RX7, "deliver", "(IIII)I"⟩
abbrev cX7_receive : ByteArray := prog_1_method_13_code
def yX7_receive : MethodName := ⟨RX7, "receive", "(II)I"⟩
abbrev cX7_messages : ByteArray := prog_1_method_14_code
def yX7_messages : MethodName := ⟨RX7, "messages", "(II)I"⟩
abbrev cX7_messageTime : ByteArray := prog_1_method_15_code
def yX7_messageTime : MethodName := ⟨RX7, "messageTime", "(III)I"⟩
abbrev cX7_requests : ByteArray := prog_1_method_16_code
def yX7_requests : MethodName := ⟨RX7, "requests", "(II)I"⟩
abbrev cX7_deliverable : ByteArray := prog_1_method_17_code
def yX7_deliverable : MethodName := ⟨RX7, "deliverable", "(II)I"⟩
abbrev cX7_count : ByteArray := prog_1_method_18_code
def yX7_count : MethodName := ⟨RX7, "count", "(III)I"⟩
abbrev cX7_active : ByteArray := prog_1_method_19_code
def yX7_active : MethodName := ⟨RX7, "active", "(I)I"⟩
abbrev cX7_frontier : ByteArray := prog_1_method_20_code
def yX7_frontier : MethodName := ⟨RX7, "frontier", "(II)I"⟩
abbrev cX7_pending : ByteArray := prog_1_method_21_code
def yX7_pending : MethodName := ⟨RX7, "pending", "(I)I"⟩
abbrev cX7_delivered : ByteArray := prog_1_method_22_code
def yX7_delivered : MethodName := ⟨RX7, "delivered", "()I"⟩
abbrev cX7_violations : ByteArray := prog_1_method_23_code
def yX7_violations : MethodName := ⟨RX7, "violations", "()I"⟩
abbrev cX7_undo : ByteArray := prog_1_method_24_code
def yX7_undo : MethodName := ⟨RX7, "undo", "()I"⟩
abbrev cX7_errorCount : ByteArray := prog_1_method_25_code
def yX7_errorCount : MethodName := ⟨RX7, "errorCount", "(I)I"⟩
abbrev cX7_digest : ByteArray := prog_1_method_26_code
def yX7_digest : MethodName := ⟨RX7, "digest", "()J"⟩
abbrev cX7_mixGraph : ByteArray := prog_1_method_27_code
def yX7_mixGraph : MethodName := ⟨RX7, "mixGraph", "(J)J"⟩
abbrev cX7_mixMail : ByteArray := prog_1_method_28_code
def yX7_mixMail : MethodName := ⟨RX7, "mixMail", "(JI)J"⟩
abbrev cX7_mixNotifications : ByteArray := prog_1_method_29_code
def yX7_mixNotifications : MethodName := ⟨RX7, "mixNotifications", "(JI)J"⟩
abbrev cX7_mixView : ByteArray := prog_1_method_30_code
def yX7_mixView : MethodName := ⟨RX7, "mixView", "(JI)J"⟩
abbrev cX7_mix : ByteArray := prog_1_method_31_code
def yX7_mix : MethodName := ⟨RX7, "mix", "(JI)J"⟩
abbrev cX7_markFrontier : ByteArray := prog_1_method_32_code
def yX7_markFrontier : MethodName := ⟨RX7, "markFrontier", "(LProgressTracker$View;)I"⟩
abbrev cX7_isOnFrontier : ByteArray := prog_1_method_33_code
def yX7_isOnFrontier : MethodName := ⟨RX7, "isOnFrontier", "(LProgressTracker$View;I)Z"⟩
abbrev cX7_leastDeliverable : ByteArray := prog_1_method_34_code
def yX7_leastDeliverable : MethodName := ⟨RX7, "leastDeliverable", "(II)I"⟩
abbrev cX7_fail : ByteArray := prog_1_method_35_code
def yX7_fail : MethodName := ⟨RX7, "fail", "(I)I"⟩
abbrev cX7_beginEvent : ByteArray := prog_1_method_36_code
def yX7_beginEvent : MethodName := ⟨RX7, "beginEvent", "()V"⟩
abbrev cX7_save : ByteArray := prog_1_method_37_code
def yX7_save : MethodName := ⟨RX7, "save", "()V"⟩
abbrev cX7_dropOldest : ByteArray := prog_1_method_38_code
def yX7_dropOldest : MethodName := ⟨RX7, "dropOldest", "()V"⟩
abbrev cX7_isWorker : ByteArray := prog_1_method_39_code
def yX7_isWorker : MethodName := ⟨RX7, "isWorker", "(I)Z"⟩
abbrev cX7_isFlag : ByteArray := prog_1_method_40_code
def yX7_isFlag : MethodName := ⟨RX7, "isFlag", "(I)Z"⟩
abbrev cX7_stampOf : ByteArray := prog_1_method_41_code
def yX7_stampOf : MethodName := ⟨RX7, "stampOf", "(II)I"⟩
abbrev cX7_countersOf : ByteArray := prog_1_method_42_code
def yX7_countersOf : MethodName := ⟨RX7, "countersOf", "(I)I"⟩
def RX8 : String := "ProgressTrackerModel"
def TX8 : u_T := fun k => match k with
  | 0 => ("ProgressTrackerModel", "now", "[I", true)
  | 1 => ("ProgressTrackerModel", "past", "[I", true)
  | 2 => ("ProgressTrackerModel", "saved", "I", false)
  | 3 => ("ProgressTrackerModel", "errors", "[I", true)
  | 4 => ("ProgressTrackerModel", "seen", "[I", true)
  | 5 => ("ProgressTrackerModel", "low", "[I", true)
  | 6 => ("ProgressTrackerModel", "reached", "[Z", true)
  | 7 => ("ProgressTrackerModel", "waits", "[I", true)
  | 8 => ("ProgressTrackerModel", "waiting", "I", false)
  | 9 => ("ProgressTrackerModel", "least", "[I", true)
  | 10 => ("ProgressTrackerModel", "active", "[I", true)
  | 11 => ("ProgressTrackerModel", "isFirst", "[Z", true)
  | 12 => ("ProgressTrackerModel", "actives", "I", false)
  | _ => ("ProgressTrackerModel", "hash", "J", false)
def tyX8 : Nat → FieldType := fun k => match k with
  | 0 => .array .int
  | 1 => .array .int
  | 2 => .int
  | 3 => .array .int
  | 4 => .array .int
  | 5 => .array .int
  | 6 => .array .boolean
  | 7 => .array .int
  | 8 => .int
  | 9 => .array .int
  | 10 => .array .int
  | 11 => .array .boolean
  | 12 => .int
  | _ => .long
theorem nmX8 : ∀ a, a < 14 → ∀ b, b < 14 → a ≠ b → (TX8 a).2.1 ≠ (TX8 b).2.1 := by decide +kernel
theorem tyX8_ok : ∀ k, k < 14 → parseFieldDescriptor (TX8 k).2.2.1 = some (tyX8 k) := by decide +kernel
abbrev cX8_init : ByteArray := prog_10_method_1_code
def yX8_init : MethodName := ⟨RX8, "<init>", "()V"⟩
abbrev cX8_within : ByteArray := prog_10_method_3_code
def yX8_within : MethodName := ⟨RX8, "within", "(III)Z"⟩
abbrev cX8_fails : ByteArray := prog_10_method_4_code
def yX8_fails : MethodName := ⟨RX8, "fails", "(I)I"⟩
abbrev cX8_isNode : ByteArray := prog_10_method_5_code
def yX8_isNode : MethodName := ⟨RX8, "isNode", "(I)Z"⟩
abbrev cX8_isEdge : ByteArray := prog_10_method_6_code
def yX8_isEdge : MethodName := ⟨RX8, "isEdge", "(I)Z"⟩
abbrev cX8_isWorker : ByteArray := prog_10_method_7_code
def yX8_isWorker : MethodName := ⟨RX8, "isWorker", "(I)Z"⟩
abbrev cX8_saves : ByteArray := prog_10_method_8_code
def yX8_saves : MethodName := ⟨RX8, "saves", "()V"⟩
abbrev cX8_undo : ByteArray := prog_10_method_9_code
def yX8_undo : MethodName := ⟨RX8, "undo", "()I"⟩
abbrev cX8_viewAt : ByteArray := prog_10_method_10_code
def yX8_viewAt : MethodName := ⟨RX8, "viewAt", "(III)I"⟩
abbrev cX8_addNode : ByteArray := prog_10_method_11_code
def yX8_addNode : MethodName := ⟨RX8, "addNode", "(II)I"⟩
abbrev cX8_isInput : ByteArray := prog_10_method_12_code
def yX8_isInput : MethodName := ⟨RX8, "isInput", "(I)Z"⟩
abbrev cX8_mayLead : ByteArray := prog_10_method_13_code
def yX8_mayLead : MethodName := ⟨RX8, "mayLead", "(III)Z"⟩
abbrev cX8_returns : ByteArray := prog_10_method_14_code
def yX8_returns : MethodName := ⟨RX8, "returns", "(IIII)Z"⟩
abbrev cX8_addEdge : ByteArray := prog_10_method_15_code
def yX8_addEdge : MethodName := ⟨RX8, "addEdge", "(III)I"⟩
abbrev cX8_kindOf : ByteArray := prog_10_method_16_code
def yX8_kindOf : MethodName := ⟨RX8, "kindOf", "(I)I"⟩
abbrev cX8_kind : ByteArray := prog_10_method_17_code
def yX8_kind : MethodName := ⟨RX8, "kind", "(I)I"⟩
abbrev cX8_isPlace : ByteArray := prog_10_method_18_code
def yX8_isPlace : MethodName := ⟨RX8, "isPlace", "(I)Z"⟩
abbrev cX8_depthAt : ByteArray := prog_10_method_19_code
def yX8_depthAt : MethodName := ⟨RX8, "depthAt", "(I)I"⟩
abbrev cX8_isTime : ByteArray := prog_10_method_20_code
def yX8_isTime : MethodName := ⟨RX8, "isTime", "(II)Z"⟩
abbrev cX8_moved : ByteArray := prog_10_method_21_code
def yX8_moved : MethodName := ⟨RX8, "moved", "(II)I"⟩
abbrev cX8_move : ByteArray := prog_10_method_22_code
def yX8_move : MethodName := ⟨RX8, "move", "(II)I"⟩
abbrev cX8_reaches : ByteArray := prog_10_method_23_code
def yX8_reaches : MethodName := ⟨RX8, "reaches", "(II)V"⟩
abbrev cX8_goes : ByteArray := prog_10_method_24_code
def yX8_goes : MethodName := ⟨RX8, "goes", "(II)V"⟩
abbrev cX8_couldResultIn : ByteArray := prog_10_method_25_code
def yX8_couldResultIn : MethodName := ⟨RX8, "couldResultIn", "(IIII)I"⟩
abbrev cX8_earliest : ByteArray := prog_10_method_26_code
def yX8_earliest : MethodName := ⟨RX8, "earliest", "(III)I"⟩
abbrev cX8_updates : ByteArray := prog_10_method_27_code
def yX8_updates : MethodName := ⟨RX8, "updates", "(IIII)V"⟩
abbrev cX8_lineOf : ByteArray := prog_10_method_28_code
def yX8_lineOf : MethodName := ⟨RX8, "lineOf", "(II)I"⟩
abbrev cX8_puts : ByteArray := prog_10_method_29_code
def yX8_puts : MethodName := ⟨RX8, "puts", "(III)V"⟩
abbrev cX8_isFullLine : ByteArray := prog_10_method_30_code
def yX8_isFullLine : MethodName := ⟨RX8, "isFullLine", "(II)Z"⟩
abbrev cX8_send : ByteArray := prog_10_method_31_code
def yX8_send : MethodName := ⟨RX8, "send", "(II)I"⟩
abbrev cX8_advance : ByteArray := prog_10_method_32_code
def yX8_advance : MethodName := ⟨RX8, "advance", "(I)I"⟩
abbrev cX8_close : ByteArray := prog_10_method_33_code
def yX8_close : MethodName := ⟨RX8, "close", "(I)I"⟩
abbrev cX8_areEdges : ByteArray := prog_10_method_34_code
def yX8_areEdges : MethodName := ⟨RX8, "areEdges", "(I)Z"⟩
abbrev cX8_has : ByteArray := prog_10_method_35_code
def yX8_has : MethodName := ⟨RX8, "has", "(II)Z"⟩
abbrev cX8_startAt : ByteArray := prog_10_method_36_code
def yX8_startAt : MethodName := ⟨RX8, "startAt", "(II)Z"⟩
abbrev cX8_isOneFull : ByteArray := prog_10_method_37_code
def yX8_isOneFull : MethodName := ⟨RX8, "isOneFull", "(II)Z"⟩
abbrev cX8_putsAll : ByteArray := prog_10_method_38_code
def yX8_putsAll : MethodName := ⟨RX8, "putsAll", "(IIII)V"⟩
abbrev cX8_takes : ByteArray := prog_10_method_39_code
def yX8_takes : MethodName := ⟨RX8, "takes", "(I)I"⟩
abbrev cX8_atMost : ByteArray := prog_10_method_40_code
def yX8_atMost : MethodName := ⟨RX8, "atMost", "(II)Z"⟩
abbrev cX8_violates : ByteArray := prog_10_method_41_code
def yX8_violates : MethodName := ⟨RX8, "violates", "(II)Z"⟩
abbrev cX8_process : ByteArray := prog_10_method_42_code
def yX8_process : MethodName := ⟨RX8, "process", "(IIIII)I"⟩
abbrev cX8_findsActive : ByteArray := prog_10_method_43_code
def yX8_findsActive : MethodName := ⟨RX8, "findsActive", "(I)V"⟩
abbrev cX8_findsFrontier : ByteArray := prog_10_method_44_code
def yX8_findsFrontier : MethodName := ⟨RX8, "findsFrontier", "(I)V"⟩
abbrev cX8_isOnFrontier : ByteArray := prog_10_method_45_code
def yX8_isOnFrontier : MethodName := ⟨RX8, "isOnFrontier", "(II)Z"⟩
abbrev cX8_nextAt : ByteArray := prog_10_method_46_code
def yX8_nextAt : MethodName := ⟨RX8, "nextAt", "(II)I"⟩
abbrev cX8_deliver : ByteArray := prog_10_method_47_code
def yX8_deliver : MethodName := ⟨RX8, "deliver", "(IIII)I"⟩
abbrev cX8_receive : ByteArray := prog_10_method_48_code
def yX8_receive : MethodName := ⟨RX8, "receive", "(II)I"⟩
abbrev cX8_messages : ByteArray := prog_10_method_49_code
def yX8_messages : MethodName := ⟨RX8, "messages", "(II)I"⟩
abbrev cX8_messageTime : ByteArray := prog_10_method_50_code
def yX8_messageTime : MethodName := ⟨RX8, "messageTime", "(III)I"⟩
abbrev cX8_requestsOf : ByteArray := prog_10_method_51_code
def yX8_requestsOf : MethodName := ⟨RX8, "requestsOf", "(II)I"⟩
abbrev cX8_requests : ByteArray := prog_10_method_52_code
def yX8_requests : MethodName := ⟨RX8, "requests", "(II)I"⟩
abbrev cX8_deliverable : ByteArray := prog_10_method_53_code
def yX8_deliverable : MethodName := ⟨RX8, "deliverable", "(II)I"⟩
abbrev cX8_count : ByteArray := prog_10_method_54_code
def yX8_count : MethodName := ⟨RX8, "count", "(III)I"⟩
abbrev cX8_active : ByteArray := prog_10_method_55_code
def yX8_active : MethodName := ⟨RX8, "active", "(I)I"⟩
abbrev cX8_frontierAt : ByteArray := prog_10_method_56_code
def yX8_frontierAt : MethodName := ⟨RX8, "frontierAt", "(I)I"⟩
abbrev cX8_frontier : ByteArray := prog_10_method_57_code
def yX8_frontier : MethodName := ⟨RX8, "frontier", "(II)I"⟩
abbrev cX8_pending : ByteArray := prog_10_method_58_code
def yX8_pending : MethodName := ⟨RX8, "pending", "(I)I"⟩
abbrev cX8_delivered : ByteArray := prog_10_method_59_code
def yX8_delivered : MethodName := ⟨RX8, "delivered", "()I"⟩
abbrev cX8_violations : ByteArray := prog_10_method_60_code
def yX8_violations : MethodName := ⟨RX8, "violations", "()I"⟩
abbrev cX8_errorCount : ByteArray := prog_10_method_61_code
def yX8_errorCount : MethodName := ⟨RX8, "errorCount", "(I)I"⟩
abbrev cX8_mix : ByteArray := prog_10_method_62_code
def yX8_mix : MethodName := ⟨RX8, "mix", "(I)V"⟩
abbrev cX8_mixWorker : ByteArray := prog_10_method_63_code
def yX8_mixWorker : MethodName := ⟨RX8, "mixWorker", "(I)V"⟩
abbrev cX8_digest : ByteArray := prog_10_method_64_code
def yX8_digest : MethodName := ⟨RX8, "digest", "()J"⟩
def RJx8e188 : String := "java/lang/Cloneable"
def TJx8e188 : u_T := fun k => match k with
  | _ => ("", "", "", false)
def tyJx8e188 : Nat → FieldType := fun k => match k with
  | _ => .int
theorem nmJx8e188 : ∀ a, a < 0 → ∀ b, b < 0 → a ≠ b → (TJx8e188 a).2.1 ≠ (TJx8e188 b).2.1 := by decide +kernel
theorem tyJx8e188_ok : ∀ k, k < 0 → parseFieldDescriptor (TJx8e188 k).2.2.1 = some (tyJx8e188 k) := by decide +kernel
def RJ9 : String := "java/lang/Math"
def TJ9 : u_T := fun k => match k with
  | _ => ("", "", "", false)
def tyJ9 : Nat → FieldType := fun k => match k with
  | _ => .int
theorem nmJ9 : ∀ a, a < 0 → ∀ b, b < 0 → a ≠ b → (TJ9 a).2.1 ≠ (TJ9 b).2.1 := by decide +kernel
theorem tyJ9_ok : ∀ k, k < 0 → parseFieldDescriptor (TJ9 k).2.2.1 = some (tyJ9 k) := by decide +kernel
abbrev cJ9_max_7cf53 : ByteArray := prog_12_method_65_code
def yJ9_max_7cf53 : MethodName := ⟨RJ9, "max", "(II)I"⟩
abbrev cJ9_min_7cf53 : ByteArray := prog_12_method_69_code
def yJ9_min_7cf53 : MethodName := ⟨RJ9, "min", "(II)I"⟩
def RJ10 : String := "java/lang/System"
def TJ10 : u_T := fun k => match k with
  | _ => ("", "", "", false)
def tyJ10 : Nat → FieldType := fun k => match k with
  | _ => .int
theorem nmJ10 : ∀ a, a < 0 → ∀ b, b < 0 → a ≠ b → (TJ10 a).2.1 ≠ (TJ10 b).2.1 := by decide +kernel
theorem tyJ10_ok : ∀ k, k < 0 → parseFieldDescriptor (TJ10 k).2.2.1 = some (tyJ10 k) := by decide +kernel
def RJ7 : String := "java/util/Arrays"
def TJ7 : u_T := fun k => match k with
  | _ => ("", "", "", false)
def tyJ7 : Nat → FieldType := fun k => match k with
  | _ => .int
theorem nmJ7 : ∀ a, a < 0 → ∀ b, b < 0 → a ≠ b → (TJ7 a).2.1 ≠ (TJ7 b).2.1 := by decide +kernel
theorem tyJ7_ok : ∀ k, k < 0 → parseFieldDescriptor (TJ7 k).2.2.1 = some (tyJ7 k) := by decide +kernel
abbrev cJ7_rangeCheck_23922 : ByteArray := prog_14_method_30_code
def yJ7_rangeCheck_23922 : MethodName := ⟨RJ7, "rangeCheck", "(III)V"⟩
abbrev cJ7_fill_53178 : ByteArray := prog_14_method_103_code
def yJ7_fill_53178 : MethodName := ⟨RJ7, "fill", "([II)V"⟩
abbrev cJ7_fill_fda19 : ByteArray := prog_14_method_104_code
def yJ7_fill_fda19 : MethodName := ⟨RJ7, "fill", "([IIII)V"⟩
abbrev cJ7_copyOf_59c91 : ByteArray := prog_14_method_123_code
def yJ7_copyOf_59c91 : MethodName := ⟨RJ7, "copyOf", "([II)[I"⟩
def RL : String := "ProgressTrackerLaw"
abbrev cL_law : ByteArray := code
def yL_law : MethodName := ⟨RL, "law", "([I)Z"⟩
abbrev vwCl : List vw_C := [(RX0, TX0, 6), (RX1, TX1, 2), (RX2, TX2, 10), (RX3, TX3, 3), (RX4, TX4, 4), (RX5, TX5, 7), (RX6, TX6, 2), (RX7, TX7, 5), (RX8, TX8, 14)]
end
section
theorem dX0_init_0 : decode cX0_init 0 = .ok (.aload_n 0, 1) := by decide +kernel
theorem dX0_init_1 : decode cX0_init 1 = .ok (.invokespecial 3, 3) := by decide +kernel
theorem dX0_init_4 : decode cX0_init 4 = .ok (.aload_n 0, 1) := by decide +kernel
theorem dX0_init_5 : decode cX0_init 5 = .ok (.bipush 6, 2) := by decide +kernel
theorem dX0_init_7 : decode cX0_init 7 = .ok (.newarray .int, 2) := by decide +kernel
theorem dX0_init_9 : decode cX0_init 9 = .ok (.putfield 9, 3) := by decide +kernel
theorem dX0_init_12 : decode cX0_init 12 = .ok (.aload_n 0, 1) := by decide +kernel
theorem dX0_init_13 : decode cX0_init 13 = .ok (.bipush 11, 2) := by decide +kernel
theorem dX0_init_15 : decode cX0_init 15 = .ok (.newarray .int, 2) := by decide +kernel
theorem dX0_init_17 : decode cX0_init 17 = .ok (.putfield 15, 3) := by decide +kernel
theorem dX0_init_20 : decode cX0_init 20 = .ok (.aload_n 0, 1) := by decide +kernel
theorem dX0_init_21 : decode cX0_init 21 = .ok (.bipush 11, 2) := by decide +kernel
theorem dX0_init_23 : decode cX0_init 23 = .ok (.newarray .int, 2) := by decide +kernel
theorem dX0_init_25 : decode cX0_init 25 = .ok (.putfield 18, 3) := by decide +kernel
theorem dX0_init_28 : decode cX0_init 28 = .ok (.aload_n 0, 1) := by decide +kernel
theorem dX0_init_29 : decode cX0_init 29 = .ok (.bipush 11, 2) := by decide +kernel
theorem dX0_init_31 : decode cX0_init 31 = .ok (.newarray .int, 2) := by decide +kernel
theorem dX0_init_33 : decode cX0_init 33 = .ok (.putfield 21, 3) := by decide +kernel
theorem dX0_init_36 : decode cX0_init 36 = .ok (.return_, 1) := by decide +kernel
theorem dX0_hasNode_0 : decode cX0_hasNode 0 = .ok (.iload_n 1, 1) := by decide +kernel
theorem dX0_hasNode_1 : decode cX0_hasNode 1 = .ok (.ifCond .lt 15, 3) := by decide +kernel
theorem dX0_hasNode_4 : decode cX0_hasNode 4 = .ok (.iload_n 1, 1) := by decide +kernel
theorem dX0_hasNode_5 : decode cX0_hasNode 5 = .ok (.aload_n 0, 1) := by decide +kernel
theorem dX0_hasNode_6 : decode cX0_hasNode 6 = .ok (.getfield 24, 3) := by decide +kernel
theorem dX0_hasNode_9 : decode cX0_hasNode 9 = .ok (.if_icmp .ge 7, 3) := by decide +kernel
theorem dX0_hasNode_12 : decode cX0_hasNode 12 = .ok (.iconst 1, 1) := by decide +kernel
theorem dX0_hasNode_13 : decode cX0_hasNode 13 = .ok (.goto 4, 3) := by decide +kernel
theorem dX0_hasNode_16 : decode cX0_hasNode 16 = .ok (.iconst 0, 1) := by decide +kernel
theorem dX0_hasNode_17 : decode cX0_hasNode 17 = .ok (.ireturn, 1) := by decide +kernel
theorem dX0_hasEdge_0 : decode cX0_hasEdge 0 = .ok (.iload_n 1, 1) := by decide +kernel
theorem dX0_hasEdge_1 : decode cX0_hasEdge 1 = .ok (.ifCond .lt 15, 3) := by decide +kernel
theorem dX0_hasEdge_4 : decode cX0_hasEdge 4 = .ok (.iload_n 1, 1) := by decide +kernel
theorem dX0_hasEdge_5 : decode cX0_hasEdge 5 = .ok (.aload_n 0, 1) := by decide +kernel
theorem dX0_hasEdge_6 : decode cX0_hasEdge 6 = .ok (.getfield 28, 3) := by decide +kernel
theorem dX0_hasEdge_9 : decode cX0_hasEdge 9 = .ok (.if_icmp .ge 7, 3) := by decide +kernel
theorem dX0_hasEdge_12 : decode cX0_hasEdge 12 = .ok (.iconst 1, 1) := by decide +kernel
theorem dX0_hasEdge_13 : decode cX0_hasEdge 13 = .ok (.goto 4, 3) := by decide +kernel
theorem dX0_hasEdge_16 : decode cX0_hasEdge 16 = .ok (.iconst 0, 1) := by decide +kernel
theorem dX0_hasEdge_17 : decode cX0_hasEdge 17 = .ok (.ireturn, 1) := by decide +kernel
theorem dX0_hasEdges_0 : decode cX0_hasEdges 0 = .ok (.iload_n 1, 1) := by decide +kernel
theorem dX0_hasEdges_1 : decode cX0_hasEdges 1 = .ok (.aload_n 0, 1) := by decide +kernel
theorem dX0_hasEdges_2 : decode cX0_hasEdges 2 = .ok (.getfield 28, 3) := by decide +kernel
theorem dX0_hasEdges_5 : decode cX0_hasEdges 5 = .ok (.iushr, 1) := by decide +kernel
theorem dX0_hasEdges_6 : decode cX0_hasEdges 6 = .ok (.ifCond .ne 7, 3) := by decide +kernel
theorem dX0_hasEdges_9 : decode cX0_hasEdges 9 = .ok (.iconst 1, 1) := by decide +kernel
theorem dX0_hasEdges_10 : decode cX0_hasEdges 10 = .ok (.goto 4, 3) := by decide +kernel
theorem dX0_hasEdges_13 : decode cX0_hasEdges 13 = .ok (.iconst 0, 1) := by decide +kernel
theorem dX0_hasEdges_14 : decode cX0_hasEdges 14 = .ok (.ireturn, 1) := by decide +kernel
theorem dX0_startAllAt_0 : decode cX0_startAllAt 0 = .ok (.iconst 0, 1) := by decide +kernel
theorem dX0_startAllAt_1 : decode cX0_startAllAt 1 = .ok (.istore_n 3, 1) := by decide +kernel
theorem dX0_startAllAt_2 : decode cX0_startAllAt 2 = .ok (.iload_n 3, 1) := by decide +kernel
theorem dX0_startAllAt_3 : decode cX0_startAllAt 3 = .ok (.aload_n 0, 1) := by decide +kernel
theorem dX0_startAllAt_4 : decode cX0_startAllAt 4 = .ok (.getfield 28, 3) := by decide +kernel
theorem dX0_startAllAt_7 : decode cX0_startAllAt 7 = .ok (.if_icmp .ge 29, 3) := by decide +kernel
theorem dX0_startAllAt_10 : decode cX0_startAllAt 10 = .ok (.iload_n 1, 1) := by decide +kernel
theorem dX0_startAllAt_11 : decode cX0_startAllAt 11 = .ok (.iload_n 3, 1) := by decide +kernel
theorem dX0_startAllAt_12 : decode cX0_startAllAt 12 = .ok (.invokestatic 31, 3) := by decide +kernel
theorem dX0_startAllAt_15 : decode cX0_startAllAt 15 = .ok (.ifCond .eq 15, 3) := by decide +kernel
theorem dX0_startAllAt_18 : decode cX0_startAllAt 18 = .ok (.aload_n 0, 1) := by decide +kernel
theorem dX0_startAllAt_19 : decode cX0_startAllAt 19 = .ok (.getfield 15, 3) := by decide +kernel
theorem dX0_startAllAt_22 : decode cX0_startAllAt 22 = .ok (.iload_n 3, 1) := by decide +kernel
theorem dX0_startAllAt_23 : decode cX0_startAllAt 23 = .ok (.iaload, 1) := by decide +kernel
theorem dX0_startAllAt_24 : decode cX0_startAllAt 24 = .ok (.iload_n 2, 1) := by decide +kernel
theorem dX0_startAllAt_25 : decode cX0_startAllAt 25 = .ok (.if_icmp .eq 5, 3) := by decide +kernel
theorem dX0_startAllAt_28 : decode cX0_startAllAt 28 = .ok (.iconst 0, 1) := by decide +kernel
theorem dX0_startAllAt_29 : decode cX0_startAllAt 29 = .ok (.ireturn, 1) := by decide +kernel
theorem dX0_startAllAt_30 : decode cX0_startAllAt 30 = .ok (.iinc 3 1, 3) := by decide +kernel
theorem dX0_startAllAt_33 : decode cX0_startAllAt 33 = .ok (.goto (-31), 3) := by decide +kernel
theorem dX0_startAllAt_36 : decode cX0_startAllAt 36 = .ok (.iconst 1, 1) := by decide +kernel
theorem dX0_startAllAt_37 : decode cX0_startAllAt 37 = .ok (.ireturn, 1) := by decide +kernel
theorem dX0_hasLocation_0 : decode cX0_hasLocation 0 = .ok (.aload_n 0, 1) := by decide +kernel
theorem dX0_hasLocation_1 : decode cX0_hasLocation 1 = .ok (.iload_n 1, 1) := by decide +kernel
theorem dX0_hasLocation_2 : decode cX0_hasLocation 2 = .ok (.invokevirtual 35, 3) := by decide +kernel
theorem dX0_hasLocation_5 : decode cX0_hasLocation 5 = .ok (.ifCond .ne 20, 3) := by decide +kernel
theorem dX0_hasLocation_8 : decode cX0_hasLocation 8 = .ok (.iload_n 1, 1) := by decide +kernel
theorem dX0_hasLocation_9 : decode cX0_hasLocation 9 = .ok (.bipush 6, 2) := by decide +kernel
theorem dX0_hasLocation_11 : decode cX0_hasLocation 11 = .ok (.if_icmp .lt 18, 3) := by decide +kernel
theorem dX0_hasLocation_14 : decode cX0_hasLocation 14 = .ok (.aload_n 0, 1) := by decide +kernel
theorem dX0_hasLocation_15 : decode cX0_hasLocation 15 = .ok (.iload_n 1, 1) := by decide +kernel
theorem dX0_hasLocation_16 : decode cX0_hasLocation 16 = .ok (.bipush 6, 2) := by decide +kernel
theorem dX0_hasLocation_18 : decode cX0_hasLocation 18 = .ok (.isub, 1) := by decide +kernel
theorem dX0_hasLocation_19 : decode cX0_hasLocation 19 = .ok (.invokevirtual 39, 3) := by decide +kernel
theorem dX0_hasLocation_22 : decode cX0_hasLocation 22 = .ok (.ifCond .eq 7, 3) := by decide +kernel
theorem dX0_hasLocation_25 : decode cX0_hasLocation 25 = .ok (.iconst 1, 1) := by decide +kernel
theorem dX0_hasLocation_26 : decode cX0_hasLocation 26 = .ok (.goto 4, 3) := by decide +kernel
theorem dX0_hasLocation_29 : decode cX0_hasLocation 29 = .ok (.iconst 0, 1) := by decide +kernel
theorem dX0_hasLocation_30 : decode cX0_hasLocation 30 = .ok (.ireturn, 1) := by decide +kernel
theorem dX0_hasTime_0 : decode cX0_hasTime 0 = .ok (.aload_n 0, 1) := by decide +kernel
theorem dX0_hasTime_1 : decode cX0_hasTime 1 = .ok (.iload_n 1, 1) := by decide +kernel
theorem dX0_hasTime_2 : decode cX0_hasTime 2 = .ok (.invokevirtual 42, 3) := by decide +kernel
theorem dX0_hasTime_5 : decode cX0_hasTime 5 = .ok (.ifCond .eq 14, 3) := by decide +kernel
theorem dX0_hasTime_8 : decode cX0_hasTime 8 = .ok (.iload_n 2, 1) := by decide +kernel
theorem dX0_hasTime_9 : decode cX0_hasTime 9 = .ok (.ifCond .lt 10, 3) := by decide +kernel
theorem dX0_hasTime_12 : decode cX0_hasTime 12 = .ok (.iload_n 2, 1) := by decide +kernel
theorem dX0_hasTime_13 : decode cX0_hasTime 13 = .ok (.sipush 1000, 3) := by decide +kernel
theorem dX0_hasTime_16 : decode cX0_hasTime 16 = .ok (.if_icmp .lt 5, 3) := by decide +kernel
theorem dX0_hasTime_19 : decode cX0_hasTime 19 = .ok (.iconst 0, 1) := by decide +kernel
theorem dX0_hasTime_20 : decode cX0_hasTime 20 = .ok (.ireturn, 1) := by decide +kernel
theorem dX0_hasTime_21 : decode cX0_hasTime 21 = .ok (.aload_n 0, 1) := by decide +kernel
theorem dX0_hasTime_22 : decode cX0_hasTime 22 = .ok (.getfield 9, 3) := by decide +kernel
theorem dX0_hasTime_25 : decode cX0_hasTime 25 = .ok (.iload_n 1, 1) := by decide +kernel
theorem dX0_hasTime_26 : decode cX0_hasTime 26 = .ok (.bipush 6, 2) := by decide +kernel
theorem dX0_hasTime_28 : decode cX0_hasTime 28 = .ok (.if_icmp .ge 7, 3) := by decide +kernel
theorem dX0_hasTime_31 : decode cX0_hasTime 31 = .ok (.iload_n 1, 1) := by decide +kernel
theorem dX0_hasTime_32 : decode cX0_hasTime 32 = .ok (.goto 12, 3) := by decide +kernel
theorem dX0_hasTime_35 : decode cX0_hasTime 35 = .ok (.aload_n 0, 1) := by decide +kernel
theorem dX0_hasTime_36 : decode cX0_hasTime 36 = .ok (.getfield 15, 3) := by decide +kernel
theorem dX0_hasTime_39 : decode cX0_hasTime 39 = .ok (.iload_n 1, 1) := by decide +kernel
theorem dX0_hasTime_40 : decode cX0_hasTime 40 = .ok (.bipush 6, 2) := by decide +kernel
theorem dX0_hasTime_42 : decode cX0_hasTime 42 = .ok (.isub, 1) := by decide +kernel
theorem dX0_hasTime_43 : decode cX0_hasTime 43 = .ok (.iaload, 1) := by decide +kernel
theorem dX0_hasTime_44 : decode cX0_hasTime 44 = .ok (.iaload, 1) := by decide +kernel
theorem dX0_hasTime_45 : decode cX0_hasTime 45 = .ok (.istore_n 3, 1) := by decide +kernel
theorem dX0_hasTime_46 : decode cX0_hasTime 46 = .ok (.iload_n 3, 1) := by decide +kernel
theorem dX0_hasTime_47 : decode cX0_hasTime 47 = .ok (.ifCond .ne 16, 3) := by decide +kernel
theorem dX0_hasTime_50 : decode cX0_hasTime 50 = .ok (.iload_n 2, 1) := by decide +kernel
theorem dX0_hasTime_51 : decode cX0_hasTime 51 = .ok (.bipush 100, 2) := by decide +kernel
theorem dX0_hasTime_53 : decode cX0_hasTime 53 = .ok (.irem, 1) := by decide +kernel
theorem dX0_hasTime_54 : decode cX0_hasTime 54 = .ok (.ifCond .ne 7, 3) := by decide +kernel
theorem dX0_hasTime_57 : decode cX0_hasTime 57 = .ok (.iconst 1, 1) := by decide +kernel
theorem dX0_hasTime_58 : decode cX0_hasTime 58 = .ok (.goto 4, 3) := by decide +kernel
theorem dX0_hasTime_61 : decode cX0_hasTime 61 = .ok (.iconst 0, 1) := by decide +kernel
theorem dX0_hasTime_62 : decode cX0_hasTime 62 = .ok (.ireturn, 1) := by decide +kernel
theorem dX0_hasTime_63 : decode cX0_hasTime 63 = .ok (.iload_n 3, 1) := by decide +kernel
theorem dX0_hasTime_64 : decode cX0_hasTime 64 = .ok (.iconst 2, 1) := by decide +kernel
theorem dX0_hasTime_65 : decode cX0_hasTime 65 = .ok (.if_icmp .eq 10, 3) := by decide +kernel
theorem dX0_hasTime_68 : decode cX0_hasTime 68 = .ok (.iload_n 2, 1) := by decide +kernel
theorem dX0_hasTime_69 : decode cX0_hasTime 69 = .ok (.bipush 10, 2) := by decide +kernel
theorem dX0_hasTime_71 : decode cX0_hasTime 71 = .ok (.irem, 1) := by decide +kernel
theorem dX0_hasTime_72 : decode cX0_hasTime 72 = .ok (.ifCond .ne 7, 3) := by decide +kernel
theorem dX0_hasTime_75 : decode cX0_hasTime 75 = .ok (.iconst 1, 1) := by decide +kernel
theorem dX0_hasTime_76 : decode cX0_hasTime 76 = .ok (.goto 4, 3) := by decide +kernel
theorem dX0_hasTime_79 : decode cX0_hasTime 79 = .ok (.iconst 0, 1) := by decide +kernel
theorem dX0_hasTime_80 : decode cX0_hasTime 80 = .ok (.ireturn, 1) := by decide +kernel
theorem dX0_timeAfter_0 : decode cX0_timeAfter 0 = .ok (.aload_n 0, 1) := by decide +kernel
theorem dX0_timeAfter_1 : decode cX0_timeAfter 1 = .ok (.getfield 9, 3) := by decide +kernel
theorem dX0_timeAfter_4 : decode cX0_timeAfter 4 = .ok (.aload_n 0, 1) := by decide +kernel
theorem dX0_timeAfter_5 : decode cX0_timeAfter 5 = .ok (.getfield 15, 3) := by decide +kernel
theorem dX0_timeAfter_8 : decode cX0_timeAfter 8 = .ok (.iload_n 1, 1) := by decide +kernel
theorem dX0_timeAfter_9 : decode cX0_timeAfter 9 = .ok (.iaload, 1) := by decide +kernel
theorem dX0_timeAfter_10 : decode cX0_timeAfter 10 = .ok (.iaload, 1) := by decide +kernel
theorem dX0_timeAfter_11 : decode cX0_timeAfter 11 = .ok (.iconst 2, 1) := by decide +kernel
theorem dX0_timeAfter_12 : decode cX0_timeAfter 12 = .ok (.if_icmp .ne 7, 3) := by decide +kernel
theorem dX0_timeAfter_15 : decode cX0_timeAfter 15 = .ok (.iconst 1, 1) := by decide +kernel
theorem dX0_timeAfter_16 : decode cX0_timeAfter 16 = .ok (.goto 4, 3) := by decide +kernel
theorem dX0_timeAfter_19 : decode cX0_timeAfter 19 = .ok (.iconst 0, 1) := by decide +kernel
theorem dX0_timeAfter_20 : decode cX0_timeAfter 20 = .ok (.istore_n 3, 1) := by decide +kernel
theorem dX0_timeAfter_21 : decode cX0_timeAfter 21 = .ok (.iload_n 3, 1) := by decide +kernel
theorem dX0_timeAfter_22 : decode cX0_timeAfter 22 = .ok (.ifCond .eq 7, 3) := by decide +kernel
theorem dX0_timeAfter_25 : decode cX0_timeAfter 25 = .ok (.iconst 1, 1) := by decide +kernel
theorem dX0_timeAfter_26 : decode cX0_timeAfter 26 = .ok (.goto 5, 3) := by decide +kernel
theorem dX0_timeAfter_29 : decode cX0_timeAfter 29 = .ok (.bipush 10, 2) := by decide +kernel
theorem dX0_timeAfter_31 : decode cX0_timeAfter 31 = .ok (.istore 4, 2) := by decide +kernel
theorem dX0_timeAfter_33 : decode cX0_timeAfter 33 = .ok (.iload_n 2, 1) := by decide +kernel
theorem dX0_timeAfter_34 : decode cX0_timeAfter 34 = .ok (.iload 4, 2) := by decide +kernel
theorem dX0_timeAfter_36 : decode cX0_timeAfter 36 = .ok (.idiv, 1) := by decide +kernel
theorem dX0_timeAfter_37 : decode cX0_timeAfter 37 = .ok (.bipush 10, 2) := by decide +kernel
theorem dX0_timeAfter_39 : decode cX0_timeAfter 39 = .ok (.irem, 1) := by decide +kernel
theorem dX0_timeAfter_40 : decode cX0_timeAfter 40 = .ok (.istore 5, 2) := by decide +kernel
theorem dX0_timeAfter_42 : decode cX0_timeAfter 42 = .ok (.aload_n 0, 1) := by decide +kernel
theorem dX0_timeAfter_43 : decode cX0_timeAfter 43 = .ok (.getfield 21, 3) := by decide +kernel
theorem dX0_timeAfter_46 : decode cX0_timeAfter 46 = .ok (.iload_n 1, 1) := by decide +kernel
theorem dX0_timeAfter_47 : decode cX0_timeAfter 47 = .ok (.iaload, 1) := by decide +kernel
theorem dX0_timeAfter_48 : decode cX0_timeAfter 48 = .ok (.iconst 2, 1) := by decide +kernel
theorem dX0_timeAfter_49 : decode cX0_timeAfter 49 = .ok (.if_icmp .ne 11, 3) := by decide +kernel
theorem dX0_timeAfter_52 : decode cX0_timeAfter 52 = .ok (.iload_n 2, 1) := by decide +kernel
theorem dX0_timeAfter_53 : decode cX0_timeAfter 53 = .ok (.iload 5, 2) := by decide +kernel
theorem dX0_timeAfter_55 : decode cX0_timeAfter 55 = .ok (.iload 4, 2) := by decide +kernel
theorem dX0_timeAfter_57 : decode cX0_timeAfter 57 = .ok (.imul, 1) := by decide +kernel
theorem dX0_timeAfter_58 : decode cX0_timeAfter 58 = .ok (.isub, 1) := by decide +kernel
theorem dX0_timeAfter_59 : decode cX0_timeAfter 59 = .ok (.ireturn, 1) := by decide +kernel
theorem dX0_timeAfter_60 : decode cX0_timeAfter 60 = .ok (.aload_n 0, 1) := by decide +kernel
theorem dX0_timeAfter_61 : decode cX0_timeAfter 61 = .ok (.getfield 21, 3) := by decide +kernel
theorem dX0_timeAfter_64 : decode cX0_timeAfter 64 = .ok (.iload_n 1, 1) := by decide +kernel
theorem dX0_timeAfter_65 : decode cX0_timeAfter 65 = .ok (.iaload, 1) := by decide +kernel
theorem dX0_timeAfter_66 : decode cX0_timeAfter 66 = .ok (.iconst 3, 1) := by decide +kernel
theorem dX0_timeAfter_67 : decode cX0_timeAfter 67 = .ok (.if_icmp .ne 19, 3) := by decide +kernel
theorem dX0_timeAfter_70 : decode cX0_timeAfter 70 = .ok (.iload 5, 2) := by decide +kernel
theorem dX0_timeAfter_72 : decode cX0_timeAfter 72 = .ok (.bipush 9, 2) := by decide +kernel
theorem dX0_timeAfter_74 : decode cX0_timeAfter 74 = .ok (.if_icmp .ne 7, 3) := by decide +kernel
theorem dX0_timeAfter_77 : decode cX0_timeAfter 77 = .ok (.iconst (-1), 1) := by decide +kernel
theorem dX0_timeAfter_78 : decode cX0_timeAfter 78 = .ok (.goto 7, 3) := by decide +kernel
theorem dX0_timeAfter_81 : decode cX0_timeAfter 81 = .ok (.iload_n 2, 1) := by decide +kernel
theorem dX0_timeAfter_82 : decode cX0_timeAfter 82 = .ok (.iload 4, 2) := by decide +kernel
theorem dX0_timeAfter_84 : decode cX0_timeAfter 84 = .ok (.iadd, 1) := by decide +kernel
theorem dX0_timeAfter_85 : decode cX0_timeAfter 85 = .ok (.ireturn, 1) := by decide +kernel
theorem dX0_timeAfter_86 : decode cX0_timeAfter 86 = .ok (.iload_n 2, 1) := by decide +kernel
theorem dX0_timeAfter_87 : decode cX0_timeAfter 87 = .ok (.ireturn, 1) := by decide +kernel
theorem dX0_appendNode_0 : decode cX0_appendNode 0 = .ok (.aload_n 0, 1) := by decide +kernel
theorem dX0_appendNode_1 : decode cX0_appendNode 1 = .ok (.getfield 9, 3) := by decide +kernel
theorem dX0_appendNode_4 : decode cX0_appendNode 4 = .ok (.aload_n 0, 1) := by decide +kernel
theorem dX0_appendNode_5 : decode cX0_appendNode 5 = .ok (.getfield 24, 3) := by decide +kernel
theorem dX0_appendNode_8 : decode cX0_appendNode 8 = .ok (.iload_n 1, 1) := by decide +kernel
theorem dX0_appendNode_9 : decode cX0_appendNode 9 = .ok (.iastore, 1) := by decide +kernel
theorem dX0_appendNode_10 : decode cX0_appendNode 10 = .ok (.aload_n 0, 1) := by decide +kernel
theorem dX0_appendNode_11 : decode cX0_appendNode 11 = .ok (.dup, 1) := by decide +kernel
theorem dX0_appendNode_12 : decode cX0_appendNode 12 = .ok (.getfield 24, 3) := by decide +kernel
theorem dX0_appendNode_15 : decode cX0_appendNode 15 = .ok (.iconst 1, 1) := by decide +kernel
theorem dX0_appendNode_16 : decode cX0_appendNode 16 = .ok (.iadd, 1) := by decide +kernel
theorem dX0_appendNode_17 : decode cX0_appendNode 17 = .ok (.putfield 24, 3) := by decide +kernel
theorem dX0_appendNode_20 : decode cX0_appendNode 20 = .ok (.aload_n 0, 1) := by decide +kernel
theorem dX0_appendNode_21 : decode cX0_appendNode 21 = .ok (.getfield 24, 3) := by decide +kernel
theorem dX0_appendNode_24 : decode cX0_appendNode 24 = .ok (.iconst 1, 1) := by decide +kernel
theorem dX0_appendNode_25 : decode cX0_appendNode 25 = .ok (.isub, 1) := by decide +kernel
theorem dX0_appendNode_26 : decode cX0_appendNode 26 = .ok (.ireturn, 1) := by decide +kernel
theorem dX0_allowsEdge_0 : decode cX0_allowsEdge 0 = .ok (.aload_n 0, 1) := by decide +kernel
theorem dX0_allowsEdge_1 : decode cX0_allowsEdge 1 = .ok (.getfield 9, 3) := by decide +kernel
theorem dX0_allowsEdge_4 : decode cX0_allowsEdge 4 = .ok (.iload_n 2, 1) := by decide +kernel
theorem dX0_allowsEdge_5 : decode cX0_allowsEdge 5 = .ok (.iaload, 1) := by decide +kernel
theorem dX0_allowsEdge_6 : decode cX0_allowsEdge 6 = .ok (.aload_n 0, 1) := by decide +kernel
theorem dX0_allowsEdge_7 : decode cX0_allowsEdge 7 = .ok (.getfield 9, 3) := by decide +kernel
theorem dX0_allowsEdge_10 : decode cX0_allowsEdge 10 = .ok (.iload_n 1, 1) := by decide +kernel
theorem dX0_allowsEdge_11 : decode cX0_allowsEdge 11 = .ok (.iaload, 1) := by decide +kernel
theorem dX0_allowsEdge_12 : decode cX0_allowsEdge 12 = .ok (.isub, 1) := by decide +kernel
theorem dX0_allowsEdge_13 : decode cX0_allowsEdge 13 = .ok (.istore 4, 2) := by decide +kernel
theorem dX0_allowsEdge_15 : decode cX0_allowsEdge 15 = .ok (.iload 4, 2) := by decide +kernel
theorem dX0_allowsEdge_17 : decode cX0_allowsEdge 17 = .ok (.iconst 1, 1) := by decide +kernel
theorem dX0_allowsEdge_18 : decode cX0_allowsEdge 18 = .ok (.if_icmp .gt 9, 3) := by decide +kernel
theorem dX0_allowsEdge_21 : decode cX0_allowsEdge 21 = .ok (.iload 4, 2) := by decide +kernel
theorem dX0_allowsEdge_23 : decode cX0_allowsEdge 23 = .ok (.iconst (-1), 1) := by decide +kernel
theorem dX0_allowsEdge_24 : decode cX0_allowsEdge 24 = .ok (.if_icmp .ge 5, 3) := by decide +kernel
theorem dX0_allowsEdge_27 : decode cX0_allowsEdge 27 = .ok (.iconst 0, 1) := by decide +kernel
theorem dX0_allowsEdge_28 : decode cX0_allowsEdge 28 = .ok (.ireturn, 1) := by decide +kernel
theorem dX0_allowsEdge_29 : decode cX0_allowsEdge 29 = .ok (.iload_n 3, 1) := by decide +kernel
theorem dX0_allowsEdge_30 : decode cX0_allowsEdge 30 = .ok (.ifCond .eq 19, 3) := by decide +kernel
theorem dX0_allowsEdge_33 : decode cX0_allowsEdge 33 = .ok (.iload 4, 2) := by decide +kernel
theorem dX0_allowsEdge_35 : decode cX0_allowsEdge 35 = .ok (.ifCond .ne 12, 3) := by decide +kernel
theorem dX0_allowsEdge_38 : decode cX0_allowsEdge 38 = .ok (.aload_n 0, 1) := by decide +kernel
theorem dX0_allowsEdge_39 : decode cX0_allowsEdge 39 = .ok (.getfield 9, 3) := by decide +kernel
theorem dX0_allowsEdge_42 : decode cX0_allowsEdge 42 = .ok (.iload_n 1, 1) := by decide +kernel
theorem dX0_allowsEdge_43 : decode cX0_allowsEdge 43 = .ok (.iaload, 1) := by decide +kernel
theorem dX0_allowsEdge_44 : decode cX0_allowsEdge 44 = .ok (.ifCond .ne 5, 3) := by decide +kernel
theorem dX0_allowsEdge_47 : decode cX0_allowsEdge 47 = .ok (.iconst 0, 1) := by decide +kernel
theorem dX0_allowsEdge_48 : decode cX0_allowsEdge 48 = .ok (.ireturn, 1) := by decide +kernel
theorem dX0_allowsEdge_49 : decode cX0_allowsEdge 49 = .ok (.aload_n 0, 1) := by decide +kernel
theorem dX0_allowsEdge_50 : decode cX0_allowsEdge 50 = .ok (.iload_n 1, 1) := by decide +kernel
theorem dX0_allowsEdge_51 : decode cX0_allowsEdge 51 = .ok (.iload_n 2, 1) := by decide +kernel
theorem dX0_allowsEdge_52 : decode cX0_allowsEdge 52 = .ok (.iload_n 3, 1) := by decide +kernel
theorem dX0_allowsEdge_53 : decode cX0_allowsEdge 53 = .ok (.invokevirtual 45, 3) := by decide +kernel
theorem dX0_allowsEdge_56 : decode cX0_allowsEdge 56 = .ok (.iconst 0, 1) := by decide +kernel
theorem dX0_allowsEdge_57 : decode cX0_allowsEdge 57 = .ok (.istore 5, 2) := by decide +kernel
theorem dX0_allowsEdge_59 : decode cX0_allowsEdge 59 = .ok (.iload 5, 2) := by decide +kernel
theorem dX0_allowsEdge_61 : decode cX0_allowsEdge 61 = .ok (.aload_n 0, 1) := by decide +kernel
theorem dX0_allowsEdge_62 : decode cX0_allowsEdge 62 = .ok (.getfield 24, 3) := by decide +kernel
theorem dX0_allowsEdge_65 : decode cX0_allowsEdge 65 = .ok (.if_icmp .ge 20, 3) := by decide +kernel
theorem dX0_allowsEdge_68 : decode cX0_allowsEdge 68 = .ok (.aload_n 0, 1) := by decide +kernel
theorem dX0_allowsEdge_69 : decode cX0_allowsEdge 69 = .ok (.iload 5, 2) := by decide +kernel
theorem dX0_allowsEdge_71 : decode cX0_allowsEdge 71 = .ok (.invokevirtual 49, 3) := by decide +kernel
theorem dX0_allowsEdge_74 : decode cX0_allowsEdge 74 = .ok (.ifCond .eq 5, 3) := by decide +kernel
theorem dX0_allowsEdge_77 : decode cX0_allowsEdge 77 = .ok (.iconst 0, 1) := by decide +kernel
theorem dX0_allowsEdge_78 : decode cX0_allowsEdge 78 = .ok (.ireturn, 1) := by decide +kernel
theorem dX0_allowsEdge_79 : decode cX0_allowsEdge 79 = .ok (.iinc 5 1, 3) := by decide +kernel
theorem dX0_allowsEdge_82 : decode cX0_allowsEdge 82 = .ok (.goto (-23), 3) := by decide +kernel
theorem dX0_allowsEdge_85 : decode cX0_allowsEdge 85 = .ok (.iconst 1, 1) := by decide +kernel
theorem dX0_allowsEdge_86 : decode cX0_allowsEdge 86 = .ok (.ireturn, 1) := by decide +kernel
theorem dX0_appendEdge_0 : decode cX0_appendEdge 0 = .ok (.aload_n 0, 1) := by decide +kernel
theorem dX0_appendEdge_1 : decode cX0_appendEdge 1 = .ok (.iload_n 1, 1) := by decide +kernel
theorem dX0_appendEdge_2 : decode cX0_appendEdge 2 = .ok (.iload_n 2, 1) := by decide +kernel
theorem dX0_appendEdge_3 : decode cX0_appendEdge 3 = .ok (.iload_n 3, 1) := by decide +kernel
theorem dX0_appendEdge_4 : decode cX0_appendEdge 4 = .ok (.invokevirtual 45, 3) := by decide +kernel
theorem dX0_appendEdge_7 : decode cX0_appendEdge 7 = .ok (.aload_n 0, 1) := by decide +kernel
theorem dX0_appendEdge_8 : decode cX0_appendEdge 8 = .ok (.dup, 1) := by decide +kernel
theorem dX0_appendEdge_9 : decode cX0_appendEdge 9 = .ok (.getfield 28, 3) := by decide +kernel
theorem dX0_appendEdge_12 : decode cX0_appendEdge 12 = .ok (.iconst 1, 1) := by decide +kernel
theorem dX0_appendEdge_13 : decode cX0_appendEdge 13 = .ok (.iadd, 1) := by decide +kernel
theorem dX0_appendEdge_14 : decode cX0_appendEdge 14 = .ok (.putfield 28, 3) := by decide +kernel
theorem dX0_appendEdge_17 : decode cX0_appendEdge 17 = .ok (.aload_n 0, 1) := by decide +kernel
theorem dX0_appendEdge_18 : decode cX0_appendEdge 18 = .ok (.getfield 28, 3) := by decide +kernel
theorem dX0_appendEdge_21 : decode cX0_appendEdge 21 = .ok (.iconst 1, 1) := by decide +kernel
theorem dX0_appendEdge_22 : decode cX0_appendEdge 22 = .ok (.isub, 1) := by decide +kernel
theorem dX0_appendEdge_23 : decode cX0_appendEdge 23 = .ok (.ireturn, 1) := by decide +kernel
theorem dX0_putEdge_0 : decode cX0_putEdge 0 = .ok (.aload_n 0, 1) := by decide +kernel
theorem dX0_putEdge_1 : decode cX0_putEdge 1 = .ok (.getfield 15, 3) := by decide +kernel
theorem dX0_putEdge_4 : decode cX0_putEdge 4 = .ok (.aload_n 0, 1) := by decide +kernel
theorem dX0_putEdge_5 : decode cX0_putEdge 5 = .ok (.getfield 28, 3) := by decide +kernel
theorem dX0_putEdge_8 : decode cX0_putEdge 8 = .ok (.iload_n 1, 1) := by decide +kernel
theorem dX0_putEdge_9 : decode cX0_putEdge 9 = .ok (.iastore, 1) := by decide +kernel
theorem dX0_putEdge_10 : decode cX0_putEdge 10 = .ok (.aload_n 0, 1) := by decide +kernel
theorem dX0_putEdge_11 : decode cX0_putEdge 11 = .ok (.getfield 18, 3) := by decide +kernel
theorem dX0_putEdge_14 : decode cX0_putEdge 14 = .ok (.aload_n 0, 1) := by decide +kernel
theorem dX0_putEdge_15 : decode cX0_putEdge 15 = .ok (.getfield 28, 3) := by decide +kernel
theorem dX0_putEdge_18 : decode cX0_putEdge 18 = .ok (.iload_n 2, 1) := by decide +kernel
theorem dX0_putEdge_19 : decode cX0_putEdge 19 = .ok (.iastore, 1) := by decide +kernel
theorem dX0_putEdge_20 : decode cX0_putEdge 20 = .ok (.aload_n 0, 1) := by decide +kernel
theorem dX0_putEdge_21 : decode cX0_putEdge 21 = .ok (.getfield 21, 3) := by decide +kernel
theorem dX0_putEdge_24 : decode cX0_putEdge 24 = .ok (.aload_n 0, 1) := by decide +kernel
theorem dX0_putEdge_25 : decode cX0_putEdge 25 = .ok (.getfield 28, 3) := by decide +kernel
theorem dX0_putEdge_28 : decode cX0_putEdge 28 = .ok (.aload_n 0, 1) := by decide +kernel
theorem dX0_putEdge_29 : decode cX0_putEdge 29 = .ok (.getfield 9, 3) := by decide +kernel
theorem dX0_putEdge_32 : decode cX0_putEdge 32 = .ok (.iload_n 1, 1) := by decide +kernel
theorem dX0_putEdge_33 : decode cX0_putEdge 33 = .ok (.iaload, 1) := by decide +kernel
theorem dX0_putEdge_34 : decode cX0_putEdge 34 = .ok (.aload_n 0, 1) := by decide +kernel
theorem dX0_putEdge_35 : decode cX0_putEdge 35 = .ok (.getfield 9, 3) := by decide +kernel
theorem dX0_putEdge_38 : decode cX0_putEdge 38 = .ok (.iload_n 2, 1) := by decide +kernel
theorem dX0_putEdge_39 : decode cX0_putEdge 39 = .ok (.iaload, 1) := by decide +kernel
theorem dX0_putEdge_40 : decode cX0_putEdge 40 = .ok (.iload_n 3, 1) := by decide +kernel
theorem dX0_putEdge_41 : decode cX0_putEdge 41 = .ok (.invokestatic 52, 3) := by decide +kernel
theorem dX0_putEdge_44 : decode cX0_putEdge 44 = .ok (.iastore, 1) := by decide +kernel
theorem dX0_putEdge_45 : decode cX0_putEdge 45 = .ok (.return_, 1) := by decide +kernel
theorem dX0_kindBetween_0 : decode cX0_kindBetween 0 = .ok (.iload_n 0, 1) := by decide +kernel
theorem dX0_kindBetween_1 : decode cX0_kindBetween 1 = .ok (.iload_n 1, 1) := by decide +kernel
theorem dX0_kindBetween_2 : decode cX0_kindBetween 2 = .ok (.if_icmp .eq 14, 3) := by decide +kernel
theorem dX0_kindBetween_5 : decode cX0_kindBetween 5 = .ok (.iload_n 0, 1) := by decide +kernel
theorem dX0_kindBetween_6 : decode cX0_kindBetween 6 = .ok (.iload_n 1, 1) := by decide +kernel
theorem dX0_kindBetween_7 : decode cX0_kindBetween 7 = .ok (.if_icmp .ge 7, 3) := by decide +kernel
theorem dX0_kindBetween_10 : decode cX0_kindBetween 10 = .ok (.iconst 1, 1) := by decide +kernel
theorem dX0_kindBetween_11 : decode cX0_kindBetween 11 = .ok (.goto 4, 3) := by decide +kernel
theorem dX0_kindBetween_14 : decode cX0_kindBetween 14 = .ok (.iconst 2, 1) := by decide +kernel
theorem dX0_kindBetween_15 : decode cX0_kindBetween 15 = .ok (.ireturn, 1) := by decide +kernel
theorem dX0_kindBetween_16 : decode cX0_kindBetween 16 = .ok (.iload_n 2, 1) := by decide +kernel
theorem dX0_kindBetween_17 : decode cX0_kindBetween 17 = .ok (.ifCond .eq 7, 3) := by decide +kernel
theorem dX0_kindBetween_20 : decode cX0_kindBetween 20 = .ok (.iconst 3, 1) := by decide +kernel
theorem dX0_kindBetween_21 : decode cX0_kindBetween 21 = .ok (.goto 4, 3) := by decide +kernel
theorem dX0_kindBetween_24 : decode cX0_kindBetween 24 = .ok (.iconst 0, 1) := by decide +kernel
theorem dX0_kindBetween_25 : decode cX0_kindBetween 25 = .ok (.ireturn, 1) := by decide +kernel
theorem dX0_returnsWithoutFeedback_0 : decode cX0_returnsWithoutFeedback 0 = .ok (.iconst 0, 1) := by decide +kernel
theorem dX0_returnsWithoutFeedback_1 : decode cX0_returnsWithoutFeedback 1 = .ok (.istore_n 2, 1) := by decide +kernel
theorem dX0_returnsWithoutFeedback_2 : decode cX0_returnsWithoutFeedback 2 = .ok (.iconst 0, 1) := by decide +kernel
theorem dX0_returnsWithoutFeedback_3 : decode cX0_returnsWithoutFeedback 3 = .ok (.istore_n 3, 1) := by decide +kernel
theorem dX0_returnsWithoutFeedback_4 : decode cX0_returnsWithoutFeedback 4 = .ok (.iload_n 3, 1) := by decide +kernel
theorem dX0_returnsWithoutFeedback_5 : decode cX0_returnsWithoutFeedback 5 = .ok (.aload_n 0, 1) := by decide +kernel
theorem dX0_returnsWithoutFeedback_6 : decode cX0_returnsWithoutFeedback 6 = .ok (.getfield 24, 3) := by decide +kernel
theorem dX0_returnsWithoutFeedback_9 : decode cX0_returnsWithoutFeedback 9 = .ok (.if_icmp .ge 91, 3) := by decide +kernel
theorem dX0_returnsWithoutFeedback_12 : decode cX0_returnsWithoutFeedback 12 = .ok (.iconst 0, 1) := by decide +kernel
theorem dX0_returnsWithoutFeedback_13 : decode cX0_returnsWithoutFeedback 13 = .ok (.istore 4, 2) := by decide +kernel
theorem dX0_returnsWithoutFeedback_15 : decode cX0_returnsWithoutFeedback 15 = .ok (.iload 4, 2) := by decide +kernel
theorem dX0_returnsWithoutFeedback_17 : decode cX0_returnsWithoutFeedback 17 = .ok (.aload_n 0, 1) := by decide +kernel
theorem dX0_returnsWithoutFeedback_18 : decode cX0_returnsWithoutFeedback 18 = .ok (.getfield 28, 3) := by decide +kernel
theorem dX0_returnsWithoutFeedback_21 : decode cX0_returnsWithoutFeedback 21 = .ok (.if_icmp .gt 73, 3) := by decide +kernel
theorem dX0_returnsWithoutFeedback_24 : decode cX0_returnsWithoutFeedback 24 = .ok (.aload_n 0, 1) := by decide +kernel
theorem dX0_returnsWithoutFeedback_25 : decode cX0_returnsWithoutFeedback 25 = .ok (.getfield 15, 3) := by decide +kernel
theorem dX0_returnsWithoutFeedback_28 : decode cX0_returnsWithoutFeedback 28 = .ok (.iload 4, 2) := by decide +kernel
theorem dX0_returnsWithoutFeedback_30 : decode cX0_returnsWithoutFeedback 30 = .ok (.iaload, 1) := by decide +kernel
theorem dX0_returnsWithoutFeedback_31 : decode cX0_returnsWithoutFeedback 31 = .ok (.iload_n 1, 1) := by decide +kernel
theorem dX0_returnsWithoutFeedback_32 : decode cX0_returnsWithoutFeedback 32 = .ok (.if_icmp .eq 17, 3) := by decide +kernel
theorem dX0_returnsWithoutFeedback_35 : decode cX0_returnsWithoutFeedback 35 = .ok (.iload_n 2, 1) := by decide +kernel
theorem dX0_returnsWithoutFeedback_36 : decode cX0_returnsWithoutFeedback 36 = .ok (.aload_n 0, 1) := by decide +kernel
theorem dX0_returnsWithoutFeedback_37 : decode cX0_returnsWithoutFeedback 37 = .ok (.getfield 15, 3) := by decide +kernel
theorem dX0_returnsWithoutFeedback_40 : decode cX0_returnsWithoutFeedback 40 = .ok (.iload 4, 2) := by decide +kernel
theorem dX0_returnsWithoutFeedback_42 : decode cX0_returnsWithoutFeedback 42 = .ok (.iaload, 1) := by decide +kernel
theorem dX0_returnsWithoutFeedback_43 : decode cX0_returnsWithoutFeedback 43 = .ok (.invokestatic 31, 3) := by decide +kernel
theorem dX0_returnsWithoutFeedback_46 : decode cX0_returnsWithoutFeedback 46 = .ok (.ifCond .eq 7, 3) := by decide +kernel
theorem dX0_returnsWithoutFeedback_49 : decode cX0_returnsWithoutFeedback 49 = .ok (.iconst 1, 1) := by decide +kernel
theorem dX0_returnsWithoutFeedback_50 : decode cX0_returnsWithoutFeedback 50 = .ok (.goto 4, 3) := by decide +kernel
theorem dX0_returnsWithoutFeedback_53 : decode cX0_returnsWithoutFeedback 53 = .ok (.iconst 0, 1) := by decide +kernel
theorem dX0_returnsWithoutFeedback_54 : decode cX0_returnsWithoutFeedback 54 = .ok (.istore 5, 2) := by decide +kernel
theorem dX0_returnsWithoutFeedback_56 : decode cX0_returnsWithoutFeedback 56 = .ok (.iload 5, 2) := by decide +kernel
theorem dX0_returnsWithoutFeedback_58 : decode cX0_returnsWithoutFeedback 58 = .ok (.ifCond .eq 30, 3) := by decide +kernel
theorem dX0_returnsWithoutFeedback_61 : decode cX0_returnsWithoutFeedback 61 = .ok (.aload_n 0, 1) := by decide +kernel
theorem dX0_returnsWithoutFeedback_62 : decode cX0_returnsWithoutFeedback 62 = .ok (.iload 4, 2) := by decide +kernel
theorem dX0_returnsWithoutFeedback_64 : decode cX0_returnsWithoutFeedback 64 = .ok (.aload_n 0, 1) := by decide +kernel
theorem dX0_returnsWithoutFeedback_65 : decode cX0_returnsWithoutFeedback 65 = .ok (.getfield 9, 3) := by decide +kernel
theorem dX0_returnsWithoutFeedback_68 : decode cX0_returnsWithoutFeedback 68 = .ok (.iload_n 1, 1) := by decide +kernel
theorem dX0_returnsWithoutFeedback_69 : decode cX0_returnsWithoutFeedback 69 = .ok (.iaload, 1) := by decide +kernel
theorem dX0_returnsWithoutFeedback_70 : decode cX0_returnsWithoutFeedback 70 = .ok (.invokevirtual 56, 3) := by decide +kernel
theorem dX0_returnsWithoutFeedback_73 : decode cX0_returnsWithoutFeedback 73 = .ok (.ifCond .eq 15, 3) := by decide +kernel
theorem dX0_returnsWithoutFeedback_76 : decode cX0_returnsWithoutFeedback 76 = .ok (.iload_n 2, 1) := by decide +kernel
theorem dX0_returnsWithoutFeedback_77 : decode cX0_returnsWithoutFeedback 77 = .ok (.iconst 1, 1) := by decide +kernel
theorem dX0_returnsWithoutFeedback_78 : decode cX0_returnsWithoutFeedback 78 = .ok (.aload_n 0, 1) := by decide +kernel
theorem dX0_returnsWithoutFeedback_79 : decode cX0_returnsWithoutFeedback 79 = .ok (.getfield 18, 3) := by decide +kernel
theorem dX0_returnsWithoutFeedback_82 : decode cX0_returnsWithoutFeedback 82 = .ok (.iload 4, 2) := by decide +kernel
theorem dX0_returnsWithoutFeedback_84 : decode cX0_returnsWithoutFeedback 84 = .ok (.iaload, 1) := by decide +kernel
theorem dX0_returnsWithoutFeedback_85 : decode cX0_returnsWithoutFeedback 85 = .ok (.ishl, 1) := by decide +kernel
theorem dX0_returnsWithoutFeedback_86 : decode cX0_returnsWithoutFeedback 86 = .ok (.ior, 1) := by decide +kernel
theorem dX0_returnsWithoutFeedback_87 : decode cX0_returnsWithoutFeedback 87 = .ok (.istore_n 2, 1) := by decide +kernel
theorem dX0_returnsWithoutFeedback_88 : decode cX0_returnsWithoutFeedback 88 = .ok (.iinc 4 1, 3) := by decide +kernel
theorem dX0_returnsWithoutFeedback_91 : decode cX0_returnsWithoutFeedback 91 = .ok (.goto (-76), 3) := by decide +kernel
theorem dX0_returnsWithoutFeedback_94 : decode cX0_returnsWithoutFeedback 94 = .ok (.iinc 3 1, 3) := by decide +kernel
theorem dX0_returnsWithoutFeedback_97 : decode cX0_returnsWithoutFeedback 97 = .ok (.goto (-93), 3) := by decide +kernel
theorem dX0_returnsWithoutFeedback_100 : decode cX0_returnsWithoutFeedback 100 = .ok (.iload_n 2, 1) := by decide +kernel
theorem dX0_returnsWithoutFeedback_101 : decode cX0_returnsWithoutFeedback 101 = .ok (.iload_n 1, 1) := by decide +kernel
theorem dX0_returnsWithoutFeedback_102 : decode cX0_returnsWithoutFeedback 102 = .ok (.invokestatic 31, 3) := by decide +kernel
theorem dX0_returnsWithoutFeedback_105 : decode cX0_returnsWithoutFeedback 105 = .ok (.ireturn, 1) := by decide +kernel
theorem dX0_staysWithoutFeedback_0 : decode cX0_staysWithoutFeedback 0 = .ok (.aload_n 0, 1) := by decide +kernel
theorem dX0_staysWithoutFeedback_1 : decode cX0_staysWithoutFeedback 1 = .ok (.getfield 9, 3) := by decide +kernel
theorem dX0_staysWithoutFeedback_4 : decode cX0_staysWithoutFeedback 4 = .ok (.aload_n 0, 1) := by decide +kernel
theorem dX0_staysWithoutFeedback_5 : decode cX0_staysWithoutFeedback 5 = .ok (.getfield 18, 3) := by decide +kernel
theorem dX0_staysWithoutFeedback_8 : decode cX0_staysWithoutFeedback 8 = .ok (.iload_n 1, 1) := by decide +kernel
theorem dX0_staysWithoutFeedback_9 : decode cX0_staysWithoutFeedback 9 = .ok (.iaload, 1) := by decide +kernel
theorem dX0_staysWithoutFeedback_10 : decode cX0_staysWithoutFeedback 10 = .ok (.iaload, 1) := by decide +kernel
theorem dX0_staysWithoutFeedback_11 : decode cX0_staysWithoutFeedback 11 = .ok (.istore_n 3, 1) := by decide +kernel
theorem dX0_staysWithoutFeedback_12 : decode cX0_staysWithoutFeedback 12 = .ok (.iload_n 3, 1) := by decide +kernel
theorem dX0_staysWithoutFeedback_13 : decode cX0_staysWithoutFeedback 13 = .ok (.iload_n 2, 1) := by decide +kernel
theorem dX0_staysWithoutFeedback_14 : decode cX0_staysWithoutFeedback 14 = .ok (.if_icmp .lt 22, 3) := by decide +kernel
theorem dX0_staysWithoutFeedback_17 : decode cX0_staysWithoutFeedback 17 = .ok (.aload_n 0, 1) := by decide +kernel
theorem dX0_staysWithoutFeedback_18 : decode cX0_staysWithoutFeedback 18 = .ok (.getfield 21, 3) := by decide +kernel
theorem dX0_staysWithoutFeedback_21 : decode cX0_staysWithoutFeedback 21 = .ok (.iload_n 1, 1) := by decide +kernel
theorem dX0_staysWithoutFeedback_22 : decode cX0_staysWithoutFeedback 22 = .ok (.iaload, 1) := by decide +kernel
theorem dX0_staysWithoutFeedback_23 : decode cX0_staysWithoutFeedback 23 = .ok (.iconst 3, 1) := by decide +kernel
theorem dX0_staysWithoutFeedback_24 : decode cX0_staysWithoutFeedback 24 = .ok (.if_icmp .ne 8, 3) := by decide +kernel
theorem dX0_staysWithoutFeedback_27 : decode cX0_staysWithoutFeedback 27 = .ok (.iload_n 3, 1) := by decide +kernel
theorem dX0_staysWithoutFeedback_28 : decode cX0_staysWithoutFeedback 28 = .ok (.iload_n 2, 1) := by decide +kernel
theorem dX0_staysWithoutFeedback_29 : decode cX0_staysWithoutFeedback 29 = .ok (.if_icmp .eq 7, 3) := by decide +kernel
theorem dX0_staysWithoutFeedback_32 : decode cX0_staysWithoutFeedback 32 = .ok (.iconst 1, 1) := by decide +kernel
theorem dX0_staysWithoutFeedback_33 : decode cX0_staysWithoutFeedback 33 = .ok (.goto 4, 3) := by decide +kernel
theorem dX0_staysWithoutFeedback_36 : decode cX0_staysWithoutFeedback 36 = .ok (.iconst 0, 1) := by decide +kernel
theorem dX0_staysWithoutFeedback_37 : decode cX0_staysWithoutFeedback 37 = .ok (.ireturn, 1) := by decide +kernel
theorem dX0_isAsLargeAs_0 : decode cX0_isAsLargeAs 0 = .ok (.aload_n 0, 1) := by decide +kernel
theorem dX0_isAsLargeAs_1 : decode cX0_isAsLargeAs 1 = .ok (.getfield 24, 3) := by decide +kernel
theorem dX0_isAsLargeAs_4 : decode cX0_isAsLargeAs 4 = .ok (.aload_n 1, 1) := by decide +kernel
theorem dX0_isAsLargeAs_5 : decode cX0_isAsLargeAs 5 = .ok (.getfield 24, 3) := by decide +kernel
theorem dX0_isAsLargeAs_8 : decode cX0_isAsLargeAs 8 = .ok (.if_icmp .ne 18, 3) := by decide +kernel
theorem dX0_isAsLargeAs_11 : decode cX0_isAsLargeAs 11 = .ok (.aload_n 0, 1) := by decide +kernel
theorem dX0_isAsLargeAs_12 : decode cX0_isAsLargeAs 12 = .ok (.getfield 28, 3) := by decide +kernel
theorem dX0_isAsLargeAs_15 : decode cX0_isAsLargeAs 15 = .ok (.aload_n 1, 1) := by decide +kernel
theorem dX0_isAsLargeAs_16 : decode cX0_isAsLargeAs 16 = .ok (.getfield 28, 3) := by decide +kernel
theorem dX0_isAsLargeAs_19 : decode cX0_isAsLargeAs 19 = .ok (.if_icmp .ne 7, 3) := by decide +kernel
theorem dX0_isAsLargeAs_22 : decode cX0_isAsLargeAs 22 = .ok (.iconst 1, 1) := by decide +kernel
theorem dX0_isAsLargeAs_23 : decode cX0_isAsLargeAs 23 = .ok (.goto 4, 3) := by decide +kernel
theorem dX0_isAsLargeAs_26 : decode cX0_isAsLargeAs 26 = .ok (.iconst 0, 1) := by decide +kernel
theorem dX0_isAsLargeAs_27 : decode cX0_isAsLargeAs 27 = .ok (.ireturn, 1) := by decide +kernel
theorem dX0_copyFrom_0 : decode cX0_copyFrom 0 = .ok (.aload_n 0, 1) := by decide +kernel
theorem dX0_copyFrom_1 : decode cX0_copyFrom 1 = .ok (.aload_n 1, 1) := by decide +kernel
theorem dX0_copyFrom_2 : decode cX0_copyFrom 2 = .ok (.getfield 24, 3) := by decide +kernel
theorem dX0_copyFrom_5 : decode cX0_copyFrom 5 = .ok (.putfield 24, 3) := by decide +kernel
theorem dX0_copyFrom_8 : decode cX0_copyFrom 8 = .ok (.aload_n 0, 1) := by decide +kernel
theorem dX0_copyFrom_9 : decode cX0_copyFrom 9 = .ok (.aload_n 1, 1) := by decide +kernel
theorem dX0_copyFrom_10 : decode cX0_copyFrom 10 = .ok (.getfield 28, 3) := by decide +kernel
theorem dX0_copyFrom_13 : decode cX0_copyFrom 13 = .ok (.putfield 28, 3) := by decide +kernel
theorem dX0_copyFrom_16 : decode cX0_copyFrom 16 = .ok (.aload_n 1, 1) := by decide +kernel
theorem dX0_copyFrom_17 : decode cX0_copyFrom 17 = .ok (.getfield 9, 3) := by decide +kernel
theorem dX0_copyFrom_20 : decode cX0_copyFrom 20 = .ok (.iconst 0, 1) := by decide +kernel
theorem dX0_copyFrom_21 : decode cX0_copyFrom 21 = .ok (.aload_n 0, 1) := by decide +kernel
theorem dX0_copyFrom_22 : decode cX0_copyFrom 22 = .ok (.getfield 9, 3) := by decide +kernel
theorem dX0_copyFrom_25 : decode cX0_copyFrom 25 = .ok (.iconst 0, 1) := by decide +kernel
theorem dX0_copyFrom_26 : decode cX0_copyFrom 26 = .ok (.bipush 6, 2) := by decide +kernel
theorem dX0_copyFrom_28 : decode cX0_copyFrom 28 = .ok (.invokestatic 59, 3) := by decide +kernel
theorem dX0_copyFrom_31 : decode cX0_copyFrom 31 = .ok (.aload_n 1, 1) := by decide +kernel
theorem dX0_copyFrom_32 : decode cX0_copyFrom 32 = .ok (.getfield 15, 3) := by decide +kernel
theorem dX0_copyFrom_35 : decode cX0_copyFrom 35 = .ok (.iconst 0, 1) := by decide +kernel
theorem dX0_copyFrom_36 : decode cX0_copyFrom 36 = .ok (.aload_n 0, 1) := by decide +kernel
theorem dX0_copyFrom_37 : decode cX0_copyFrom 37 = .ok (.getfield 15, 3) := by decide +kernel
theorem dX0_copyFrom_40 : decode cX0_copyFrom 40 = .ok (.iconst 0, 1) := by decide +kernel
theorem dX0_copyFrom_41 : decode cX0_copyFrom 41 = .ok (.bipush 10, 2) := by decide +kernel
theorem dX0_copyFrom_43 : decode cX0_copyFrom 43 = .ok (.invokestatic 59, 3) := by decide +kernel
theorem dX0_copyFrom_46 : decode cX0_copyFrom 46 = .ok (.aload_n 1, 1) := by decide +kernel
theorem dX0_copyFrom_47 : decode cX0_copyFrom 47 = .ok (.getfield 18, 3) := by decide +kernel
theorem dX0_copyFrom_50 : decode cX0_copyFrom 50 = .ok (.iconst 0, 1) := by decide +kernel
theorem dX0_copyFrom_51 : decode cX0_copyFrom 51 = .ok (.aload_n 0, 1) := by decide +kernel
theorem dX0_copyFrom_52 : decode cX0_copyFrom 52 = .ok (.getfield 18, 3) := by decide +kernel
theorem dX0_copyFrom_55 : decode cX0_copyFrom 55 = .ok (.iconst 0, 1) := by decide +kernel
theorem dX0_copyFrom_56 : decode cX0_copyFrom 56 = .ok (.bipush 10, 2) := by decide +kernel
theorem dX0_copyFrom_58 : decode cX0_copyFrom 58 = .ok (.invokestatic 59, 3) := by decide +kernel
theorem dX0_copyFrom_61 : decode cX0_copyFrom 61 = .ok (.aload_n 1, 1) := by decide +kernel
theorem dX0_copyFrom_62 : decode cX0_copyFrom 62 = .ok (.getfield 21, 3) := by decide +kernel
theorem dX0_copyFrom_65 : decode cX0_copyFrom 65 = .ok (.iconst 0, 1) := by decide +kernel
theorem dX0_copyFrom_66 : decode cX0_copyFrom 66 = .ok (.aload_n 0, 1) := by decide +kernel
theorem dX0_copyFrom_67 : decode cX0_copyFrom 67 = .ok (.getfield 21, 3) := by decide +kernel
theorem dX0_copyFrom_70 : decode cX0_copyFrom 70 = .ok (.iconst 0, 1) := by decide +kernel
theorem dX0_copyFrom_71 : decode cX0_copyFrom 71 = .ok (.bipush 10, 2) := by decide +kernel
theorem dX0_copyFrom_73 : decode cX0_copyFrom 73 = .ok (.invokestatic 59, 3) := by decide +kernel
theorem dX0_copyFrom_76 : decode cX0_copyFrom 76 = .ok (.return_, 1) := by decide +kernel
theorem dX0_contains_0 : decode cX0_contains 0 = .ok (.iload_n 0, 1) := by decide +kernel
theorem dX0_contains_1 : decode cX0_contains 1 = .ok (.iload_n 1, 1) := by decide +kernel
theorem dX0_contains_2 : decode cX0_contains 2 = .ok (.ishr, 1) := by decide +kernel
theorem dX0_contains_3 : decode cX0_contains 3 = .ok (.iconst 1, 1) := by decide +kernel
theorem dX0_contains_4 : decode cX0_contains 4 = .ok (.iand, 1) := by decide +kernel
theorem dX0_contains_5 : decode cX0_contains 5 = .ok (.iconst 1, 1) := by decide +kernel
theorem dX0_contains_6 : decode cX0_contains 6 = .ok (.if_icmp .ne 7, 3) := by decide +kernel
theorem dX0_contains_9 : decode cX0_contains 9 = .ok (.iconst 1, 1) := by decide +kernel
theorem dX0_contains_10 : decode cX0_contains 10 = .ok (.goto 4, 3) := by decide +kernel
theorem dX0_contains_13 : decode cX0_contains 13 = .ok (.iconst 0, 1) := by decide +kernel
theorem dX0_contains_14 : decode cX0_contains 14 = .ok (.ireturn, 1) := by decide +kernel
theorem dX1_init_0 : decode cX1_init 0 = .ok (.aload_n 0, 1) := by decide +kernel
theorem dX1_init_1 : decode cX1_init 1 = .ok (.invokespecial 3, 3) := by decide +kernel
theorem dX1_init_4 : decode cX1_init 4 = .ok (.aload_n 0, 1) := by decide +kernel
theorem dX1_init_5 : decode cX1_init 5 = .ok (.bipush 20, 2) := by decide +kernel
theorem dX1_init_7 : decode cX1_init 7 = .ok (.newarray .int, 2) := by decide +kernel
theorem dX1_init_9 : decode cX1_init 9 = .ok (.putfield 9, 3) := by decide +kernel
theorem dX1_init_12 : decode cX1_init 12 = .ok (.aload_n 0, 1) := by decide +kernel
theorem dX1_init_13 : decode cX1_init 13 = .ok (.sipush 240, 3) := by decide +kernel
theorem dX1_init_16 : decode cX1_init 16 = .ok (.newarray .int, 2) := by decide +kernel
theorem dX1_init_18 : decode cX1_init 18 = .ok (.putfield 15, 3) := by decide +kernel
theorem dX1_init_21 : decode cX1_init 21 = .ok (.return_, 1) := by decide +kernel
theorem dX1_sizeOf_0 : decode cX1_sizeOf 0 = .ok (.aload_n 0, 1) := by decide +kernel
theorem dX1_sizeOf_1 : decode cX1_sizeOf 1 = .ok (.getfield 9, 3) := by decide +kernel
theorem dX1_sizeOf_4 : decode cX1_sizeOf 4 = .ok (.iload_n 1, 1) := by decide +kernel
theorem dX1_sizeOf_5 : decode cX1_sizeOf 5 = .ok (.bipush 10, 2) := by decide +kernel
theorem dX1_sizeOf_7 : decode cX1_sizeOf 7 = .ok (.imul, 1) := by decide +kernel
theorem dX1_sizeOf_8 : decode cX1_sizeOf 8 = .ok (.iload_n 2, 1) := by decide +kernel
theorem dX1_sizeOf_9 : decode cX1_sizeOf 9 = .ok (.iadd, 1) := by decide +kernel
theorem dX1_sizeOf_10 : decode cX1_sizeOf 10 = .ok (.iaload, 1) := by decide +kernel
theorem dX1_sizeOf_11 : decode cX1_sizeOf 11 = .ok (.ireturn, 1) := by decide +kernel
theorem dX1_timeOf_0 : decode cX1_timeOf 0 = .ok (.aload_n 0, 1) := by decide +kernel
theorem dX1_timeOf_1 : decode cX1_timeOf 1 = .ok (.getfield 15, 3) := by decide +kernel
theorem dX1_timeOf_4 : decode cX1_timeOf 4 = .ok (.iload_n 1, 1) := by decide +kernel
theorem dX1_timeOf_5 : decode cX1_timeOf 5 = .ok (.bipush 10, 2) := by decide +kernel
theorem dX1_timeOf_7 : decode cX1_timeOf 7 = .ok (.imul, 1) := by decide +kernel
theorem dX1_timeOf_8 : decode cX1_timeOf 8 = .ok (.iload_n 2, 1) := by decide +kernel
theorem dX1_timeOf_9 : decode cX1_timeOf 9 = .ok (.iadd, 1) := by decide +kernel
theorem dX1_timeOf_10 : decode cX1_timeOf 10 = .ok (.bipush 12, 2) := by decide +kernel
theorem dX1_timeOf_12 : decode cX1_timeOf 12 = .ok (.imul, 1) := by decide +kernel
theorem dX1_timeOf_13 : decode cX1_timeOf 13 = .ok (.iload_n 3, 1) := by decide +kernel
theorem dX1_timeOf_14 : decode cX1_timeOf 14 = .ok (.iadd, 1) := by decide +kernel
theorem dX1_timeOf_15 : decode cX1_timeOf 15 = .ok (.iaload, 1) := by decide +kernel
theorem dX1_timeOf_16 : decode cX1_timeOf 16 = .ok (.ireturn, 1) := by decide +kernel
theorem dX1_isFull_0 : decode cX1_isFull 0 = .ok (.aload_n 0, 1) := by decide +kernel
theorem dX1_isFull_1 : decode cX1_isFull 1 = .ok (.iload_n 1, 1) := by decide +kernel
theorem dX1_isFull_2 : decode cX1_isFull 2 = .ok (.iload_n 2, 1) := by decide +kernel
theorem dX1_isFull_3 : decode cX1_isFull 3 = .ok (.invokevirtual 18, 3) := by decide +kernel
theorem dX1_isFull_6 : decode cX1_isFull 6 = .ok (.bipush 12, 2) := by decide +kernel
theorem dX1_isFull_8 : decode cX1_isFull 8 = .ok (.if_icmp .lt 7, 3) := by decide +kernel
theorem dX1_isFull_11 : decode cX1_isFull 11 = .ok (.iconst 1, 1) := by decide +kernel
theorem dX1_isFull_12 : decode cX1_isFull 12 = .ok (.goto 4, 3) := by decide +kernel
theorem dX1_isFull_15 : decode cX1_isFull 15 = .ok (.iconst 0, 1) := by decide +kernel
theorem dX1_isFull_16 : decode cX1_isFull 16 = .ok (.ireturn, 1) := by decide +kernel
theorem dX1_isAnyFull_0 : decode cX1_isAnyFull 0 = .ok (.iconst 0, 1) := by decide +kernel
theorem dX1_isAnyFull_1 : decode cX1_isAnyFull 1 = .ok (.istore_n 3, 1) := by decide +kernel
theorem dX1_isAnyFull_2 : decode cX1_isAnyFull 2 = .ok (.iload_n 3, 1) := by decide +kernel
theorem dX1_isAnyFull_3 : decode cX1_isAnyFull 3 = .ok (.bipush 10, 2) := by decide +kernel
theorem dX1_isAnyFull_5 : decode cX1_isAnyFull 5 = .ok (.if_icmp .ge 28, 3) := by decide +kernel
theorem dX1_isAnyFull_8 : decode cX1_isAnyFull 8 = .ok (.iload_n 2, 1) := by decide +kernel
theorem dX1_isAnyFull_9 : decode cX1_isAnyFull 9 = .ok (.iload_n 3, 1) := by decide +kernel
theorem dX1_isAnyFull_10 : decode cX1_isAnyFull 10 = .ok (.invokestatic 22, 3) := by decide +kernel
theorem dX1_isAnyFull_13 : decode cX1_isAnyFull 13 = .ok (.ifCond .eq 14, 3) := by decide +kernel
theorem dX1_isAnyFull_16 : decode cX1_isAnyFull 16 = .ok (.aload_n 0, 1) := by decide +kernel
theorem dX1_isAnyFull_17 : decode cX1_isAnyFull 17 = .ok (.iload_n 1, 1) := by decide +kernel
theorem dX1_isAnyFull_18 : decode cX1_isAnyFull 18 = .ok (.iload_n 3, 1) := by decide +kernel
theorem dX1_isAnyFull_19 : decode cX1_isAnyFull 19 = .ok (.invokevirtual 28, 3) := by decide +kernel
theorem dX1_isAnyFull_22 : decode cX1_isAnyFull 22 = .ok (.ifCond .eq 5, 3) := by decide +kernel
theorem dX1_isAnyFull_25 : decode cX1_isAnyFull 25 = .ok (.iconst 1, 1) := by decide +kernel
theorem dX1_isAnyFull_26 : decode cX1_isAnyFull 26 = .ok (.ireturn, 1) := by decide +kernel
theorem dX1_isAnyFull_27 : decode cX1_isAnyFull 27 = .ok (.iinc 3 1, 3) := by decide +kernel
theorem dX1_isAnyFull_30 : decode cX1_isAnyFull 30 = .ok (.goto (-28), 3) := by decide +kernel
theorem dX1_isAnyFull_33 : decode cX1_isAnyFull 33 = .ok (.iconst 0, 1) := by decide +kernel
theorem dX1_isAnyFull_34 : decode cX1_isAnyFull 34 = .ok (.ireturn, 1) := by decide +kernel
theorem dX1_put_0 : decode cX1_put 0 = .ok (.iload_n 1, 1) := by decide +kernel
theorem dX1_put_1 : decode cX1_put 1 = .ok (.bipush 10, 2) := by decide +kernel
theorem dX1_put_3 : decode cX1_put 3 = .ok (.imul, 1) := by decide +kernel
theorem dX1_put_4 : decode cX1_put 4 = .ok (.iload_n 2, 1) := by decide +kernel
theorem dX1_put_5 : decode cX1_put 5 = .ok (.iadd, 1) := by decide +kernel
theorem dX1_put_6 : decode cX1_put 6 = .ok (.istore 4, 2) := by decide +kernel
theorem dX1_put_8 : decode cX1_put 8 = .ok (.aload_n 0, 1) := by decide +kernel
theorem dX1_put_9 : decode cX1_put 9 = .ok (.getfield 15, 3) := by decide +kernel
theorem dX1_put_12 : decode cX1_put 12 = .ok (.iload 4, 2) := by decide +kernel
theorem dX1_put_14 : decode cX1_put 14 = .ok (.bipush 12, 2) := by decide +kernel
theorem dX1_put_16 : decode cX1_put 16 = .ok (.imul, 1) := by decide +kernel
theorem dX1_put_17 : decode cX1_put 17 = .ok (.aload_n 0, 1) := by decide +kernel
theorem dX1_put_18 : decode cX1_put 18 = .ok (.getfield 9, 3) := by decide +kernel
theorem dX1_put_21 : decode cX1_put 21 = .ok (.iload 4, 2) := by decide +kernel
theorem dX1_put_23 : decode cX1_put 23 = .ok (.iaload, 1) := by decide +kernel
theorem dX1_put_24 : decode cX1_put 24 = .ok (.iadd, 1) := by decide +kernel
theorem dX1_put_25 : decode cX1_put 25 = .ok (.iload_n 3, 1) := by decide +kernel
theorem dX1_put_26 : decode cX1_put 26 = .ok (.iastore, 1) := by decide +kernel
theorem dX1_put_27 : decode cX1_put 27 = .ok (.aload_n 0, 1) := by decide +kernel
theorem dX1_put_28 : decode cX1_put 28 = .ok (.getfield 9, 3) := by decide +kernel
theorem dX1_put_31 : decode cX1_put 31 = .ok (.iload 4, 2) := by decide +kernel
theorem dX1_put_33 : decode cX1_put 33 = .ok (.dup2, 1) := by decide +kernel
theorem dX1_put_34 : decode cX1_put 34 = .ok (.iaload, 1) := by decide +kernel
theorem dX1_put_35 : decode cX1_put 35 = .ok (.iconst 1, 1) := by decide +kernel
theorem dX1_put_36 : decode cX1_put 36 = .ok (.iadd, 1) := by decide +kernel
theorem dX1_put_37 : decode cX1_put 37 = .ok (.iastore, 1) := by decide +kernel
theorem dX1_put_38 : decode cX1_put 38 = .ok (.return_, 1) := by decide +kernel
theorem dX1_take_0 : decode cX1_take 0 = .ok (.iload_n 1, 1) := by decide +kernel
theorem dX1_take_1 : decode cX1_take 1 = .ok (.bipush 10, 2) := by decide +kernel
theorem dX1_take_3 : decode cX1_take 3 = .ok (.imul, 1) := by decide +kernel
theorem dX1_take_4 : decode cX1_take 4 = .ok (.iload_n 2, 1) := by decide +kernel
theorem dX1_take_5 : decode cX1_take 5 = .ok (.iadd, 1) := by decide +kernel
theorem dX1_take_6 : decode cX1_take 6 = .ok (.istore_n 3, 1) := by decide +kernel
theorem dX1_take_7 : decode cX1_take 7 = .ok (.iload_n 3, 1) := by decide +kernel
theorem dX1_take_8 : decode cX1_take 8 = .ok (.bipush 12, 2) := by decide +kernel
theorem dX1_take_10 : decode cX1_take 10 = .ok (.imul, 1) := by decide +kernel
theorem dX1_take_11 : decode cX1_take 11 = .ok (.istore 4, 2) := by decide +kernel
theorem dX1_take_13 : decode cX1_take 13 = .ok (.aload_n 0, 1) := by decide +kernel
theorem dX1_take_14 : decode cX1_take 14 = .ok (.getfield 15, 3) := by decide +kernel
theorem dX1_take_17 : decode cX1_take 17 = .ok (.iload 4, 2) := by decide +kernel
theorem dX1_take_19 : decode cX1_take 19 = .ok (.iaload, 1) := by decide +kernel
theorem dX1_take_20 : decode cX1_take 20 = .ok (.istore 5, 2) := by decide +kernel
theorem dX1_take_22 : decode cX1_take 22 = .ok (.aload_n 0, 1) := by decide +kernel
theorem dX1_take_23 : decode cX1_take 23 = .ok (.getfield 9, 3) := by decide +kernel
theorem dX1_take_26 : decode cX1_take 26 = .ok (.iload_n 3, 1) := by decide +kernel
theorem dX1_take_27 : decode cX1_take 27 = .ok (.dup2, 1) := by decide +kernel
theorem dX1_take_28 : decode cX1_take 28 = .ok (.iaload, 1) := by decide +kernel
theorem dX1_take_29 : decode cX1_take 29 = .ok (.iconst 1, 1) := by decide +kernel
theorem dX1_take_30 : decode cX1_take 30 = .ok (.isub, 1) := by decide +kernel
theorem dX1_take_31 : decode cX1_take 31 = .ok (.iastore, 1) := by decide +kernel
theorem dX1_take_32 : decode cX1_take 32 = .ok (.aload_n 0, 1) := by decide +kernel
theorem dX1_take_33 : decode cX1_take 33 = .ok (.getfield 15, 3) := by decide +kernel
theorem dX1_take_36 : decode cX1_take 36 = .ok (.iload 4, 2) := by decide +kernel
theorem dX1_take_38 : decode cX1_take 38 = .ok (.iconst 1, 1) := by decide +kernel
theorem dX1_take_39 : decode cX1_take 39 = .ok (.iadd, 1) := by decide +kernel
theorem dX1_take_40 : decode cX1_take 40 = .ok (.aload_n 0, 1) := by decide +kernel
theorem dX1_take_41 : decode cX1_take 41 = .ok (.getfield 15, 3) := by decide +kernel
theorem dX1_take_44 : decode cX1_take 44 = .ok (.iload 4, 2) := by decide +kernel
theorem dX1_take_46 : decode cX1_take 46 = .ok (.aload_n 0, 1) := by decide +kernel
theorem dX1_take_47 : decode cX1_take 47 = .ok (.getfield 9, 3) := by decide +kernel
theorem dX1_take_50 : decode cX1_take 50 = .ok (.iload_n 3, 1) := by decide +kernel
theorem dX1_take_51 : decode cX1_take 51 = .ok (.iaload, 1) := by decide +kernel
theorem dX1_take_52 : decode cX1_take 52 = .ok (.invokestatic 31, 3) := by decide +kernel
theorem dX1_take_55 : decode cX1_take 55 = .ok (.iload 5, 2) := by decide +kernel
theorem dX1_take_57 : decode cX1_take 57 = .ok (.ireturn, 1) := by decide +kernel
theorem dX1_copyFrom_0 : decode cX1_copyFrom 0 = .ok (.aload_n 1, 1) := by decide +kernel
theorem dX1_copyFrom_1 : decode cX1_copyFrom 1 = .ok (.getfield 9, 3) := by decide +kernel
theorem dX1_copyFrom_4 : decode cX1_copyFrom 4 = .ok (.iconst 0, 1) := by decide +kernel
theorem dX1_copyFrom_5 : decode cX1_copyFrom 5 = .ok (.aload_n 0, 1) := by decide +kernel
theorem dX1_copyFrom_6 : decode cX1_copyFrom 6 = .ok (.getfield 9, 3) := by decide +kernel
theorem dX1_copyFrom_9 : decode cX1_copyFrom 9 = .ok (.iconst 0, 1) := by decide +kernel
theorem dX1_copyFrom_10 : decode cX1_copyFrom 10 = .ok (.aload_n 0, 1) := by decide +kernel
theorem dX1_copyFrom_11 : decode cX1_copyFrom 11 = .ok (.getfield 9, 3) := by decide +kernel
theorem dX1_copyFrom_14 : decode cX1_copyFrom 14 = .ok (.arraylength, 1) := by decide +kernel
theorem dX1_copyFrom_15 : decode cX1_copyFrom 15 = .ok (.invokestatic 31, 3) := by decide +kernel
theorem dX1_copyFrom_18 : decode cX1_copyFrom 18 = .ok (.aload_n 1, 1) := by decide +kernel
theorem dX1_copyFrom_19 : decode cX1_copyFrom 19 = .ok (.getfield 15, 3) := by decide +kernel
theorem dX1_copyFrom_22 : decode cX1_copyFrom 22 = .ok (.iconst 0, 1) := by decide +kernel
theorem dX1_copyFrom_23 : decode cX1_copyFrom 23 = .ok (.aload_n 0, 1) := by decide +kernel
theorem dX1_copyFrom_24 : decode cX1_copyFrom 24 = .ok (.getfield 15, 3) := by decide +kernel
theorem dX1_copyFrom_27 : decode cX1_copyFrom 27 = .ok (.iconst 0, 1) := by decide +kernel
theorem dX1_copyFrom_28 : decode cX1_copyFrom 28 = .ok (.aload_n 0, 1) := by decide +kernel
theorem dX1_copyFrom_29 : decode cX1_copyFrom 29 = .ok (.getfield 15, 3) := by decide +kernel
theorem dX1_copyFrom_32 : decode cX1_copyFrom 32 = .ok (.arraylength, 1) := by decide +kernel
theorem dX1_copyFrom_33 : decode cX1_copyFrom 33 = .ok (.invokestatic 31, 3) := by decide +kernel
theorem dX1_copyFrom_36 : decode cX1_copyFrom 36 = .ok (.return_, 1) := by decide +kernel
theorem dX2_init_0 : decode cX2_init 0 = .ok (.aload_n 0, 1) := by decide +kernel
theorem dX2_init_1 : decode cX2_init 1 = .ok (.invokespecial 3, 3) := by decide +kernel
theorem dX2_init_4 : decode cX2_init 4 = .ok (.aload_n 0, 1) := by decide +kernel
theorem dX2_init_5 : decode cX2_init 5 = .ok (.new 9, 3) := by decide +kernel
theorem dX2_init_8 : decode cX2_init 8 = .ok (.dup, 1) := by decide +kernel
theorem dX2_init_9 : decode cX2_init 9 = .ok (.invokespecial 11, 3) := by decide +kernel
theorem dX2_init_12 : decode cX2_init 12 = .ok (.putfield 12, 3) := by decide +kernel
theorem dX2_init_15 : decode cX2_init 15 = .ok (.aload_n 0, 1) := by decide +kernel
theorem dX2_init_16 : decode cX2_init 16 = .ok (.new 18, 3) := by decide +kernel
theorem dX2_init_19 : decode cX2_init 19 = .ok (.dup, 1) := by decide +kernel
theorem dX2_init_20 : decode cX2_init 20 = .ok (.invokespecial 20, 3) := by decide +kernel
theorem dX2_init_23 : decode cX2_init 23 = .ok (.putfield 21, 3) := by decide +kernel
theorem dX2_init_26 : decode cX2_init 26 = .ok (.aload_n 0, 1) := by decide +kernel
theorem dX2_init_27 : decode cX2_init 27 = .ok (.new 25, 3) := by decide +kernel
theorem dX2_init_30 : decode cX2_init 30 = .ok (.dup, 1) := by decide +kernel
theorem dX2_init_31 : decode cX2_init 31 = .ok (.invokespecial 27, 3) := by decide +kernel
theorem dX2_init_34 : decode cX2_init 34 = .ok (.putfield 28, 3) := by decide +kernel
theorem dX2_init_37 : decode cX2_init 37 = .ok (.aload_n 0, 1) := by decide +kernel
theorem dX2_init_38 : decode cX2_init 38 = .ok (.iconst 2, 1) := by decide +kernel
theorem dX2_init_39 : decode cX2_init 39 = .ok (.anewarray 32, 3) := by decide +kernel
theorem dX2_init_42 : decode cX2_init 42 = .ok (.putfield 34, 3) := by decide +kernel
theorem dX2_init_45 : decode cX2_init 45 = .ok (.aload_n 0, 1) := by decide +kernel
theorem dX2_init_46 : decode cX2_init 46 = .ok (.iconst 2, 1) := by decide +kernel
theorem dX2_init_47 : decode cX2_init 47 = .ok (.anewarray 38, 3) := by decide +kernel
theorem dX2_init_50 : decode cX2_init 50 = .ok (.putfield 40, 3) := by decide +kernel
theorem dX2_init_53 : decode cX2_init 53 = .ok (.aload_n 0, 1) := by decide +kernel
theorem dX2_init_54 : decode cX2_init 54 = .ok (.bipush 6, 2) := by decide +kernel
theorem dX2_init_56 : decode cX2_init 56 = .ok (.newarray .int, 2) := by decide +kernel
theorem dX2_init_58 : decode cX2_init 58 = .ok (.putfield 44, 3) := by decide +kernel
theorem dX2_init_61 : decode cX2_init 61 = .ok (.aload_n 0, 1) := by decide +kernel
theorem dX2_init_62 : decode cX2_init 62 = .ok (.bipush 60, 2) := by decide +kernel
theorem dX2_init_64 : decode cX2_init 64 = .ok (.newarray .int, 2) := by decide +kernel
theorem dX2_init_66 : decode cX2_init 66 = .ok (.putfield 48, 3) := by decide +kernel
theorem dX2_init_69 : decode cX2_init 69 = .ok (.iconst 0, 1) := by decide +kernel
theorem dX2_init_70 : decode cX2_init 70 = .ok (.istore_n 1, 1) := by decide +kernel
theorem dX2_init_71 : decode cX2_init 71 = .ok (.iload_n 1, 1) := by decide +kernel
theorem dX2_init_72 : decode cX2_init 72 = .ok (.iconst 2, 1) := by decide +kernel
theorem dX2_init_73 : decode cX2_init 73 = .ok (.if_icmp .ge 35, 3) := by decide +kernel
theorem dX2_init_76 : decode cX2_init 76 = .ok (.aload_n 0, 1) := by decide +kernel
theorem dX2_init_77 : decode cX2_init 77 = .ok (.getfield 34, 3) := by decide +kernel
theorem dX2_init_80 : decode cX2_init 80 = .ok (.iload_n 1, 1) := by decide +kernel
theorem dX2_init_81 : decode cX2_init 81 = .ok (.new 32, 3) := by decide +kernel
theorem dX2_init_84 : decode cX2_init 84 = .ok (.dup, 1) := by decide +kernel
theorem dX2_init_85 : decode cX2_init 85 = .ok (.invokespecial 51, 3) := by decide +kernel
theorem dX2_init_88 : decode cX2_init 88 = .ok (.aastore, 1) := by decide +kernel
theorem dX2_init_89 : decode cX2_init 89 = .ok (.aload_n 0, 1) := by decide +kernel
theorem dX2_init_90 : decode cX2_init 90 = .ok (.getfield 40, 3) := by decide +kernel
theorem dX2_init_93 : decode cX2_init 93 = .ok (.iload_n 1, 1) := by decide +kernel
theorem dX2_init_94 : decode cX2_init 94 = .ok (.new 38, 3) := by decide +kernel
theorem dX2_init_97 : decode cX2_init 97 = .ok (.dup, 1) := by decide +kernel
theorem dX2_init_98 : decode cX2_init 98 = .ok (.invokespecial 52, 3) := by decide +kernel
theorem dX2_init_101 : decode cX2_init 101 = .ok (.aastore, 1) := by decide +kernel
theorem dX2_init_102 : decode cX2_init 102 = .ok (.iinc 1 1, 3) := by decide +kernel
theorem dX2_init_105 : decode cX2_init 105 = .ok (.goto (-34), 3) := by decide +kernel
theorem dX2_init_108 : decode cX2_init 108 = .ok (.aload_n 0, 1) := by decide +kernel
theorem dX2_init_109 : decode cX2_init 109 = .ok (.getfield 48, 3) := by decide +kernel
theorem dX2_init_112 : decode cX2_init 112 = .ok (.iconst (-1), 1) := by decide +kernel
theorem dX2_init_113 : decode cX2_init 113 = .ok (.invokestatic 53, 3) := by decide +kernel
theorem dX2_init_116 : decode cX2_init 116 = .ok (.return_, 1) := by decide +kernel
theorem dX2_isInput_0 : decode cX2_isInput 0 = .ok (.aload_n 0, 1) := by decide +kernel
theorem dX2_isInput_1 : decode cX2_isInput 1 = .ok (.getfield 44, 3) := by decide +kernel
theorem dX2_isInput_4 : decode cX2_isInput 4 = .ok (.iload_n 1, 1) := by decide +kernel
theorem dX2_isInput_5 : decode cX2_isInput 5 = .ok (.iaload, 1) := by decide +kernel
theorem dX2_isInput_6 : decode cX2_isInput 6 = .ok (.iconst (-1), 1) := by decide +kernel
theorem dX2_isInput_7 : decode cX2_isInput 7 = .ok (.if_icmp .eq 7, 3) := by decide +kernel
theorem dX2_isInput_10 : decode cX2_isInput 10 = .ok (.iconst 1, 1) := by decide +kernel
theorem dX2_isInput_11 : decode cX2_isInput 11 = .ok (.goto 4, 3) := by decide +kernel
theorem dX2_isInput_14 : decode cX2_isInput 14 = .ok (.iconst 0, 1) := by decide +kernel
theorem dX2_isInput_15 : decode cX2_isInput 15 = .ok (.ireturn, 1) := by decide +kernel
theorem dX2_appendNode_0 : decode cX2_appendNode 0 = .ok (.aload_n 0, 1) := by decide +kernel
theorem dX2_appendNode_1 : decode cX2_appendNode 1 = .ok (.getfield 12, 3) := by decide +kernel
theorem dX2_appendNode_4 : decode cX2_appendNode 4 = .ok (.iload_n 1, 1) := by decide +kernel
theorem dX2_appendNode_5 : decode cX2_appendNode 5 = .ok (.invokevirtual 59, 3) := by decide +kernel
theorem dX2_appendNode_8 : decode cX2_appendNode 8 = .ok (.istore_n 3, 1) := by decide +kernel
theorem dX2_appendNode_9 : decode cX2_appendNode 9 = .ok (.aload_n 0, 1) := by decide +kernel
theorem dX2_appendNode_10 : decode cX2_appendNode 10 = .ok (.getfield 44, 3) := by decide +kernel
theorem dX2_appendNode_13 : decode cX2_appendNode 13 = .ok (.iload_n 3, 1) := by decide +kernel
theorem dX2_appendNode_14 : decode cX2_appendNode 14 = .ok (.iload_n 2, 1) := by decide +kernel
theorem dX2_appendNode_15 : decode cX2_appendNode 15 = .ok (.ifCond .eq 7, 3) := by decide +kernel
theorem dX2_appendNode_18 : decode cX2_appendNode 18 = .ok (.iconst 0, 1) := by decide +kernel
theorem dX2_appendNode_19 : decode cX2_appendNode 19 = .ok (.goto 4, 3) := by decide +kernel
theorem dX2_appendNode_22 : decode cX2_appendNode 22 = .ok (.iconst (-1), 1) := by decide +kernel
theorem dX2_appendNode_23 : decode cX2_appendNode 23 = .ok (.iastore, 1) := by decide +kernel
theorem dX2_appendNode_24 : decode cX2_appendNode 24 = .ok (.iload_n 2, 1) := by decide +kernel
theorem dX2_appendNode_25 : decode cX2_appendNode 25 = .ok (.ifCond .eq 34, 3) := by decide +kernel
theorem dX2_appendNode_28 : decode cX2_appendNode 28 = .ok (.iconst 0, 1) := by decide +kernel
theorem dX2_appendNode_29 : decode cX2_appendNode 29 = .ok (.istore 4, 2) := by decide +kernel
theorem dX2_appendNode_31 : decode cX2_appendNode 31 = .ok (.iload 4, 2) := by decide +kernel
theorem dX2_appendNode_33 : decode cX2_appendNode 33 = .ok (.iconst 2, 1) := by decide +kernel
theorem dX2_appendNode_34 : decode cX2_appendNode 34 = .ok (.if_icmp .ge 25, 3) := by decide +kernel
theorem dX2_appendNode_37 : decode cX2_appendNode 37 = .ok (.aload_n 0, 1) := by decide +kernel
theorem dX2_appendNode_38 : decode cX2_appendNode 38 = .ok (.getfield 34, 3) := by decide +kernel
theorem dX2_appendNode_41 : decode cX2_appendNode 41 = .ok (.iload 4, 2) := by decide +kernel
theorem dX2_appendNode_43 : decode cX2_appendNode 43 = .ok (.aaload, 1) := by decide +kernel
theorem dX2_appendNode_44 : decode cX2_appendNode 44 = .ok (.iload_n 3, 1) := by decide +kernel
theorem dX2_appendNode_45 : decode cX2_appendNode 45 = .ok (.iconst 0, 1) := by decide +kernel
theorem dX2_appendNode_46 : decode cX2_appendNode 46 = .ok (.invokestatic 63, 3) := by decide +kernel
theorem dX2_appendNode_49 : decode cX2_appendNode 49 = .ok (.iconst 1, 1) := by decide +kernel
theorem dX2_appendNode_50 : decode cX2_appendNode 50 = .ok (.invokevirtual 67, 3) := by decide +kernel
theorem dX2_appendNode_53 : decode cX2_appendNode 53 = .ok (.iinc 4 1, 3) := by decide +kernel
theorem dX2_appendNode_56 : decode cX2_appendNode 56 = .ok (.goto (-25), 3) := by decide +kernel
theorem dX2_appendNode_59 : decode cX2_appendNode 59 = .ok (.iload_n 3, 1) := by decide +kernel
theorem dX2_appendNode_60 : decode cX2_appendNode 60 = .ok (.ireturn, 1) := by decide +kernel
theorem dX2_putMessages_0 : decode cX2_putMessages 0 = .ok (.iconst 0, 1) := by decide +kernel
theorem dX2_putMessages_1 : decode cX2_putMessages 1 = .ok (.istore 5, 2) := by decide +kernel
theorem dX2_putMessages_3 : decode cX2_putMessages 3 = .ok (.iload 5, 2) := by decide +kernel
theorem dX2_putMessages_5 : decode cX2_putMessages 5 = .ok (.aload_n 0, 1) := by decide +kernel
theorem dX2_putMessages_6 : decode cX2_putMessages 6 = .ok (.getfield 12, 3) := by decide +kernel
theorem dX2_putMessages_9 : decode cX2_putMessages 9 = .ok (.getfield 71, 3) := by decide +kernel
theorem dX2_putMessages_12 : decode cX2_putMessages 12 = .ok (.if_icmp .ge 28, 3) := by decide +kernel
theorem dX2_putMessages_15 : decode cX2_putMessages 15 = .ok (.iload_n 2, 1) := by decide +kernel
theorem dX2_putMessages_16 : decode cX2_putMessages 16 = .ok (.iload 5, 2) := by decide +kernel
theorem dX2_putMessages_18 : decode cX2_putMessages 18 = .ok (.invokestatic 75, 3) := by decide +kernel
theorem dX2_putMessages_21 : decode cX2_putMessages 21 = .ok (.ifCond .eq 13, 3) := by decide +kernel
theorem dX2_putMessages_24 : decode cX2_putMessages 24 = .ok (.aload_n 0, 1) := by decide +kernel
theorem dX2_putMessages_25 : decode cX2_putMessages 25 = .ok (.iload_n 1, 1) := by decide +kernel
theorem dX2_putMessages_26 : decode cX2_putMessages 26 = .ok (.iload 5, 2) := by decide +kernel
theorem dX2_putMessages_28 : decode cX2_putMessages 28 = .ok (.iload_n 3, 1) := by decide +kernel
theorem dX2_putMessages_29 : decode cX2_putMessages 29 = .ok (.iload 4, 2) := by decide +kernel
theorem dX2_putMessages_31 : decode cX2_putMessages 31 = .ok (.invokevirtual 79, 3) := by decide +kernel
theorem dX2_putMessages_34 : decode cX2_putMessages 34 = .ok (.iinc 5 1, 3) := by decide +kernel
theorem dX2_putMessages_37 : decode cX2_putMessages 37 = .ok (.goto (-34), 3) := by decide +kernel
theorem dX2_putMessages_40 : decode cX2_putMessages 40 = .ok (.return_, 1) := by decide +kernel
theorem dX2_putMessage_0 : decode cX2_putMessage 0 = .ok (.aload_n 0, 1) := by decide +kernel
theorem dX2_putMessage_1 : decode cX2_putMessage 1 = .ok (.getfield 21, 3) := by decide +kernel
theorem dX2_putMessage_4 : decode cX2_putMessage 4 = .ok (.iload_n 3, 1) := by decide +kernel
theorem dX2_putMessage_5 : decode cX2_putMessage 5 = .ok (.iload_n 2, 1) := by decide +kernel
theorem dX2_putMessage_6 : decode cX2_putMessage 6 = .ok (.iload 4, 2) := by decide +kernel
theorem dX2_putMessage_8 : decode cX2_putMessage 8 = .ok (.invokevirtual 83, 3) := by decide +kernel
theorem dX2_putMessage_11 : decode cX2_putMessage 11 = .ok (.aload_n 0, 1) := by decide +kernel
theorem dX2_putMessage_12 : decode cX2_putMessage 12 = .ok (.iload_n 1, 1) := by decide +kernel
theorem dX2_putMessage_13 : decode cX2_putMessage 13 = .ok (.bipush 6, 2) := by decide +kernel
theorem dX2_putMessage_15 : decode cX2_putMessage 15 = .ok (.iload_n 2, 1) := by decide +kernel
theorem dX2_putMessage_16 : decode cX2_putMessage 16 = .ok (.iadd, 1) := by decide +kernel
theorem dX2_putMessage_17 : decode cX2_putMessage 17 = .ok (.iload 4, 2) := by decide +kernel
theorem dX2_putMessage_19 : decode cX2_putMessage 19 = .ok (.invokestatic 63, 3) := by decide +kernel
theorem dX2_putMessage_22 : decode cX2_putMessage 22 = .ok (.iconst 1, 1) := by decide +kernel
theorem dX2_putMessage_23 : decode cX2_putMessage 23 = .ok (.invokevirtual 87, 3) := by decide +kernel
theorem dX2_putMessage_26 : decode cX2_putMessage 26 = .ok (.return_, 1) := by decide +kernel
theorem dX2_update_0 : decode cX2_update 0 = .ok (.aload_n 0, 1) := by decide +kernel
theorem dX2_update_1 : decode cX2_update 1 = .ok (.getfield 34, 3) := by decide +kernel
theorem dX2_update_4 : decode cX2_update 4 = .ok (.iload_n 1, 1) := by decide +kernel
theorem dX2_update_5 : decode cX2_update 5 = .ok (.aaload, 1) := by decide +kernel
theorem dX2_update_6 : decode cX2_update 6 = .ok (.iload_n 2, 1) := by decide +kernel
theorem dX2_update_7 : decode cX2_update 7 = .ok (.iload_n 3, 1) := by decide +kernel
theorem dX2_update_8 : decode cX2_update 8 = .ok (.invokevirtual 67, 3) := by decide +kernel
theorem dX2_update_11 : decode cX2_update 11 = .ok (.aload_n 0, 1) := by decide +kernel
theorem dX2_update_12 : decode cX2_update 12 = .ok (.getfield 40, 3) := by decide +kernel
theorem dX2_update_15 : decode cX2_update 15 = .ok (.iconst 1, 1) := by decide +kernel
theorem dX2_update_16 : decode cX2_update 16 = .ok (.iload_n 1, 1) := by decide +kernel
theorem dX2_update_17 : decode cX2_update 17 = .ok (.isub, 1) := by decide +kernel
theorem dX2_update_18 : decode cX2_update 18 = .ok (.aaload, 1) := by decide +kernel
theorem dX2_update_19 : decode cX2_update 19 = .ok (.iload_n 2, 1) := by decide +kernel
theorem dX2_update_20 : decode cX2_update 20 = .ok (.iload_n 3, 1) := by decide +kernel
theorem dX2_update_21 : decode cX2_update 21 = .ok (.invokevirtual 90, 3) := by decide +kernel
theorem dX2_update_24 : decode cX2_update 24 = .ok (.return_, 1) := by decide +kernel
theorem dX2_recordDelivery_0 : decode cX2_recordDelivery 0 = .ok (.iload_n 1, 1) := by decide +kernel
theorem dX2_recordDelivery_1 : decode cX2_recordDelivery 1 = .ok (.bipush 10, 2) := by decide +kernel
theorem dX2_recordDelivery_3 : decode cX2_recordDelivery 3 = .ok (.imul, 1) := by decide +kernel
theorem dX2_recordDelivery_4 : decode cX2_recordDelivery 4 = .ok (.iload_n 2, 1) := by decide +kernel
theorem dX2_recordDelivery_5 : decode cX2_recordDelivery 5 = .ok (.bipush 100, 2) := by decide +kernel
theorem dX2_recordDelivery_7 : decode cX2_recordDelivery 7 = .ok (.idiv, 1) := by decide +kernel
theorem dX2_recordDelivery_8 : decode cX2_recordDelivery 8 = .ok (.iadd, 1) := by decide +kernel
theorem dX2_recordDelivery_9 : decode cX2_recordDelivery 9 = .ok (.istore_n 3, 1) := by decide +kernel
theorem dX2_recordDelivery_10 : decode cX2_recordDelivery 10 = .ok (.aload_n 0, 1) := by decide +kernel
theorem dX2_recordDelivery_11 : decode cX2_recordDelivery 11 = .ok (.getfield 48, 3) := by decide +kernel
theorem dX2_recordDelivery_14 : decode cX2_recordDelivery 14 = .ok (.iload_n 3, 1) := by decide +kernel
theorem dX2_recordDelivery_15 : decode cX2_recordDelivery 15 = .ok (.aload_n 0, 1) := by decide +kernel
theorem dX2_recordDelivery_16 : decode cX2_recordDelivery 16 = .ok (.getfield 48, 3) := by decide +kernel
theorem dX2_recordDelivery_19 : decode cX2_recordDelivery 19 = .ok (.iload_n 3, 1) := by decide +kernel
theorem dX2_recordDelivery_20 : decode cX2_recordDelivery 20 = .ok (.iaload, 1) := by decide +kernel
theorem dX2_recordDelivery_21 : decode cX2_recordDelivery 21 = .ok (.iload_n 2, 1) := by decide +kernel
theorem dX2_recordDelivery_22 : decode cX2_recordDelivery 22 = .ok (.invokestatic 93, 3) := by decide +kernel
theorem dX2_recordDelivery_25 : decode cX2_recordDelivery 25 = .ok (.invokestatic 96, 3) := by decide +kernel
theorem dX2_recordDelivery_28 : decode cX2_recordDelivery 28 = .ok (.iastore, 1) := by decide +kernel
theorem dX2_recordDelivery_29 : decode cX2_recordDelivery 29 = .ok (.aload_n 0, 1) := by decide +kernel
theorem dX2_recordDelivery_30 : decode cX2_recordDelivery 30 = .ok (.dup, 1) := by decide +kernel
theorem dX2_recordDelivery_31 : decode cX2_recordDelivery 31 = .ok (.getfield 101, 3) := by decide +kernel
theorem dX2_recordDelivery_34 : decode cX2_recordDelivery 34 = .ok (.iconst 1, 1) := by decide +kernel
theorem dX2_recordDelivery_35 : decode cX2_recordDelivery 35 = .ok (.iadd, 1) := by decide +kernel
theorem dX2_recordDelivery_36 : decode cX2_recordDelivery 36 = .ok (.putfield 101, 3) := by decide +kernel
theorem dX2_recordDelivery_39 : decode cX2_recordDelivery 39 = .ok (.return_, 1) := by decide +kernel
theorem dX2_recordArrival_0 : decode cX2_recordArrival 0 = .ok (.iload_n 2, 1) := by decide +kernel
theorem dX2_recordArrival_1 : decode cX2_recordArrival 1 = .ok (.bipush 100, 2) := by decide +kernel
theorem dX2_recordArrival_3 : decode cX2_recordArrival 3 = .ok (.idiv, 1) := by decide +kernel
theorem dX2_recordArrival_4 : decode cX2_recordArrival 4 = .ok (.istore_n 3, 1) := by decide +kernel
theorem dX2_recordArrival_5 : decode cX2_recordArrival 5 = .ok (.iload_n 3, 1) := by decide +kernel
theorem dX2_recordArrival_6 : decode cX2_recordArrival 6 = .ok (.bipush 10, 2) := by decide +kernel
theorem dX2_recordArrival_8 : decode cX2_recordArrival 8 = .ok (.if_icmp .ge 38, 3) := by decide +kernel
theorem dX2_recordArrival_11 : decode cX2_recordArrival 11 = .ok (.aload_n 0, 1) := by decide +kernel
theorem dX2_recordArrival_12 : decode cX2_recordArrival 12 = .ok (.getfield 48, 3) := by decide +kernel
theorem dX2_recordArrival_15 : decode cX2_recordArrival 15 = .ok (.iload_n 1, 1) := by decide +kernel
theorem dX2_recordArrival_16 : decode cX2_recordArrival 16 = .ok (.bipush 10, 2) := by decide +kernel
theorem dX2_recordArrival_18 : decode cX2_recordArrival 18 = .ok (.imul, 1) := by decide +kernel
theorem dX2_recordArrival_19 : decode cX2_recordArrival 19 = .ok (.iload_n 3, 1) := by decide +kernel
theorem dX2_recordArrival_20 : decode cX2_recordArrival 20 = .ok (.iadd, 1) := by decide +kernel
theorem dX2_recordArrival_21 : decode cX2_recordArrival 21 = .ok (.iaload, 1) := by decide +kernel
theorem dX2_recordArrival_22 : decode cX2_recordArrival 22 = .ok (.iload_n 2, 1) := by decide +kernel
theorem dX2_recordArrival_23 : decode cX2_recordArrival 23 = .ok (.invokestatic 93, 3) := by decide +kernel
theorem dX2_recordArrival_26 : decode cX2_recordArrival 26 = .ok (.if_icmp .lt 14, 3) := by decide +kernel
theorem dX2_recordArrival_29 : decode cX2_recordArrival 29 = .ok (.aload_n 0, 1) := by decide +kernel
theorem dX2_recordArrival_30 : decode cX2_recordArrival 30 = .ok (.dup, 1) := by decide +kernel
theorem dX2_recordArrival_31 : decode cX2_recordArrival 31 = .ok (.getfield 104, 3) := by decide +kernel
theorem dX2_recordArrival_34 : decode cX2_recordArrival 34 = .ok (.iconst 1, 1) := by decide +kernel
theorem dX2_recordArrival_35 : decode cX2_recordArrival 35 = .ok (.iadd, 1) := by decide +kernel
theorem dX2_recordArrival_36 : decode cX2_recordArrival 36 = .ok (.putfield 104, 3) := by decide +kernel
theorem dX2_recordArrival_39 : decode cX2_recordArrival 39 = .ok (.return_, 1) := by decide +kernel
theorem dX2_recordArrival_40 : decode cX2_recordArrival 40 = .ok (.iinc 3 1, 3) := by decide +kernel
theorem dX2_recordArrival_43 : decode cX2_recordArrival 43 = .ok (.goto (-38), 3) := by decide +kernel
theorem dX2_recordArrival_46 : decode cX2_recordArrival 46 = .ok (.return_, 1) := by decide +kernel
theorem dX2_copyFrom_0 : decode cX2_copyFrom 0 = .ok (.aload_n 0, 1) := by decide +kernel
theorem dX2_copyFrom_1 : decode cX2_copyFrom 1 = .ok (.aload_n 1, 1) := by decide +kernel
theorem dX2_copyFrom_2 : decode cX2_copyFrom 2 = .ok (.getfield 107, 3) := by decide +kernel
theorem dX2_copyFrom_5 : decode cX2_copyFrom 5 = .ok (.putfield 107, 3) := by decide +kernel
theorem dX2_copyFrom_8 : decode cX2_copyFrom 8 = .ok (.aload_n 0, 1) := by decide +kernel
theorem dX2_copyFrom_9 : decode cX2_copyFrom 9 = .ok (.aload_n 1, 1) := by decide +kernel
theorem dX2_copyFrom_10 : decode cX2_copyFrom 10 = .ok (.getfield 101, 3) := by decide +kernel
theorem dX2_copyFrom_13 : decode cX2_copyFrom 13 = .ok (.putfield 101, 3) := by decide +kernel
theorem dX2_copyFrom_16 : decode cX2_copyFrom 16 = .ok (.aload_n 0, 1) := by decide +kernel
theorem dX2_copyFrom_17 : decode cX2_copyFrom 17 = .ok (.aload_n 1, 1) := by decide +kernel
theorem dX2_copyFrom_18 : decode cX2_copyFrom 18 = .ok (.getfield 104, 3) := by decide +kernel
theorem dX2_copyFrom_21 : decode cX2_copyFrom 21 = .ok (.putfield 104, 3) := by decide +kernel
theorem dX2_copyFrom_24 : decode cX2_copyFrom 24 = .ok (.aload_n 0, 1) := by decide +kernel
theorem dX2_copyFrom_25 : decode cX2_copyFrom 25 = .ok (.getfield 12, 3) := by decide +kernel
theorem dX2_copyFrom_28 : decode cX2_copyFrom 28 = .ok (.aload_n 1, 1) := by decide +kernel
theorem dX2_copyFrom_29 : decode cX2_copyFrom 29 = .ok (.getfield 12, 3) := by decide +kernel
theorem dX2_copyFrom_32 : decode cX2_copyFrom 32 = .ok (.invokevirtual 111, 3) := by decide +kernel
theorem dX2_copyFrom_35 : decode cX2_copyFrom 35 = .ok (.aload_n 0, 1) := by decide +kernel
theorem dX2_copyFrom_36 : decode cX2_copyFrom 36 = .ok (.getfield 21, 3) := by decide +kernel
theorem dX2_copyFrom_39 : decode cX2_copyFrom 39 = .ok (.aload_n 1, 1) := by decide +kernel
theorem dX2_copyFrom_40 : decode cX2_copyFrom 40 = .ok (.getfield 21, 3) := by decide +kernel
theorem dX2_copyFrom_43 : decode cX2_copyFrom 43 = .ok (.invokevirtual 115, 3) := by decide +kernel
theorem dX2_copyFrom_46 : decode cX2_copyFrom 46 = .ok (.aload_n 0, 1) := by decide +kernel
theorem dX2_copyFrom_47 : decode cX2_copyFrom 47 = .ok (.getfield 28, 3) := by decide +kernel
theorem dX2_copyFrom_50 : decode cX2_copyFrom 50 = .ok (.aload_n 1, 1) := by decide +kernel
theorem dX2_copyFrom_51 : decode cX2_copyFrom 51 = .ok (.getfield 28, 3) := by decide +kernel
theorem dX2_copyFrom_54 : decode cX2_copyFrom 54 = .ok (.invokevirtual 118, 3) := by decide +kernel
theorem dX2_copyFrom_57 : decode cX2_copyFrom 57 = .ok (.iconst 0, 1) := by decide +kernel
theorem dX2_copyFrom_58 : decode cX2_copyFrom 58 = .ok (.istore_n 2, 1) := by decide +kernel
theorem dX2_copyFrom_59 : decode cX2_copyFrom 59 = .ok (.iload_n 2, 1) := by decide +kernel
theorem dX2_copyFrom_60 : decode cX2_copyFrom 60 = .ok (.iconst 2, 1) := by decide +kernel
theorem dX2_copyFrom_61 : decode cX2_copyFrom 61 = .ok (.if_icmp .ge 39, 3) := by decide +kernel
theorem dX2_copyFrom_64 : decode cX2_copyFrom 64 = .ok (.aload_n 0, 1) := by decide +kernel
theorem dX2_copyFrom_65 : decode cX2_copyFrom 65 = .ok (.getfield 34, 3) := by decide +kernel
theorem dX2_copyFrom_68 : decode cX2_copyFrom 68 = .ok (.iload_n 2, 1) := by decide +kernel
theorem dX2_copyFrom_69 : decode cX2_copyFrom 69 = .ok (.aaload, 1) := by decide +kernel
theorem dX2_copyFrom_70 : decode cX2_copyFrom 70 = .ok (.aload_n 1, 1) := by decide +kernel
theorem dX2_copyFrom_71 : decode cX2_copyFrom 71 = .ok (.getfield 34, 3) := by decide +kernel
theorem dX2_copyFrom_74 : decode cX2_copyFrom 74 = .ok (.iload_n 2, 1) := by decide +kernel
theorem dX2_copyFrom_75 : decode cX2_copyFrom 75 = .ok (.aaload, 1) := by decide +kernel
theorem dX2_copyFrom_76 : decode cX2_copyFrom 76 = .ok (.invokevirtual 121, 3) := by decide +kernel
theorem dX2_copyFrom_79 : decode cX2_copyFrom 79 = .ok (.aload_n 0, 1) := by decide +kernel
theorem dX2_copyFrom_80 : decode cX2_copyFrom 80 = .ok (.getfield 40, 3) := by decide +kernel
theorem dX2_copyFrom_83 : decode cX2_copyFrom 83 = .ok (.iload_n 2, 1) := by decide +kernel
theorem dX2_copyFrom_84 : decode cX2_copyFrom 84 = .ok (.aaload, 1) := by decide +kernel
theorem dX2_copyFrom_85 : decode cX2_copyFrom 85 = .ok (.aload_n 1, 1) := by decide +kernel
theorem dX2_copyFrom_86 : decode cX2_copyFrom 86 = .ok (.getfield 40, 3) := by decide +kernel
theorem dX2_copyFrom_89 : decode cX2_copyFrom 89 = .ok (.iload_n 2, 1) := by decide +kernel
theorem dX2_copyFrom_90 : decode cX2_copyFrom 90 = .ok (.aaload, 1) := by decide +kernel
theorem dX2_copyFrom_91 : decode cX2_copyFrom 91 = .ok (.invokevirtual 124, 3) := by decide +kernel
theorem dX2_copyFrom_94 : decode cX2_copyFrom 94 = .ok (.iinc 2 1, 3) := by decide +kernel
theorem dX2_copyFrom_97 : decode cX2_copyFrom 97 = .ok (.goto (-38), 3) := by decide +kernel
theorem dX2_copyFrom_100 : decode cX2_copyFrom 100 = .ok (.aload_n 1, 1) := by decide +kernel
theorem dX2_copyFrom_101 : decode cX2_copyFrom 101 = .ok (.getfield 44, 3) := by decide +kernel
theorem dX2_copyFrom_104 : decode cX2_copyFrom 104 = .ok (.iconst 0, 1) := by decide +kernel
theorem dX2_copyFrom_105 : decode cX2_copyFrom 105 = .ok (.aload_n 0, 1) := by decide +kernel
theorem dX2_copyFrom_106 : decode cX2_copyFrom 106 = .ok (.getfield 44, 3) := by decide +kernel
theorem dX2_copyFrom_109 : decode cX2_copyFrom 109 = .ok (.iconst 0, 1) := by decide +kernel
theorem dX2_copyFrom_110 : decode cX2_copyFrom 110 = .ok (.bipush 6, 2) := by decide +kernel
theorem dX2_copyFrom_112 : decode cX2_copyFrom 112 = .ok (.invokestatic 127, 3) := by decide +kernel
theorem dX2_copyFrom_115 : decode cX2_copyFrom 115 = .ok (.aload_n 1, 1) := by decide +kernel
theorem dX2_copyFrom_116 : decode cX2_copyFrom 116 = .ok (.getfield 48, 3) := by decide +kernel
theorem dX2_copyFrom_119 : decode cX2_copyFrom 119 = .ok (.iconst 0, 1) := by decide +kernel
theorem dX2_copyFrom_120 : decode cX2_copyFrom 120 = .ok (.aload_n 0, 1) := by decide +kernel
theorem dX2_copyFrom_121 : decode cX2_copyFrom 121 = .ok (.getfield 48, 3) := by decide +kernel
theorem dX2_copyFrom_124 : decode cX2_copyFrom 124 = .ok (.iconst 0, 1) := by decide +kernel
theorem dX2_copyFrom_125 : decode cX2_copyFrom 125 = .ok (.aload_n 0, 1) := by decide +kernel
theorem dX2_copyFrom_126 : decode cX2_copyFrom 126 = .ok (.getfield 48, 3) := by decide +kernel
theorem dX2_copyFrom_129 : decode cX2_copyFrom 129 = .ok (.arraylength, 1) := by decide +kernel
theorem dX2_copyFrom_130 : decode cX2_copyFrom 130 = .ok (.invokestatic 127, 3) := by decide +kernel
theorem dX2_copyFrom_133 : decode cX2_copyFrom 133 = .ok (.return_, 1) := by decide +kernel
theorem dX3_init_0 : decode cX3_init 0 = .ok (.aload_n 0, 1) := by decide +kernel
theorem dX3_init_1 : decode cX3_init 1 = .ok (.invokespecial 1, 3) := by decide +kernel
theorem dX3_init_4 : decode cX3_init 4 = .ok (.aload_n 0, 1) := by decide +kernel
theorem dX3_init_5 : decode cX3_init 5 = .ok (.bipush 32, 2) := by decide +kernel
theorem dX3_init_7 : decode cX3_init 7 = .ok (.newarray .int, 2) := by decide +kernel
theorem dX3_init_9 : decode cX3_init 9 = .ok (.putfield 9, 3) := by decide +kernel
theorem dX3_init_12 : decode cX3_init 12 = .ok (.return_, 1) := by decide +kernel
theorem dX3_add_0 : decode cX3_add 0 = .ok (.aload_n 0, 1) := by decide +kernel
theorem dX3_add_1 : decode cX3_add 1 = .ok (.getfield 13, 3) := by decide +kernel
theorem dX3_add_4 : decode cX3_add 4 = .ok (.sipush 6144, 3) := by decide +kernel
theorem dX3_add_7 : decode cX3_add 7 = .ok (.if_icmp .lt 4, 3) := by decide +kernel
theorem dX3_add_10 : decode cX3_add 10 = .ok (.return_, 1) := by decide +kernel
theorem dX3_add_11 : decode cX3_add 11 = .ok (.aload_n 0, 1) := by decide +kernel
theorem dX3_add_12 : decode cX3_add 12 = .ok (.getfield 17, 3) := by decide +kernel
theorem dX3_add_15 : decode cX3_add 15 = .ok (.aload_n 0, 1) := by decide +kernel
theorem dX3_add_16 : decode cX3_add 16 = .ok (.getfield 13, 3) := by decide +kernel
theorem dX3_add_19 : decode cX3_add 19 = .ok (.iadd, 1) := by decide +kernel
theorem dX3_add_20 : decode cX3_add 20 = .ok (.aload_n 0, 1) := by decide +kernel
theorem dX3_add_21 : decode cX3_add 21 = .ok (.getfield 9, 3) := by decide +kernel
theorem dX3_add_24 : decode cX3_add 24 = .ok (.arraylength, 1) := by decide +kernel
theorem dX3_add_25 : decode cX3_add 25 = .ok (.if_icmp .ne 7, 3) := by decide +kernel
theorem dX3_add_28 : decode cX3_add 28 = .ok (.aload_n 0, 1) := by decide +kernel
theorem dX3_add_29 : decode cX3_add 29 = .ok (.invokevirtual 20, 3) := by decide +kernel
theorem dX3_add_32 : decode cX3_add 32 = .ok (.aload_n 0, 1) := by decide +kernel
theorem dX3_add_33 : decode cX3_add 33 = .ok (.getfield 9, 3) := by decide +kernel
theorem dX3_add_36 : decode cX3_add 36 = .ok (.aload_n 0, 1) := by decide +kernel
theorem dX3_add_37 : decode cX3_add 37 = .ok (.getfield 17, 3) := by decide +kernel
theorem dX3_add_40 : decode cX3_add 40 = .ok (.aload_n 0, 1) := by decide +kernel
theorem dX3_add_41 : decode cX3_add 41 = .ok (.getfield 13, 3) := by decide +kernel
theorem dX3_add_44 : decode cX3_add 44 = .ok (.iadd, 1) := by decide +kernel
theorem dX3_add_45 : decode cX3_add 45 = .ok (.iload_n 2, 1) := by decide +kernel
theorem dX3_add_46 : decode cX3_add 46 = .ok (.ifCond .le 7, 3) := by decide +kernel
theorem dX3_add_49 : decode cX3_add 49 = .ok (.iload_n 1, 1) := by decide +kernel
theorem dX3_add_50 : decode cX3_add 50 = .ok (.goto 6, 3) := by decide +kernel
theorem dX3_add_53 : decode cX3_add 53 = .ok (.iload_n 1, 1) := by decide +kernel
theorem dX3_add_54 : decode cX3_add 54 = .ok (.iconst (-1), 1) := by decide +kernel
theorem dX3_add_55 : decode cX3_add 55 = .ok (.ixor, 1) := by decide +kernel
theorem dX3_add_56 : decode cX3_add 56 = .ok (.iastore, 1) := by decide +kernel
theorem dX3_add_57 : decode cX3_add 57 = .ok (.aload_n 0, 1) := by decide +kernel
theorem dX3_add_58 : decode cX3_add 58 = .ok (.dup, 1) := by decide +kernel
theorem dX3_add_59 : decode cX3_add 59 = .ok (.getfield 13, 3) := by decide +kernel
theorem dX3_add_62 : decode cX3_add 62 = .ok (.iconst 1, 1) := by decide +kernel
theorem dX3_add_63 : decode cX3_add 63 = .ok (.iadd, 1) := by decide +kernel
theorem dX3_add_64 : decode cX3_add 64 = .ok (.putfield 13, 3) := by decide +kernel
theorem dX3_add_67 : decode cX3_add 67 = .ok (.return_, 1) := by decide +kernel
theorem dX3_moveTo_0 : decode cX3_moveTo 0 = .ok (.iload_n 2, 1) := by decide +kernel
theorem dX3_moveTo_1 : decode cX3_moveTo 1 = .ok (.aload_n 0, 1) := by decide +kernel
theorem dX3_moveTo_2 : decode cX3_moveTo 2 = .ok (.getfield 13, 3) := by decide +kernel
theorem dX3_moveTo_5 : decode cX3_moveTo 5 = .ok (.invokestatic 23, 3) := by decide +kernel
theorem dX3_moveTo_8 : decode cX3_moveTo 8 = .ok (.istore_n 3, 1) := by decide +kernel
theorem dX3_moveTo_9 : decode cX3_moveTo 9 = .ok (.iconst 0, 1) := by decide +kernel
theorem dX3_moveTo_10 : decode cX3_moveTo 10 = .ok (.istore 4, 2) := by decide +kernel
theorem dX3_moveTo_12 : decode cX3_moveTo 12 = .ok (.iload 4, 2) := by decide +kernel
theorem dX3_moveTo_14 : decode cX3_moveTo 14 = .ok (.iload_n 3, 1) := by decide +kernel
theorem dX3_moveTo_15 : decode cX3_moveTo 15 = .ok (.if_icmp .ge 47, 3) := by decide +kernel
theorem dX3_moveTo_18 : decode cX3_moveTo 18 = .ok (.aload_n 0, 1) := by decide +kernel
theorem dX3_moveTo_19 : decode cX3_moveTo 19 = .ok (.getfield 9, 3) := by decide +kernel
theorem dX3_moveTo_22 : decode cX3_moveTo 22 = .ok (.aload_n 0, 1) := by decide +kernel
theorem dX3_moveTo_23 : decode cX3_moveTo 23 = .ok (.getfield 17, 3) := by decide +kernel
theorem dX3_moveTo_26 : decode cX3_moveTo 26 = .ok (.iload 4, 2) := by decide +kernel
theorem dX3_moveTo_28 : decode cX3_moveTo 28 = .ok (.iadd, 1) := by decide +kernel
theorem dX3_moveTo_29 : decode cX3_moveTo 29 = .ok (.iaload, 1) := by decide +kernel
theorem dX3_moveTo_30 : decode cX3_moveTo 30 = .ok (.istore 5, 2) := by decide +kernel
theorem dX3_moveTo_32 : decode cX3_moveTo 32 = .ok (.iload 5, 2) := by decide +kernel
theorem dX3_moveTo_34 : decode cX3_moveTo 34 = .ok (.ifCond .lt 13, 3) := by decide +kernel
theorem dX3_moveTo_37 : decode cX3_moveTo 37 = .ok (.aload_n 1, 1) := by decide +kernel
theorem dX3_moveTo_38 : decode cX3_moveTo 38 = .ok (.iload 5, 2) := by decide +kernel
theorem dX3_moveTo_40 : decode cX3_moveTo 40 = .ok (.iconst 1, 1) := by decide +kernel
theorem dX3_moveTo_41 : decode cX3_moveTo 41 = .ok (.invokevirtual 29, 3) := by decide +kernel
theorem dX3_moveTo_44 : decode cX3_moveTo 44 = .ok (.goto 12, 3) := by decide +kernel
theorem dX3_moveTo_47 : decode cX3_moveTo 47 = .ok (.aload_n 1, 1) := by decide +kernel
theorem dX3_moveTo_48 : decode cX3_moveTo 48 = .ok (.iload 5, 2) := by decide +kernel
theorem dX3_moveTo_50 : decode cX3_moveTo 50 = .ok (.iconst (-1), 1) := by decide +kernel
theorem dX3_moveTo_51 : decode cX3_moveTo 51 = .ok (.ixor, 1) := by decide +kernel
theorem dX3_moveTo_52 : decode cX3_moveTo 52 = .ok (.iconst (-1), 1) := by decide +kernel
theorem dX3_moveTo_53 : decode cX3_moveTo 53 = .ok (.invokevirtual 29, 3) := by decide +kernel
theorem dX3_moveTo_56 : decode cX3_moveTo 56 = .ok (.iinc 4 1, 3) := by decide +kernel
theorem dX3_moveTo_59 : decode cX3_moveTo 59 = .ok (.goto (-47), 3) := by decide +kernel
theorem dX3_moveTo_62 : decode cX3_moveTo 62 = .ok (.aload_n 0, 1) := by decide +kernel
theorem dX3_moveTo_63 : decode cX3_moveTo 63 = .ok (.dup, 1) := by decide +kernel
theorem dX3_moveTo_64 : decode cX3_moveTo 64 = .ok (.getfield 17, 3) := by decide +kernel
theorem dX3_moveTo_67 : decode cX3_moveTo 67 = .ok (.iload_n 3, 1) := by decide +kernel
theorem dX3_moveTo_68 : decode cX3_moveTo 68 = .ok (.iadd, 1) := by decide +kernel
theorem dX3_moveTo_69 : decode cX3_moveTo 69 = .ok (.putfield 17, 3) := by decide +kernel
theorem dX3_moveTo_72 : decode cX3_moveTo 72 = .ok (.aload_n 0, 1) := by decide +kernel
theorem dX3_moveTo_73 : decode cX3_moveTo 73 = .ok (.dup, 1) := by decide +kernel
theorem dX3_moveTo_74 : decode cX3_moveTo 74 = .ok (.getfield 13, 3) := by decide +kernel
theorem dX3_moveTo_77 : decode cX3_moveTo 77 = .ok (.iload_n 3, 1) := by decide +kernel
theorem dX3_moveTo_78 : decode cX3_moveTo 78 = .ok (.isub, 1) := by decide +kernel
theorem dX3_moveTo_79 : decode cX3_moveTo 79 = .ok (.putfield 13, 3) := by decide +kernel
theorem dX3_moveTo_82 : decode cX3_moveTo 82 = .ok (.iload_n 3, 1) := by decide +kernel
theorem dX3_moveTo_83 : decode cX3_moveTo 83 = .ok (.ireturn, 1) := by decide +kernel
theorem dX3_copyFrom_0 : decode cX3_copyFrom 0 = .ok (.aload_n 1, 1) := by decide +kernel
theorem dX3_copyFrom_1 : decode cX3_copyFrom 1 = .ok (.getfield 13, 3) := by decide +kernel
theorem dX3_copyFrom_4 : decode cX3_copyFrom 4 = .ok (.aload_n 0, 1) := by decide +kernel
theorem dX3_copyFrom_5 : decode cX3_copyFrom 5 = .ok (.getfield 9, 3) := by decide +kernel
theorem dX3_copyFrom_8 : decode cX3_copyFrom 8 = .ok (.arraylength, 1) := by decide +kernel
theorem dX3_copyFrom_9 : decode cX3_copyFrom 9 = .ok (.if_icmp .le 14, 3) := by decide +kernel
theorem dX3_copyFrom_12 : decode cX3_copyFrom 12 = .ok (.aload_n 0, 1) := by decide +kernel
theorem dX3_copyFrom_13 : decode cX3_copyFrom 13 = .ok (.aload_n 1, 1) := by decide +kernel
theorem dX3_copyFrom_14 : decode cX3_copyFrom 14 = .ok (.getfield 9, 3) := by decide +kernel
theorem dX3_copyFrom_17 : decode cX3_copyFrom 17 = .ok (.arraylength, 1) := by decide +kernel
theorem dX3_copyFrom_18 : decode cX3_copyFrom 18 = .ok (.newarray .int, 2) := by decide +kernel
theorem dX3_copyFrom_20 : decode cX3_copyFrom 20 = .ok (.putfield 9, 3) := by decide +kernel
theorem dX3_copyFrom_23 : decode cX3_copyFrom 23 = .ok (.aload_n 0, 1) := by decide +kernel
theorem dX3_copyFrom_24 : decode cX3_copyFrom 24 = .ok (.iconst 0, 1) := by decide +kernel
theorem dX3_copyFrom_25 : decode cX3_copyFrom 25 = .ok (.putfield 17, 3) := by decide +kernel
theorem dX3_copyFrom_28 : decode cX3_copyFrom 28 = .ok (.aload_n 0, 1) := by decide +kernel
theorem dX3_copyFrom_29 : decode cX3_copyFrom 29 = .ok (.aload_n 1, 1) := by decide +kernel
theorem dX3_copyFrom_30 : decode cX3_copyFrom 30 = .ok (.getfield 13, 3) := by decide +kernel
theorem dX3_copyFrom_33 : decode cX3_copyFrom 33 = .ok (.putfield 13, 3) := by decide +kernel
theorem dX3_copyFrom_36 : decode cX3_copyFrom 36 = .ok (.aload_n 1, 1) := by decide +kernel
theorem dX3_copyFrom_37 : decode cX3_copyFrom 37 = .ok (.getfield 9, 3) := by decide +kernel
theorem dX3_copyFrom_40 : decode cX3_copyFrom 40 = .ok (.aload_n 1, 1) := by decide +kernel
theorem dX3_copyFrom_41 : decode cX3_copyFrom 41 = .ok (.getfield 17, 3) := by decide +kernel
theorem dX3_copyFrom_44 : decode cX3_copyFrom 44 = .ok (.aload_n 0, 1) := by decide +kernel
theorem dX3_copyFrom_45 : decode cX3_copyFrom 45 = .ok (.getfield 9, 3) := by decide +kernel
theorem dX3_copyFrom_48 : decode cX3_copyFrom 48 = .ok (.iconst 0, 1) := by decide +kernel
theorem dX3_copyFrom_49 : decode cX3_copyFrom 49 = .ok (.aload_n 0, 1) := by decide +kernel
theorem dX3_copyFrom_50 : decode cX3_copyFrom 50 = .ok (.getfield 13, 3) := by decide +kernel
theorem dX3_copyFrom_53 : decode cX3_copyFrom 53 = .ok (.invokestatic 35, 3) := by decide +kernel
theorem dX3_copyFrom_56 : decode cX3_copyFrom 56 = .ok (.return_, 1) := by decide +kernel
theorem dX3_makeRoomAtEnd_0 : decode cX3_makeRoomAtEnd 0 = .ok (.iconst 2, 1) := by decide +kernel
theorem dX3_makeRoomAtEnd_1 : decode cX3_makeRoomAtEnd 1 = .ok (.aload_n 0, 1) := by decide +kernel
theorem dX3_makeRoomAtEnd_2 : decode cX3_makeRoomAtEnd 2 = .ok (.getfield 13, 3) := by decide +kernel
theorem dX3_makeRoomAtEnd_5 : decode cX3_makeRoomAtEnd 5 = .ok (.imul, 1) := by decide +kernel
theorem dX3_makeRoomAtEnd_6 : decode cX3_makeRoomAtEnd 6 = .ok (.aload_n 0, 1) := by decide +kernel
theorem dX3_makeRoomAtEnd_7 : decode cX3_makeRoomAtEnd 7 = .ok (.getfield 9, 3) := by decide +kernel
theorem dX3_makeRoomAtEnd_10 : decode cX3_makeRoomAtEnd 10 = .ok (.arraylength, 1) := by decide +kernel
theorem dX3_makeRoomAtEnd_11 : decode cX3_makeRoomAtEnd 11 = .ok (.if_icmp .le 15, 3) := by decide +kernel
theorem dX3_makeRoomAtEnd_14 : decode cX3_makeRoomAtEnd 14 = .ok (.iconst 2, 1) := by decide +kernel
theorem dX3_makeRoomAtEnd_15 : decode cX3_makeRoomAtEnd 15 = .ok (.aload_n 0, 1) := by decide +kernel
theorem dX3_makeRoomAtEnd_16 : decode cX3_makeRoomAtEnd 16 = .ok (.getfield 9, 3) := by decide +kernel
theorem dX3_makeRoomAtEnd_19 : decode cX3_makeRoomAtEnd 19 = .ok (.arraylength, 1) := by decide +kernel
theorem dX3_makeRoomAtEnd_20 : decode cX3_makeRoomAtEnd 20 = .ok (.imul, 1) := by decide +kernel
theorem dX3_makeRoomAtEnd_21 : decode cX3_makeRoomAtEnd 21 = .ok (.newarray .int, 2) := by decide +kernel
theorem dX3_makeRoomAtEnd_23 : decode cX3_makeRoomAtEnd 23 = .ok (.goto 7, 3) := by decide +kernel
theorem dX3_makeRoomAtEnd_26 : decode cX3_makeRoomAtEnd 26 = .ok (.aload_n 0, 1) := by decide +kernel
theorem dX3_makeRoomAtEnd_27 : decode cX3_makeRoomAtEnd 27 = .ok (.getfield 9, 3) := by decide +kernel
theorem dX3_makeRoomAtEnd_30 : decode cX3_makeRoomAtEnd 30 = .ok (.astore_n 1, 1) := by decide +kernel
theorem dX3_makeRoomAtEnd_31 : decode cX3_makeRoomAtEnd 31 = .ok (.aload_n 0, 1) := by decide +kernel
theorem dX3_makeRoomAtEnd_32 : decode cX3_makeRoomAtEnd 32 = .ok (.getfield 9, 3) := by decide +kernel
theorem dX3_makeRoomAtEnd_35 : decode cX3_makeRoomAtEnd 35 = .ok (.aload_n 0, 1) := by decide +kernel
theorem dX3_makeRoomAtEnd_36 : decode cX3_makeRoomAtEnd 36 = .ok (.getfield 17, 3) := by decide +kernel
theorem dX3_makeRoomAtEnd_39 : decode cX3_makeRoomAtEnd 39 = .ok (.aload_n 1, 1) := by decide +kernel
theorem dX3_makeRoomAtEnd_40 : decode cX3_makeRoomAtEnd 40 = .ok (.iconst 0, 1) := by decide +kernel
theorem dX3_makeRoomAtEnd_41 : decode cX3_makeRoomAtEnd 41 = .ok (.aload_n 0, 1) := by decide +kernel
theorem dX3_makeRoomAtEnd_42 : decode cX3_makeRoomAtEnd 42 = .ok (.getfield 13, 3) := by decide +kernel
theorem dX3_makeRoomAtEnd_45 : decode cX3_makeRoomAtEnd 45 = .ok (.invokestatic 35, 3) := by decide +kernel
theorem dX3_makeRoomAtEnd_48 : decode cX3_makeRoomAtEnd 48 = .ok (.aload_n 0, 1) := by decide +kernel
theorem dX3_makeRoomAtEnd_49 : decode cX3_makeRoomAtEnd 49 = .ok (.aload_n 1, 1) := by decide +kernel
theorem dX3_makeRoomAtEnd_50 : decode cX3_makeRoomAtEnd 50 = .ok (.putfield 9, 3) := by decide +kernel
theorem dX3_makeRoomAtEnd_53 : decode cX3_makeRoomAtEnd 53 = .ok (.aload_n 0, 1) := by decide +kernel
theorem dX3_makeRoomAtEnd_54 : decode cX3_makeRoomAtEnd 54 = .ok (.iconst 0, 1) := by decide +kernel
theorem dX3_makeRoomAtEnd_55 : decode cX3_makeRoomAtEnd 55 = .ok (.putfield 17, 3) := by decide +kernel
theorem dX3_makeRoomAtEnd_58 : decode cX3_makeRoomAtEnd 58 = .ok (.return_, 1) := by decide +kernel
theorem dX4_init_0 : decode cX4_init 0 = .ok (.aload_n 0, 1) := by decide +kernel
theorem dX4_init_1 : decode cX4_init 1 = .ok (.invokespecial 3, 3) := by decide +kernel
theorem dX4_init_4 : decode cX4_init 4 = .ok (.aload_n 0, 1) := by decide +kernel
theorem dX4_init_5 : decode cX4_init 5 = .ok (.bipush 16, 2) := by decide +kernel
theorem dX4_init_7 : decode cX4_init 7 = .ok (.newarray .int, 2) := by decide +kernel
theorem dX4_init_9 : decode cX4_init 9 = .ok (.putfield 11, 3) := by decide +kernel
theorem dX4_init_12 : decode cX4_init 12 = .ok (.aload_n 0, 1) := by decide +kernel
theorem dX4_init_13 : decode cX4_init 13 = .ok (.bipush 16, 2) := by decide +kernel
theorem dX4_init_15 : decode cX4_init 15 = .ok (.newarray .int, 2) := by decide +kernel
theorem dX4_init_17 : decode cX4_init 17 = .ok (.putfield 15, 3) := by decide +kernel
theorem dX4_init_20 : decode cX4_init 20 = .ok (.aload_n 0, 1) := by decide +kernel
theorem dX4_init_21 : decode cX4_init 21 = .ok (.bipush 16, 2) := by decide +kernel
theorem dX4_init_23 : decode cX4_init 23 = .ok (.newarray .int, 2) := by decide +kernel
theorem dX4_init_25 : decode cX4_init 25 = .ok (.putfield 18, 3) := by decide +kernel
theorem dX4_init_28 : decode cX4_init 28 = .ok (.return_, 1) := by decide +kernel
theorem dX4_countOf_0 : decode cX4_countOf 0 = .ok (.aload_n 0, 1) := by decide +kernel
theorem dX4_countOf_1 : decode cX4_countOf 1 = .ok (.iload_n 1, 1) := by decide +kernel
theorem dX4_countOf_2 : decode cX4_countOf 2 = .ok (.invokevirtual 21, 3) := by decide +kernel
theorem dX4_countOf_5 : decode cX4_countOf 5 = .ok (.istore_n 2, 1) := by decide +kernel
theorem dX4_countOf_6 : decode cX4_countOf 6 = .ok (.iload_n 2, 1) := by decide +kernel
theorem dX4_countOf_7 : decode cX4_countOf 7 = .ok (.iconst (-1), 1) := by decide +kernel
theorem dX4_countOf_8 : decode cX4_countOf 8 = .ok (.if_icmp .ne 7, 3) := by decide +kernel
theorem dX4_countOf_11 : decode cX4_countOf 11 = .ok (.iconst 0, 1) := by decide +kernel
theorem dX4_countOf_12 : decode cX4_countOf 12 = .ok (.goto 9, 3) := by decide +kernel
theorem dX4_countOf_15 : decode cX4_countOf 15 = .ok (.aload_n 0, 1) := by decide +kernel
theorem dX4_countOf_16 : decode cX4_countOf 16 = .ok (.getfield 15, 3) := by decide +kernel
theorem dX4_countOf_19 : decode cX4_countOf 19 = .ok (.iload_n 2, 1) := by decide +kernel
theorem dX4_countOf_20 : decode cX4_countOf 20 = .ok (.iaload, 1) := by decide +kernel
theorem dX4_countOf_21 : decode cX4_countOf 21 = .ok (.ireturn, 1) := by decide +kernel
theorem dX4_rowOf_0 : decode cX4_rowOf 0 = .ok (.aload_n 0, 1) := by decide +kernel
theorem dX4_rowOf_1 : decode cX4_rowOf 1 = .ok (.iload_n 1, 1) := by decide +kernel
theorem dX4_rowOf_2 : decode cX4_rowOf 2 = .ok (.invokevirtual 25, 3) := by decide +kernel
theorem dX4_rowOf_5 : decode cX4_rowOf 5 = .ok (.istore_n 2, 1) := by decide +kernel
theorem dX4_rowOf_6 : decode cX4_rowOf 6 = .ok (.iload_n 2, 1) := by decide +kernel
theorem dX4_rowOf_7 : decode cX4_rowOf 7 = .ok (.aload_n 0, 1) := by decide +kernel
theorem dX4_rowOf_8 : decode cX4_rowOf 8 = .ok (.getfield 28, 3) := by decide +kernel
theorem dX4_rowOf_11 : decode cX4_rowOf 11 = .ok (.if_icmp .ge 17, 3) := by decide +kernel
theorem dX4_rowOf_14 : decode cX4_rowOf 14 = .ok (.aload_n 0, 1) := by decide +kernel
theorem dX4_rowOf_15 : decode cX4_rowOf 15 = .ok (.getfield 11, 3) := by decide +kernel
theorem dX4_rowOf_18 : decode cX4_rowOf 18 = .ok (.iload_n 2, 1) := by decide +kernel
theorem dX4_rowOf_19 : decode cX4_rowOf 19 = .ok (.iaload, 1) := by decide +kernel
theorem dX4_rowOf_20 : decode cX4_rowOf 20 = .ok (.iload_n 1, 1) := by decide +kernel
theorem dX4_rowOf_21 : decode cX4_rowOf 21 = .ok (.if_icmp .ne 7, 3) := by decide +kernel
theorem dX4_rowOf_24 : decode cX4_rowOf 24 = .ok (.iload_n 2, 1) := by decide +kernel
theorem dX4_rowOf_25 : decode cX4_rowOf 25 = .ok (.goto 4, 3) := by decide +kernel
theorem dX4_rowOf_28 : decode cX4_rowOf 28 = .ok (.iconst (-1), 1) := by decide +kernel
theorem dX4_rowOf_29 : decode cX4_rowOf 29 = .ok (.ireturn, 1) := by decide +kernel
theorem dX4_countActive_0 : decode cX4_countActive 0 = .ok (.iconst 0, 1) := by decide +kernel
theorem dX4_countActive_1 : decode cX4_countActive 1 = .ok (.istore_n 1, 1) := by decide +kernel
theorem dX4_countActive_2 : decode cX4_countActive 2 = .ok (.iconst 0, 1) := by decide +kernel
theorem dX4_countActive_3 : decode cX4_countActive 3 = .ok (.istore_n 2, 1) := by decide +kernel
theorem dX4_countActive_4 : decode cX4_countActive 4 = .ok (.iload_n 2, 1) := by decide +kernel
theorem dX4_countActive_5 : decode cX4_countActive 5 = .ok (.aload_n 0, 1) := by decide +kernel
theorem dX4_countActive_6 : decode cX4_countActive 6 = .ok (.getfield 28, 3) := by decide +kernel
theorem dX4_countActive_9 : decode cX4_countActive 9 = .ok (.if_icmp .ge 21, 3) := by decide +kernel
theorem dX4_countActive_12 : decode cX4_countActive 12 = .ok (.aload_n 0, 1) := by decide +kernel
theorem dX4_countActive_13 : decode cX4_countActive 13 = .ok (.getfield 15, 3) := by decide +kernel
theorem dX4_countActive_16 : decode cX4_countActive 16 = .ok (.iload_n 2, 1) := by decide +kernel
theorem dX4_countActive_17 : decode cX4_countActive 17 = .ok (.iaload, 1) := by decide +kernel
theorem dX4_countActive_18 : decode cX4_countActive 18 = .ok (.ifCond .le 6, 3) := by decide +kernel
theorem dX4_countActive_21 : decode cX4_countActive 21 = .ok (.iinc 1 1, 3) := by decide +kernel
theorem dX4_countActive_24 : decode cX4_countActive 24 = .ok (.iinc 2 1, 3) := by decide +kernel
theorem dX4_countActive_27 : decode cX4_countActive 27 = .ok (.goto (-23), 3) := by decide +kernel
theorem dX4_countActive_30 : decode cX4_countActive 30 = .ok (.iload_n 1, 1) := by decide +kernel
theorem dX4_countActive_31 : decode cX4_countActive 31 = .ok (.ireturn, 1) := by decide +kernel
theorem dX4_change_0 : decode cX4_change 0 = .ok (.aload_n 0, 1) := by decide +kernel
theorem dX4_change_1 : decode cX4_change 1 = .ok (.iload_n 1, 1) := by decide +kernel
theorem dX4_change_2 : decode cX4_change 2 = .ok (.invokevirtual 25, 3) := by decide +kernel
theorem dX4_change_5 : decode cX4_change 5 = .ok (.istore_n 3, 1) := by decide +kernel
theorem dX4_change_6 : decode cX4_change 6 = .ok (.iload_n 3, 1) := by decide +kernel
theorem dX4_change_7 : decode cX4_change 7 = .ok (.aload_n 0, 1) := by decide +kernel
theorem dX4_change_8 : decode cX4_change 8 = .ok (.getfield 28, 3) := by decide +kernel
theorem dX4_change_11 : decode cX4_change 11 = .ok (.if_icmp .eq 13, 3) := by decide +kernel
theorem dX4_change_14 : decode cX4_change 14 = .ok (.aload_n 0, 1) := by decide +kernel
theorem dX4_change_15 : decode cX4_change 15 = .ok (.getfield 11, 3) := by decide +kernel
theorem dX4_change_18 : decode cX4_change 18 = .ok (.iload_n 3, 1) := by decide +kernel
theorem dX4_change_19 : decode cX4_change 19 = .ok (.iaload, 1) := by decide +kernel
theorem dX4_change_20 : decode cX4_change 20 = .ok (.iload_n 1, 1) := by decide +kernel
theorem dX4_change_21 : decode cX4_change 21 = .ok (.if_icmp .eq 13, 3) := by decide +kernel
theorem dX4_change_24 : decode cX4_change 24 = .ok (.aload_n 0, 1) := by decide +kernel
theorem dX4_change_25 : decode cX4_change 25 = .ok (.iload_n 3, 1) := by decide +kernel
theorem dX4_change_26 : decode cX4_change 26 = .ok (.iload_n 1, 1) := by decide +kernel
theorem dX4_change_27 : decode cX4_change 27 = .ok (.iload_n 2, 1) := by decide +kernel
theorem dX4_change_28 : decode cX4_change 28 = .ok (.invokevirtual 32, 3) := by decide +kernel
theorem dX4_change_31 : decode cX4_change 31 = .ok (.goto 32, 3) := by decide +kernel
theorem dX4_change_34 : decode cX4_change 34 = .ok (.aload_n 0, 1) := by decide +kernel
theorem dX4_change_35 : decode cX4_change 35 = .ok (.getfield 15, 3) := by decide +kernel
theorem dX4_change_38 : decode cX4_change 38 = .ok (.iload_n 3, 1) := by decide +kernel
theorem dX4_change_39 : decode cX4_change 39 = .ok (.iaload, 1) := by decide +kernel
theorem dX4_change_40 : decode cX4_change 40 = .ok (.iload_n 2, 1) := by decide +kernel
theorem dX4_change_41 : decode cX4_change 41 = .ok (.iadd, 1) := by decide +kernel
theorem dX4_change_42 : decode cX4_change 42 = .ok (.ifCond .ne 11, 3) := by decide +kernel
theorem dX4_change_45 : decode cX4_change 45 = .ok (.aload_n 0, 1) := by decide +kernel
theorem dX4_change_46 : decode cX4_change 46 = .ok (.iload_n 3, 1) := by decide +kernel
theorem dX4_change_47 : decode cX4_change 47 = .ok (.invokevirtual 36, 3) := by decide +kernel
theorem dX4_change_50 : decode cX4_change 50 = .ok (.goto 13, 3) := by decide +kernel
theorem dX4_change_53 : decode cX4_change 53 = .ok (.aload_n 0, 1) := by decide +kernel
theorem dX4_change_54 : decode cX4_change 54 = .ok (.getfield 15, 3) := by decide +kernel
theorem dX4_change_57 : decode cX4_change 57 = .ok (.iload_n 3, 1) := by decide +kernel
theorem dX4_change_58 : decode cX4_change 58 = .ok (.dup2, 1) := by decide +kernel
theorem dX4_change_59 : decode cX4_change 59 = .ok (.iaload, 1) := by decide +kernel
theorem dX4_change_60 : decode cX4_change 60 = .ok (.iload_n 2, 1) := by decide +kernel
theorem dX4_change_61 : decode cX4_change 61 = .ok (.iadd, 1) := by decide +kernel
theorem dX4_change_62 : decode cX4_change 62 = .ok (.iastore, 1) := by decide +kernel
theorem dX4_change_63 : decode cX4_change 63 = .ok (.return_, 1) := by decide +kernel
theorem dX4_copyFrom_0 : decode cX4_copyFrom 0 = .ok (.aload_n 0, 1) := by decide +kernel
theorem dX4_copyFrom_1 : decode cX4_copyFrom 1 = .ok (.aload_n 1, 1) := by decide +kernel
theorem dX4_copyFrom_2 : decode cX4_copyFrom 2 = .ok (.getfield 28, 3) := by decide +kernel
theorem dX4_copyFrom_5 : decode cX4_copyFrom 5 = .ok (.invokevirtual 40, 3) := by decide +kernel
theorem dX4_copyFrom_8 : decode cX4_copyFrom 8 = .ok (.aload_n 0, 1) := by decide +kernel
theorem dX4_copyFrom_9 : decode cX4_copyFrom 9 = .ok (.aload_n 1, 1) := by decide +kernel
theorem dX4_copyFrom_10 : decode cX4_copyFrom 10 = .ok (.getfield 28, 3) := by decide +kernel
theorem dX4_copyFrom_13 : decode cX4_copyFrom 13 = .ok (.putfield 28, 3) := by decide +kernel
theorem dX4_copyFrom_16 : decode cX4_copyFrom 16 = .ok (.aload_n 1, 1) := by decide +kernel
theorem dX4_copyFrom_17 : decode cX4_copyFrom 17 = .ok (.getfield 11, 3) := by decide +kernel
theorem dX4_copyFrom_20 : decode cX4_copyFrom 20 = .ok (.iconst 0, 1) := by decide +kernel
theorem dX4_copyFrom_21 : decode cX4_copyFrom 21 = .ok (.aload_n 0, 1) := by decide +kernel
theorem dX4_copyFrom_22 : decode cX4_copyFrom 22 = .ok (.getfield 11, 3) := by decide +kernel
theorem dX4_copyFrom_25 : decode cX4_copyFrom 25 = .ok (.iconst 0, 1) := by decide +kernel
theorem dX4_copyFrom_26 : decode cX4_copyFrom 26 = .ok (.aload_n 0, 1) := by decide +kernel
theorem dX4_copyFrom_27 : decode cX4_copyFrom 27 = .ok (.getfield 28, 3) := by decide +kernel
theorem dX4_copyFrom_30 : decode cX4_copyFrom 30 = .ok (.invokestatic 43, 3) := by decide +kernel
theorem dX4_copyFrom_33 : decode cX4_copyFrom 33 = .ok (.aload_n 1, 1) := by decide +kernel
theorem dX4_copyFrom_34 : decode cX4_copyFrom 34 = .ok (.getfield 15, 3) := by decide +kernel
theorem dX4_copyFrom_37 : decode cX4_copyFrom 37 = .ok (.iconst 0, 1) := by decide +kernel
theorem dX4_copyFrom_38 : decode cX4_copyFrom 38 = .ok (.aload_n 0, 1) := by decide +kernel
theorem dX4_copyFrom_39 : decode cX4_copyFrom 39 = .ok (.getfield 15, 3) := by decide +kernel
theorem dX4_copyFrom_42 : decode cX4_copyFrom 42 = .ok (.iconst 0, 1) := by decide +kernel
theorem dX4_copyFrom_43 : decode cX4_copyFrom 43 = .ok (.aload_n 0, 1) := by decide +kernel
theorem dX4_copyFrom_44 : decode cX4_copyFrom 44 = .ok (.getfield 28, 3) := by decide +kernel
theorem dX4_copyFrom_47 : decode cX4_copyFrom 47 = .ok (.invokestatic 43, 3) := by decide +kernel
theorem dX4_copyFrom_50 : decode cX4_copyFrom 50 = .ok (.return_, 1) := by decide +kernel
theorem dX4_firstRowFrom_0 : decode cX4_firstRowFrom 0 = .ok (.iconst 0, 1) := by decide +kernel
theorem dX4_firstRowFrom_1 : decode cX4_firstRowFrom 1 = .ok (.istore_n 2, 1) := by decide +kernel
theorem dX4_firstRowFrom_2 : decode cX4_firstRowFrom 2 = .ok (.iload_n 2, 1) := by decide +kernel
theorem dX4_firstRowFrom_3 : decode cX4_firstRowFrom 3 = .ok (.aload_n 0, 1) := by decide +kernel
theorem dX4_firstRowFrom_4 : decode cX4_firstRowFrom 4 = .ok (.getfield 28, 3) := by decide +kernel
theorem dX4_firstRowFrom_7 : decode cX4_firstRowFrom 7 = .ok (.if_icmp .ge 21, 3) := by decide +kernel
theorem dX4_firstRowFrom_10 : decode cX4_firstRowFrom 10 = .ok (.aload_n 0, 1) := by decide +kernel
theorem dX4_firstRowFrom_11 : decode cX4_firstRowFrom 11 = .ok (.getfield 11, 3) := by decide +kernel
theorem dX4_firstRowFrom_14 : decode cX4_firstRowFrom 14 = .ok (.iload_n 2, 1) := by decide +kernel
theorem dX4_firstRowFrom_15 : decode cX4_firstRowFrom 15 = .ok (.iaload, 1) := by decide +kernel
theorem dX4_firstRowFrom_16 : decode cX4_firstRowFrom 16 = .ok (.iload_n 1, 1) := by decide +kernel
theorem dX4_firstRowFrom_17 : decode cX4_firstRowFrom 17 = .ok (.if_icmp .lt 5, 3) := by decide +kernel
theorem dX4_firstRowFrom_20 : decode cX4_firstRowFrom 20 = .ok (.iload_n 2, 1) := by decide +kernel
theorem dX4_firstRowFrom_21 : decode cX4_firstRowFrom 21 = .ok (.ireturn, 1) := by decide +kernel
theorem dX4_firstRowFrom_22 : decode cX4_firstRowFrom 22 = .ok (.iinc 2 1, 3) := by decide +kernel
theorem dX4_firstRowFrom_25 : decode cX4_firstRowFrom 25 = .ok (.goto (-23), 3) := by decide +kernel
theorem dX4_firstRowFrom_28 : decode cX4_firstRowFrom 28 = .ok (.aload_n 0, 1) := by decide +kernel
theorem dX4_firstRowFrom_29 : decode cX4_firstRowFrom 29 = .ok (.getfield 28, 3) := by decide +kernel
theorem dX4_firstRowFrom_32 : decode cX4_firstRowFrom 32 = .ok (.ireturn, 1) := by decide +kernel
theorem dX4_insert_0 : decode cX4_insert 0 = .ok (.aload_n 0, 1) := by decide +kernel
theorem dX4_insert_1 : decode cX4_insert 1 = .ok (.aload_n 0, 1) := by decide +kernel
theorem dX4_insert_2 : decode cX4_insert 2 = .ok (.getfield 28, 3) := by decide +kernel
theorem dX4_insert_5 : decode cX4_insert 5 = .ok (.iconst 1, 1) := by decide +kernel
theorem dX4_insert_6 : decode cX4_insert 6 = .ok (.iadd, 1) := by decide +kernel
theorem dX4_insert_7 : decode cX4_insert 7 = .ok (.invokevirtual 40, 3) := by decide +kernel
theorem dX4_insert_10 : decode cX4_insert 10 = .ok (.aload_n 0, 1) := by decide +kernel
theorem dX4_insert_11 : decode cX4_insert 11 = .ok (.getfield 11, 3) := by decide +kernel
theorem dX4_insert_14 : decode cX4_insert 14 = .ok (.iload_n 1, 1) := by decide +kernel
theorem dX4_insert_15 : decode cX4_insert 15 = .ok (.aload_n 0, 1) := by decide +kernel
theorem dX4_insert_16 : decode cX4_insert 16 = .ok (.getfield 11, 3) := by decide +kernel
theorem dX4_insert_19 : decode cX4_insert 19 = .ok (.iload_n 1, 1) := by decide +kernel
theorem dX4_insert_20 : decode cX4_insert 20 = .ok (.iconst 1, 1) := by decide +kernel
theorem dX4_insert_21 : decode cX4_insert 21 = .ok (.iadd, 1) := by decide +kernel
theorem dX4_insert_22 : decode cX4_insert 22 = .ok (.aload_n 0, 1) := by decide +kernel
theorem dX4_insert_23 : decode cX4_insert 23 = .ok (.getfield 28, 3) := by decide +kernel
theorem dX4_insert_26 : decode cX4_insert 26 = .ok (.iload_n 1, 1) := by decide +kernel
theorem dX4_insert_27 : decode cX4_insert 27 = .ok (.isub, 1) := by decide +kernel
theorem dX4_insert_28 : decode cX4_insert 28 = .ok (.invokestatic 43, 3) := by decide +kernel
theorem dX4_insert_31 : decode cX4_insert 31 = .ok (.aload_n 0, 1) := by decide +kernel
theorem dX4_insert_32 : decode cX4_insert 32 = .ok (.getfield 15, 3) := by decide +kernel
theorem dX4_insert_35 : decode cX4_insert 35 = .ok (.iload_n 1, 1) := by decide +kernel
theorem dX4_insert_36 : decode cX4_insert 36 = .ok (.aload_n 0, 1) := by decide +kernel
theorem dX4_insert_37 : decode cX4_insert 37 = .ok (.getfield 15, 3) := by decide +kernel
theorem dX4_insert_40 : decode cX4_insert 40 = .ok (.iload_n 1, 1) := by decide +kernel
theorem dX4_insert_41 : decode cX4_insert 41 = .ok (.iconst 1, 1) := by decide +kernel
theorem dX4_insert_42 : decode cX4_insert 42 = .ok (.iadd, 1) := by decide +kernel
theorem dX4_insert_43 : decode cX4_insert 43 = .ok (.aload_n 0, 1) := by decide +kernel
theorem dX4_insert_44 : decode cX4_insert 44 = .ok (.getfield 28, 3) := by decide +kernel
theorem dX4_insert_47 : decode cX4_insert 47 = .ok (.iload_n 1, 1) := by decide +kernel
theorem dX4_insert_48 : decode cX4_insert 48 = .ok (.isub, 1) := by decide +kernel
theorem dX4_insert_49 : decode cX4_insert 49 = .ok (.invokestatic 43, 3) := by decide +kernel
theorem dX4_insert_52 : decode cX4_insert 52 = .ok (.aload_n 0, 1) := by decide +kernel
theorem dX4_insert_53 : decode cX4_insert 53 = .ok (.getfield 11, 3) := by decide +kernel
theorem dX4_insert_56 : decode cX4_insert 56 = .ok (.iload_n 1, 1) := by decide +kernel
theorem dX4_insert_57 : decode cX4_insert 57 = .ok (.iload_n 2, 1) := by decide +kernel
theorem dX4_insert_58 : decode cX4_insert 58 = .ok (.iastore, 1) := by decide +kernel
theorem dX4_insert_59 : decode cX4_insert 59 = .ok (.aload_n 0, 1) := by decide +kernel
theorem dX4_insert_60 : decode cX4_insert 60 = .ok (.getfield 15, 3) := by decide +kernel
theorem dX4_insert_63 : decode cX4_insert 63 = .ok (.iload_n 1, 1) := by decide +kernel
theorem dX4_insert_64 : decode cX4_insert 64 = .ok (.iload_n 3, 1) := by decide +kernel
theorem dX4_insert_65 : decode cX4_insert 65 = .ok (.iastore, 1) := by decide +kernel
theorem dX4_insert_66 : decode cX4_insert 66 = .ok (.aload_n 0, 1) := by decide +kernel
theorem dX4_insert_67 : decode cX4_insert 67 = .ok (.dup, 1) := by decide +kernel
theorem dX4_insert_68 : decode cX4_insert 68 = .ok (.getfield 28, 3) := by decide +kernel
theorem dX4_insert_71 : decode cX4_insert 71 = .ok (.iconst 1, 1) := by decide +kernel
theorem dX4_insert_72 : decode cX4_insert 72 = .ok (.iadd, 1) := by decide +kernel
theorem dX4_insert_73 : decode cX4_insert 73 = .ok (.putfield 28, 3) := by decide +kernel
theorem dX4_insert_76 : decode cX4_insert 76 = .ok (.return_, 1) := by decide +kernel
theorem dX4_remove_0 : decode cX4_remove 0 = .ok (.aload_n 0, 1) := by decide +kernel
theorem dX4_remove_1 : decode cX4_remove 1 = .ok (.dup, 1) := by decide +kernel
theorem dX4_remove_2 : decode cX4_remove 2 = .ok (.getfield 28, 3) := by decide +kernel
theorem dX4_remove_5 : decode cX4_remove 5 = .ok (.iconst 1, 1) := by decide +kernel
theorem dX4_remove_6 : decode cX4_remove 6 = .ok (.isub, 1) := by decide +kernel
theorem dX4_remove_7 : decode cX4_remove 7 = .ok (.putfield 28, 3) := by decide +kernel
theorem dX4_remove_10 : decode cX4_remove 10 = .ok (.aload_n 0, 1) := by decide +kernel
theorem dX4_remove_11 : decode cX4_remove 11 = .ok (.getfield 11, 3) := by decide +kernel
theorem dX4_remove_14 : decode cX4_remove 14 = .ok (.iload_n 1, 1) := by decide +kernel
theorem dX4_remove_15 : decode cX4_remove 15 = .ok (.iconst 1, 1) := by decide +kernel
theorem dX4_remove_16 : decode cX4_remove 16 = .ok (.iadd, 1) := by decide +kernel
theorem dX4_remove_17 : decode cX4_remove 17 = .ok (.aload_n 0, 1) := by decide +kernel
theorem dX4_remove_18 : decode cX4_remove 18 = .ok (.getfield 11, 3) := by decide +kernel
theorem dX4_remove_21 : decode cX4_remove 21 = .ok (.iload_n 1, 1) := by decide +kernel
theorem dX4_remove_22 : decode cX4_remove 22 = .ok (.aload_n 0, 1) := by decide +kernel
theorem dX4_remove_23 : decode cX4_remove 23 = .ok (.getfield 28, 3) := by decide +kernel
theorem dX4_remove_26 : decode cX4_remove 26 = .ok (.iload_n 1, 1) := by decide +kernel
theorem dX4_remove_27 : decode cX4_remove 27 = .ok (.isub, 1) := by decide +kernel
theorem dX4_remove_28 : decode cX4_remove 28 = .ok (.invokestatic 43, 3) := by decide +kernel
theorem dX4_remove_31 : decode cX4_remove 31 = .ok (.aload_n 0, 1) := by decide +kernel
theorem dX4_remove_32 : decode cX4_remove 32 = .ok (.getfield 15, 3) := by decide +kernel
theorem dX4_remove_35 : decode cX4_remove 35 = .ok (.iload_n 1, 1) := by decide +kernel
theorem dX4_remove_36 : decode cX4_remove 36 = .ok (.iconst 1, 1) := by decide +kernel
theorem dX4_remove_37 : decode cX4_remove 37 = .ok (.iadd, 1) := by decide +kernel
theorem dX4_remove_38 : decode cX4_remove 38 = .ok (.aload_n 0, 1) := by decide +kernel
theorem dX4_remove_39 : decode cX4_remove 39 = .ok (.getfield 15, 3) := by decide +kernel
theorem dX4_remove_42 : decode cX4_remove 42 = .ok (.iload_n 1, 1) := by decide +kernel
theorem dX4_remove_43 : decode cX4_remove 43 = .ok (.aload_n 0, 1) := by decide +kernel
theorem dX4_remove_44 : decode cX4_remove 44 = .ok (.getfield 28, 3) := by decide +kernel
theorem dX4_remove_47 : decode cX4_remove 47 = .ok (.iload_n 1, 1) := by decide +kernel
theorem dX4_remove_48 : decode cX4_remove 48 = .ok (.isub, 1) := by decide +kernel
theorem dX4_remove_49 : decode cX4_remove 49 = .ok (.invokestatic 43, 3) := by decide +kernel
theorem dX4_remove_52 : decode cX4_remove 52 = .ok (.return_, 1) := by decide +kernel
theorem dX4_makeRoom_0 : decode cX4_makeRoom 0 = .ok (.iload_n 1, 1) := by decide +kernel
theorem dX4_makeRoom_1 : decode cX4_makeRoom 1 = .ok (.aload_n 0, 1) := by decide +kernel
theorem dX4_makeRoom_2 : decode cX4_makeRoom 2 = .ok (.getfield 11, 3) := by decide +kernel
theorem dX4_makeRoom_5 : decode cX4_makeRoom 5 = .ok (.arraylength, 1) := by decide +kernel
theorem dX4_makeRoom_6 : decode cX4_makeRoom 6 = .ok (.if_icmp .le 38, 3) := by decide +kernel
theorem dX4_makeRoom_9 : decode cX4_makeRoom 9 = .ok (.iconst 2, 1) := by decide +kernel
theorem dX4_makeRoom_10 : decode cX4_makeRoom 10 = .ok (.iload_n 1, 1) := by decide +kernel
theorem dX4_makeRoom_11 : decode cX4_makeRoom 11 = .ok (.imul, 1) := by decide +kernel
theorem dX4_makeRoom_12 : decode cX4_makeRoom 12 = .ok (.istore_n 2, 1) := by decide +kernel
theorem dX4_makeRoom_13 : decode cX4_makeRoom 13 = .ok (.aload_n 0, 1) := by decide +kernel
theorem dX4_makeRoom_14 : decode cX4_makeRoom 14 = .ok (.aload_n 0, 1) := by decide +kernel
theorem dX4_makeRoom_15 : decode cX4_makeRoom 15 = .ok (.getfield 11, 3) := by decide +kernel
theorem dX4_makeRoom_18 : decode cX4_makeRoom 18 = .ok (.iload_n 2, 1) := by decide +kernel
theorem dX4_makeRoom_19 : decode cX4_makeRoom 19 = .ok (.invokestatic 49, 3) := by decide +kernel
theorem dX4_makeRoom_22 : decode cX4_makeRoom 22 = .ok (.putfield 11, 3) := by decide +kernel
theorem dX4_makeRoom_25 : decode cX4_makeRoom 25 = .ok (.aload_n 0, 1) := by decide +kernel
theorem dX4_makeRoom_26 : decode cX4_makeRoom 26 = .ok (.aload_n 0, 1) := by decide +kernel
theorem dX4_makeRoom_27 : decode cX4_makeRoom 27 = .ok (.getfield 15, 3) := by decide +kernel
theorem dX4_makeRoom_30 : decode cX4_makeRoom 30 = .ok (.iload_n 2, 1) := by decide +kernel
theorem dX4_makeRoom_31 : decode cX4_makeRoom 31 = .ok (.invokestatic 49, 3) := by decide +kernel
theorem dX4_makeRoom_34 : decode cX4_makeRoom 34 = .ok (.putfield 15, 3) := by decide +kernel
theorem dX4_makeRoom_37 : decode cX4_makeRoom 37 = .ok (.aload_n 0, 1) := by decide +kernel
theorem dX4_makeRoom_38 : decode cX4_makeRoom 38 = .ok (.iload_n 2, 1) := by decide +kernel
theorem dX4_makeRoom_39 : decode cX4_makeRoom 39 = .ok (.newarray .int, 2) := by decide +kernel
theorem dX4_makeRoom_41 : decode cX4_makeRoom 41 = .ok (.putfield 18, 3) := by decide +kernel
theorem dX4_makeRoom_44 : decode cX4_makeRoom 44 = .ok (.return_, 1) := by decide +kernel
theorem dX5_init_0 : decode cX5_init 0 = .ok (.aload_n 0, 1) := by decide +kernel
theorem dX5_init_1 : decode cX5_init 1 = .ok (.invokespecial 5, 3) := by decide +kernel
theorem dX5_init_4 : decode cX5_init 4 = .ok (.aload_n 0, 1) := by decide +kernel
theorem dX5_init_5 : decode cX5_init 5 = .ok (.iconst 0, 1) := by decide +kernel
theorem dX5_init_6 : decode cX5_init 6 = .ok (.newarray .int, 2) := by decide +kernel
theorem dX5_init_8 : decode cX5_init 8 = .ok (.putfield 11, 3) := by decide +kernel
theorem dX5_init_11 : decode cX5_init 11 = .ok (.aload_n 0, 1) := by decide +kernel
theorem dX5_init_12 : decode cX5_init 12 = .ok (.iconst 0, 1) := by decide +kernel
theorem dX5_init_13 : decode cX5_init 13 = .ok (.newarray .int, 2) := by decide +kernel
theorem dX5_init_15 : decode cX5_init 15 = .ok (.putfield 15, 3) := by decide +kernel
theorem dX5_init_18 : decode cX5_init 18 = .ok (.aload_n 0, 1) := by decide +kernel
theorem dX5_init_19 : decode cX5_init 19 = .ok (.iconst 0, 1) := by decide +kernel
theorem dX5_init_20 : decode cX5_init 20 = .ok (.newarray .int, 2) := by decide +kernel
theorem dX5_init_22 : decode cX5_init 22 = .ok (.putfield 18, 3) := by decide +kernel
theorem dX5_init_25 : decode cX5_init 25 = .ok (.aload_n 0, 1) := by decide +kernel
theorem dX5_init_26 : decode cX5_init 26 = .ok (.iconst 0, 1) := by decide +kernel
theorem dX5_init_27 : decode cX5_init 27 = .ok (.newarray .int, 2) := by decide +kernel
theorem dX5_init_29 : decode cX5_init 29 = .ok (.putfield 21, 3) := by decide +kernel
theorem dX5_init_32 : decode cX5_init 32 = .ok (.aload_n 0, 1) := by decide +kernel
theorem dX5_init_33 : decode cX5_init 33 = .ok (.iconst 1, 1) := by decide +kernel
theorem dX5_init_34 : decode cX5_init 34 = .ok (.putfield 24, 3) := by decide +kernel
theorem dX5_init_37 : decode cX5_init 37 = .ok (.return_, 1) := by decide +kernel
theorem dX5_forget_0 : decode cX5_forget 0 = .ok (.aload_n 0, 1) := by decide +kernel
theorem dX5_forget_1 : decode cX5_forget 1 = .ok (.dup, 1) := by decide +kernel
theorem dX5_forget_2 : decode cX5_forget 2 = .ok (.getfield 24, 3) := by decide +kernel
theorem dX5_forget_5 : decode cX5_forget 5 = .ok (.iconst 1, 1) := by decide +kernel
theorem dX5_forget_6 : decode cX5_forget 6 = .ok (.iadd, 1) := by decide +kernel
theorem dX5_forget_7 : decode cX5_forget 7 = .ok (.putfield 24, 3) := by decide +kernel
theorem dX5_forget_10 : decode cX5_forget 10 = .ok (.return_, 1) := by decide +kernel
theorem dX5_lead_0 : decode cX5_lead 0 = .ok (.iload_n 3, 1) := by decide +kernel
theorem dX5_lead_1 : decode cX5_lead 1 = .ok (.sipush 1000, 3) := by decide +kernel
theorem dX5_lead_4 : decode cX5_lead 4 = .ok (.irem, 1) := by decide +kernel
theorem dX5_lead_5 : decode cX5_lead 5 = .ok (.istore 4, 2) := by decide +kernel
theorem dX5_lead_7 : decode cX5_lead 7 = .ok (.iload_n 2, 1) := by decide +kernel
theorem dX5_lead_8 : decode cX5_lead 8 = .ok (.sipush 1000, 3) := by decide +kernel
theorem dX5_lead_11 : decode cX5_lead 11 = .ok (.irem, 1) := by decide +kernel
theorem dX5_lead_12 : decode cX5_lead 12 = .ok (.bipush 100, 2) := by decide +kernel
theorem dX5_lead_14 : decode cX5_lead 14 = .ok (.idiv, 1) := by decide +kernel
theorem dX5_lead_15 : decode cX5_lead 15 = .ok (.iload 4, 2) := by decide +kernel
theorem dX5_lead_17 : decode cX5_lead 17 = .ok (.bipush 100, 2) := by decide +kernel
theorem dX5_lead_19 : decode cX5_lead 19 = .ok (.idiv, 1) := by decide +kernel
theorem dX5_lead_20 : decode cX5_lead 20 = .ok (.if_icmp .le 5, 3) := by decide +kernel
theorem dX5_lead_23 : decode cX5_lead 23 = .ok (.iconst 0, 1) := by decide +kernel
theorem dX5_lead_24 : decode cX5_lead 24 = .ok (.ireturn, 1) := by decide +kernel
theorem dX5_lead_25 : decode cX5_lead 25 = .ok (.aload_n 0, 1) := by decide +kernel
theorem dX5_lead_26 : decode cX5_lead 26 = .ok (.aload_n 1, 1) := by decide +kernel
theorem dX5_lead_27 : decode cX5_lead 27 = .ok (.iload_n 2, 1) := by decide +kernel
theorem dX5_lead_28 : decode cX5_lead 28 = .ok (.iload_n 3, 1) := by decide +kernel
theorem dX5_lead_29 : decode cX5_lead 29 = .ok (.sipush 1000, 3) := by decide +kernel
theorem dX5_lead_32 : decode cX5_lead 32 = .ok (.idiv, 1) := by decide +kernel
theorem dX5_lead_33 : decode cX5_lead 33 = .ok (.invokevirtual 28, 3) := by decide +kernel
theorem dX5_lead_36 : decode cX5_lead 36 = .ok (.istore 5, 2) := by decide +kernel
theorem dX5_lead_38 : decode cX5_lead 38 = .ok (.iload 5, 2) := by decide +kernel
theorem dX5_lead_40 : decode cX5_lead 40 = .ok (.iconst (-1), 1) := by decide +kernel
theorem dX5_lead_41 : decode cX5_lead 41 = .ok (.if_icmp .eq 17, 3) := by decide +kernel
theorem dX5_lead_44 : decode cX5_lead 44 = .ok (.iload 5, 2) := by decide +kernel
theorem dX5_lead_46 : decode cX5_lead 46 = .ok (.iload 4, 2) := by decide +kernel
theorem dX5_lead_48 : decode cX5_lead 48 = .ok (.invokestatic 32, 3) := by decide +kernel
theorem dX5_lead_51 : decode cX5_lead 51 = .ok (.if_icmp .gt 7, 3) := by decide +kernel
theorem dX5_lead_54 : decode cX5_lead 54 = .ok (.iconst 1, 1) := by decide +kernel
theorem dX5_lead_55 : decode cX5_lead 55 = .ok (.goto 4, 3) := by decide +kernel
theorem dX5_lead_58 : decode cX5_lead 58 = .ok (.iconst 0, 1) := by decide +kernel
theorem dX5_lead_59 : decode cX5_lead 59 = .ok (.ireturn, 1) := by decide +kernel
theorem dX5_leastCounters_0 : decode cX5_leastCounters 0 = .ok (.iload_n 2, 1) := by decide +kernel
theorem dX5_leastCounters_1 : decode cX5_leastCounters 1 = .ok (.sipush 1000, 3) := by decide +kernel
theorem dX5_leastCounters_4 : decode cX5_leastCounters 4 = .ok (.idiv, 1) := by decide +kernel
theorem dX5_leastCounters_5 : decode cX5_leastCounters 5 = .ok (.bipush 100, 2) := by decide +kernel
theorem dX5_leastCounters_7 : decode cX5_leastCounters 7 = .ok (.imul, 1) := by decide +kernel
theorem dX5_leastCounters_8 : decode cX5_leastCounters 8 = .ok (.iload_n 2, 1) := by decide +kernel
theorem dX5_leastCounters_9 : decode cX5_leastCounters 9 = .ok (.invokestatic 32, 3) := by decide +kernel
theorem dX5_leastCounters_12 : decode cX5_leastCounters 12 = .ok (.iadd, 1) := by decide +kernel
theorem dX5_leastCounters_13 : decode cX5_leastCounters 13 = .ok (.istore 4, 2) := by decide +kernel
theorem dX5_leastCounters_15 : decode cX5_leastCounters 15 = .ok (.aload_n 0, 1) := by decide +kernel
theorem dX5_leastCounters_16 : decode cX5_leastCounters 16 = .ok (.getfield 11, 3) := by decide +kernel
theorem dX5_leastCounters_19 : decode cX5_leastCounters 19 = .ok (.arraylength, 1) := by decide +kernel
theorem dX5_leastCounters_20 : decode cX5_leastCounters 20 = .ok (.ifCond .ne 7, 3) := by decide +kernel
theorem dX5_leastCounters_23 : decode cX5_leastCounters 23 = .ok (.aload_n 0, 1) := by decide +kernel
theorem dX5_leastCounters_24 : decode cX5_leastCounters 24 = .ok (.invokevirtual 36, 3) := by decide +kernel
theorem dX5_leastCounters_27 : decode cX5_leastCounters 27 = .ok (.aload_n 0, 1) := by decide +kernel
theorem dX5_leastCounters_28 : decode cX5_leastCounters 28 = .ok (.getfield 15, 3) := by decide +kernel
theorem dX5_leastCounters_31 : decode cX5_leastCounters 31 = .ok (.iload 4, 2) := by decide +kernel
theorem dX5_leastCounters_33 : decode cX5_leastCounters 33 = .ok (.iaload, 1) := by decide +kernel
theorem dX5_leastCounters_34 : decode cX5_leastCounters 34 = .ok (.aload_n 0, 1) := by decide +kernel
theorem dX5_leastCounters_35 : decode cX5_leastCounters 35 = .ok (.getfield 24, 3) := by decide +kernel
theorem dX5_leastCounters_38 : decode cX5_leastCounters 38 = .ok (.if_icmp .eq 21, 3) := by decide +kernel
theorem dX5_leastCounters_41 : decode cX5_leastCounters 41 = .ok (.aload_n 0, 1) := by decide +kernel
theorem dX5_leastCounters_42 : decode cX5_leastCounters 42 = .ok (.aload_n 1, 1) := by decide +kernel
theorem dX5_leastCounters_43 : decode cX5_leastCounters 43 = .ok (.iload 4, 2) := by decide +kernel
theorem dX5_leastCounters_45 : decode cX5_leastCounters 45 = .ok (.invokevirtual 39, 3) := by decide +kernel
theorem dX5_leastCounters_48 : decode cX5_leastCounters 48 = .ok (.aload_n 0, 1) := by decide +kernel
theorem dX5_leastCounters_49 : decode cX5_leastCounters 49 = .ok (.getfield 15, 3) := by decide +kernel
theorem dX5_leastCounters_52 : decode cX5_leastCounters 52 = .ok (.iload 4, 2) := by decide +kernel
end
section
theorem dX5_leastCounters_54 : decode cX5_leastCounters 54 = .ok (.aload_n 0, 1) := by decide +kernel
theorem dX5_leastCounters_55 : decode cX5_leastCounters 55 = .ok (.getfield 24, 3) := by decide +kernel
theorem dX5_leastCounters_58 : decode cX5_leastCounters 58 = .ok (.iastore, 1) := by decide +kernel
theorem dX5_leastCounters_59 : decode cX5_leastCounters 59 = .ok (.aload_n 0, 1) := by decide +kernel
theorem dX5_leastCounters_60 : decode cX5_leastCounters 60 = .ok (.getfield 11, 3) := by decide +kernel
theorem dX5_leastCounters_63 : decode cX5_leastCounters 63 = .ok (.iload 4, 2) := by decide +kernel
theorem dX5_leastCounters_65 : decode cX5_leastCounters 65 = .ok (.bipush 16, 2) := by decide +kernel
theorem dX5_leastCounters_67 : decode cX5_leastCounters 67 = .ok (.imul, 1) := by decide +kernel
theorem dX5_leastCounters_68 : decode cX5_leastCounters 68 = .ok (.iload_n 3, 1) := by decide +kernel
theorem dX5_leastCounters_69 : decode cX5_leastCounters 69 = .ok (.iadd, 1) := by decide +kernel
theorem dX5_leastCounters_70 : decode cX5_leastCounters 70 = .ok (.iaload, 1) := by decide +kernel
theorem dX5_leastCounters_71 : decode cX5_leastCounters 71 = .ok (.ireturn, 1) := by decide +kernel
theorem dX5_makeRows_0 : decode cX5_makeRows 0 = .ok (.aload_n 0, 1) := by decide +kernel
theorem dX5_makeRows_1 : decode cX5_makeRows 1 = .ok (.sipush 25600, 3) := by decide +kernel
theorem dX5_makeRows_4 : decode cX5_makeRows 4 = .ok (.newarray .int, 2) := by decide +kernel
theorem dX5_makeRows_6 : decode cX5_makeRows 6 = .ok (.putfield 11, 3) := by decide +kernel
theorem dX5_makeRows_9 : decode cX5_makeRows 9 = .ok (.aload_n 0, 1) := by decide +kernel
theorem dX5_makeRows_10 : decode cX5_makeRows 10 = .ok (.sipush 1600, 3) := by decide +kernel
theorem dX5_makeRows_13 : decode cX5_makeRows 13 = .ok (.newarray .int, 2) := by decide +kernel
theorem dX5_makeRows_15 : decode cX5_makeRows 15 = .ok (.putfield 15, 3) := by decide +kernel
theorem dX5_makeRows_18 : decode cX5_makeRows 18 = .ok (.aload_n 0, 1) := by decide +kernel
theorem dX5_makeRows_19 : decode cX5_makeRows 19 = .ok (.sipush 1600, 3) := by decide +kernel
theorem dX5_makeRows_22 : decode cX5_makeRows 22 = .ok (.newarray .int, 2) := by decide +kernel
theorem dX5_makeRows_24 : decode cX5_makeRows 24 = .ok (.putfield 18, 3) := by decide +kernel
theorem dX5_makeRows_27 : decode cX5_makeRows 27 = .ok (.aload_n 0, 1) := by decide +kernel
theorem dX5_makeRows_28 : decode cX5_makeRows 28 = .ok (.sipush 1600, 3) := by decide +kernel
theorem dX5_makeRows_31 : decode cX5_makeRows 31 = .ok (.newarray .int, 2) := by decide +kernel
theorem dX5_makeRows_33 : decode cX5_makeRows 33 = .ok (.putfield 21, 3) := by decide +kernel
theorem dX5_makeRows_36 : decode cX5_makeRows 36 = .ok (.return_, 1) := by decide +kernel
theorem dX5_search_0 : decode cX5_search 0 = .ok (.iload_n 2, 1) := by decide +kernel
theorem dX5_search_1 : decode cX5_search 1 = .ok (.bipush 16, 2) := by decide +kernel
theorem dX5_search_3 : decode cX5_search 3 = .ok (.imul, 1) := by decide +kernel
theorem dX5_search_4 : decode cX5_search 4 = .ok (.istore_n 3, 1) := by decide +kernel
theorem dX5_search_5 : decode cX5_search 5 = .ok (.aload_n 0, 1) := by decide +kernel
theorem dX5_search_6 : decode cX5_search 6 = .ok (.getfield 11, 3) := by decide +kernel
theorem dX5_search_9 : decode cX5_search 9 = .ok (.iload_n 3, 1) := by decide +kernel
theorem dX5_search_10 : decode cX5_search 10 = .ok (.iload_n 3, 1) := by decide +kernel
theorem dX5_search_11 : decode cX5_search 11 = .ok (.bipush 16, 2) := by decide +kernel
theorem dX5_search_13 : decode cX5_search 13 = .ok (.iadd, 1) := by decide +kernel
theorem dX5_search_14 : decode cX5_search 14 = .ok (.iconst (-1), 1) := by decide +kernel
theorem dX5_search_15 : decode cX5_search 15 = .ok (.invokestatic 43, 3) := by decide +kernel
theorem dX5_search_18 : decode cX5_search 18 = .ok (.aload_n 0, 1) := by decide +kernel
theorem dX5_search_19 : decode cX5_search 19 = .ok (.dup, 1) := by decide +kernel
theorem dX5_search_20 : decode cX5_search 20 = .ok (.getfield 49, 3) := by decide +kernel
theorem dX5_search_23 : decode cX5_search 23 = .ok (.iconst 1, 1) := by decide +kernel
theorem dX5_search_24 : decode cX5_search 24 = .ok (.iadd, 1) := by decide +kernel
theorem dX5_search_25 : decode cX5_search 25 = .ok (.putfield 49, 3) := by decide +kernel
theorem dX5_search_28 : decode cX5_search 28 = .ok (.aload_n 0, 1) := by decide +kernel
theorem dX5_search_29 : decode cX5_search 29 = .ok (.iconst 0, 1) := by decide +kernel
theorem dX5_search_30 : decode cX5_search 30 = .ok (.putfield 52, 3) := by decide +kernel
theorem dX5_search_33 : decode cX5_search 33 = .ok (.aload_n 0, 1) := by decide +kernel
theorem dX5_search_34 : decode cX5_search 34 = .ok (.iload_n 2, 1) := by decide +kernel
theorem dX5_search_35 : decode cX5_search 35 = .ok (.bipush 100, 2) := by decide +kernel
theorem dX5_search_37 : decode cX5_search 37 = .ok (.idiv, 1) := by decide +kernel
theorem dX5_search_38 : decode cX5_search 38 = .ok (.iload_n 2, 1) := by decide +kernel
theorem dX5_search_39 : decode cX5_search 39 = .ok (.bipush 100, 2) := by decide +kernel
theorem dX5_search_41 : decode cX5_search 41 = .ok (.irem, 1) := by decide +kernel
theorem dX5_search_42 : decode cX5_search 42 = .ok (.invokevirtual 55, 3) := by decide +kernel
theorem dX5_search_45 : decode cX5_search 45 = .ok (.iconst 0, 1) := by decide +kernel
theorem dX5_search_46 : decode cX5_search 46 = .ok (.istore 4, 2) := by decide +kernel
theorem dX5_search_48 : decode cX5_search 48 = .ok (.iload 4, 2) := by decide +kernel
theorem dX5_search_50 : decode cX5_search 50 = .ok (.sipush 1600, 3) := by decide +kernel
theorem dX5_search_53 : decode cX5_search 53 = .ok (.if_icmp .ge 167, 3) := by decide +kernel
theorem dX5_search_56 : decode cX5_search 56 = .ok (.iload 4, 2) := by decide +kernel
theorem dX5_search_58 : decode cX5_search 58 = .ok (.aload_n 0, 1) := by decide +kernel
theorem dX5_search_59 : decode cX5_search 59 = .ok (.getfield 52, 3) := by decide +kernel
theorem dX5_search_62 : decode cX5_search 62 = .ok (.if_icmp .ge 158, 3) := by decide +kernel
theorem dX5_search_65 : decode cX5_search 65 = .ok (.aload_n 0, 1) := by decide +kernel
theorem dX5_search_66 : decode cX5_search 66 = .ok (.getfield 21, 3) := by decide +kernel
theorem dX5_search_69 : decode cX5_search 69 = .ok (.iload 4, 2) := by decide +kernel
theorem dX5_search_71 : decode cX5_search 71 = .ok (.iaload, 1) := by decide +kernel
theorem dX5_search_72 : decode cX5_search 72 = .ok (.bipush 100, 2) := by decide +kernel
theorem dX5_search_74 : decode cX5_search 74 = .ok (.idiv, 1) := by decide +kernel
theorem dX5_search_75 : decode cX5_search 75 = .ok (.istore 5, 2) := by decide +kernel
theorem dX5_search_77 : decode cX5_search 77 = .ok (.aload_n 0, 1) := by decide +kernel
theorem dX5_search_78 : decode cX5_search 78 = .ok (.getfield 21, 3) := by decide +kernel
theorem dX5_search_81 : decode cX5_search 81 = .ok (.iload 4, 2) := by decide +kernel
theorem dX5_search_83 : decode cX5_search 83 = .ok (.iaload, 1) := by decide +kernel
theorem dX5_search_84 : decode cX5_search 84 = .ok (.bipush 100, 2) := by decide +kernel
theorem dX5_search_86 : decode cX5_search 86 = .ok (.irem, 1) := by decide +kernel
theorem dX5_search_87 : decode cX5_search 87 = .ok (.istore 6, 2) := by decide +kernel
theorem dX5_search_89 : decode cX5_search 89 = .ok (.aload_n 0, 1) := by decide +kernel
theorem dX5_search_90 : decode cX5_search 90 = .ok (.getfield 11, 3) := by decide +kernel
theorem dX5_search_93 : decode cX5_search 93 = .ok (.iload_n 3, 1) := by decide +kernel
theorem dX5_search_94 : decode cX5_search 94 = .ok (.iload 5, 2) := by decide +kernel
theorem dX5_search_96 : decode cX5_search 96 = .ok (.iadd, 1) := by decide +kernel
theorem dX5_search_97 : decode cX5_search 97 = .ok (.iaload, 1) := by decide +kernel
theorem dX5_search_98 : decode cX5_search 98 = .ok (.iconst (-1), 1) := by decide +kernel
theorem dX5_search_99 : decode cX5_search 99 = .ok (.if_icmp .eq 17, 3) := by decide +kernel
theorem dX5_search_102 : decode cX5_search 102 = .ok (.iload 6, 2) := by decide +kernel
theorem dX5_search_104 : decode cX5_search 104 = .ok (.aload_n 0, 1) := by decide +kernel
theorem dX5_search_105 : decode cX5_search 105 = .ok (.getfield 11, 3) := by decide +kernel
theorem dX5_search_108 : decode cX5_search 108 = .ok (.iload_n 3, 1) := by decide +kernel
theorem dX5_search_109 : decode cX5_search 109 = .ok (.iload 5, 2) := by decide +kernel
theorem dX5_search_111 : decode cX5_search 111 = .ok (.iadd, 1) := by decide +kernel
theorem dX5_search_112 : decode cX5_search 112 = .ok (.iaload, 1) := by decide +kernel
theorem dX5_search_113 : decode cX5_search 113 = .ok (.if_icmp .ge 14, 3) := by decide +kernel
theorem dX5_search_116 : decode cX5_search 116 = .ok (.aload_n 0, 1) := by decide +kernel
theorem dX5_search_117 : decode cX5_search 117 = .ok (.getfield 11, 3) := by decide +kernel
theorem dX5_search_120 : decode cX5_search 120 = .ok (.iload_n 3, 1) := by decide +kernel
theorem dX5_search_121 : decode cX5_search 121 = .ok (.iload 5, 2) := by decide +kernel
theorem dX5_search_123 : decode cX5_search 123 = .ok (.iadd, 1) := by decide +kernel
theorem dX5_search_124 : decode cX5_search 124 = .ok (.iload 6, 2) := by decide +kernel
theorem dX5_search_126 : decode cX5_search 126 = .ok (.iastore, 1) := by decide +kernel
theorem dX5_search_127 : decode cX5_search 127 = .ok (.iconst 0, 1) := by decide +kernel
theorem dX5_search_128 : decode cX5_search 128 = .ok (.istore 7, 2) := by decide +kernel
theorem dX5_search_130 : decode cX5_search 130 = .ok (.iload 7, 2) := by decide +kernel
theorem dX5_search_132 : decode cX5_search 132 = .ok (.aload_n 1, 1) := by decide +kernel
theorem dX5_search_133 : decode cX5_search 133 = .ok (.getfield 59, 3) := by decide +kernel
theorem dX5_search_136 : decode cX5_search 136 = .ok (.if_icmp .ge 32, 3) := by decide +kernel
theorem dX5_search_139 : decode cX5_search 139 = .ok (.aload_n 1, 1) := by decide +kernel
theorem dX5_search_140 : decode cX5_search 140 = .ok (.getfield 64, 3) := by decide +kernel
theorem dX5_search_143 : decode cX5_search 143 = .ok (.iload 7, 2) := by decide +kernel
theorem dX5_search_145 : decode cX5_search 145 = .ok (.iaload, 1) := by decide +kernel
theorem dX5_search_146 : decode cX5_search 146 = .ok (.iload 5, 2) := by decide +kernel
theorem dX5_search_148 : decode cX5_search 148 = .ok (.if_icmp .ne 14, 3) := by decide +kernel
theorem dX5_search_151 : decode cX5_search 151 = .ok (.aload_n 0, 1) := by decide +kernel
theorem dX5_search_152 : decode cX5_search 152 = .ok (.bipush 6, 2) := by decide +kernel
theorem dX5_search_154 : decode cX5_search 154 = .ok (.iload 7, 2) := by decide +kernel
theorem dX5_search_156 : decode cX5_search 156 = .ok (.iadd, 1) := by decide +kernel
theorem dX5_search_157 : decode cX5_search 157 = .ok (.iload 6, 2) := by decide +kernel
theorem dX5_search_159 : decode cX5_search 159 = .ok (.invokevirtual 55, 3) := by decide +kernel
theorem dX5_search_162 : decode cX5_search 162 = .ok (.iinc 7 1, 3) := by decide +kernel
theorem dX5_search_165 : decode cX5_search 165 = .ok (.goto (-35), 3) := by decide +kernel
theorem dX5_search_168 : decode cX5_search 168 = .ok (.iload 5, 2) := by decide +kernel
theorem dX5_search_170 : decode cX5_search 170 = .ok (.bipush 6, 2) := by decide +kernel
theorem dX5_search_172 : decode cX5_search 172 = .ok (.if_icmp .ge 7, 3) := by decide +kernel
theorem dX5_search_175 : decode cX5_search 175 = .ok (.iconst (-1), 1) := by decide +kernel
theorem dX5_search_176 : decode cX5_search 176 = .ok (.goto 14, 3) := by decide +kernel
theorem dX5_search_179 : decode cX5_search 179 = .ok (.aload_n 1, 1) := by decide +kernel
theorem dX5_search_180 : decode cX5_search 180 = .ok (.iload 5, 2) := by decide +kernel
theorem dX5_search_182 : decode cX5_search 182 = .ok (.bipush 6, 2) := by decide +kernel
theorem dX5_search_184 : decode cX5_search 184 = .ok (.isub, 1) := by decide +kernel
theorem dX5_search_185 : decode cX5_search 185 = .ok (.iload 6, 2) := by decide +kernel
theorem dX5_search_187 : decode cX5_search 187 = .ok (.invokevirtual 67, 3) := by decide +kernel
theorem dX5_search_190 : decode cX5_search 190 = .ok (.istore 7, 2) := by decide +kernel
theorem dX5_search_192 : decode cX5_search 192 = .ok (.iload 7, 2) := by decide +kernel
theorem dX5_search_194 : decode cX5_search 194 = .ok (.iconst (-1), 1) := by decide +kernel
theorem dX5_search_195 : decode cX5_search 195 = .ok (.if_icmp .eq 19, 3) := by decide +kernel
theorem dX5_search_198 : decode cX5_search 198 = .ok (.aload_n 0, 1) := by decide +kernel
theorem dX5_search_199 : decode cX5_search 199 = .ok (.aload_n 1, 1) := by decide +kernel
theorem dX5_search_200 : decode cX5_search 200 = .ok (.getfield 71, 3) := by decide +kernel
theorem dX5_search_203 : decode cX5_search 203 = .ok (.iload 5, 2) := by decide +kernel
theorem dX5_search_205 : decode cX5_search 205 = .ok (.bipush 6, 2) := by decide +kernel
theorem dX5_search_207 : decode cX5_search 207 = .ok (.isub, 1) := by decide +kernel
theorem dX5_search_208 : decode cX5_search 208 = .ok (.iaload, 1) := by decide +kernel
theorem dX5_search_209 : decode cX5_search 209 = .ok (.iload 7, 2) := by decide +kernel
theorem dX5_search_211 : decode cX5_search 211 = .ok (.invokevirtual 55, 3) := by decide +kernel
theorem dX5_search_214 : decode cX5_search 214 = .ok (.iinc 4 1, 3) := by decide +kernel
theorem dX5_search_217 : decode cX5_search 217 = .ok (.goto (-169), 3) := by decide +kernel
theorem dX5_search_220 : decode cX5_search 220 = .ok (.return_, 1) := by decide +kernel
theorem dX5_addPlace_0 : decode cX5_addPlace 0 = .ok (.iload_n 1, 1) := by decide +kernel
theorem dX5_addPlace_1 : decode cX5_addPlace 1 = .ok (.bipush 100, 2) := by decide +kernel
theorem dX5_addPlace_3 : decode cX5_addPlace 3 = .ok (.imul, 1) := by decide +kernel
theorem dX5_addPlace_4 : decode cX5_addPlace 4 = .ok (.iload_n 2, 1) := by decide +kernel
theorem dX5_addPlace_5 : decode cX5_addPlace 5 = .ok (.iadd, 1) := by decide +kernel
theorem dX5_addPlace_6 : decode cX5_addPlace 6 = .ok (.istore_n 3, 1) := by decide +kernel
theorem dX5_addPlace_7 : decode cX5_addPlace 7 = .ok (.aload_n 0, 1) := by decide +kernel
theorem dX5_addPlace_8 : decode cX5_addPlace 8 = .ok (.getfield 18, 3) := by decide +kernel
theorem dX5_addPlace_11 : decode cX5_addPlace 11 = .ok (.iload_n 3, 1) := by decide +kernel
theorem dX5_addPlace_12 : decode cX5_addPlace 12 = .ok (.iaload, 1) := by decide +kernel
theorem dX5_addPlace_13 : decode cX5_addPlace 13 = .ok (.aload_n 0, 1) := by decide +kernel
theorem dX5_addPlace_14 : decode cX5_addPlace 14 = .ok (.getfield 49, 3) := by decide +kernel
theorem dX5_addPlace_17 : decode cX5_addPlace 17 = .ok (.if_icmp .eq 33, 3) := by decide +kernel
theorem dX5_addPlace_20 : decode cX5_addPlace 20 = .ok (.aload_n 0, 1) := by decide +kernel
theorem dX5_addPlace_21 : decode cX5_addPlace 21 = .ok (.getfield 18, 3) := by decide +kernel
theorem dX5_addPlace_24 : decode cX5_addPlace 24 = .ok (.iload_n 3, 1) := by decide +kernel
theorem dX5_addPlace_25 : decode cX5_addPlace 25 = .ok (.aload_n 0, 1) := by decide +kernel
theorem dX5_addPlace_26 : decode cX5_addPlace 26 = .ok (.getfield 49, 3) := by decide +kernel
theorem dX5_addPlace_29 : decode cX5_addPlace 29 = .ok (.iastore, 1) := by decide +kernel
theorem dX5_addPlace_30 : decode cX5_addPlace 30 = .ok (.aload_n 0, 1) := by decide +kernel
theorem dX5_addPlace_31 : decode cX5_addPlace 31 = .ok (.getfield 21, 3) := by decide +kernel
theorem dX5_addPlace_34 : decode cX5_addPlace 34 = .ok (.aload_n 0, 1) := by decide +kernel
theorem dX5_addPlace_35 : decode cX5_addPlace 35 = .ok (.getfield 52, 3) := by decide +kernel
theorem dX5_addPlace_38 : decode cX5_addPlace 38 = .ok (.iload_n 3, 1) := by decide +kernel
theorem dX5_addPlace_39 : decode cX5_addPlace 39 = .ok (.iastore, 1) := by decide +kernel
theorem dX5_addPlace_40 : decode cX5_addPlace 40 = .ok (.aload_n 0, 1) := by decide +kernel
theorem dX5_addPlace_41 : decode cX5_addPlace 41 = .ok (.dup, 1) := by decide +kernel
theorem dX5_addPlace_42 : decode cX5_addPlace 42 = .ok (.getfield 52, 3) := by decide +kernel
theorem dX5_addPlace_45 : decode cX5_addPlace 45 = .ok (.iconst 1, 1) := by decide +kernel
theorem dX5_addPlace_46 : decode cX5_addPlace 46 = .ok (.iadd, 1) := by decide +kernel
theorem dX5_addPlace_47 : decode cX5_addPlace 47 = .ok (.putfield 52, 3) := by decide +kernel
theorem dX5_addPlace_50 : decode cX5_addPlace 50 = .ok (.return_, 1) := by decide +kernel
theorem dX6_init_0 : decode cX6_init 0 = .ok (.aload_n 0, 1) := by decide +kernel
theorem dX6_init_1 : decode cX6_init 1 = .ok (.invokespecial 3, 3) := by decide +kernel
theorem dX6_init_4 : decode cX6_init 4 = .ok (.aload_n 0, 1) := by decide +kernel
theorem dX6_init_5 : decode cX6_init 5 = .ok (.iconst 2, 1) := by decide +kernel
theorem dX6_init_6 : decode cX6_init 6 = .ok (.newarray .int, 2) := by decide +kernel
theorem dX6_init_8 : decode cX6_init 8 = .ok (.putfield 9, 3) := by decide +kernel
theorem dX6_init_11 : decode cX6_init 11 = .ok (.aload_n 0, 1) := by decide +kernel
theorem dX6_init_12 : decode cX6_init 12 = .ok (.bipush 24, 2) := by decide +kernel
theorem dX6_init_14 : decode cX6_init 14 = .ok (.newarray .int, 2) := by decide +kernel
theorem dX6_init_16 : decode cX6_init 16 = .ok (.putfield 15, 3) := by decide +kernel
theorem dX6_init_19 : decode cX6_init 19 = .ok (.return_, 1) := by decide +kernel
theorem dX6_sizeOf_0 : decode cX6_sizeOf 0 = .ok (.aload_n 0, 1) := by decide +kernel
theorem dX6_sizeOf_1 : decode cX6_sizeOf 1 = .ok (.getfield 9, 3) := by decide +kernel
theorem dX6_sizeOf_4 : decode cX6_sizeOf 4 = .ok (.iload_n 1, 1) := by decide +kernel
theorem dX6_sizeOf_5 : decode cX6_sizeOf 5 = .ok (.iaload, 1) := by decide +kernel
theorem dX6_sizeOf_6 : decode cX6_sizeOf 6 = .ok (.ireturn, 1) := by decide +kernel
theorem dX6_stampAt_0 : decode cX6_stampAt 0 = .ok (.aload_n 0, 1) := by decide +kernel
theorem dX6_stampAt_1 : decode cX6_stampAt 1 = .ok (.getfield 15, 3) := by decide +kernel
theorem dX6_stampAt_4 : decode cX6_stampAt 4 = .ok (.iload_n 1, 1) := by decide +kernel
theorem dX6_stampAt_5 : decode cX6_stampAt 5 = .ok (.bipush 12, 2) := by decide +kernel
theorem dX6_stampAt_7 : decode cX6_stampAt 7 = .ok (.imul, 1) := by decide +kernel
theorem dX6_stampAt_8 : decode cX6_stampAt 8 = .ok (.iload_n 2, 1) := by decide +kernel
theorem dX6_stampAt_9 : decode cX6_stampAt 9 = .ok (.iadd, 1) := by decide +kernel
theorem dX6_stampAt_10 : decode cX6_stampAt 10 = .ok (.iaload, 1) := by decide +kernel
theorem dX6_stampAt_11 : decode cX6_stampAt 11 = .ok (.ireturn, 1) := by decide +kernel
theorem dX6_isFull_0 : decode cX6_isFull 0 = .ok (.aload_n 0, 1) := by decide +kernel
theorem dX6_isFull_1 : decode cX6_isFull 1 = .ok (.getfield 9, 3) := by decide +kernel
theorem dX6_isFull_4 : decode cX6_isFull 4 = .ok (.iload_n 1, 1) := by decide +kernel
theorem dX6_isFull_5 : decode cX6_isFull 5 = .ok (.iaload, 1) := by decide +kernel
theorem dX6_isFull_6 : decode cX6_isFull 6 = .ok (.bipush 12, 2) := by decide +kernel
theorem dX6_isFull_8 : decode cX6_isFull 8 = .ok (.if_icmp .lt 7, 3) := by decide +kernel
theorem dX6_isFull_11 : decode cX6_isFull 11 = .ok (.iconst 1, 1) := by decide +kernel
theorem dX6_isFull_12 : decode cX6_isFull 12 = .ok (.goto 4, 3) := by decide +kernel
theorem dX6_isFull_15 : decode cX6_isFull 15 = .ok (.iconst 0, 1) := by decide +kernel
theorem dX6_isFull_16 : decode cX6_isFull 16 = .ok (.ireturn, 1) := by decide +kernel
theorem dX6_countAt_0 : decode cX6_countAt 0 = .ok (.iconst 0, 1) := by decide +kernel
theorem dX6_countAt_1 : decode cX6_countAt 1 = .ok (.istore_n 3, 1) := by decide +kernel
theorem dX6_countAt_2 : decode cX6_countAt 2 = .ok (.iconst 0, 1) := by decide +kernel
theorem dX6_countAt_3 : decode cX6_countAt 3 = .ok (.istore 4, 2) := by decide +kernel
theorem dX6_countAt_5 : decode cX6_countAt 5 = .ok (.iload 4, 2) := by decide +kernel
theorem dX6_countAt_7 : decode cX6_countAt 7 = .ok (.aload_n 0, 1) := by decide +kernel
theorem dX6_countAt_8 : decode cX6_countAt 8 = .ok (.getfield 9, 3) := by decide +kernel
theorem dX6_countAt_11 : decode cX6_countAt 11 = .ok (.iload_n 1, 1) := by decide +kernel
theorem dX6_countAt_12 : decode cX6_countAt 12 = .ok (.iaload, 1) := by decide +kernel
theorem dX6_countAt_13 : decode cX6_countAt 13 = .ok (.if_icmp .ge 27, 3) := by decide +kernel
theorem dX6_countAt_16 : decode cX6_countAt 16 = .ok (.aload_n 0, 1) := by decide +kernel
theorem dX6_countAt_17 : decode cX6_countAt 17 = .ok (.iload_n 1, 1) := by decide +kernel
theorem dX6_countAt_18 : decode cX6_countAt 18 = .ok (.iload 4, 2) := by decide +kernel
theorem dX6_countAt_20 : decode cX6_countAt 20 = .ok (.invokevirtual 18, 3) := by decide +kernel
theorem dX6_countAt_23 : decode cX6_countAt 23 = .ok (.sipush 1000, 3) := by decide +kernel
theorem dX6_countAt_26 : decode cX6_countAt 26 = .ok (.idiv, 1) := by decide +kernel
theorem dX6_countAt_27 : decode cX6_countAt 27 = .ok (.iload_n 2, 1) := by decide +kernel
theorem dX6_countAt_28 : decode cX6_countAt 28 = .ok (.if_icmp .ne 6, 3) := by decide +kernel
theorem dX6_countAt_31 : decode cX6_countAt 31 = .ok (.iinc 3 1, 3) := by decide +kernel
theorem dX6_countAt_34 : decode cX6_countAt 34 = .ok (.iinc 4 1, 3) := by decide +kernel
theorem dX6_countAt_37 : decode cX6_countAt 37 = .ok (.goto (-32), 3) := by decide +kernel
theorem dX6_countAt_40 : decode cX6_countAt 40 = .ok (.iload_n 3, 1) := by decide +kernel
theorem dX6_countAt_41 : decode cX6_countAt 41 = .ok (.ireturn, 1) := by decide +kernel
theorem dX6_put_0 : decode cX6_put 0 = .ok (.aload_n 0, 1) := by decide +kernel
theorem dX6_put_1 : decode cX6_put 1 = .ok (.getfield 15, 3) := by decide +kernel
theorem dX6_put_4 : decode cX6_put 4 = .ok (.iload_n 1, 1) := by decide +kernel
theorem dX6_put_5 : decode cX6_put 5 = .ok (.bipush 12, 2) := by decide +kernel
theorem dX6_put_7 : decode cX6_put 7 = .ok (.imul, 1) := by decide +kernel
theorem dX6_put_8 : decode cX6_put 8 = .ok (.aload_n 0, 1) := by decide +kernel
theorem dX6_put_9 : decode cX6_put 9 = .ok (.getfield 9, 3) := by decide +kernel
theorem dX6_put_12 : decode cX6_put 12 = .ok (.iload_n 1, 1) := by decide +kernel
theorem dX6_put_13 : decode cX6_put 13 = .ok (.iaload, 1) := by decide +kernel
theorem dX6_put_14 : decode cX6_put 14 = .ok (.iadd, 1) := by decide +kernel
theorem dX6_put_15 : decode cX6_put 15 = .ok (.iload_n 2, 1) := by decide +kernel
theorem dX6_put_16 : decode cX6_put 16 = .ok (.iastore, 1) := by decide +kernel
theorem dX6_put_17 : decode cX6_put 17 = .ok (.aload_n 0, 1) := by decide +kernel
theorem dX6_put_18 : decode cX6_put 18 = .ok (.getfield 9, 3) := by decide +kernel
theorem dX6_put_21 : decode cX6_put 21 = .ok (.iload_n 1, 1) := by decide +kernel
theorem dX6_put_22 : decode cX6_put 22 = .ok (.dup2, 1) := by decide +kernel
theorem dX6_put_23 : decode cX6_put 23 = .ok (.iaload, 1) := by decide +kernel
theorem dX6_put_24 : decode cX6_put 24 = .ok (.iconst 1, 1) := by decide +kernel
theorem dX6_put_25 : decode cX6_put 25 = .ok (.iadd, 1) := by decide +kernel
theorem dX6_put_26 : decode cX6_put 26 = .ok (.iastore, 1) := by decide +kernel
theorem dX6_put_27 : decode cX6_put 27 = .ok (.return_, 1) := by decide +kernel
theorem dX6_remove_0 : decode cX6_remove 0 = .ok (.iconst 0, 1) := by decide +kernel
theorem dX6_remove_1 : decode cX6_remove 1 = .ok (.istore_n 3, 1) := by decide +kernel
theorem dX6_remove_2 : decode cX6_remove 2 = .ok (.iload_n 3, 1) := by decide +kernel
theorem dX6_remove_3 : decode cX6_remove 3 = .ok (.aload_n 0, 1) := by decide +kernel
theorem dX6_remove_4 : decode cX6_remove 4 = .ok (.getfield 9, 3) := by decide +kernel
theorem dX6_remove_7 : decode cX6_remove 7 = .ok (.iload_n 1, 1) := by decide +kernel
theorem dX6_remove_8 : decode cX6_remove 8 = .ok (.iaload, 1) := by decide +kernel
theorem dX6_remove_9 : decode cX6_remove 9 = .ok (.if_icmp .ge 52, 3) := by decide +kernel
theorem dX6_remove_12 : decode cX6_remove 12 = .ok (.aload_n 0, 1) := by decide +kernel
theorem dX6_remove_13 : decode cX6_remove 13 = .ok (.iload_n 1, 1) := by decide +kernel
theorem dX6_remove_14 : decode cX6_remove 14 = .ok (.iload_n 3, 1) := by decide +kernel
theorem dX6_remove_15 : decode cX6_remove 15 = .ok (.invokevirtual 18, 3) := by decide +kernel
theorem dX6_remove_18 : decode cX6_remove 18 = .ok (.iload_n 2, 1) := by decide +kernel
theorem dX6_remove_19 : decode cX6_remove 19 = .ok (.if_icmp .ne 36, 3) := by decide +kernel
theorem dX6_remove_22 : decode cX6_remove 22 = .ok (.aload_n 0, 1) := by decide +kernel
theorem dX6_remove_23 : decode cX6_remove 23 = .ok (.getfield 9, 3) := by decide +kernel
theorem dX6_remove_26 : decode cX6_remove 26 = .ok (.iload_n 1, 1) := by decide +kernel
theorem dX6_remove_27 : decode cX6_remove 27 = .ok (.dup2, 1) := by decide +kernel
theorem dX6_remove_28 : decode cX6_remove 28 = .ok (.iaload, 1) := by decide +kernel
theorem dX6_remove_29 : decode cX6_remove 29 = .ok (.iconst 1, 1) := by decide +kernel
theorem dX6_remove_30 : decode cX6_remove 30 = .ok (.isub, 1) := by decide +kernel
theorem dX6_remove_31 : decode cX6_remove 31 = .ok (.iastore, 1) := by decide +kernel
theorem dX6_remove_32 : decode cX6_remove 32 = .ok (.aload_n 0, 1) := by decide +kernel
theorem dX6_remove_33 : decode cX6_remove 33 = .ok (.getfield 15, 3) := by decide +kernel
theorem dX6_remove_36 : decode cX6_remove 36 = .ok (.iload_n 1, 1) := by decide +kernel
theorem dX6_remove_37 : decode cX6_remove 37 = .ok (.bipush 12, 2) := by decide +kernel
theorem dX6_remove_39 : decode cX6_remove 39 = .ok (.imul, 1) := by decide +kernel
theorem dX6_remove_40 : decode cX6_remove 40 = .ok (.iload_n 3, 1) := by decide +kernel
theorem dX6_remove_41 : decode cX6_remove 41 = .ok (.iadd, 1) := by decide +kernel
theorem dX6_remove_42 : decode cX6_remove 42 = .ok (.aload_n 0, 1) := by decide +kernel
theorem dX6_remove_43 : decode cX6_remove 43 = .ok (.iload_n 1, 1) := by decide +kernel
theorem dX6_remove_44 : decode cX6_remove 44 = .ok (.aload_n 0, 1) := by decide +kernel
theorem dX6_remove_45 : decode cX6_remove 45 = .ok (.getfield 9, 3) := by decide +kernel
theorem dX6_remove_48 : decode cX6_remove 48 = .ok (.iload_n 1, 1) := by decide +kernel
theorem dX6_remove_49 : decode cX6_remove 49 = .ok (.iaload, 1) := by decide +kernel
theorem dX6_remove_50 : decode cX6_remove 50 = .ok (.invokevirtual 18, 3) := by decide +kernel
theorem dX6_remove_53 : decode cX6_remove 53 = .ok (.iastore, 1) := by decide +kernel
theorem dX6_remove_54 : decode cX6_remove 54 = .ok (.return_, 1) := by decide +kernel
theorem dX6_remove_55 : decode cX6_remove 55 = .ok (.iinc 3 1, 3) := by decide +kernel
theorem dX6_remove_58 : decode cX6_remove 58 = .ok (.goto (-56), 3) := by decide +kernel
theorem dX6_remove_61 : decode cX6_remove 61 = .ok (.return_, 1) := by decide +kernel
theorem dX6_copyFrom_0 : decode cX6_copyFrom 0 = .ok (.aload_n 1, 1) := by decide +kernel
theorem dX6_copyFrom_1 : decode cX6_copyFrom 1 = .ok (.getfield 9, 3) := by decide +kernel
theorem dX6_copyFrom_4 : decode cX6_copyFrom 4 = .ok (.iconst 0, 1) := by decide +kernel
theorem dX6_copyFrom_5 : decode cX6_copyFrom 5 = .ok (.aload_n 0, 1) := by decide +kernel
theorem dX6_copyFrom_6 : decode cX6_copyFrom 6 = .ok (.getfield 9, 3) := by decide +kernel
theorem dX6_copyFrom_9 : decode cX6_copyFrom 9 = .ok (.iconst 0, 1) := by decide +kernel
theorem dX6_copyFrom_10 : decode cX6_copyFrom 10 = .ok (.aload_n 0, 1) := by decide +kernel
theorem dX6_copyFrom_11 : decode cX6_copyFrom 11 = .ok (.getfield 9, 3) := by decide +kernel
theorem dX6_copyFrom_14 : decode cX6_copyFrom 14 = .ok (.arraylength, 1) := by decide +kernel
theorem dX6_copyFrom_15 : decode cX6_copyFrom 15 = .ok (.invokestatic 22, 3) := by decide +kernel
theorem dX6_copyFrom_18 : decode cX6_copyFrom 18 = .ok (.aload_n 1, 1) := by decide +kernel
theorem dX6_copyFrom_19 : decode cX6_copyFrom 19 = .ok (.getfield 15, 3) := by decide +kernel
theorem dX6_copyFrom_22 : decode cX6_copyFrom 22 = .ok (.iconst 0, 1) := by decide +kernel
theorem dX6_copyFrom_23 : decode cX6_copyFrom 23 = .ok (.aload_n 0, 1) := by decide +kernel
theorem dX6_copyFrom_24 : decode cX6_copyFrom 24 = .ok (.getfield 15, 3) := by decide +kernel
theorem dX6_copyFrom_27 : decode cX6_copyFrom 27 = .ok (.iconst 0, 1) := by decide +kernel
theorem dX6_copyFrom_28 : decode cX6_copyFrom 28 = .ok (.aload_n 0, 1) := by decide +kernel
theorem dX6_copyFrom_29 : decode cX6_copyFrom 29 = .ok (.getfield 15, 3) := by decide +kernel
theorem dX6_copyFrom_32 : decode cX6_copyFrom 32 = .ok (.arraylength, 1) := by decide +kernel
theorem dX6_copyFrom_33 : decode cX6_copyFrom 33 = .ok (.invokestatic 22, 3) := by decide +kernel
theorem dX6_copyFrom_36 : decode cX6_copyFrom 36 = .ok (.return_, 1) := by decide +kernel
theorem dX7_init_0 : decode cX7_init 0 = .ok (.aload_n 0, 1) := by decide +kernel
theorem dX7_init_1 : decode cX7_init 1 = .ok (.invokespecial 3, 3) := by decide +kernel
theorem dX7_init_4 : decode cX7_init 4 = .ok (.aload_n 0, 1) := by decide +kernel
theorem dX7_init_5 : decode cX7_init 5 = .ok (.iconst 4, 1) := by decide +kernel
theorem dX7_init_6 : decode cX7_init 6 = .ok (.newarray .int, 2) := by decide +kernel
theorem dX7_init_8 : decode cX7_init 8 = .ok (.putfield 9, 3) := by decide +kernel
theorem dX7_init_11 : decode cX7_init 11 = .ok (.aload_n 0, 1) := by decide +kernel
theorem dX7_init_12 : decode cX7_init 12 = .ok (.iconst 3, 1) := by decide +kernel
theorem dX7_init_13 : decode cX7_init 13 = .ok (.anewarray 13, 3) := by decide +kernel
theorem dX7_init_16 : decode cX7_init 16 = .ok (.putfield 15, 3) := by decide +kernel
theorem dX7_init_19 : decode cX7_init 19 = .ok (.aload_n 0, 1) := by decide +kernel
theorem dX7_init_20 : decode cX7_init 20 = .ok (.new 19, 3) := by decide +kernel
theorem dX7_init_23 : decode cX7_init 23 = .ok (.dup, 1) := by decide +kernel
theorem dX7_init_24 : decode cX7_init 24 = .ok (.invokespecial 21, 3) := by decide +kernel
theorem dX7_init_27 : decode cX7_init 27 = .ok (.putfield 22, 3) := by decide +kernel
theorem dX7_init_30 : decode cX7_init 30 = .ok (.aload_n 0, 1) := by decide +kernel
theorem dX7_init_31 : decode cX7_init 31 = .ok (.new 13, 3) := by decide +kernel
theorem dX7_init_34 : decode cX7_init 34 = .ok (.dup, 1) := by decide +kernel
theorem dX7_init_35 : decode cX7_init 35 = .ok (.invokespecial 26, 3) := by decide +kernel
theorem dX7_init_38 : decode cX7_init 38 = .ok (.putfield 27, 3) := by decide +kernel
theorem dX7_init_41 : decode cX7_init 41 = .ok (.iconst 0, 1) := by decide +kernel
theorem dX7_init_42 : decode cX7_init 42 = .ok (.istore_n 1, 1) := by decide +kernel
theorem dX7_init_43 : decode cX7_init 43 = .ok (.iload_n 1, 1) := by decide +kernel
theorem dX7_init_44 : decode cX7_init 44 = .ok (.iconst 3, 1) := by decide +kernel
theorem dX7_init_45 : decode cX7_init 45 = .ok (.if_icmp .ge 22, 3) := by decide +kernel
theorem dX7_init_48 : decode cX7_init 48 = .ok (.aload_n 0, 1) := by decide +kernel
theorem dX7_init_49 : decode cX7_init 49 = .ok (.getfield 15, 3) := by decide +kernel
theorem dX7_init_52 : decode cX7_init 52 = .ok (.iload_n 1, 1) := by decide +kernel
theorem dX7_init_53 : decode cX7_init 53 = .ok (.new 13, 3) := by decide +kernel
theorem dX7_init_56 : decode cX7_init 56 = .ok (.dup, 1) := by decide +kernel
theorem dX7_init_57 : decode cX7_init 57 = .ok (.invokespecial 26, 3) := by decide +kernel
theorem dX7_init_60 : decode cX7_init 60 = .ok (.aastore, 1) := by decide +kernel
theorem dX7_init_61 : decode cX7_init 61 = .ok (.iinc 1 1, 3) := by decide +kernel
theorem dX7_init_64 : decode cX7_init 64 = .ok (.goto (-21), 3) := by decide +kernel
theorem dX7_init_67 : decode cX7_init 67 = .ok (.return_, 1) := by decide +kernel
theorem dX7_addNode_0 : decode cX7_addNode 0 = .ok (.iload_n 1, 1) := by decide +kernel
theorem dX7_addNode_1 : decode cX7_addNode 1 = .ok (.ifCond .lt 24, 3) := by decide +kernel
theorem dX7_addNode_4 : decode cX7_addNode 4 = .ok (.iload_n 1, 1) := by decide +kernel
theorem dX7_addNode_5 : decode cX7_addNode 5 = .ok (.iconst 2, 1) := by decide +kernel
theorem dX7_addNode_6 : decode cX7_addNode 6 = .ok (.if_icmp .gt 19, 3) := by decide +kernel
theorem dX7_addNode_9 : decode cX7_addNode 9 = .ok (.iload_n 2, 1) := by decide +kernel
theorem dX7_addNode_10 : decode cX7_addNode 10 = .ok (.invokestatic 31, 3) := by decide +kernel
theorem dX7_addNode_13 : decode cX7_addNode 13 = .ok (.ifCond .eq 12, 3) := by decide +kernel
theorem dX7_addNode_16 : decode cX7_addNode 16 = .ok (.iload_n 2, 1) := by decide +kernel
theorem dX7_addNode_17 : decode cX7_addNode 17 = .ok (.iconst 1, 1) := by decide +kernel
theorem dX7_addNode_18 : decode cX7_addNode 18 = .ok (.if_icmp .ne 14, 3) := by decide +kernel
theorem dX7_addNode_21 : decode cX7_addNode 21 = .ok (.iload_n 1, 1) := by decide +kernel
theorem dX7_addNode_22 : decode cX7_addNode 22 = .ok (.ifCond .eq 10, 3) := by decide +kernel
theorem dX7_addNode_25 : decode cX7_addNode 25 = .ok (.aload_n 0, 1) := by decide +kernel
theorem dX7_addNode_26 : decode cX7_addNode 26 = .ok (.bipush (-2), 2) := by decide +kernel
theorem dX7_addNode_28 : decode cX7_addNode 28 = .ok (.invokevirtual 35, 3) := by decide +kernel
theorem dX7_addNode_31 : decode cX7_addNode 31 = .ok (.ireturn, 1) := by decide +kernel
theorem dX7_addNode_32 : decode cX7_addNode 32 = .ok (.aload_n 0, 1) := by decide +kernel
theorem dX7_addNode_33 : decode cX7_addNode 33 = .ok (.getfield 27, 3) := by decide +kernel
theorem dX7_addNode_36 : decode cX7_addNode 36 = .ok (.getfield 39, 3) := by decide +kernel
theorem dX7_addNode_39 : decode cX7_addNode 39 = .ok (.ifCond .eq 10, 3) := by decide +kernel
theorem dX7_addNode_42 : decode cX7_addNode 42 = .ok (.aload_n 0, 1) := by decide +kernel
theorem dX7_addNode_43 : decode cX7_addNode 43 = .ok (.bipush (-3), 2) := by decide +kernel
theorem dX7_addNode_45 : decode cX7_addNode 45 = .ok (.invokevirtual 35, 3) := by decide +kernel
theorem dX7_addNode_48 : decode cX7_addNode 48 = .ok (.ireturn, 1) := by decide +kernel
theorem dX7_addNode_49 : decode cX7_addNode 49 = .ok (.aload_n 0, 1) := by decide +kernel
theorem dX7_addNode_50 : decode cX7_addNode 50 = .ok (.getfield 27, 3) := by decide +kernel
theorem dX7_addNode_53 : decode cX7_addNode 53 = .ok (.getfield 43, 3) := by decide +kernel
theorem dX7_addNode_56 : decode cX7_addNode 56 = .ok (.getfield 47, 3) := by decide +kernel
theorem dX7_addNode_59 : decode cX7_addNode 59 = .ok (.bipush 6, 2) := by decide +kernel
theorem dX7_addNode_61 : decode cX7_addNode 61 = .ok (.if_icmp .lt 10, 3) := by decide +kernel
theorem dX7_addNode_64 : decode cX7_addNode 64 = .ok (.aload_n 0, 1) := by decide +kernel
theorem dX7_addNode_65 : decode cX7_addNode 65 = .ok (.bipush (-4), 2) := by decide +kernel
theorem dX7_addNode_67 : decode cX7_addNode 67 = .ok (.invokevirtual 35, 3) := by decide +kernel
theorem dX7_addNode_70 : decode cX7_addNode 70 = .ok (.ireturn, 1) := by decide +kernel
theorem dX7_addNode_71 : decode cX7_addNode 71 = .ok (.aload_n 0, 1) := by decide +kernel
theorem dX7_addNode_72 : decode cX7_addNode 72 = .ok (.invokevirtual 53, 3) := by decide +kernel
theorem dX7_addNode_75 : decode cX7_addNode 75 = .ok (.aload_n 0, 1) := by decide +kernel
theorem dX7_addNode_76 : decode cX7_addNode 76 = .ok (.getfield 22, 3) := by decide +kernel
theorem dX7_addNode_79 : decode cX7_addNode 79 = .ok (.invokevirtual 56, 3) := by decide +kernel
theorem dX7_addNode_82 : decode cX7_addNode 82 = .ok (.aload_n 0, 1) := by decide +kernel
theorem dX7_addNode_83 : decode cX7_addNode 83 = .ok (.getfield 27, 3) := by decide +kernel
theorem dX7_addNode_86 : decode cX7_addNode 86 = .ok (.iload_n 1, 1) := by decide +kernel
theorem dX7_addNode_87 : decode cX7_addNode 87 = .ok (.iload_n 2, 1) := by decide +kernel
theorem dX7_addNode_88 : decode cX7_addNode 88 = .ok (.iconst 1, 1) := by decide +kernel
theorem dX7_addNode_89 : decode cX7_addNode 89 = .ok (.if_icmp .ne 7, 3) := by decide +kernel
theorem dX7_addNode_92 : decode cX7_addNode 92 = .ok (.iconst 1, 1) := by decide +kernel
theorem dX7_addNode_93 : decode cX7_addNode 93 = .ok (.goto 4, 3) := by decide +kernel
theorem dX7_addNode_96 : decode cX7_addNode 96 = .ok (.iconst 0, 1) := by decide +kernel
theorem dX7_addNode_97 : decode cX7_addNode 97 = .ok (.invokevirtual 59, 3) := by decide +kernel
theorem dX7_addNode_100 : decode cX7_addNode 100 = .ok (.ireturn, 1) := by decide +kernel
theorem dX7_addEdge_0 : decode cX7_addEdge 0 = .ok (.aload_n 0, 1) := by decide +kernel
theorem dX7_addEdge_1 : decode cX7_addEdge 1 = .ok (.getfield 27, 3) := by decide +kernel
theorem dX7_addEdge_4 : decode cX7_addEdge 4 = .ok (.getfield 43, 3) := by decide +kernel
theorem dX7_addEdge_7 : decode cX7_addEdge 7 = .ok (.astore 4, 2) := by decide +kernel
theorem dX7_addEdge_9 : decode cX7_addEdge 9 = .ok (.aload 4, 2) := by decide +kernel
theorem dX7_addEdge_11 : decode cX7_addEdge 11 = .ok (.iload_n 1, 1) := by decide +kernel
theorem dX7_addEdge_12 : decode cX7_addEdge 12 = .ok (.invokevirtual 63, 3) := by decide +kernel
theorem dX7_addEdge_15 : decode cX7_addEdge 15 = .ok (.ifCond .eq 19, 3) := by decide +kernel
theorem dX7_addEdge_18 : decode cX7_addEdge 18 = .ok (.aload 4, 2) := by decide +kernel
theorem dX7_addEdge_20 : decode cX7_addEdge 20 = .ok (.iload_n 2, 1) := by decide +kernel
theorem dX7_addEdge_21 : decode cX7_addEdge 21 = .ok (.invokevirtual 63, 3) := by decide +kernel
theorem dX7_addEdge_24 : decode cX7_addEdge 24 = .ok (.ifCond .eq 10, 3) := by decide +kernel
theorem dX7_addEdge_27 : decode cX7_addEdge 27 = .ok (.iload_n 3, 1) := by decide +kernel
theorem dX7_addEdge_28 : decode cX7_addEdge 28 = .ok (.invokestatic 31, 3) := by decide +kernel
theorem dX7_addEdge_31 : decode cX7_addEdge 31 = .ok (.ifCond .ne 10, 3) := by decide +kernel
theorem dX7_addEdge_34 : decode cX7_addEdge 34 = .ok (.aload_n 0, 1) := by decide +kernel
theorem dX7_addEdge_35 : decode cX7_addEdge 35 = .ok (.bipush (-2), 2) := by decide +kernel
theorem dX7_addEdge_37 : decode cX7_addEdge 37 = .ok (.invokevirtual 35, 3) := by decide +kernel
theorem dX7_addEdge_40 : decode cX7_addEdge 40 = .ok (.ireturn, 1) := by decide +kernel
theorem dX7_addEdge_41 : decode cX7_addEdge 41 = .ok (.aload_n 0, 1) := by decide +kernel
theorem dX7_addEdge_42 : decode cX7_addEdge 42 = .ok (.getfield 27, 3) := by decide +kernel
theorem dX7_addEdge_45 : decode cX7_addEdge 45 = .ok (.getfield 39, 3) := by decide +kernel
theorem dX7_addEdge_48 : decode cX7_addEdge 48 = .ok (.ifCond .ne 34, 3) := by decide +kernel
theorem dX7_addEdge_51 : decode cX7_addEdge 51 = .ok (.aload_n 0, 1) := by decide +kernel
theorem dX7_addEdge_52 : decode cX7_addEdge 52 = .ok (.getfield 27, 3) := by decide +kernel
theorem dX7_addEdge_55 : decode cX7_addEdge 55 = .ok (.iload_n 2, 1) := by decide +kernel
theorem dX7_addEdge_56 : decode cX7_addEdge 56 = .ok (.invokevirtual 66, 3) := by decide +kernel
theorem dX7_addEdge_59 : decode cX7_addEdge 59 = .ok (.ifCond .ne 23, 3) := by decide +kernel
theorem dX7_addEdge_62 : decode cX7_addEdge 62 = .ok (.aload 4, 2) := by decide +kernel
theorem dX7_addEdge_64 : decode cX7_addEdge 64 = .ok (.iload_n 1, 1) := by decide +kernel
theorem dX7_addEdge_65 : decode cX7_addEdge 65 = .ok (.iload_n 2, 1) := by decide +kernel
theorem dX7_addEdge_66 : decode cX7_addEdge 66 = .ok (.iload_n 3, 1) := by decide +kernel
theorem dX7_addEdge_67 : decode cX7_addEdge 67 = .ok (.iconst 1, 1) := by decide +kernel
theorem dX7_addEdge_68 : decode cX7_addEdge 68 = .ok (.if_icmp .ne 7, 3) := by decide +kernel
theorem dX7_addEdge_71 : decode cX7_addEdge 71 = .ok (.iconst 1, 1) := by decide +kernel
theorem dX7_addEdge_72 : decode cX7_addEdge 72 = .ok (.goto 4, 3) := by decide +kernel
theorem dX7_addEdge_75 : decode cX7_addEdge 75 = .ok (.iconst 0, 1) := by decide +kernel
theorem dX7_addEdge_76 : decode cX7_addEdge 76 = .ok (.invokevirtual 69, 3) := by decide +kernel
theorem dX7_addEdge_79 : decode cX7_addEdge 79 = .ok (.ifCond .ne 10, 3) := by decide +kernel
theorem dX7_addEdge_82 : decode cX7_addEdge 82 = .ok (.aload_n 0, 1) := by decide +kernel
theorem dX7_addEdge_83 : decode cX7_addEdge 83 = .ok (.bipush (-3), 2) := by decide +kernel
theorem dX7_addEdge_85 : decode cX7_addEdge 85 = .ok (.invokevirtual 35, 3) := by decide +kernel
theorem dX7_addEdge_88 : decode cX7_addEdge 88 = .ok (.ireturn, 1) := by decide +kernel
theorem dX7_addEdge_89 : decode cX7_addEdge 89 = .ok (.aload 4, 2) := by decide +kernel
theorem dX7_addEdge_91 : decode cX7_addEdge 91 = .ok (.getfield 73, 3) := by decide +kernel
theorem dX7_addEdge_94 : decode cX7_addEdge 94 = .ok (.bipush 10, 2) := by decide +kernel
theorem dX7_addEdge_96 : decode cX7_addEdge 96 = .ok (.if_icmp .lt 10, 3) := by decide +kernel
theorem dX7_addEdge_99 : decode cX7_addEdge 99 = .ok (.aload_n 0, 1) := by decide +kernel
theorem dX7_addEdge_100 : decode cX7_addEdge 100 = .ok (.bipush (-4), 2) := by decide +kernel
theorem dX7_addEdge_102 : decode cX7_addEdge 102 = .ok (.invokevirtual 35, 3) := by decide +kernel
theorem dX7_addEdge_105 : decode cX7_addEdge 105 = .ok (.ireturn, 1) := by decide +kernel
theorem dX7_addEdge_106 : decode cX7_addEdge 106 = .ok (.aload_n 0, 1) := by decide +kernel
theorem dX7_addEdge_107 : decode cX7_addEdge 107 = .ok (.invokevirtual 53, 3) := by decide +kernel
theorem dX7_addEdge_110 : decode cX7_addEdge 110 = .ok (.aload_n 0, 1) := by decide +kernel
theorem dX7_addEdge_111 : decode cX7_addEdge 111 = .ok (.getfield 22, 3) := by decide +kernel
theorem dX7_addEdge_114 : decode cX7_addEdge 114 = .ok (.invokevirtual 56, 3) := by decide +kernel
theorem dX7_addEdge_117 : decode cX7_addEdge 117 = .ok (.aload 4, 2) := by decide +kernel
theorem dX7_addEdge_119 : decode cX7_addEdge 119 = .ok (.iload_n 1, 1) := by decide +kernel
theorem dX7_addEdge_120 : decode cX7_addEdge 120 = .ok (.iload_n 2, 1) := by decide +kernel
theorem dX7_addEdge_121 : decode cX7_addEdge 121 = .ok (.iload_n 3, 1) := by decide +kernel
theorem dX7_addEdge_122 : decode cX7_addEdge 122 = .ok (.iconst 1, 1) := by decide +kernel
theorem dX7_addEdge_123 : decode cX7_addEdge 123 = .ok (.if_icmp .ne 7, 3) := by decide +kernel
theorem dX7_addEdge_126 : decode cX7_addEdge 126 = .ok (.iconst 1, 1) := by decide +kernel
theorem dX7_addEdge_127 : decode cX7_addEdge 127 = .ok (.goto 4, 3) := by decide +kernel
theorem dX7_addEdge_130 : decode cX7_addEdge 130 = .ok (.iconst 0, 1) := by decide +kernel
theorem dX7_addEdge_131 : decode cX7_addEdge 131 = .ok (.invokevirtual 76, 3) := by decide +kernel
theorem dX7_addEdge_134 : decode cX7_addEdge 134 = .ok (.ireturn, 1) := by decide +kernel
theorem dX7_kind_0 : decode cX7_kind 0 = .ok (.aload_n 0, 1) := by decide +kernel
theorem dX7_kind_1 : decode cX7_kind 1 = .ok (.getfield 27, 3) := by decide +kernel
theorem dX7_kind_4 : decode cX7_kind 4 = .ok (.getfield 43, 3) := by decide +kernel
theorem dX7_kind_7 : decode cX7_kind 7 = .ok (.iload_n 1, 1) := by decide +kernel
theorem dX7_kind_8 : decode cX7_kind 8 = .ok (.invokevirtual 80, 3) := by decide +kernel
theorem dX7_kind_11 : decode cX7_kind 11 = .ok (.ifCond .ne 10, 3) := by decide +kernel
theorem dX7_kind_14 : decode cX7_kind 14 = .ok (.aload_n 0, 1) := by decide +kernel
theorem dX7_kind_15 : decode cX7_kind 15 = .ok (.bipush (-2), 2) := by decide +kernel
theorem dX7_kind_17 : decode cX7_kind 17 = .ok (.invokevirtual 35, 3) := by decide +kernel
theorem dX7_kind_20 : decode cX7_kind 20 = .ok (.ireturn, 1) := by decide +kernel
theorem dX7_kind_21 : decode cX7_kind 21 = .ok (.aload_n 0, 1) := by decide +kernel
theorem dX7_kind_22 : decode cX7_kind 22 = .ok (.getfield 27, 3) := by decide +kernel
theorem dX7_kind_25 : decode cX7_kind 25 = .ok (.getfield 43, 3) := by decide +kernel
theorem dX7_kind_28 : decode cX7_kind 28 = .ok (.getfield 83, 3) := by decide +kernel
theorem dX7_kind_31 : decode cX7_kind 31 = .ok (.iload_n 1, 1) := by decide +kernel
theorem dX7_kind_32 : decode cX7_kind 32 = .ok (.iaload, 1) := by decide +kernel
theorem dX7_kind_33 : decode cX7_kind 33 = .ok (.ireturn, 1) := by decide +kernel
theorem dX7_move_0 : decode cX7_move 0 = .ok (.aload_n 0, 1) := by decide +kernel
theorem dX7_move_1 : decode cX7_move 1 = .ok (.getfield 27, 3) := by decide +kernel
theorem dX7_move_4 : decode cX7_move 4 = .ok (.getfield 43, 3) := by decide +kernel
theorem dX7_move_7 : decode cX7_move 7 = .ok (.iload_n 1, 1) := by decide +kernel
theorem dX7_move_8 : decode cX7_move 8 = .ok (.invokevirtual 80, 3) := by decide +kernel
theorem dX7_move_11 : decode cX7_move 11 = .ok (.ifCond .eq 21, 3) := by decide +kernel
theorem dX7_move_14 : decode cX7_move 14 = .ok (.aload_n 0, 1) := by decide +kernel
theorem dX7_move_15 : decode cX7_move 15 = .ok (.getfield 27, 3) := by decide +kernel
theorem dX7_move_18 : decode cX7_move 18 = .ok (.getfield 43, 3) := by decide +kernel
theorem dX7_move_21 : decode cX7_move 21 = .ok (.bipush 6, 2) := by decide +kernel
theorem dX7_move_23 : decode cX7_move 23 = .ok (.iload_n 1, 1) := by decide +kernel
theorem dX7_move_24 : decode cX7_move 24 = .ok (.iadd, 1) := by decide +kernel
theorem dX7_move_25 : decode cX7_move 25 = .ok (.iload_n 2, 1) := by decide +kernel
theorem dX7_move_26 : decode cX7_move 26 = .ok (.invokevirtual 86, 3) := by decide +kernel
theorem dX7_move_29 : decode cX7_move 29 = .ok (.ifCond .ne 10, 3) := by decide +kernel
theorem dX7_move_32 : decode cX7_move 32 = .ok (.aload_n 0, 1) := by decide +kernel
theorem dX7_move_33 : decode cX7_move 33 = .ok (.bipush (-2), 2) := by decide +kernel
theorem dX7_move_35 : decode cX7_move 35 = .ok (.invokevirtual 35, 3) := by decide +kernel
theorem dX7_move_38 : decode cX7_move 38 = .ok (.ireturn, 1) := by decide +kernel
theorem dX7_move_39 : decode cX7_move 39 = .ok (.aload_n 0, 1) := by decide +kernel
theorem dX7_move_40 : decode cX7_move 40 = .ok (.getfield 27, 3) := by decide +kernel
theorem dX7_move_43 : decode cX7_move 43 = .ok (.getfield 43, 3) := by decide +kernel
theorem dX7_move_46 : decode cX7_move 46 = .ok (.iload_n 1, 1) := by decide +kernel
theorem dX7_move_47 : decode cX7_move 47 = .ok (.iload_n 2, 1) := by decide +kernel
theorem dX7_move_48 : decode cX7_move 48 = .ok (.invokevirtual 90, 3) := by decide +kernel
theorem dX7_move_51 : decode cX7_move 51 = .ok (.ireturn, 1) := by decide +kernel
theorem dX7_couldResultIn_0 : decode cX7_couldResultIn 0 = .ok (.aload_n 0, 1) := by decide +kernel
theorem dX7_couldResultIn_1 : decode cX7_couldResultIn 1 = .ok (.getfield 27, 3) := by decide +kernel
theorem dX7_couldResultIn_4 : decode cX7_couldResultIn 4 = .ok (.getfield 43, 3) := by decide +kernel
theorem dX7_couldResultIn_7 : decode cX7_couldResultIn 7 = .ok (.iload_n 1, 1) := by decide +kernel
theorem dX7_couldResultIn_8 : decode cX7_couldResultIn 8 = .ok (.iload_n 2, 1) := by decide +kernel
theorem dX7_couldResultIn_9 : decode cX7_couldResultIn 9 = .ok (.invokevirtual 86, 3) := by decide +kernel
theorem dX7_couldResultIn_12 : decode cX7_couldResultIn 12 = .ok (.ifCond .eq 19, 3) := by decide +kernel
theorem dX7_couldResultIn_15 : decode cX7_couldResultIn 15 = .ok (.aload_n 0, 1) := by decide +kernel
theorem dX7_couldResultIn_16 : decode cX7_couldResultIn 16 = .ok (.getfield 27, 3) := by decide +kernel
theorem dX7_couldResultIn_19 : decode cX7_couldResultIn 19 = .ok (.getfield 43, 3) := by decide +kernel
theorem dX7_couldResultIn_22 : decode cX7_couldResultIn 22 = .ok (.iload_n 3, 1) := by decide +kernel
theorem dX7_couldResultIn_23 : decode cX7_couldResultIn 23 = .ok (.iload 4, 2) := by decide +kernel
theorem dX7_couldResultIn_25 : decode cX7_couldResultIn 25 = .ok (.invokevirtual 86, 3) := by decide +kernel
theorem dX7_couldResultIn_28 : decode cX7_couldResultIn 28 = .ok (.ifCond .ne 10, 3) := by decide +kernel
theorem dX7_couldResultIn_31 : decode cX7_couldResultIn 31 = .ok (.aload_n 0, 1) := by decide +kernel
theorem dX7_couldResultIn_32 : decode cX7_couldResultIn 32 = .ok (.bipush (-2), 2) := by decide +kernel
theorem dX7_couldResultIn_34 : decode cX7_couldResultIn 34 = .ok (.invokevirtual 35, 3) := by decide +kernel
theorem dX7_couldResultIn_37 : decode cX7_couldResultIn 37 = .ok (.ireturn, 1) := by decide +kernel
theorem dX7_couldResultIn_38 : decode cX7_couldResultIn 38 = .ok (.aload_n 0, 1) := by decide +kernel
theorem dX7_couldResultIn_39 : decode cX7_couldResultIn 39 = .ok (.getfield 22, 3) := by decide +kernel
theorem dX7_couldResultIn_42 : decode cX7_couldResultIn 42 = .ok (.aload_n 0, 1) := by decide +kernel
theorem dX7_couldResultIn_43 : decode cX7_couldResultIn 43 = .ok (.getfield 27, 3) := by decide +kernel
theorem dX7_couldResultIn_46 : decode cX7_couldResultIn 46 = .ok (.getfield 43, 3) := by decide +kernel
theorem dX7_couldResultIn_49 : decode cX7_couldResultIn 49 = .ok (.iload_n 1, 1) := by decide +kernel
theorem dX7_couldResultIn_50 : decode cX7_couldResultIn 50 = .ok (.iload_n 2, 1) := by decide +kernel
theorem dX7_couldResultIn_51 : decode cX7_couldResultIn 51 = .ok (.invokestatic 94, 3) := by decide +kernel
theorem dX7_couldResultIn_54 : decode cX7_couldResultIn 54 = .ok (.iload_n 3, 1) := by decide +kernel
theorem dX7_couldResultIn_55 : decode cX7_couldResultIn 55 = .ok (.iload 4, 2) := by decide +kernel
theorem dX7_couldResultIn_57 : decode cX7_couldResultIn 57 = .ok (.invokestatic 94, 3) := by decide +kernel
theorem dX7_couldResultIn_60 : decode cX7_couldResultIn 60 = .ok (.invokevirtual 97, 3) := by decide +kernel
theorem dX7_couldResultIn_63 : decode cX7_couldResultIn 63 = .ok (.ifCond .eq 7, 3) := by decide +kernel
theorem dX7_couldResultIn_66 : decode cX7_couldResultIn 66 = .ok (.iconst 1, 1) := by decide +kernel
theorem dX7_couldResultIn_67 : decode cX7_couldResultIn 67 = .ok (.goto 4, 3) := by decide +kernel
theorem dX7_couldResultIn_70 : decode cX7_couldResultIn 70 = .ok (.iconst 0, 1) := by decide +kernel
theorem dX7_couldResultIn_71 : decode cX7_couldResultIn 71 = .ok (.ireturn, 1) := by decide +kernel
theorem dX7_earliest_0 : decode cX7_earliest 0 = .ok (.aload_n 0, 1) := by decide +kernel
theorem dX7_earliest_1 : decode cX7_earliest 1 = .ok (.getfield 27, 3) := by decide +kernel
theorem dX7_earliest_4 : decode cX7_earliest 4 = .ok (.getfield 43, 3) := by decide +kernel
theorem dX7_earliest_7 : decode cX7_earliest 7 = .ok (.iload_n 1, 1) := by decide +kernel
theorem dX7_earliest_8 : decode cX7_earliest 8 = .ok (.iload_n 2, 1) := by decide +kernel
theorem dX7_earliest_9 : decode cX7_earliest 9 = .ok (.invokevirtual 86, 3) := by decide +kernel
theorem dX7_earliest_12 : decode cX7_earliest 12 = .ok (.ifCond .eq 17, 3) := by decide +kernel
theorem dX7_earliest_15 : decode cX7_earliest 15 = .ok (.aload_n 0, 1) := by decide +kernel
theorem dX7_earliest_16 : decode cX7_earliest 16 = .ok (.getfield 27, 3) := by decide +kernel
theorem dX7_earliest_19 : decode cX7_earliest 19 = .ok (.getfield 43, 3) := by decide +kernel
theorem dX7_earliest_22 : decode cX7_earliest 22 = .ok (.iload_n 3, 1) := by decide +kernel
theorem dX7_earliest_23 : decode cX7_earliest 23 = .ok (.invokevirtual 101, 3) := by decide +kernel
theorem dX7_earliest_26 : decode cX7_earliest 26 = .ok (.ifCond .ne 10, 3) := by decide +kernel
theorem dX7_earliest_29 : decode cX7_earliest 29 = .ok (.aload_n 0, 1) := by decide +kernel
theorem dX7_earliest_30 : decode cX7_earliest 30 = .ok (.bipush (-2), 2) := by decide +kernel
theorem dX7_earliest_32 : decode cX7_earliest 32 = .ok (.invokevirtual 35, 3) := by decide +kernel
theorem dX7_earliest_35 : decode cX7_earliest 35 = .ok (.ireturn, 1) := by decide +kernel
theorem dX7_earliest_36 : decode cX7_earliest 36 = .ok (.aload_n 0, 1) := by decide +kernel
theorem dX7_earliest_37 : decode cX7_earliest 37 = .ok (.getfield 22, 3) := by decide +kernel
theorem dX7_earliest_40 : decode cX7_earliest 40 = .ok (.aload_n 0, 1) := by decide +kernel
theorem dX7_earliest_41 : decode cX7_earliest 41 = .ok (.getfield 27, 3) := by decide +kernel
theorem dX7_earliest_44 : decode cX7_earliest 44 = .ok (.getfield 43, 3) := by decide +kernel
theorem dX7_earliest_47 : decode cX7_earliest 47 = .ok (.iload_n 1, 1) := by decide +kernel
theorem dX7_earliest_48 : decode cX7_earliest 48 = .ok (.iload_n 2, 1) := by decide +kernel
theorem dX7_earliest_49 : decode cX7_earliest 49 = .ok (.invokestatic 94, 3) := by decide +kernel
theorem dX7_earliest_52 : decode cX7_earliest 52 = .ok (.iload_n 3, 1) := by decide +kernel
theorem dX7_earliest_53 : decode cX7_earliest 53 = .ok (.invokevirtual 104, 3) := by decide +kernel
theorem dX7_earliest_56 : decode cX7_earliest 56 = .ok (.istore 4, 2) := by decide +kernel
theorem dX7_earliest_58 : decode cX7_earliest 58 = .ok (.iload 4, 2) := by decide +kernel
theorem dX7_earliest_60 : decode cX7_earliest 60 = .ok (.iconst (-1), 1) := by decide +kernel
theorem dX7_earliest_61 : decode cX7_earliest 61 = .ok (.if_icmp .ne 7, 3) := by decide +kernel
theorem dX7_earliest_64 : decode cX7_earliest 64 = .ok (.iconst (-1), 1) := by decide +kernel
theorem dX7_earliest_65 : decode cX7_earliest 65 = .ok (.goto 12, 3) := by decide +kernel
theorem dX7_earliest_68 : decode cX7_earliest 68 = .ok (.iload_n 2, 1) := by decide +kernel
theorem dX7_earliest_69 : decode cX7_earliest 69 = .ok (.iload_n 2, 1) := by decide +kernel
theorem dX7_earliest_70 : decode cX7_earliest 70 = .ok (.invokestatic 108, 3) := by decide +kernel
theorem dX7_earliest_73 : decode cX7_earliest 73 = .ok (.isub, 1) := by decide +kernel
theorem dX7_earliest_74 : decode cX7_earliest 74 = .ok (.iload 4, 2) := by decide +kernel
theorem dX7_earliest_76 : decode cX7_earliest 76 = .ok (.iadd, 1) := by decide +kernel
theorem dX7_earliest_77 : decode cX7_earliest 77 = .ok (.ireturn, 1) := by decide +kernel
theorem dX7_send_0 : decode cX7_send 0 = .ok (.aload_n 0, 1) := by decide +kernel
theorem dX7_send_1 : decode cX7_send 1 = .ok (.getfield 27, 3) := by decide +kernel
theorem dX7_send_4 : decode cX7_send 4 = .ok (.getfield 43, 3) := by decide +kernel
theorem dX7_send_7 : decode cX7_send 7 = .ok (.iload_n 1, 1) := by decide +kernel
theorem dX7_send_8 : decode cX7_send 8 = .ok (.invokevirtual 80, 3) := by decide +kernel
theorem dX7_send_11 : decode cX7_send 11 = .ok (.ifCond .eq 10, 3) := by decide +kernel
theorem dX7_send_14 : decode cX7_send 14 = .ok (.iload_n 2, 1) := by decide +kernel
theorem dX7_send_15 : decode cX7_send 15 = .ok (.invokestatic 111, 3) := by decide +kernel
theorem dX7_send_18 : decode cX7_send 18 = .ok (.ifCond .ne 10, 3) := by decide +kernel
theorem dX7_send_21 : decode cX7_send 21 = .ok (.aload_n 0, 1) := by decide +kernel
theorem dX7_send_22 : decode cX7_send 22 = .ok (.bipush (-2), 2) := by decide +kernel
theorem dX7_send_24 : decode cX7_send 24 = .ok (.invokevirtual 35, 3) := by decide +kernel
theorem dX7_send_27 : decode cX7_send 27 = .ok (.ireturn, 1) := by decide +kernel
theorem dX7_send_28 : decode cX7_send 28 = .ok (.aload_n 0, 1) := by decide +kernel
theorem dX7_send_29 : decode cX7_send 29 = .ok (.getfield 27, 3) := by decide +kernel
theorem dX7_send_32 : decode cX7_send 32 = .ok (.getfield 114, 3) := by decide +kernel
theorem dX7_send_35 : decode cX7_send 35 = .ok (.aload_n 0, 1) := by decide +kernel
theorem dX7_send_36 : decode cX7_send 36 = .ok (.getfield 27, 3) := by decide +kernel
theorem dX7_send_39 : decode cX7_send 39 = .ok (.getfield 43, 3) := by decide +kernel
theorem dX7_send_42 : decode cX7_send 42 = .ok (.getfield 117, 3) := by decide +kernel
theorem dX7_send_45 : decode cX7_send 45 = .ok (.iload_n 1, 1) := by decide +kernel
theorem dX7_send_46 : decode cX7_send 46 = .ok (.iaload, 1) := by decide +kernel
theorem dX7_send_47 : decode cX7_send 47 = .ok (.iaload, 1) := by decide +kernel
theorem dX7_send_48 : decode cX7_send 48 = .ok (.istore_n 3, 1) := by decide +kernel
theorem dX7_send_49 : decode cX7_send 49 = .ok (.iload_n 3, 1) := by decide +kernel
theorem dX7_send_50 : decode cX7_send 50 = .ok (.ifCond .ge 10, 3) := by decide +kernel
theorem dX7_send_53 : decode cX7_send 53 = .ok (.aload_n 0, 1) := by decide +kernel
theorem dX7_send_54 : decode cX7_send 54 = .ok (.bipush (-3), 2) := by decide +kernel
theorem dX7_send_56 : decode cX7_send 56 = .ok (.invokevirtual 35, 3) := by decide +kernel
theorem dX7_send_59 : decode cX7_send 59 = .ok (.ireturn, 1) := by decide +kernel
theorem dX7_send_60 : decode cX7_send 60 = .ok (.aload_n 0, 1) := by decide +kernel
theorem dX7_send_61 : decode cX7_send 61 = .ok (.getfield 27, 3) := by decide +kernel
theorem dX7_send_64 : decode cX7_send 64 = .ok (.getfield 120, 3) := by decide +kernel
theorem dX7_send_67 : decode cX7_send 67 = .ok (.iload_n 2, 1) := by decide +kernel
theorem dX7_send_68 : decode cX7_send 68 = .ok (.iload_n 1, 1) := by decide +kernel
theorem dX7_send_69 : decode cX7_send 69 = .ok (.invokevirtual 124, 3) := by decide +kernel
theorem dX7_send_72 : decode cX7_send 72 = .ok (.ifCond .eq 10, 3) := by decide +kernel
theorem dX7_send_75 : decode cX7_send 75 = .ok (.aload_n 0, 1) := by decide +kernel
theorem dX7_send_76 : decode cX7_send 76 = .ok (.bipush (-4), 2) := by decide +kernel
theorem dX7_send_78 : decode cX7_send 78 = .ok (.invokevirtual 35, 3) := by decide +kernel
theorem dX7_send_81 : decode cX7_send 81 = .ok (.ireturn, 1) := by decide +kernel
theorem dX7_send_82 : decode cX7_send 82 = .ok (.aload_n 0, 1) := by decide +kernel
theorem dX7_send_83 : decode cX7_send 83 = .ok (.invokevirtual 129, 3) := by decide +kernel
theorem dX7_send_86 : decode cX7_send 86 = .ok (.bipush 100, 2) := by decide +kernel
theorem dX7_send_88 : decode cX7_send 88 = .ok (.iload_n 3, 1) := by decide +kernel
theorem dX7_send_89 : decode cX7_send 89 = .ok (.imul, 1) := by decide +kernel
theorem dX7_send_90 : decode cX7_send 90 = .ok (.istore 4, 2) := by decide +kernel
theorem dX7_send_92 : decode cX7_send 92 = .ok (.aload_n 0, 1) := by decide +kernel
theorem dX7_send_93 : decode cX7_send 93 = .ok (.getfield 27, 3) := by decide +kernel
theorem dX7_send_96 : decode cX7_send 96 = .ok (.iconst 0, 1) := by decide +kernel
theorem dX7_send_97 : decode cX7_send 97 = .ok (.iload_n 1, 1) := by decide +kernel
theorem dX7_send_98 : decode cX7_send 98 = .ok (.iload_n 2, 1) := by decide +kernel
theorem dX7_send_99 : decode cX7_send 99 = .ok (.iload 4, 2) := by decide +kernel
theorem dX7_send_101 : decode cX7_send 101 = .ok (.invokevirtual 132, 3) := by decide +kernel
theorem dX7_send_104 : decode cX7_send 104 = .ok (.iload 4, 2) := by decide +kernel
theorem dX7_send_106 : decode cX7_send 106 = .ok (.ireturn, 1) := by decide +kernel
theorem dX7_advance_0 : decode cX7_advance 0 = .ok (.aload_n 0, 1) := by decide +kernel
theorem dX7_advance_1 : decode cX7_advance 1 = .ok (.getfield 27, 3) := by decide +kernel
theorem dX7_advance_4 : decode cX7_advance 4 = .ok (.getfield 43, 3) := by decide +kernel
theorem dX7_advance_7 : decode cX7_advance 7 = .ok (.iload_n 1, 1) := by decide +kernel
theorem dX7_advance_8 : decode cX7_advance 8 = .ok (.invokevirtual 63, 3) := by decide +kernel
theorem dX7_advance_11 : decode cX7_advance 11 = .ok (.ifCond .ne 10, 3) := by decide +kernel
theorem dX7_advance_14 : decode cX7_advance 14 = .ok (.aload_n 0, 1) := by decide +kernel
theorem dX7_advance_15 : decode cX7_advance 15 = .ok (.bipush (-2), 2) := by decide +kernel
theorem dX7_advance_17 : decode cX7_advance 17 = .ok (.invokevirtual 35, 3) := by decide +kernel
theorem dX7_advance_20 : decode cX7_advance 20 = .ok (.ireturn, 1) := by decide +kernel
theorem dX7_advance_21 : decode cX7_advance 21 = .ok (.aload_n 0, 1) := by decide +kernel
theorem dX7_advance_22 : decode cX7_advance 22 = .ok (.getfield 27, 3) := by decide +kernel
theorem dX7_advance_25 : decode cX7_advance 25 = .ok (.getfield 114, 3) := by decide +kernel
theorem dX7_advance_28 : decode cX7_advance 28 = .ok (.iload_n 1, 1) := by decide +kernel
theorem dX7_advance_29 : decode cX7_advance 29 = .ok (.iaload, 1) := by decide +kernel
theorem dX7_advance_30 : decode cX7_advance 30 = .ok (.istore_n 2, 1) := by decide +kernel
theorem dX7_advance_31 : decode cX7_advance 31 = .ok (.iload_n 2, 1) := by decide +kernel
theorem dX7_advance_32 : decode cX7_advance 32 = .ok (.ifCond .lt 9, 3) := by decide +kernel
theorem dX7_advance_35 : decode cX7_advance 35 = .ok (.iload_n 2, 1) := by decide +kernel
theorem dX7_advance_36 : decode cX7_advance 36 = .ok (.bipush 9, 2) := by decide +kernel
theorem dX7_advance_38 : decode cX7_advance 38 = .ok (.if_icmp .lt 10, 3) := by decide +kernel
theorem dX7_advance_41 : decode cX7_advance 41 = .ok (.aload_n 0, 1) := by decide +kernel
theorem dX7_advance_42 : decode cX7_advance 42 = .ok (.bipush (-3), 2) := by decide +kernel
theorem dX7_advance_44 : decode cX7_advance 44 = .ok (.invokevirtual 35, 3) := by decide +kernel
theorem dX7_advance_47 : decode cX7_advance 47 = .ok (.ireturn, 1) := by decide +kernel
theorem dX7_advance_48 : decode cX7_advance 48 = .ok (.aload_n 0, 1) := by decide +kernel
theorem dX7_advance_49 : decode cX7_advance 49 = .ok (.invokevirtual 129, 3) := by decide +kernel
theorem dX7_advance_52 : decode cX7_advance 52 = .ok (.aload_n 0, 1) := by decide +kernel
theorem dX7_advance_53 : decode cX7_advance 53 = .ok (.getfield 27, 3) := by decide +kernel
theorem dX7_advance_56 : decode cX7_advance 56 = .ok (.getfield 114, 3) := by decide +kernel
theorem dX7_advance_59 : decode cX7_advance 59 = .ok (.iload_n 1, 1) := by decide +kernel
theorem dX7_advance_60 : decode cX7_advance 60 = .ok (.iload_n 2, 1) := by decide +kernel
theorem dX7_advance_61 : decode cX7_advance 61 = .ok (.iconst 1, 1) := by decide +kernel
theorem dX7_advance_62 : decode cX7_advance 62 = .ok (.iadd, 1) := by decide +kernel
theorem dX7_advance_63 : decode cX7_advance 63 = .ok (.iastore, 1) := by decide +kernel
theorem dX7_advance_64 : decode cX7_advance 64 = .ok (.aload_n 0, 1) := by decide +kernel
theorem dX7_advance_65 : decode cX7_advance 65 = .ok (.getfield 27, 3) := by decide +kernel
theorem dX7_advance_68 : decode cX7_advance 68 = .ok (.iconst 0, 1) := by decide +kernel
theorem dX7_advance_69 : decode cX7_advance 69 = .ok (.iload_n 1, 1) := by decide +kernel
theorem dX7_advance_70 : decode cX7_advance 70 = .ok (.bipush 100, 2) := by decide +kernel
theorem dX7_advance_72 : decode cX7_advance 72 = .ok (.iload_n 2, 1) := by decide +kernel
theorem dX7_advance_73 : decode cX7_advance 73 = .ok (.iconst 1, 1) := by decide +kernel
theorem dX7_advance_74 : decode cX7_advance 74 = .ok (.iadd, 1) := by decide +kernel
theorem dX7_advance_75 : decode cX7_advance 75 = .ok (.imul, 1) := by decide +kernel
theorem dX7_advance_76 : decode cX7_advance 76 = .ok (.invokestatic 94, 3) := by decide +kernel
theorem dX7_advance_79 : decode cX7_advance 79 = .ok (.iconst 1, 1) := by decide +kernel
theorem dX7_advance_80 : decode cX7_advance 80 = .ok (.invokevirtual 136, 3) := by decide +kernel
theorem dX7_advance_83 : decode cX7_advance 83 = .ok (.aload_n 0, 1) := by decide +kernel
theorem dX7_advance_84 : decode cX7_advance 84 = .ok (.getfield 27, 3) := by decide +kernel
theorem dX7_advance_87 : decode cX7_advance 87 = .ok (.iconst 0, 1) := by decide +kernel
theorem dX7_advance_88 : decode cX7_advance 88 = .ok (.iload_n 1, 1) := by decide +kernel
theorem dX7_advance_89 : decode cX7_advance 89 = .ok (.bipush 100, 2) := by decide +kernel
theorem dX7_advance_91 : decode cX7_advance 91 = .ok (.iload_n 2, 1) := by decide +kernel
theorem dX7_advance_92 : decode cX7_advance 92 = .ok (.imul, 1) := by decide +kernel
theorem dX7_advance_93 : decode cX7_advance 93 = .ok (.invokestatic 94, 3) := by decide +kernel
theorem dX7_advance_96 : decode cX7_advance 96 = .ok (.iconst (-1), 1) := by decide +kernel
theorem dX7_advance_97 : decode cX7_advance 97 = .ok (.invokevirtual 136, 3) := by decide +kernel
theorem dX7_advance_100 : decode cX7_advance 100 = .ok (.iload_n 2, 1) := by decide +kernel
theorem dX7_advance_101 : decode cX7_advance 101 = .ok (.iconst 1, 1) := by decide +kernel
theorem dX7_advance_102 : decode cX7_advance 102 = .ok (.iadd, 1) := by decide +kernel
theorem dX7_advance_103 : decode cX7_advance 103 = .ok (.ireturn, 1) := by decide +kernel
theorem dX7_close_0 : decode cX7_close 0 = .ok (.aload_n 0, 1) := by decide +kernel
theorem dX7_close_1 : decode cX7_close 1 = .ok (.getfield 27, 3) := by decide +kernel
theorem dX7_close_4 : decode cX7_close 4 = .ok (.getfield 43, 3) := by decide +kernel
theorem dX7_close_7 : decode cX7_close 7 = .ok (.iload_n 1, 1) := by decide +kernel
theorem dX7_close_8 : decode cX7_close 8 = .ok (.invokevirtual 63, 3) := by decide +kernel
theorem dX7_close_11 : decode cX7_close 11 = .ok (.ifCond .ne 10, 3) := by decide +kernel
theorem dX7_close_14 : decode cX7_close 14 = .ok (.aload_n 0, 1) := by decide +kernel
theorem dX7_close_15 : decode cX7_close 15 = .ok (.bipush (-2), 2) := by decide +kernel
theorem dX7_close_17 : decode cX7_close 17 = .ok (.invokevirtual 35, 3) := by decide +kernel
theorem dX7_close_20 : decode cX7_close 20 = .ok (.ireturn, 1) := by decide +kernel
theorem dX7_close_21 : decode cX7_close 21 = .ok (.aload_n 0, 1) := by decide +kernel
theorem dX7_close_22 : decode cX7_close 22 = .ok (.getfield 27, 3) := by decide +kernel
theorem dX7_close_25 : decode cX7_close 25 = .ok (.getfield 114, 3) := by decide +kernel
theorem dX7_close_28 : decode cX7_close 28 = .ok (.iload_n 1, 1) := by decide +kernel
theorem dX7_close_29 : decode cX7_close 29 = .ok (.iaload, 1) := by decide +kernel
theorem dX7_close_30 : decode cX7_close 30 = .ok (.istore_n 2, 1) := by decide +kernel
theorem dX7_close_31 : decode cX7_close 31 = .ok (.iload_n 2, 1) := by decide +kernel
theorem dX7_close_32 : decode cX7_close 32 = .ok (.ifCond .ge 10, 3) := by decide +kernel
theorem dX7_close_35 : decode cX7_close 35 = .ok (.aload_n 0, 1) := by decide +kernel
theorem dX7_close_36 : decode cX7_close 36 = .ok (.bipush (-3), 2) := by decide +kernel
theorem dX7_close_38 : decode cX7_close 38 = .ok (.invokevirtual 35, 3) := by decide +kernel
theorem dX7_close_41 : decode cX7_close 41 = .ok (.ireturn, 1) := by decide +kernel
theorem dX7_close_42 : decode cX7_close 42 = .ok (.aload_n 0, 1) := by decide +kernel
theorem dX7_close_43 : decode cX7_close 43 = .ok (.invokevirtual 129, 3) := by decide +kernel
theorem dX7_close_46 : decode cX7_close 46 = .ok (.aload_n 0, 1) := by decide +kernel
theorem dX7_close_47 : decode cX7_close 47 = .ok (.getfield 27, 3) := by decide +kernel
theorem dX7_close_50 : decode cX7_close 50 = .ok (.getfield 114, 3) := by decide +kernel
theorem dX7_close_53 : decode cX7_close 53 = .ok (.iload_n 1, 1) := by decide +kernel
theorem dX7_close_54 : decode cX7_close 54 = .ok (.bipush (-2), 2) := by decide +kernel
theorem dX7_close_56 : decode cX7_close 56 = .ok (.iastore, 1) := by decide +kernel
theorem dX7_close_57 : decode cX7_close 57 = .ok (.aload_n 0, 1) := by decide +kernel
theorem dX7_close_58 : decode cX7_close 58 = .ok (.getfield 27, 3) := by decide +kernel
theorem dX7_close_61 : decode cX7_close 61 = .ok (.iconst 0, 1) := by decide +kernel
theorem dX7_close_62 : decode cX7_close 62 = .ok (.iload_n 1, 1) := by decide +kernel
theorem dX7_close_63 : decode cX7_close 63 = .ok (.bipush 100, 2) := by decide +kernel
theorem dX7_close_65 : decode cX7_close 65 = .ok (.iload_n 2, 1) := by decide +kernel
theorem dX7_close_66 : decode cX7_close 66 = .ok (.imul, 1) := by decide +kernel
theorem dX7_close_67 : decode cX7_close 67 = .ok (.invokestatic 94, 3) := by decide +kernel
theorem dX7_close_70 : decode cX7_close 70 = .ok (.iconst (-1), 1) := by decide +kernel
theorem dX7_close_71 : decode cX7_close 71 = .ok (.invokevirtual 136, 3) := by decide +kernel
theorem dX7_close_74 : decode cX7_close 74 = .ok (.iload_n 2, 1) := by decide +kernel
theorem dX7_close_75 : decode cX7_close 75 = .ok (.ireturn, 1) := by decide +kernel
theorem dX7_process_0 : decode cX7_process 0 = .ok (.aload_n 0, 1) := by decide +kernel
theorem dX7_process_1 : decode cX7_process 1 = .ok (.getfield 27, 3) := by decide +kernel
theorem dX7_process_4 : decode cX7_process 4 = .ok (.getfield 43, 3) := by decide +kernel
theorem dX7_process_7 : decode cX7_process 7 = .ok (.astore 6, 2) := by decide +kernel
theorem dX7_process_9 : decode cX7_process 9 = .ok (.iload_n 1, 1) := by decide +kernel
theorem dX7_process_10 : decode cX7_process 10 = .ok (.invokestatic 111, 3) := by decide +kernel
theorem dX7_process_13 : decode cX7_process 13 = .ok (.ifCond .eq 37, 3) := by decide +kernel
theorem dX7_process_16 : decode cX7_process 16 = .ok (.aload 6, 2) := by decide +kernel
theorem dX7_process_18 : decode cX7_process 18 = .ok (.iload_n 2, 1) := by decide +kernel
theorem dX7_process_19 : decode cX7_process 19 = .ok (.invokevirtual 80, 3) := by decide +kernel
theorem dX7_process_22 : decode cX7_process 22 = .ok (.ifCond .eq 28, 3) := by decide +kernel
theorem dX7_process_25 : decode cX7_process 25 = .ok (.iload 4, 2) := by decide +kernel
theorem dX7_process_27 : decode cX7_process 27 = .ok (.invokestatic 111, 3) := by decide +kernel
theorem dX7_process_30 : decode cX7_process 30 = .ok (.ifCond .eq 20, 3) := by decide +kernel
theorem dX7_process_33 : decode cX7_process 33 = .ok (.iload 5, 2) := by decide +kernel
theorem dX7_process_35 : decode cX7_process 35 = .ok (.invokestatic 31, 3) := by decide +kernel
theorem dX7_process_38 : decode cX7_process 38 = .ok (.ifCond .eq 12, 3) := by decide +kernel
theorem dX7_process_41 : decode cX7_process 41 = .ok (.aload 6, 2) := by decide +kernel
theorem dX7_process_43 : decode cX7_process 43 = .ok (.iload_n 3, 1) := by decide +kernel
theorem dX7_process_44 : decode cX7_process 44 = .ok (.invokevirtual 140, 3) := by decide +kernel
theorem dX7_process_47 : decode cX7_process 47 = .ok (.ifCond .ne 10, 3) := by decide +kernel
theorem dX7_process_50 : decode cX7_process 50 = .ok (.aload_n 0, 1) := by decide +kernel
theorem dX7_process_51 : decode cX7_process 51 = .ok (.bipush (-2), 2) := by decide +kernel
theorem dX7_process_53 : decode cX7_process 53 = .ok (.invokevirtual 35, 3) := by decide +kernel
theorem dX7_process_56 : decode cX7_process 56 = .ok (.ireturn, 1) := by decide +kernel
theorem dX7_process_57 : decode cX7_process 57 = .ok (.aload 6, 2) := by decide +kernel
theorem dX7_process_59 : decode cX7_process 59 = .ok (.getfield 143, 3) := by decide +kernel
theorem dX7_process_62 : decode cX7_process 62 = .ok (.iload_n 2, 1) := by decide +kernel
theorem dX7_process_63 : decode cX7_process 63 = .ok (.iaload, 1) := by decide +kernel
theorem dX7_process_64 : decode cX7_process 64 = .ok (.istore 7, 2) := by decide +kernel
theorem dX7_process_66 : decode cX7_process 66 = .ok (.aload_n 0, 1) := by decide +kernel
theorem dX7_process_67 : decode cX7_process 67 = .ok (.getfield 27, 3) := by decide +kernel
theorem dX7_process_70 : decode cX7_process 70 = .ok (.getfield 120, 3) := by decide +kernel
theorem dX7_process_73 : decode cX7_process 73 = .ok (.iload_n 1, 1) := by decide +kernel
theorem dX7_process_74 : decode cX7_process 74 = .ok (.iload_n 2, 1) := by decide +kernel
theorem dX7_process_75 : decode cX7_process 75 = .ok (.invokevirtual 146, 3) := by decide +kernel
theorem dX7_process_78 : decode cX7_process 78 = .ok (.ifCond .eq 14, 3) := by decide +kernel
theorem dX7_process_81 : decode cX7_process 81 = .ok (.aload 6, 2) := by decide +kernel
theorem dX7_process_83 : decode cX7_process 83 = .ok (.iload_n 3, 1) := by decide +kernel
theorem dX7_process_84 : decode cX7_process 84 = .ok (.iload 7, 2) := by decide +kernel
theorem dX7_process_86 : decode cX7_process 86 = .ok (.invokevirtual 149, 3) := by decide +kernel
theorem dX7_process_89 : decode cX7_process 89 = .ok (.ifCond .ne 10, 3) := by decide +kernel
theorem dX7_process_92 : decode cX7_process 92 = .ok (.aload_n 0, 1) := by decide +kernel
theorem dX7_process_93 : decode cX7_process 93 = .ok (.bipush (-3), 2) := by decide +kernel
theorem dX7_process_95 : decode cX7_process 95 = .ok (.invokevirtual 35, 3) := by decide +kernel
theorem dX7_process_98 : decode cX7_process 98 = .ok (.ireturn, 1) := by decide +kernel
theorem dX7_process_99 : decode cX7_process 99 = .ok (.aload_n 0, 1) := by decide +kernel
theorem dX7_process_100 : decode cX7_process 100 = .ok (.getfield 27, 3) := by decide +kernel
theorem dX7_process_103 : decode cX7_process 103 = .ok (.getfield 120, 3) := by decide +kernel
theorem dX7_process_106 : decode cX7_process 106 = .ok (.iload 4, 2) := by decide +kernel
theorem dX7_process_108 : decode cX7_process 108 = .ok (.iload_n 3, 1) := by decide +kernel
theorem dX7_process_109 : decode cX7_process 109 = .ok (.invokevirtual 152, 3) := by decide +kernel
theorem dX7_process_112 : decode cX7_process 112 = .ok (.ifCond .ne 23, 3) := by decide +kernel
theorem dX7_process_115 : decode cX7_process 115 = .ok (.iload 5, 2) := by decide +kernel
theorem dX7_process_117 : decode cX7_process 117 = .ok (.iconst 1, 1) := by decide +kernel
theorem dX7_process_118 : decode cX7_process 118 = .ok (.if_icmp .ne 24, 3) := by decide +kernel
theorem dX7_process_121 : decode cX7_process 121 = .ok (.aload_n 0, 1) := by decide +kernel
theorem dX7_process_122 : decode cX7_process 122 = .ok (.getfield 27, 3) := by decide +kernel
theorem dX7_process_125 : decode cX7_process 125 = .ok (.getfield 155, 3) := by decide +kernel
theorem dX7_process_128 : decode cX7_process 128 = .ok (.iload_n 1, 1) := by decide +kernel
theorem dX7_process_129 : decode cX7_process 129 = .ok (.invokevirtual 159, 3) := by decide +kernel
theorem dX7_process_132 : decode cX7_process 132 = .ok (.ifCond .eq 10, 3) := by decide +kernel
theorem dX7_process_135 : decode cX7_process 135 = .ok (.aload_n 0, 1) := by decide +kernel
theorem dX7_process_136 : decode cX7_process 136 = .ok (.bipush (-4), 2) := by decide +kernel
theorem dX7_process_138 : decode cX7_process 138 = .ok (.invokevirtual 35, 3) := by decide +kernel
theorem dX7_process_141 : decode cX7_process 141 = .ok (.ireturn, 1) := by decide +kernel
theorem dX7_process_142 : decode cX7_process 142 = .ok (.aload_n 0, 1) := by decide +kernel
theorem dX7_process_143 : decode cX7_process 143 = .ok (.invokevirtual 129, 3) := by decide +kernel
theorem dX7_process_146 : decode cX7_process 146 = .ok (.aload_n 0, 1) := by decide +kernel
theorem dX7_process_147 : decode cX7_process 147 = .ok (.getfield 27, 3) := by decide +kernel
theorem dX7_process_150 : decode cX7_process 150 = .ok (.getfield 120, 3) := by decide +kernel
theorem dX7_process_153 : decode cX7_process 153 = .ok (.iload_n 1, 1) := by decide +kernel
theorem dX7_process_154 : decode cX7_process 154 = .ok (.iload_n 2, 1) := by decide +kernel
theorem dX7_process_155 : decode cX7_process 155 = .ok (.invokevirtual 163, 3) := by decide +kernel
theorem dX7_process_158 : decode cX7_process 158 = .ok (.istore 8, 2) := by decide +kernel
theorem dX7_process_160 : decode cX7_process 160 = .ok (.aload 6, 2) := by decide +kernel
theorem dX7_process_162 : decode cX7_process 162 = .ok (.iload_n 2, 1) := by decide +kernel
theorem dX7_process_163 : decode cX7_process 163 = .ok (.iload 8, 2) := by decide +kernel
theorem dX7_process_165 : decode cX7_process 165 = .ok (.invokevirtual 90, 3) := by decide +kernel
theorem dX7_process_168 : decode cX7_process 168 = .ok (.istore 9, 2) := by decide +kernel
theorem dX7_process_170 : decode cX7_process 170 = .ok (.iload 9, 2) := by decide +kernel
theorem dX7_process_172 : decode cX7_process 172 = .ok (.iconst (-1), 1) := by decide +kernel
theorem dX7_process_173 : decode cX7_process 173 = .ok (.if_icmp .eq 67, 3) := by decide +kernel
theorem dX7_process_176 : decode cX7_process 176 = .ok (.aload_n 0, 1) := by decide +kernel
theorem dX7_process_177 : decode cX7_process 177 = .ok (.getfield 27, 3) := by decide +kernel
theorem dX7_process_180 : decode cX7_process 180 = .ok (.iload_n 1, 1) := by decide +kernel
theorem dX7_process_181 : decode cX7_process 181 = .ok (.iload_n 3, 1) := by decide +kernel
theorem dX7_process_182 : decode cX7_process 182 = .ok (.iload 4, 2) := by decide +kernel
theorem dX7_process_184 : decode cX7_process 184 = .ok (.iload 9, 2) := by decide +kernel
theorem dX7_process_186 : decode cX7_process 186 = .ok (.invokevirtual 166, 3) := by decide +kernel
theorem dX7_process_189 : decode cX7_process 189 = .ok (.iload 5, 2) := by decide +kernel
theorem dX7_process_191 : decode cX7_process 191 = .ok (.iconst 1, 1) := by decide +kernel
theorem dX7_process_192 : decode cX7_process 192 = .ok (.if_icmp .ne 37, 3) := by decide +kernel
theorem dX7_process_195 : decode cX7_process 195 = .ok (.aload_n 0, 1) := by decide +kernel
theorem dX7_process_196 : decode cX7_process 196 = .ok (.getfield 27, 3) := by decide +kernel
theorem dX7_process_199 : decode cX7_process 199 = .ok (.getfield 155, 3) := by decide +kernel
theorem dX7_process_202 : decode cX7_process 202 = .ok (.iload_n 1, 1) := by decide +kernel
theorem dX7_process_203 : decode cX7_process 203 = .ok (.iload 7, 2) := by decide +kernel
theorem dX7_process_205 : decode cX7_process 205 = .ok (.iload 9, 2) := by decide +kernel
theorem dX7_process_207 : decode cX7_process 207 = .ok (.invokestatic 94, 3) := by decide +kernel
theorem dX7_process_210 : decode cX7_process 210 = .ok (.invokevirtual 169, 3) := by decide +kernel
theorem dX7_process_213 : decode cX7_process 213 = .ok (.aload_n 0, 1) := by decide +kernel
theorem dX7_process_214 : decode cX7_process 214 = .ok (.getfield 27, 3) := by decide +kernel
theorem dX7_process_217 : decode cX7_process 217 = .ok (.iload_n 1, 1) := by decide +kernel
theorem dX7_process_218 : decode cX7_process 218 = .ok (.iload 7, 2) := by decide +kernel
theorem dX7_process_220 : decode cX7_process 220 = .ok (.iload 9, 2) := by decide +kernel
theorem dX7_process_222 : decode cX7_process 222 = .ok (.invokestatic 94, 3) := by decide +kernel
theorem dX7_process_225 : decode cX7_process 225 = .ok (.iconst 1, 1) := by decide +kernel
theorem dX7_process_226 : decode cX7_process 226 = .ok (.invokevirtual 136, 3) := by decide +kernel
theorem dX7_process_229 : decode cX7_process 229 = .ok (.aload_n 0, 1) := by decide +kernel
theorem dX7_process_230 : decode cX7_process 230 = .ok (.getfield 27, 3) := by decide +kernel
theorem dX7_process_233 : decode cX7_process 233 = .ok (.iload 7, 2) := by decide +kernel
theorem dX7_process_235 : decode cX7_process 235 = .ok (.iload 9, 2) := by decide +kernel
theorem dX7_process_237 : decode cX7_process 237 = .ok (.invokevirtual 173, 3) := by decide +kernel
theorem dX7_process_240 : decode cX7_process 240 = .ok (.aload_n 0, 1) := by decide +kernel
theorem dX7_process_241 : decode cX7_process 241 = .ok (.getfield 27, 3) := by decide +kernel
theorem dX7_process_244 : decode cX7_process 244 = .ok (.iload_n 1, 1) := by decide +kernel
theorem dX7_process_245 : decode cX7_process 245 = .ok (.bipush 6, 2) := by decide +kernel
theorem dX7_process_247 : decode cX7_process 247 = .ok (.iload_n 2, 1) := by decide +kernel
theorem dX7_process_248 : decode cX7_process 248 = .ok (.iadd, 1) := by decide +kernel
theorem dX7_process_249 : decode cX7_process 249 = .ok (.iload 8, 2) := by decide +kernel
theorem dX7_process_251 : decode cX7_process 251 = .ok (.invokestatic 94, 3) := by decide +kernel
theorem dX7_process_254 : decode cX7_process 254 = .ok (.iconst (-1), 1) := by decide +kernel
theorem dX7_process_255 : decode cX7_process 255 = .ok (.invokevirtual 136, 3) := by decide +kernel
theorem dX7_process_258 : decode cX7_process 258 = .ok (.iload 9, 2) := by decide +kernel
theorem dX7_process_260 : decode cX7_process 260 = .ok (.ireturn, 1) := by decide +kernel
theorem dX7_deliver_0 : decode cX7_deliver 0 = .ok (.aload_n 0, 1) := by decide +kernel
theorem dX7_deliver_1 : decode cX7_deliver 1 = .ok (.getfield 27, 3) := by decide +kernel
theorem dX7_deliver_4 : decode cX7_deliver 4 = .ok (.getfield 43, 3) := by decide +kernel
theorem dX7_deliver_7 : decode cX7_deliver 7 = .ok (.astore 5, 2) := by decide +kernel
theorem dX7_deliver_9 : decode cX7_deliver 9 = .ok (.iload_n 1, 1) := by decide +kernel
theorem dX7_deliver_10 : decode cX7_deliver 10 = .ok (.invokestatic 111, 3) := by decide +kernel
theorem dX7_deliver_13 : decode cX7_deliver 13 = .ok (.ifCond .eq 29, 3) := by decide +kernel
theorem dX7_deliver_16 : decode cX7_deliver 16 = .ok (.aload 5, 2) := by decide +kernel
theorem dX7_deliver_18 : decode cX7_deliver 18 = .ok (.iload_n 2, 1) := by decide +kernel
theorem dX7_deliver_19 : decode cX7_deliver 19 = .ok (.invokevirtual 63, 3) := by decide +kernel
theorem dX7_deliver_22 : decode cX7_deliver 22 = .ok (.ifCond .eq 20, 3) := by decide +kernel
theorem dX7_deliver_25 : decode cX7_deliver 25 = .ok (.iload 4, 2) := by decide +kernel
theorem dX7_deliver_27 : decode cX7_deliver 27 = .ok (.invokestatic 111, 3) := by decide +kernel
theorem dX7_deliver_30 : decode cX7_deliver 30 = .ok (.ifCond .eq 12, 3) := by decide +kernel
theorem dX7_deliver_33 : decode cX7_deliver 33 = .ok (.aload 5, 2) := by decide +kernel
theorem dX7_deliver_35 : decode cX7_deliver 35 = .ok (.iload_n 3, 1) := by decide +kernel
theorem dX7_deliver_36 : decode cX7_deliver 36 = .ok (.invokevirtual 140, 3) := by decide +kernel
theorem dX7_deliver_39 : decode cX7_deliver 39 = .ok (.ifCond .ne 10, 3) := by decide +kernel
theorem dX7_deliver_42 : decode cX7_deliver 42 = .ok (.aload_n 0, 1) := by decide +kernel
theorem dX7_deliver_43 : decode cX7_deliver 43 = .ok (.bipush (-2), 2) := by decide +kernel
theorem dX7_deliver_45 : decode cX7_deliver 45 = .ok (.invokevirtual 35, 3) := by decide +kernel
theorem dX7_deliver_48 : decode cX7_deliver 48 = .ok (.ireturn, 1) := by decide +kernel
theorem dX7_deliver_49 : decode cX7_deliver 49 = .ok (.aload_n 0, 1) := by decide +kernel
theorem dX7_deliver_50 : decode cX7_deliver 50 = .ok (.iload_n 1, 1) := by decide +kernel
theorem dX7_deliver_51 : decode cX7_deliver 51 = .ok (.iload_n 2, 1) := by decide +kernel
theorem dX7_deliver_52 : decode cX7_deliver 52 = .ok (.invokevirtual 176, 3) := by decide +kernel
theorem dX7_deliver_55 : decode cX7_deliver 55 = .ok (.istore 6, 2) := by decide +kernel
theorem dX7_deliver_57 : decode cX7_deliver 57 = .ok (.iload 6, 2) := by decide +kernel
theorem dX7_deliver_59 : decode cX7_deliver 59 = .ok (.iconst (-1), 1) := by decide +kernel
theorem dX7_deliver_60 : decode cX7_deliver 60 = .ok (.if_icmp .eq 13, 3) := by decide +kernel
theorem dX7_deliver_63 : decode cX7_deliver 63 = .ok (.aload 5, 2) := by decide +kernel
theorem dX7_deliver_65 : decode cX7_deliver 65 = .ok (.iload_n 3, 1) := by decide +kernel
theorem dX7_deliver_66 : decode cX7_deliver 66 = .ok (.iload_n 2, 1) := by decide +kernel
theorem dX7_deliver_67 : decode cX7_deliver 67 = .ok (.invokevirtual 149, 3) := by decide +kernel
theorem dX7_deliver_70 : decode cX7_deliver 70 = .ok (.ifCond .ne 10, 3) := by decide +kernel
theorem dX7_deliver_73 : decode cX7_deliver 73 = .ok (.aload_n 0, 1) := by decide +kernel
theorem dX7_deliver_74 : decode cX7_deliver 74 = .ok (.bipush (-3), 2) := by decide +kernel
theorem dX7_deliver_76 : decode cX7_deliver 76 = .ok (.invokevirtual 35, 3) := by decide +kernel
theorem dX7_deliver_79 : decode cX7_deliver 79 = .ok (.ireturn, 1) := by decide +kernel
theorem dX7_deliver_80 : decode cX7_deliver 80 = .ok (.aload_n 0, 1) := by decide +kernel
theorem dX7_deliver_81 : decode cX7_deliver 81 = .ok (.getfield 27, 3) := by decide +kernel
theorem dX7_deliver_84 : decode cX7_deliver 84 = .ok (.getfield 120, 3) := by decide +kernel
theorem dX7_deliver_87 : decode cX7_deliver 87 = .ok (.iload 4, 2) := by decide +kernel
theorem dX7_deliver_89 : decode cX7_deliver 89 = .ok (.iload_n 3, 1) := by decide +kernel
theorem dX7_deliver_90 : decode cX7_deliver 90 = .ok (.invokevirtual 152, 3) := by decide +kernel
theorem dX7_deliver_93 : decode cX7_deliver 93 = .ok (.ifCond .eq 10, 3) := by decide +kernel
theorem dX7_deliver_96 : decode cX7_deliver 96 = .ok (.aload_n 0, 1) := by decide +kernel
theorem dX7_deliver_97 : decode cX7_deliver 97 = .ok (.bipush (-4), 2) := by decide +kernel
theorem dX7_deliver_99 : decode cX7_deliver 99 = .ok (.invokevirtual 35, 3) := by decide +kernel
theorem dX7_deliver_102 : decode cX7_deliver 102 = .ok (.ireturn, 1) := by decide +kernel
theorem dX7_deliver_103 : decode cX7_deliver 103 = .ok (.aload_n 0, 1) := by decide +kernel
theorem dX7_deliver_104 : decode cX7_deliver 104 = .ok (.invokevirtual 129, 3) := by decide +kernel
theorem dX7_deliver_107 : decode cX7_deliver 107 = .ok (.aload_n 0, 1) := by decide +kernel
theorem dX7_deliver_108 : decode cX7_deliver 108 = .ok (.getfield 27, 3) := by decide +kernel
theorem dX7_deliver_111 : decode cX7_deliver 111 = .ok (.getfield 155, 3) := by decide +kernel
theorem dX7_deliver_114 : decode cX7_deliver 114 = .ok (.iload_n 1, 1) := by decide +kernel
theorem dX7_deliver_115 : decode cX7_deliver 115 = .ok (.iload_n 2, 1) := by decide +kernel
theorem dX7_deliver_116 : decode cX7_deliver 116 = .ok (.iload 6, 2) := by decide +kernel
theorem dX7_deliver_118 : decode cX7_deliver 118 = .ok (.invokestatic 94, 3) := by decide +kernel
theorem dX7_deliver_121 : decode cX7_deliver 121 = .ok (.invokevirtual 179, 3) := by decide +kernel
theorem dX7_deliver_124 : decode cX7_deliver 124 = .ok (.aload_n 0, 1) := by decide +kernel
theorem dX7_deliver_125 : decode cX7_deliver 125 = .ok (.getfield 27, 3) := by decide +kernel
theorem dX7_deliver_128 : decode cX7_deliver 128 = .ok (.iload_n 1, 1) := by decide +kernel
theorem dX7_deliver_129 : decode cX7_deliver 129 = .ok (.iload_n 3, 1) := by decide +kernel
theorem dX7_deliver_130 : decode cX7_deliver 130 = .ok (.iload 4, 2) := by decide +kernel
theorem dX7_deliver_132 : decode cX7_deliver 132 = .ok (.iload 6, 2) := by decide +kernel
theorem dX7_deliver_134 : decode cX7_deliver 134 = .ok (.invokevirtual 166, 3) := by decide +kernel
theorem dX7_deliver_137 : decode cX7_deliver 137 = .ok (.aload_n 0, 1) := by decide +kernel
theorem dX7_deliver_138 : decode cX7_deliver 138 = .ok (.getfield 27, 3) := by decide +kernel
theorem dX7_deliver_141 : decode cX7_deliver 141 = .ok (.iload_n 1, 1) := by decide +kernel
theorem dX7_deliver_142 : decode cX7_deliver 142 = .ok (.iload_n 2, 1) := by decide +kernel
theorem dX7_deliver_143 : decode cX7_deliver 143 = .ok (.iload 6, 2) := by decide +kernel
theorem dX7_deliver_145 : decode cX7_deliver 145 = .ok (.invokestatic 94, 3) := by decide +kernel
theorem dX7_deliver_148 : decode cX7_deliver 148 = .ok (.iconst (-1), 1) := by decide +kernel
theorem dX7_deliver_149 : decode cX7_deliver 149 = .ok (.invokevirtual 136, 3) := by decide +kernel
theorem dX7_deliver_152 : decode cX7_deliver 152 = .ok (.aload_n 0, 1) := by decide +kernel
theorem dX7_deliver_153 : decode cX7_deliver 153 = .ok (.getfield 27, 3) := by decide +kernel
theorem dX7_deliver_156 : decode cX7_deliver 156 = .ok (.iload_n 2, 1) := by decide +kernel
theorem dX7_deliver_157 : decode cX7_deliver 157 = .ok (.iload 6, 2) := by decide +kernel
theorem dX7_deliver_159 : decode cX7_deliver 159 = .ok (.invokevirtual 182, 3) := by decide +kernel
theorem dX7_deliver_162 : decode cX7_deliver 162 = .ok (.iload 6, 2) := by decide +kernel
theorem dX7_deliver_164 : decode cX7_deliver 164 = .ok (.ireturn, 1) := by decide +kernel
theorem dX7_receive_0 : decode cX7_receive 0 = .ok (.iload_n 1, 1) := by decide +kernel
theorem dX7_receive_1 : decode cX7_receive 1 = .ok (.invokestatic 111, 3) := by decide +kernel
theorem dX7_receive_4 : decode cX7_receive 4 = .ok (.ifCond .eq 14, 3) := by decide +kernel
theorem dX7_receive_7 : decode cX7_receive 7 = .ok (.iload_n 2, 1) := by decide +kernel
theorem dX7_receive_8 : decode cX7_receive 8 = .ok (.iconst 1, 1) := by decide +kernel
theorem dX7_receive_9 : decode cX7_receive 9 = .ok (.if_icmp .lt 9, 3) := by decide +kernel
theorem dX7_receive_12 : decode cX7_receive 12 = .ok (.iload_n 2, 1) := by decide +kernel
theorem dX7_receive_13 : decode cX7_receive 13 = .ok (.bipush 99, 2) := by decide +kernel
theorem dX7_receive_15 : decode cX7_receive 15 = .ok (.if_icmp .le 10, 3) := by decide +kernel
theorem dX7_receive_18 : decode cX7_receive 18 = .ok (.aload_n 0, 1) := by decide +kernel
theorem dX7_receive_19 : decode cX7_receive 19 = .ok (.bipush (-2), 2) := by decide +kernel
theorem dX7_receive_21 : decode cX7_receive 21 = .ok (.invokevirtual 35, 3) := by decide +kernel
theorem dX7_receive_24 : decode cX7_receive 24 = .ok (.ireturn, 1) := by decide +kernel
theorem dX7_receive_25 : decode cX7_receive 25 = .ok (.aload_n 0, 1) := by decide +kernel
theorem dX7_receive_26 : decode cX7_receive 26 = .ok (.invokevirtual 53, 3) := by decide +kernel
theorem dX7_receive_29 : decode cX7_receive 29 = .ok (.aload_n 0, 1) := by decide +kernel
theorem dX7_receive_30 : decode cX7_receive 30 = .ok (.getfield 27, 3) := by decide +kernel
theorem dX7_receive_33 : decode cX7_receive 33 = .ok (.getfield 185, 3) := by decide +kernel
theorem dX7_receive_36 : decode cX7_receive 36 = .ok (.iload_n 1, 1) := by decide +kernel
theorem dX7_receive_37 : decode cX7_receive 37 = .ok (.aaload, 1) := by decide +kernel
theorem dX7_receive_38 : decode cX7_receive 38 = .ok (.aload_n 0, 1) := by decide +kernel
theorem dX7_receive_39 : decode cX7_receive 39 = .ok (.getfield 27, 3) := by decide +kernel
theorem dX7_receive_42 : decode cX7_receive 42 = .ok (.getfield 189, 3) := by decide +kernel
theorem dX7_receive_45 : decode cX7_receive 45 = .ok (.iload_n 1, 1) := by decide +kernel
theorem dX7_receive_46 : decode cX7_receive 46 = .ok (.aaload, 1) := by decide +kernel
theorem dX7_receive_47 : decode cX7_receive 47 = .ok (.iload_n 2, 1) := by decide +kernel
theorem dX7_receive_48 : decode cX7_receive 48 = .ok (.invokevirtual 193, 3) := by decide +kernel
theorem dX7_receive_51 : decode cX7_receive 51 = .ok (.ireturn, 1) := by decide +kernel
theorem dX7_messages_0 : decode cX7_messages 0 = .ok (.iload_n 1, 1) := by decide +kernel
theorem dX7_messages_1 : decode cX7_messages 1 = .ok (.invokestatic 111, 3) := by decide +kernel
theorem dX7_messages_4 : decode cX7_messages 4 = .ok (.ifCond .eq 17, 3) := by decide +kernel
theorem dX7_messages_7 : decode cX7_messages 7 = .ok (.aload_n 0, 1) := by decide +kernel
theorem dX7_messages_8 : decode cX7_messages 8 = .ok (.getfield 27, 3) := by decide +kernel
theorem dX7_messages_11 : decode cX7_messages 11 = .ok (.getfield 43, 3) := by decide +kernel
theorem dX7_messages_14 : decode cX7_messages 14 = .ok (.iload_n 2, 1) := by decide +kernel
theorem dX7_messages_15 : decode cX7_messages 15 = .ok (.invokevirtual 80, 3) := by decide +kernel
theorem dX7_messages_18 : decode cX7_messages 18 = .ok (.ifCond .ne 10, 3) := by decide +kernel
theorem dX7_messages_21 : decode cX7_messages 21 = .ok (.aload_n 0, 1) := by decide +kernel
theorem dX7_messages_22 : decode cX7_messages 22 = .ok (.bipush (-2), 2) := by decide +kernel
theorem dX7_messages_24 : decode cX7_messages 24 = .ok (.invokevirtual 35, 3) := by decide +kernel
theorem dX7_messages_27 : decode cX7_messages 27 = .ok (.ireturn, 1) := by decide +kernel
theorem dX7_messages_28 : decode cX7_messages 28 = .ok (.aload_n 0, 1) := by decide +kernel
theorem dX7_messages_29 : decode cX7_messages 29 = .ok (.getfield 27, 3) := by decide +kernel
theorem dX7_messages_32 : decode cX7_messages 32 = .ok (.getfield 120, 3) := by decide +kernel
theorem dX7_messages_35 : decode cX7_messages 35 = .ok (.iload_n 1, 1) := by decide +kernel
theorem dX7_messages_36 : decode cX7_messages 36 = .ok (.iload_n 2, 1) := by decide +kernel
theorem dX7_messages_37 : decode cX7_messages 37 = .ok (.invokevirtual 146, 3) := by decide +kernel
theorem dX7_messages_40 : decode cX7_messages 40 = .ok (.ireturn, 1) := by decide +kernel
theorem dX7_messageTime_0 : decode cX7_messageTime 0 = .ok (.iload_n 1, 1) := by decide +kernel
theorem dX7_messageTime_1 : decode cX7_messageTime 1 = .ok (.invokestatic 111, 3) := by decide +kernel
theorem dX7_messageTime_4 : decode cX7_messageTime 4 = .ok (.ifCond .eq 21, 3) := by decide +kernel
theorem dX7_messageTime_7 : decode cX7_messageTime 7 = .ok (.aload_n 0, 1) := by decide +kernel
theorem dX7_messageTime_8 : decode cX7_messageTime 8 = .ok (.getfield 27, 3) := by decide +kernel
theorem dX7_messageTime_11 : decode cX7_messageTime 11 = .ok (.getfield 43, 3) := by decide +kernel
theorem dX7_messageTime_14 : decode cX7_messageTime 14 = .ok (.iload_n 2, 1) := by decide +kernel
theorem dX7_messageTime_15 : decode cX7_messageTime 15 = .ok (.invokevirtual 80, 3) := by decide +kernel
theorem dX7_messageTime_18 : decode cX7_messageTime 18 = .ok (.ifCond .eq 7, 3) := by decide +kernel
theorem dX7_messageTime_21 : decode cX7_messageTime 21 = .ok (.iload_n 3, 1) := by decide +kernel
theorem dX7_messageTime_22 : decode cX7_messageTime 22 = .ok (.ifCond .ge 10, 3) := by decide +kernel
theorem dX7_messageTime_25 : decode cX7_messageTime 25 = .ok (.aload_n 0, 1) := by decide +kernel
theorem dX7_messageTime_26 : decode cX7_messageTime 26 = .ok (.bipush (-2), 2) := by decide +kernel
theorem dX7_messageTime_28 : decode cX7_messageTime 28 = .ok (.invokevirtual 35, 3) := by decide +kernel
theorem dX7_messageTime_31 : decode cX7_messageTime 31 = .ok (.ireturn, 1) := by decide +kernel
theorem dX7_messageTime_32 : decode cX7_messageTime 32 = .ok (.iload_n 3, 1) := by decide +kernel
theorem dX7_messageTime_33 : decode cX7_messageTime 33 = .ok (.aload_n 0, 1) := by decide +kernel
theorem dX7_messageTime_34 : decode cX7_messageTime 34 = .ok (.getfield 27, 3) := by decide +kernel
theorem dX7_messageTime_37 : decode cX7_messageTime 37 = .ok (.getfield 120, 3) := by decide +kernel
theorem dX7_messageTime_40 : decode cX7_messageTime 40 = .ok (.iload_n 1, 1) := by decide +kernel
theorem dX7_messageTime_41 : decode cX7_messageTime 41 = .ok (.iload_n 2, 1) := by decide +kernel
theorem dX7_messageTime_42 : decode cX7_messageTime 42 = .ok (.invokevirtual 146, 3) := by decide +kernel
theorem dX7_messageTime_45 : decode cX7_messageTime 45 = .ok (.if_icmp .ge 19, 3) := by decide +kernel
theorem dX7_messageTime_48 : decode cX7_messageTime 48 = .ok (.aload_n 0, 1) := by decide +kernel
theorem dX7_messageTime_49 : decode cX7_messageTime 49 = .ok (.getfield 27, 3) := by decide +kernel
theorem dX7_messageTime_52 : decode cX7_messageTime 52 = .ok (.getfield 120, 3) := by decide +kernel
theorem dX7_messageTime_55 : decode cX7_messageTime 55 = .ok (.iload_n 1, 1) := by decide +kernel
theorem dX7_messageTime_56 : decode cX7_messageTime 56 = .ok (.iload_n 2, 1) := by decide +kernel
theorem dX7_messageTime_57 : decode cX7_messageTime 57 = .ok (.iload_n 3, 1) := by decide +kernel
theorem dX7_messageTime_58 : decode cX7_messageTime 58 = .ok (.invokevirtual 199, 3) := by decide +kernel
theorem dX7_messageTime_61 : decode cX7_messageTime 61 = .ok (.goto 4, 3) := by decide +kernel
theorem dX7_messageTime_64 : decode cX7_messageTime 64 = .ok (.iconst (-1), 1) := by decide +kernel
theorem dX7_messageTime_65 : decode cX7_messageTime 65 = .ok (.ireturn, 1) := by decide +kernel
theorem dX7_requests_0 : decode cX7_requests 0 = .ok (.iload_n 1, 1) := by decide +kernel
theorem dX7_requests_1 : decode cX7_requests 1 = .ok (.invokestatic 111, 3) := by decide +kernel
theorem dX7_requests_4 : decode cX7_requests 4 = .ok (.ifCond .eq 17, 3) := by decide +kernel
theorem dX7_requests_7 : decode cX7_requests 7 = .ok (.aload_n 0, 1) := by decide +kernel
theorem dX7_requests_8 : decode cX7_requests 8 = .ok (.getfield 27, 3) := by decide +kernel
theorem dX7_requests_11 : decode cX7_requests 11 = .ok (.getfield 43, 3) := by decide +kernel
theorem dX7_requests_14 : decode cX7_requests 14 = .ok (.iload_n 2, 1) := by decide +kernel
theorem dX7_requests_15 : decode cX7_requests 15 = .ok (.invokevirtual 63, 3) := by decide +kernel
theorem dX7_requests_18 : decode cX7_requests 18 = .ok (.ifCond .ne 10, 3) := by decide +kernel
theorem dX7_requests_21 : decode cX7_requests 21 = .ok (.aload_n 0, 1) := by decide +kernel
theorem dX7_requests_22 : decode cX7_requests 22 = .ok (.bipush (-2), 2) := by decide +kernel
theorem dX7_requests_24 : decode cX7_requests 24 = .ok (.invokevirtual 35, 3) := by decide +kernel
theorem dX7_requests_27 : decode cX7_requests 27 = .ok (.ireturn, 1) := by decide +kernel
theorem dX7_requests_28 : decode cX7_requests 28 = .ok (.aload_n 0, 1) := by decide +kernel
theorem dX7_requests_29 : decode cX7_requests 29 = .ok (.getfield 27, 3) := by decide +kernel
theorem dX7_requests_32 : decode cX7_requests 32 = .ok (.getfield 155, 3) := by decide +kernel
theorem dX7_requests_35 : decode cX7_requests 35 = .ok (.iload_n 1, 1) := by decide +kernel
theorem dX7_requests_36 : decode cX7_requests 36 = .ok (.iload_n 2, 1) := by decide +kernel
theorem dX7_requests_37 : decode cX7_requests 37 = .ok (.invokevirtual 203, 3) := by decide +kernel
theorem dX7_requests_40 : decode cX7_requests 40 = .ok (.ireturn, 1) := by decide +kernel
theorem dX7_deliverable_0 : decode cX7_deliverable 0 = .ok (.iload_n 1, 1) := by decide +kernel
theorem dX7_deliverable_1 : decode cX7_deliverable 1 = .ok (.invokestatic 111, 3) := by decide +kernel
theorem dX7_deliverable_4 : decode cX7_deliverable 4 = .ok (.ifCond .eq 17, 3) := by decide +kernel
theorem dX7_deliverable_7 : decode cX7_deliverable 7 = .ok (.aload_n 0, 1) := by decide +kernel
theorem dX7_deliverable_8 : decode cX7_deliverable 8 = .ok (.getfield 27, 3) := by decide +kernel
theorem dX7_deliverable_11 : decode cX7_deliverable 11 = .ok (.getfield 43, 3) := by decide +kernel
theorem dX7_deliverable_14 : decode cX7_deliverable 14 = .ok (.iload_n 2, 1) := by decide +kernel
theorem dX7_deliverable_15 : decode cX7_deliverable 15 = .ok (.invokevirtual 63, 3) := by decide +kernel
theorem dX7_deliverable_18 : decode cX7_deliverable 18 = .ok (.ifCond .ne 10, 3) := by decide +kernel
theorem dX7_deliverable_21 : decode cX7_deliverable 21 = .ok (.aload_n 0, 1) := by decide +kernel
theorem dX7_deliverable_22 : decode cX7_deliverable 22 = .ok (.bipush (-2), 2) := by decide +kernel
theorem dX7_deliverable_24 : decode cX7_deliverable 24 = .ok (.invokevirtual 35, 3) := by decide +kernel
theorem dX7_deliverable_27 : decode cX7_deliverable 27 = .ok (.ireturn, 1) := by decide +kernel
theorem dX7_deliverable_28 : decode cX7_deliverable 28 = .ok (.aload_n 0, 1) := by decide +kernel
theorem dX7_deliverable_29 : decode cX7_deliverable 29 = .ok (.iload_n 1, 1) := by decide +kernel
theorem dX7_deliverable_30 : decode cX7_deliverable 30 = .ok (.iload_n 2, 1) := by decide +kernel
theorem dX7_deliverable_31 : decode cX7_deliverable 31 = .ok (.invokevirtual 176, 3) := by decide +kernel
theorem dX7_deliverable_34 : decode cX7_deliverable 34 = .ok (.ireturn, 1) := by decide +kernel
theorem dX7_count_0 : decode cX7_count 0 = .ok (.iload_n 1, 1) := by decide +kernel
theorem dX7_count_1 : decode cX7_count 1 = .ok (.invokestatic 111, 3) := by decide +kernel
theorem dX7_count_4 : decode cX7_count 4 = .ok (.ifCond .eq 18, 3) := by decide +kernel
theorem dX7_count_7 : decode cX7_count 7 = .ok (.aload_n 0, 1) := by decide +kernel
theorem dX7_count_8 : decode cX7_count 8 = .ok (.getfield 27, 3) := by decide +kernel
theorem dX7_count_11 : decode cX7_count 11 = .ok (.getfield 43, 3) := by decide +kernel
theorem dX7_count_14 : decode cX7_count 14 = .ok (.iload_n 2, 1) := by decide +kernel
theorem dX7_count_15 : decode cX7_count 15 = .ok (.iload_n 3, 1) := by decide +kernel
theorem dX7_count_16 : decode cX7_count 16 = .ok (.invokevirtual 86, 3) := by decide +kernel
theorem dX7_count_19 : decode cX7_count 19 = .ok (.ifCond .ne 10, 3) := by decide +kernel
theorem dX7_count_22 : decode cX7_count 22 = .ok (.aload_n 0, 1) := by decide +kernel
theorem dX7_count_23 : decode cX7_count 23 = .ok (.bipush (-2), 2) := by decide +kernel
theorem dX7_count_25 : decode cX7_count 25 = .ok (.invokevirtual 35, 3) := by decide +kernel
theorem dX7_count_28 : decode cX7_count 28 = .ok (.ireturn, 1) := by decide +kernel
theorem dX7_count_29 : decode cX7_count 29 = .ok (.sipush 1000, 3) := by decide +kernel
theorem dX7_count_32 : decode cX7_count 32 = .ok (.aload_n 0, 1) := by decide +kernel
theorem dX7_count_33 : decode cX7_count 33 = .ok (.getfield 27, 3) := by decide +kernel
theorem dX7_count_36 : decode cX7_count 36 = .ok (.getfield 189, 3) := by decide +kernel
theorem dX7_count_39 : decode cX7_count 39 = .ok (.iload_n 1, 1) := by decide +kernel
theorem dX7_count_40 : decode cX7_count 40 = .ok (.aaload, 1) := by decide +kernel
theorem dX7_count_41 : decode cX7_count 41 = .ok (.iload_n 2, 1) := by decide +kernel
theorem dX7_count_42 : decode cX7_count 42 = .ok (.iload_n 3, 1) := by decide +kernel
theorem dX7_count_43 : decode cX7_count 43 = .ok (.invokestatic 94, 3) := by decide +kernel
theorem dX7_count_46 : decode cX7_count 46 = .ok (.invokevirtual 206, 3) := by decide +kernel
theorem dX7_count_49 : decode cX7_count 49 = .ok (.iadd, 1) := by decide +kernel
theorem dX7_count_50 : decode cX7_count 50 = .ok (.ireturn, 1) := by decide +kernel
theorem dX7_active_0 : decode cX7_active 0 = .ok (.iload_n 1, 1) := by decide +kernel
theorem dX7_active_1 : decode cX7_active 1 = .ok (.invokestatic 111, 3) := by decide +kernel
theorem dX7_active_4 : decode cX7_active 4 = .ok (.ifCond .ne 10, 3) := by decide +kernel
theorem dX7_active_7 : decode cX7_active 7 = .ok (.aload_n 0, 1) := by decide +kernel
theorem dX7_active_8 : decode cX7_active 8 = .ok (.bipush (-2), 2) := by decide +kernel
theorem dX7_active_10 : decode cX7_active 10 = .ok (.invokevirtual 35, 3) := by decide +kernel
theorem dX7_active_13 : decode cX7_active 13 = .ok (.ireturn, 1) := by decide +kernel
theorem dX7_active_14 : decode cX7_active 14 = .ok (.aload_n 0, 1) := by decide +kernel
theorem dX7_active_15 : decode cX7_active 15 = .ok (.getfield 27, 3) := by decide +kernel
theorem dX7_active_18 : decode cX7_active 18 = .ok (.getfield 189, 3) := by decide +kernel
theorem dX7_active_21 : decode cX7_active 21 = .ok (.iload_n 1, 1) := by decide +kernel
theorem dX7_active_22 : decode cX7_active 22 = .ok (.aaload, 1) := by decide +kernel
theorem dX7_active_23 : decode cX7_active 23 = .ok (.invokevirtual 211, 3) := by decide +kernel
theorem dX7_active_26 : decode cX7_active 26 = .ok (.ireturn, 1) := by decide +kernel
theorem dX7_frontier_0 : decode cX7_frontier 0 = .ok (.iload_n 1, 1) := by decide +kernel
theorem dX7_frontier_1 : decode cX7_frontier 1 = .ok (.invokestatic 111, 3) := by decide +kernel
theorem dX7_frontier_4 : decode cX7_frontier 4 = .ok (.ifCond .eq 8, 3) := by decide +kernel
theorem dX7_frontier_7 : decode cX7_frontier 7 = .ok (.iload_n 2, 1) := by decide +kernel
theorem dX7_frontier_8 : decode cX7_frontier 8 = .ok (.iconst (-1), 1) := by decide +kernel
theorem dX7_frontier_9 : decode cX7_frontier 9 = .ok (.if_icmp .ge 10, 3) := by decide +kernel
theorem dX7_frontier_12 : decode cX7_frontier 12 = .ok (.aload_n 0, 1) := by decide +kernel
theorem dX7_frontier_13 : decode cX7_frontier 13 = .ok (.bipush (-2), 2) := by decide +kernel
theorem dX7_frontier_15 : decode cX7_frontier 15 = .ok (.invokevirtual 35, 3) := by decide +kernel
theorem dX7_frontier_18 : decode cX7_frontier 18 = .ok (.ireturn, 1) := by decide +kernel
theorem dX7_frontier_19 : decode cX7_frontier 19 = .ok (.aload_n 0, 1) := by decide +kernel
theorem dX7_frontier_20 : decode cX7_frontier 20 = .ok (.getfield 27, 3) := by decide +kernel
theorem dX7_frontier_23 : decode cX7_frontier 23 = .ok (.getfield 189, 3) := by decide +kernel
theorem dX7_frontier_26 : decode cX7_frontier 26 = .ok (.iload_n 1, 1) := by decide +kernel
theorem dX7_frontier_27 : decode cX7_frontier 27 = .ok (.aaload, 1) := by decide +kernel
theorem dX7_frontier_28 : decode cX7_frontier 28 = .ok (.astore_n 3, 1) := by decide +kernel
theorem dX7_frontier_29 : decode cX7_frontier 29 = .ok (.iconst 0, 1) := by decide +kernel
theorem dX7_frontier_30 : decode cX7_frontier 30 = .ok (.istore 4, 2) := by decide +kernel
theorem dX7_frontier_32 : decode cX7_frontier 32 = .ok (.iconst 0, 1) := by decide +kernel
theorem dX7_frontier_33 : decode cX7_frontier 33 = .ok (.istore 5, 2) := by decide +kernel
theorem dX7_frontier_35 : decode cX7_frontier 35 = .ok (.iload 5, 2) := by decide +kernel
theorem dX7_frontier_37 : decode cX7_frontier 37 = .ok (.aload_n 3, 1) := by decide +kernel
theorem dX7_frontier_38 : decode cX7_frontier 38 = .ok (.getfield 215, 3) := by decide +kernel
theorem dX7_frontier_41 : decode cX7_frontier 41 = .ok (.if_icmp .ge 36, 3) := by decide +kernel
theorem dX7_frontier_44 : decode cX7_frontier 44 = .ok (.aload_n 0, 1) := by decide +kernel
theorem dX7_frontier_45 : decode cX7_frontier 45 = .ok (.aload_n 3, 1) := by decide +kernel
theorem dX7_frontier_46 : decode cX7_frontier 46 = .ok (.iload 5, 2) := by decide +kernel
theorem dX7_frontier_48 : decode cX7_frontier 48 = .ok (.invokevirtual 218, 3) := by decide +kernel
theorem dX7_frontier_51 : decode cX7_frontier 51 = .ok (.ifCond .eq 20, 3) := by decide +kernel
theorem dX7_frontier_54 : decode cX7_frontier 54 = .ok (.iload 4, 2) := by decide +kernel
theorem dX7_frontier_56 : decode cX7_frontier 56 = .ok (.iload_n 2, 1) := by decide +kernel
theorem dX7_frontier_57 : decode cX7_frontier 57 = .ok (.if_icmp .ne 11, 3) := by decide +kernel
theorem dX7_frontier_60 : decode cX7_frontier 60 = .ok (.aload_n 3, 1) := by decide +kernel
theorem dX7_frontier_61 : decode cX7_frontier 61 = .ok (.getfield 222, 3) := by decide +kernel
theorem dX7_frontier_64 : decode cX7_frontier 64 = .ok (.iload 5, 2) := by decide +kernel
theorem dX7_frontier_66 : decode cX7_frontier 66 = .ok (.iaload, 1) := by decide +kernel
theorem dX7_frontier_67 : decode cX7_frontier 67 = .ok (.ireturn, 1) := by decide +kernel
theorem dX7_frontier_68 : decode cX7_frontier 68 = .ok (.iinc 4 1, 3) := by decide +kernel
theorem dX7_frontier_71 : decode cX7_frontier 71 = .ok (.iinc 5 1, 3) := by decide +kernel
theorem dX7_frontier_74 : decode cX7_frontier 74 = .ok (.goto (-39), 3) := by decide +kernel
theorem dX7_frontier_77 : decode cX7_frontier 77 = .ok (.iload_n 2, 1) := by decide +kernel
theorem dX7_frontier_78 : decode cX7_frontier 78 = .ok (.iconst (-1), 1) := by decide +kernel
theorem dX7_frontier_79 : decode cX7_frontier 79 = .ok (.if_icmp .ne 8, 3) := by decide +kernel
theorem dX7_frontier_82 : decode cX7_frontier 82 = .ok (.iload 4, 2) := by decide +kernel
theorem dX7_frontier_84 : decode cX7_frontier 84 = .ok (.goto 4, 3) := by decide +kernel
theorem dX7_frontier_87 : decode cX7_frontier 87 = .ok (.iconst (-1), 1) := by decide +kernel
theorem dX7_frontier_88 : decode cX7_frontier 88 = .ok (.ireturn, 1) := by decide +kernel
theorem dX7_pending_0 : decode cX7_pending 0 = .ok (.iload_n 1, 1) := by decide +kernel
theorem dX7_pending_1 : decode cX7_pending 1 = .ok (.invokestatic 111, 3) := by decide +kernel
theorem dX7_pending_4 : decode cX7_pending 4 = .ok (.ifCond .ne 10, 3) := by decide +kernel
theorem dX7_pending_7 : decode cX7_pending 7 = .ok (.aload_n 0, 1) := by decide +kernel
theorem dX7_pending_8 : decode cX7_pending 8 = .ok (.bipush (-2), 2) := by decide +kernel
theorem dX7_pending_10 : decode cX7_pending 10 = .ok (.invokevirtual 35, 3) := by decide +kernel
theorem dX7_pending_13 : decode cX7_pending 13 = .ok (.ireturn, 1) := by decide +kernel
theorem dX7_pending_14 : decode cX7_pending 14 = .ok (.aload_n 0, 1) := by decide +kernel
theorem dX7_pending_15 : decode cX7_pending 15 = .ok (.getfield 27, 3) := by decide +kernel
theorem dX7_pending_18 : decode cX7_pending 18 = .ok (.getfield 185, 3) := by decide +kernel
theorem dX7_pending_21 : decode cX7_pending 21 = .ok (.iload_n 1, 1) := by decide +kernel
theorem dX7_pending_22 : decode cX7_pending 22 = .ok (.aaload, 1) := by decide +kernel
theorem dX7_pending_23 : decode cX7_pending 23 = .ok (.getfield 225, 3) := by decide +kernel
theorem dX7_pending_26 : decode cX7_pending 26 = .ok (.ireturn, 1) := by decide +kernel
theorem dX7_delivered_0 : decode cX7_delivered 0 = .ok (.aload_n 0, 1) := by decide +kernel
theorem dX7_delivered_1 : decode cX7_delivered 1 = .ok (.getfield 27, 3) := by decide +kernel
theorem dX7_delivered_4 : decode cX7_delivered 4 = .ok (.getfield 226, 3) := by decide +kernel
theorem dX7_delivered_7 : decode cX7_delivered 7 = .ok (.ireturn, 1) := by decide +kernel
theorem dX7_violations_0 : decode cX7_violations 0 = .ok (.aload_n 0, 1) := by decide +kernel
theorem dX7_violations_1 : decode cX7_violations 1 = .ok (.getfield 27, 3) := by decide +kernel
theorem dX7_violations_4 : decode cX7_violations 4 = .ok (.getfield 229, 3) := by decide +kernel
theorem dX7_violations_7 : decode cX7_violations 7 = .ok (.ireturn, 1) := by decide +kernel
theorem dX7_undo_0 : decode cX7_undo 0 = .ok (.aload_n 0, 1) := by decide +kernel
theorem dX7_undo_1 : decode cX7_undo 1 = .ok (.getfield 232, 3) := by decide +kernel
theorem dX7_undo_4 : decode cX7_undo 4 = .ok (.ifCond .ne 10, 3) := by decide +kernel
theorem dX7_undo_7 : decode cX7_undo 7 = .ok (.aload_n 0, 1) := by decide +kernel
theorem dX7_undo_8 : decode cX7_undo 8 = .ok (.bipush (-5), 2) := by decide +kernel
theorem dX7_undo_10 : decode cX7_undo 10 = .ok (.invokevirtual 35, 3) := by decide +kernel
theorem dX7_undo_13 : decode cX7_undo 13 = .ok (.ireturn, 1) := by decide +kernel
theorem dX7_undo_14 : decode cX7_undo 14 = .ok (.aload_n 0, 1) := by decide +kernel
theorem dX7_undo_15 : decode cX7_undo 15 = .ok (.dup, 1) := by decide +kernel
theorem dX7_undo_16 : decode cX7_undo 16 = .ok (.getfield 232, 3) := by decide +kernel
theorem dX7_undo_19 : decode cX7_undo 19 = .ok (.iconst 1, 1) := by decide +kernel
theorem dX7_undo_20 : decode cX7_undo 20 = .ok (.isub, 1) := by decide +kernel
theorem dX7_undo_21 : decode cX7_undo 21 = .ok (.putfield 232, 3) := by decide +kernel
theorem dX7_undo_24 : decode cX7_undo 24 = .ok (.aload_n 0, 1) := by decide +kernel
theorem dX7_undo_25 : decode cX7_undo 25 = .ok (.getfield 27, 3) := by decide +kernel
theorem dX7_undo_28 : decode cX7_undo 28 = .ok (.astore_n 1, 1) := by decide +kernel
theorem dX7_undo_29 : decode cX7_undo 29 = .ok (.aload_n 0, 1) := by decide +kernel
theorem dX7_undo_30 : decode cX7_undo 30 = .ok (.aload_n 0, 1) := by decide +kernel
theorem dX7_undo_31 : decode cX7_undo 31 = .ok (.getfield 15, 3) := by decide +kernel
theorem dX7_undo_34 : decode cX7_undo 34 = .ok (.aload_n 0, 1) := by decide +kernel
theorem dX7_undo_35 : decode cX7_undo 35 = .ok (.getfield 232, 3) := by decide +kernel
theorem dX7_undo_38 : decode cX7_undo 38 = .ok (.aaload, 1) := by decide +kernel
theorem dX7_undo_39 : decode cX7_undo 39 = .ok (.putfield 27, 3) := by decide +kernel
theorem dX7_undo_42 : decode cX7_undo 42 = .ok (.aload_n 0, 1) := by decide +kernel
theorem dX7_undo_43 : decode cX7_undo 43 = .ok (.getfield 15, 3) := by decide +kernel
theorem dX7_undo_46 : decode cX7_undo 46 = .ok (.aload_n 0, 1) := by decide +kernel
theorem dX7_undo_47 : decode cX7_undo 47 = .ok (.getfield 232, 3) := by decide +kernel
theorem dX7_undo_50 : decode cX7_undo 50 = .ok (.aload_n 1, 1) := by decide +kernel
theorem dX7_undo_51 : decode cX7_undo 51 = .ok (.aastore, 1) := by decide +kernel
theorem dX7_undo_52 : decode cX7_undo 52 = .ok (.aload_n 0, 1) := by decide +kernel
theorem dX7_undo_53 : decode cX7_undo 53 = .ok (.getfield 27, 3) := by decide +kernel
theorem dX7_undo_56 : decode cX7_undo 56 = .ok (.getfield 43, 3) := by decide +kernel
theorem dX7_undo_59 : decode cX7_undo 59 = .ok (.aload_n 1, 1) := by decide +kernel
theorem dX7_undo_60 : decode cX7_undo 60 = .ok (.getfield 43, 3) := by decide +kernel
theorem dX7_undo_63 : decode cX7_undo 63 = .ok (.invokevirtual 235, 3) := by decide +kernel
theorem dX7_undo_66 : decode cX7_undo 66 = .ok (.ifCond .ne 10, 3) := by decide +kernel
theorem dX7_undo_69 : decode cX7_undo 69 = .ok (.aload_n 0, 1) := by decide +kernel
theorem dX7_undo_70 : decode cX7_undo 70 = .ok (.getfield 22, 3) := by decide +kernel
theorem dX7_undo_73 : decode cX7_undo 73 = .ok (.invokevirtual 56, 3) := by decide +kernel
theorem dX7_undo_76 : decode cX7_undo 76 = .ok (.aload_n 0, 1) := by decide +kernel
theorem dX7_undo_77 : decode cX7_undo 77 = .ok (.getfield 232, 3) := by decide +kernel
theorem dX7_undo_80 : decode cX7_undo 80 = .ok (.ireturn, 1) := by decide +kernel
theorem dX7_errorCount_0 : decode cX7_errorCount 0 = .ok (.iload_n 1, 1) := by decide +kernel
theorem dX7_errorCount_1 : decode cX7_errorCount 1 = .ok (.bipush (-5), 2) := by decide +kernel
theorem dX7_errorCount_3 : decode cX7_errorCount 3 = .ok (.if_icmp .lt 9, 3) := by decide +kernel
theorem dX7_errorCount_6 : decode cX7_errorCount 6 = .ok (.iload_n 1, 1) := by decide +kernel
theorem dX7_errorCount_7 : decode cX7_errorCount 7 = .ok (.bipush (-2), 2) := by decide +kernel
theorem dX7_errorCount_9 : decode cX7_errorCount 9 = .ok (.if_icmp .le 10, 3) := by decide +kernel
theorem dX7_errorCount_12 : decode cX7_errorCount 12 = .ok (.aload_n 0, 1) := by decide +kernel
theorem dX7_errorCount_13 : decode cX7_errorCount 13 = .ok (.bipush (-2), 2) := by decide +kernel
theorem dX7_errorCount_15 : decode cX7_errorCount 15 = .ok (.invokevirtual 35, 3) := by decide +kernel
theorem dX7_errorCount_18 : decode cX7_errorCount 18 = .ok (.ireturn, 1) := by decide +kernel
theorem dX7_errorCount_19 : decode cX7_errorCount 19 = .ok (.aload_n 0, 1) := by decide +kernel
theorem dX7_errorCount_20 : decode cX7_errorCount 20 = .ok (.getfield 9, 3) := by decide +kernel
theorem dX7_errorCount_23 : decode cX7_errorCount 23 = .ok (.bipush (-2), 2) := by decide +kernel
theorem dX7_errorCount_25 : decode cX7_errorCount 25 = .ok (.iload_n 1, 1) := by decide +kernel
theorem dX7_errorCount_26 : decode cX7_errorCount 26 = .ok (.isub, 1) := by decide +kernel
theorem dX7_errorCount_27 : decode cX7_errorCount 27 = .ok (.iaload, 1) := by decide +kernel
theorem dX7_errorCount_28 : decode cX7_errorCount 28 = .ok (.ireturn, 1) := by decide +kernel
theorem dX7_digest_0 : decode cX7_digest 0 = .ok (.ldc2_w 239, 3) := by decide +kernel
theorem dX7_digest_3 : decode cX7_digest 3 = .ok (.lstore_n 1, 1) := by decide +kernel
theorem dX7_digest_4 : decode cX7_digest 4 = .ok (.iconst 0, 1) := by decide +kernel
theorem dX7_digest_5 : decode cX7_digest 5 = .ok (.istore_n 3, 1) := by decide +kernel
theorem dX7_digest_6 : decode cX7_digest 6 = .ok (.iload_n 3, 1) := by decide +kernel
theorem dX7_digest_7 : decode cX7_digest 7 = .ok (.iconst 4, 1) := by decide +kernel
theorem dX7_digest_8 : decode cX7_digest 8 = .ok (.if_icmp .ge 20, 3) := by decide +kernel
theorem dX7_digest_11 : decode cX7_digest 11 = .ok (.lload_n 1, 1) := by decide +kernel
theorem dX7_digest_12 : decode cX7_digest 12 = .ok (.aload_n 0, 1) := by decide +kernel
theorem dX7_digest_13 : decode cX7_digest 13 = .ok (.getfield 9, 3) := by decide +kernel
theorem dX7_digest_16 : decode cX7_digest 16 = .ok (.iload_n 3, 1) := by decide +kernel
theorem dX7_digest_17 : decode cX7_digest 17 = .ok (.iaload, 1) := by decide +kernel
theorem dX7_digest_18 : decode cX7_digest 18 = .ok (.invokestatic 241, 3) := by decide +kernel
theorem dX7_digest_21 : decode cX7_digest 21 = .ok (.lstore_n 1, 1) := by decide +kernel
theorem dX7_digest_22 : decode cX7_digest 22 = .ok (.iinc 3 1, 3) := by decide +kernel
theorem dX7_digest_25 : decode cX7_digest 25 = .ok (.goto (-19), 3) := by decide +kernel
theorem dX7_digest_28 : decode cX7_digest 28 = .ok (.aload_n 0, 1) := by decide +kernel
theorem dX7_digest_29 : decode cX7_digest 29 = .ok (.lload_n 1, 1) := by decide +kernel
theorem dX7_digest_30 : decode cX7_digest 30 = .ok (.invokevirtual 245, 3) := by decide +kernel
theorem dX7_digest_33 : decode cX7_digest 33 = .ok (.lstore_n 1, 1) := by decide +kernel
theorem dX7_digest_34 : decode cX7_digest 34 = .ok (.iconst 0, 1) := by decide +kernel
theorem dX7_digest_35 : decode cX7_digest 35 = .ok (.istore_n 3, 1) := by decide +kernel
theorem dX7_digest_36 : decode cX7_digest 36 = .ok (.iload_n 3, 1) := by decide +kernel
theorem dX7_digest_37 : decode cX7_digest 37 = .ok (.iconst 2, 1) := by decide +kernel
theorem dX7_digest_38 : decode cX7_digest 38 = .ok (.if_icmp .ge 30, 3) := by decide +kernel
theorem dX7_digest_41 : decode cX7_digest 41 = .ok (.aload_n 0, 1) := by decide +kernel
theorem dX7_digest_42 : decode cX7_digest 42 = .ok (.lload_n 1, 1) := by decide +kernel
theorem dX7_digest_43 : decode cX7_digest 43 = .ok (.iload_n 3, 1) := by decide +kernel
theorem dX7_digest_44 : decode cX7_digest 44 = .ok (.invokevirtual 249, 3) := by decide +kernel
theorem dX7_digest_47 : decode cX7_digest 47 = .ok (.lstore_n 1, 1) := by decide +kernel
theorem dX7_digest_48 : decode cX7_digest 48 = .ok (.aload_n 0, 1) := by decide +kernel
theorem dX7_digest_49 : decode cX7_digest 49 = .ok (.lload_n 1, 1) := by decide +kernel
theorem dX7_digest_50 : decode cX7_digest 50 = .ok (.iload_n 3, 1) := by decide +kernel
theorem dX7_digest_51 : decode cX7_digest 51 = .ok (.invokevirtual 252, 3) := by decide +kernel
theorem dX7_digest_54 : decode cX7_digest 54 = .ok (.lstore_n 1, 1) := by decide +kernel
theorem dX7_digest_55 : decode cX7_digest 55 = .ok (.aload_n 0, 1) := by decide +kernel
theorem dX7_digest_56 : decode cX7_digest 56 = .ok (.lload_n 1, 1) := by decide +kernel
theorem dX7_digest_57 : decode cX7_digest 57 = .ok (.iload_n 3, 1) := by decide +kernel
theorem dX7_digest_58 : decode cX7_digest 58 = .ok (.invokevirtual 255, 3) := by decide +kernel
theorem dX7_digest_61 : decode cX7_digest 61 = .ok (.lstore_n 1, 1) := by decide +kernel
theorem dX7_digest_62 : decode cX7_digest 62 = .ok (.iinc 3 1, 3) := by decide +kernel
theorem dX7_digest_65 : decode cX7_digest 65 = .ok (.goto (-29), 3) := by decide +kernel
theorem dX7_digest_68 : decode cX7_digest 68 = .ok (.lload_n 1, 1) := by decide +kernel
theorem dX7_digest_69 : decode cX7_digest 69 = .ok (.aload_n 0, 1) := by decide +kernel
theorem dX7_digest_70 : decode cX7_digest 70 = .ok (.getfield 27, 3) := by decide +kernel
theorem dX7_digest_73 : decode cX7_digest 73 = .ok (.getfield 226, 3) := by decide +kernel
theorem dX7_digest_76 : decode cX7_digest 76 = .ok (.invokestatic 241, 3) := by decide +kernel
theorem dX7_digest_79 : decode cX7_digest 79 = .ok (.lstore_n 1, 1) := by decide +kernel
theorem dX7_digest_80 : decode cX7_digest 80 = .ok (.lload_n 1, 1) := by decide +kernel
theorem dX7_digest_81 : decode cX7_digest 81 = .ok (.aload_n 0, 1) := by decide +kernel
theorem dX7_digest_82 : decode cX7_digest 82 = .ok (.getfield 27, 3) := by decide +kernel
theorem dX7_digest_85 : decode cX7_digest 85 = .ok (.getfield 229, 3) := by decide +kernel
theorem dX7_digest_88 : decode cX7_digest 88 = .ok (.invokestatic 241, 3) := by decide +kernel
theorem dX7_digest_91 : decode cX7_digest 91 = .ok (.lstore_n 1, 1) := by decide +kernel
theorem dX7_digest_92 : decode cX7_digest 92 = .ok (.lload_n 1, 1) := by decide +kernel
theorem dX7_digest_93 : decode cX7_digest 93 = .ok (.aload_n 0, 1) := by decide +kernel
theorem dX7_digest_94 : decode cX7_digest 94 = .ok (.getfield 232, 3) := by decide +kernel
theorem dX7_digest_97 : decode cX7_digest 97 = .ok (.invokestatic 241, 3) := by decide +kernel
theorem dX7_digest_100 : decode cX7_digest 100 = .ok (.lreturn, 1) := by decide +kernel
theorem dX7_mixGraph_0 : decode cX7_mixGraph 0 = .ok (.aload_n 0, 1) := by decide +kernel
theorem dX7_mixGraph_1 : decode cX7_mixGraph 1 = .ok (.getfield 27, 3) := by decide +kernel
theorem dX7_mixGraph_4 : decode cX7_mixGraph 4 = .ok (.getfield 43, 3) := by decide +kernel
theorem dX7_mixGraph_7 : decode cX7_mixGraph 7 = .ok (.astore_n 3, 1) := by decide +kernel
theorem dX7_mixGraph_8 : decode cX7_mixGraph 8 = .ok (.lload_n 1, 1) := by decide +kernel
theorem dX7_mixGraph_9 : decode cX7_mixGraph 9 = .ok (.aload_n 3, 1) := by decide +kernel
theorem dX7_mixGraph_10 : decode cX7_mixGraph 10 = .ok (.getfield 47, 3) := by decide +kernel
theorem dX7_mixGraph_13 : decode cX7_mixGraph 13 = .ok (.invokestatic 241, 3) := by decide +kernel
theorem dX7_mixGraph_16 : decode cX7_mixGraph 16 = .ok (.lstore 4, 2) := by decide +kernel
theorem dX7_mixGraph_18 : decode cX7_mixGraph 18 = .ok (.iconst 0, 1) := by decide +kernel
theorem dX7_mixGraph_19 : decode cX7_mixGraph 19 = .ok (.istore 6, 2) := by decide +kernel
theorem dX7_mixGraph_21 : decode cX7_mixGraph 21 = .ok (.iload 6, 2) := by decide +kernel
theorem dX7_mixGraph_23 : decode cX7_mixGraph 23 = .ok (.aload_n 3, 1) := by decide +kernel
theorem dX7_mixGraph_24 : decode cX7_mixGraph 24 = .ok (.getfield 47, 3) := by decide +kernel
theorem dX7_mixGraph_27 : decode cX7_mixGraph 27 = .ok (.if_icmp .ge 40, 3) := by decide +kernel
theorem dX7_mixGraph_30 : decode cX7_mixGraph 30 = .ok (.lload 4, 2) := by decide +kernel
theorem dX7_mixGraph_32 : decode cX7_mixGraph 32 = .ok (.aload_n 3, 1) := by decide +kernel
theorem dX7_mixGraph_33 : decode cX7_mixGraph 33 = .ok (.getfield 258, 3) := by decide +kernel
theorem dX7_mixGraph_36 : decode cX7_mixGraph 36 = .ok (.iload 6, 2) := by decide +kernel
theorem dX7_mixGraph_38 : decode cX7_mixGraph 38 = .ok (.iaload, 1) := by decide +kernel
theorem dX7_mixGraph_39 : decode cX7_mixGraph 39 = .ok (.invokestatic 241, 3) := by decide +kernel
theorem dX7_mixGraph_42 : decode cX7_mixGraph 42 = .ok (.lstore 4, 2) := by decide +kernel
theorem dX7_mixGraph_44 : decode cX7_mixGraph 44 = .ok (.lload 4, 2) := by decide +kernel
theorem dX7_mixGraph_46 : decode cX7_mixGraph 46 = .ok (.aload_n 0, 1) := by decide +kernel
theorem dX7_mixGraph_47 : decode cX7_mixGraph 47 = .ok (.getfield 27, 3) := by decide +kernel
theorem dX7_mixGraph_50 : decode cX7_mixGraph 50 = .ok (.getfield 114, 3) := by decide +kernel
theorem dX7_mixGraph_53 : decode cX7_mixGraph 53 = .ok (.iload 6, 2) := by decide +kernel
theorem dX7_mixGraph_55 : decode cX7_mixGraph 55 = .ok (.iaload, 1) := by decide +kernel
theorem dX7_mixGraph_56 : decode cX7_mixGraph 56 = .ok (.invokestatic 241, 3) := by decide +kernel
theorem dX7_mixGraph_59 : decode cX7_mixGraph 59 = .ok (.lstore 4, 2) := by decide +kernel
theorem dX7_mixGraph_61 : decode cX7_mixGraph 61 = .ok (.iinc 6 1, 3) := by decide +kernel
theorem dX7_mixGraph_64 : decode cX7_mixGraph 64 = .ok (.goto (-43), 3) := by decide +kernel
theorem dX7_mixGraph_67 : decode cX7_mixGraph 67 = .ok (.lload 4, 2) := by decide +kernel
theorem dX7_mixGraph_69 : decode cX7_mixGraph 69 = .ok (.aload_n 3, 1) := by decide +kernel
theorem dX7_mixGraph_70 : decode cX7_mixGraph 70 = .ok (.getfield 73, 3) := by decide +kernel
theorem dX7_mixGraph_73 : decode cX7_mixGraph 73 = .ok (.invokestatic 241, 3) := by decide +kernel
theorem dX7_mixGraph_76 : decode cX7_mixGraph 76 = .ok (.lstore 4, 2) := by decide +kernel
theorem dX7_mixGraph_78 : decode cX7_mixGraph 78 = .ok (.iconst 0, 1) := by decide +kernel
theorem dX7_mixGraph_79 : decode cX7_mixGraph 79 = .ok (.istore 6, 2) := by decide +kernel
theorem dX7_mixGraph_81 : decode cX7_mixGraph 81 = .ok (.iload 6, 2) := by decide +kernel
theorem dX7_mixGraph_83 : decode cX7_mixGraph 83 = .ok (.aload_n 3, 1) := by decide +kernel
theorem dX7_mixGraph_84 : decode cX7_mixGraph 84 = .ok (.getfield 73, 3) := by decide +kernel
theorem dX7_mixGraph_87 : decode cX7_mixGraph 87 = .ok (.if_icmp .ge 51, 3) := by decide +kernel
theorem dX7_mixGraph_90 : decode cX7_mixGraph 90 = .ok (.lload 4, 2) := by decide +kernel
theorem dX7_mixGraph_92 : decode cX7_mixGraph 92 = .ok (.aload_n 3, 1) := by decide +kernel
theorem dX7_mixGraph_93 : decode cX7_mixGraph 93 = .ok (.getfield 117, 3) := by decide +kernel
theorem dX7_mixGraph_96 : decode cX7_mixGraph 96 = .ok (.iload 6, 2) := by decide +kernel
theorem dX7_mixGraph_98 : decode cX7_mixGraph 98 = .ok (.iaload, 1) := by decide +kernel
theorem dX7_mixGraph_99 : decode cX7_mixGraph 99 = .ok (.invokestatic 241, 3) := by decide +kernel
theorem dX7_mixGraph_102 : decode cX7_mixGraph 102 = .ok (.lstore 4, 2) := by decide +kernel
theorem dX7_mixGraph_104 : decode cX7_mixGraph 104 = .ok (.lload 4, 2) := by decide +kernel
theorem dX7_mixGraph_106 : decode cX7_mixGraph 106 = .ok (.aload_n 3, 1) := by decide +kernel
theorem dX7_mixGraph_107 : decode cX7_mixGraph 107 = .ok (.getfield 143, 3) := by decide +kernel
theorem dX7_mixGraph_110 : decode cX7_mixGraph 110 = .ok (.iload 6, 2) := by decide +kernel
theorem dX7_mixGraph_112 : decode cX7_mixGraph 112 = .ok (.iaload, 1) := by decide +kernel
theorem dX7_mixGraph_113 : decode cX7_mixGraph 113 = .ok (.invokestatic 241, 3) := by decide +kernel
theorem dX7_mixGraph_116 : decode cX7_mixGraph 116 = .ok (.lstore 4, 2) := by decide +kernel
theorem dX7_mixGraph_118 : decode cX7_mixGraph 118 = .ok (.lload 4, 2) := by decide +kernel
theorem dX7_mixGraph_120 : decode cX7_mixGraph 120 = .ok (.aload_n 3, 1) := by decide +kernel
theorem dX7_mixGraph_121 : decode cX7_mixGraph 121 = .ok (.getfield 83, 3) := by decide +kernel
theorem dX7_mixGraph_124 : decode cX7_mixGraph 124 = .ok (.iload 6, 2) := by decide +kernel
theorem dX7_mixGraph_126 : decode cX7_mixGraph 126 = .ok (.iaload, 1) := by decide +kernel
theorem dX7_mixGraph_127 : decode cX7_mixGraph 127 = .ok (.invokestatic 241, 3) := by decide +kernel
theorem dX7_mixGraph_130 : decode cX7_mixGraph 130 = .ok (.lstore 4, 2) := by decide +kernel
theorem dX7_mixGraph_132 : decode cX7_mixGraph 132 = .ok (.iinc 6 1, 3) := by decide +kernel
theorem dX7_mixGraph_135 : decode cX7_mixGraph 135 = .ok (.goto (-54), 3) := by decide +kernel
theorem dX7_mixGraph_138 : decode cX7_mixGraph 138 = .ok (.lload 4, 2) := by decide +kernel
theorem dX7_mixGraph_140 : decode cX7_mixGraph 140 = .ok (.lreturn, 1) := by decide +kernel
theorem dX7_mixMail_0 : decode cX7_mixMail 0 = .ok (.lload_n 1, 1) := by decide +kernel
theorem dX7_mixMail_1 : decode cX7_mixMail 1 = .ok (.lstore 4, 2) := by decide +kernel
theorem dX7_mixMail_3 : decode cX7_mixMail 3 = .ok (.iconst 0, 1) := by decide +kernel
theorem dX7_mixMail_4 : decode cX7_mixMail 4 = .ok (.istore 6, 2) := by decide +kernel
theorem dX7_mixMail_6 : decode cX7_mixMail 6 = .ok (.iload 6, 2) := by decide +kernel
theorem dX7_mixMail_8 : decode cX7_mixMail 8 = .ok (.aload_n 0, 1) := by decide +kernel
theorem dX7_mixMail_9 : decode cX7_mixMail 9 = .ok (.getfield 27, 3) := by decide +kernel
theorem dX7_mixMail_12 : decode cX7_mixMail 12 = .ok (.getfield 43, 3) := by decide +kernel
theorem dX7_mixMail_15 : decode cX7_mixMail 15 = .ok (.getfield 73, 3) := by decide +kernel
theorem dX7_mixMail_18 : decode cX7_mixMail 18 = .ok (.if_icmp .ge 71, 3) := by decide +kernel
theorem dX7_mixMail_21 : decode cX7_mixMail 21 = .ok (.aload_n 0, 1) := by decide +kernel
theorem dX7_mixMail_22 : decode cX7_mixMail 22 = .ok (.getfield 27, 3) := by decide +kernel
theorem dX7_mixMail_25 : decode cX7_mixMail 25 = .ok (.getfield 120, 3) := by decide +kernel
theorem dX7_mixMail_28 : decode cX7_mixMail 28 = .ok (.iload_n 3, 1) := by decide +kernel
theorem dX7_mixMail_29 : decode cX7_mixMail 29 = .ok (.iload 6, 2) := by decide +kernel
theorem dX7_mixMail_31 : decode cX7_mixMail 31 = .ok (.invokevirtual 146, 3) := by decide +kernel
theorem dX7_mixMail_34 : decode cX7_mixMail 34 = .ok (.istore 7, 2) := by decide +kernel
theorem dX7_mixMail_36 : decode cX7_mixMail 36 = .ok (.lload 4, 2) := by decide +kernel
theorem dX7_mixMail_38 : decode cX7_mixMail 38 = .ok (.iload 7, 2) := by decide +kernel
theorem dX7_mixMail_40 : decode cX7_mixMail 40 = .ok (.invokestatic 241, 3) := by decide +kernel
theorem dX7_mixMail_43 : decode cX7_mixMail 43 = .ok (.lstore 4, 2) := by decide +kernel
theorem dX7_mixMail_45 : decode cX7_mixMail 45 = .ok (.iconst 0, 1) := by decide +kernel
theorem dX7_mixMail_46 : decode cX7_mixMail 46 = .ok (.istore 8, 2) := by decide +kernel
theorem dX7_mixMail_48 : decode cX7_mixMail 48 = .ok (.iload 8, 2) := by decide +kernel
end
section
theorem dX7_mixMail_50 : decode cX7_mixMail 50 = .ok (.iload 7, 2) := by decide +kernel
theorem dX7_mixMail_52 : decode cX7_mixMail 52 = .ok (.if_icmp .ge 31, 3) := by decide +kernel
theorem dX7_mixMail_55 : decode cX7_mixMail 55 = .ok (.lload 4, 2) := by decide +kernel
theorem dX7_mixMail_57 : decode cX7_mixMail 57 = .ok (.aload_n 0, 1) := by decide +kernel
theorem dX7_mixMail_58 : decode cX7_mixMail 58 = .ok (.getfield 27, 3) := by decide +kernel
theorem dX7_mixMail_61 : decode cX7_mixMail 61 = .ok (.getfield 120, 3) := by decide +kernel
theorem dX7_mixMail_64 : decode cX7_mixMail 64 = .ok (.iload_n 3, 1) := by decide +kernel
theorem dX7_mixMail_65 : decode cX7_mixMail 65 = .ok (.iload 6, 2) := by decide +kernel
theorem dX7_mixMail_67 : decode cX7_mixMail 67 = .ok (.iload 8, 2) := by decide +kernel
theorem dX7_mixMail_69 : decode cX7_mixMail 69 = .ok (.invokevirtual 199, 3) := by decide +kernel
theorem dX7_mixMail_72 : decode cX7_mixMail 72 = .ok (.invokestatic 241, 3) := by decide +kernel
theorem dX7_mixMail_75 : decode cX7_mixMail 75 = .ok (.lstore 4, 2) := by decide +kernel
theorem dX7_mixMail_77 : decode cX7_mixMail 77 = .ok (.iinc 8 1, 3) := by decide +kernel
theorem dX7_mixMail_80 : decode cX7_mixMail 80 = .ok (.goto (-32), 3) := by decide +kernel
theorem dX7_mixMail_83 : decode cX7_mixMail 83 = .ok (.iinc 6 1, 3) := by decide +kernel
theorem dX7_mixMail_86 : decode cX7_mixMail 86 = .ok (.goto (-80), 3) := by decide +kernel
theorem dX7_mixMail_89 : decode cX7_mixMail 89 = .ok (.lload 4, 2) := by decide +kernel
theorem dX7_mixMail_91 : decode cX7_mixMail 91 = .ok (.lreturn, 1) := by decide +kernel
theorem dX7_mixNotifications_0 : decode cX7_mixNotifications 0 = .ok (.lload_n 1, 1) := by decide +kernel
theorem dX7_mixNotifications_1 : decode cX7_mixNotifications 1 = .ok (.lstore 4, 2) := by decide +kernel
theorem dX7_mixNotifications_3 : decode cX7_mixNotifications 3 = .ok (.iconst 0, 1) := by decide +kernel
theorem dX7_mixNotifications_4 : decode cX7_mixNotifications 4 = .ok (.istore 6, 2) := by decide +kernel
theorem dX7_mixNotifications_6 : decode cX7_mixNotifications 6 = .ok (.iload 6, 2) := by decide +kernel
theorem dX7_mixNotifications_8 : decode cX7_mixNotifications 8 = .ok (.aload_n 0, 1) := by decide +kernel
theorem dX7_mixNotifications_9 : decode cX7_mixNotifications 9 = .ok (.getfield 27, 3) := by decide +kernel
theorem dX7_mixNotifications_12 : decode cX7_mixNotifications 12 = .ok (.getfield 43, 3) := by decide +kernel
theorem dX7_mixNotifications_15 : decode cX7_mixNotifications 15 = .ok (.getfield 47, 3) := by decide +kernel
theorem dX7_mixNotifications_18 : decode cX7_mixNotifications 18 = .ok (.if_icmp .ge 43, 3) := by decide +kernel
theorem dX7_mixNotifications_21 : decode cX7_mixNotifications 21 = .ok (.lload 4, 2) := by decide +kernel
theorem dX7_mixNotifications_23 : decode cX7_mixNotifications 23 = .ok (.aload_n 0, 1) := by decide +kernel
theorem dX7_mixNotifications_24 : decode cX7_mixNotifications 24 = .ok (.getfield 27, 3) := by decide +kernel
theorem dX7_mixNotifications_27 : decode cX7_mixNotifications 27 = .ok (.getfield 155, 3) := by decide +kernel
theorem dX7_mixNotifications_30 : decode cX7_mixNotifications 30 = .ok (.iload_n 3, 1) := by decide +kernel
theorem dX7_mixNotifications_31 : decode cX7_mixNotifications 31 = .ok (.iload 6, 2) := by decide +kernel
theorem dX7_mixNotifications_33 : decode cX7_mixNotifications 33 = .ok (.invokevirtual 203, 3) := by decide +kernel
theorem dX7_mixNotifications_36 : decode cX7_mixNotifications 36 = .ok (.invokestatic 241, 3) := by decide +kernel
theorem dX7_mixNotifications_39 : decode cX7_mixNotifications 39 = .ok (.lstore 4, 2) := by decide +kernel
theorem dX7_mixNotifications_41 : decode cX7_mixNotifications 41 = .ok (.lload 4, 2) := by decide +kernel
theorem dX7_mixNotifications_43 : decode cX7_mixNotifications 43 = .ok (.aload_n 0, 1) := by decide +kernel
theorem dX7_mixNotifications_44 : decode cX7_mixNotifications 44 = .ok (.iload_n 3, 1) := by decide +kernel
theorem dX7_mixNotifications_45 : decode cX7_mixNotifications 45 = .ok (.iload 6, 2) := by decide +kernel
theorem dX7_mixNotifications_47 : decode cX7_mixNotifications 47 = .ok (.invokevirtual 176, 3) := by decide +kernel
theorem dX7_mixNotifications_50 : decode cX7_mixNotifications 50 = .ok (.invokestatic 241, 3) := by decide +kernel
theorem dX7_mixNotifications_53 : decode cX7_mixNotifications 53 = .ok (.lstore 4, 2) := by decide +kernel
theorem dX7_mixNotifications_55 : decode cX7_mixNotifications 55 = .ok (.iinc 6 1, 3) := by decide +kernel
theorem dX7_mixNotifications_58 : decode cX7_mixNotifications 58 = .ok (.goto (-52), 3) := by decide +kernel
theorem dX7_mixNotifications_61 : decode cX7_mixNotifications 61 = .ok (.lload 4, 2) := by decide +kernel
theorem dX7_mixNotifications_63 : decode cX7_mixNotifications 63 = .ok (.lreturn, 1) := by decide +kernel
theorem dX7_mixView_0 : decode cX7_mixView 0 = .ok (.aload_n 0, 1) := by decide +kernel
theorem dX7_mixView_1 : decode cX7_mixView 1 = .ok (.getfield 27, 3) := by decide +kernel
theorem dX7_mixView_4 : decode cX7_mixView 4 = .ok (.getfield 189, 3) := by decide +kernel
theorem dX7_mixView_7 : decode cX7_mixView 7 = .ok (.iload_n 3, 1) := by decide +kernel
theorem dX7_mixView_8 : decode cX7_mixView 8 = .ok (.aaload, 1) := by decide +kernel
theorem dX7_mixView_9 : decode cX7_mixView 9 = .ok (.astore 4, 2) := by decide +kernel
theorem dX7_mixView_11 : decode cX7_mixView 11 = .ok (.lload_n 1, 1) := by decide +kernel
theorem dX7_mixView_12 : decode cX7_mixView 12 = .ok (.aload 4, 2) := by decide +kernel
theorem dX7_mixView_14 : decode cX7_mixView 14 = .ok (.invokevirtual 211, 3) := by decide +kernel
theorem dX7_mixView_17 : decode cX7_mixView 17 = .ok (.invokestatic 241, 3) := by decide +kernel
theorem dX7_mixView_20 : decode cX7_mixView 20 = .ok (.lstore 5, 2) := by decide +kernel
theorem dX7_mixView_22 : decode cX7_mixView 22 = .ok (.aload_n 0, 1) := by decide +kernel
theorem dX7_mixView_23 : decode cX7_mixView 23 = .ok (.aload 4, 2) := by decide +kernel
theorem dX7_mixView_25 : decode cX7_mixView 25 = .ok (.invokevirtual 261, 3) := by decide +kernel
theorem dX7_mixView_28 : decode cX7_mixView 28 = .ok (.istore 7, 2) := by decide +kernel
theorem dX7_mixView_30 : decode cX7_mixView 30 = .ok (.lload 5, 2) := by decide +kernel
theorem dX7_mixView_32 : decode cX7_mixView 32 = .ok (.iload 7, 2) := by decide +kernel
theorem dX7_mixView_34 : decode cX7_mixView 34 = .ok (.invokestatic 241, 3) := by decide +kernel
theorem dX7_mixView_37 : decode cX7_mixView 37 = .ok (.lstore 5, 2) := by decide +kernel
theorem dX7_mixView_39 : decode cX7_mixView 39 = .ok (.iconst 0, 1) := by decide +kernel
theorem dX7_mixView_40 : decode cX7_mixView 40 = .ok (.istore 8, 2) := by decide +kernel
theorem dX7_mixView_42 : decode cX7_mixView 42 = .ok (.iload 8, 2) := by decide +kernel
theorem dX7_mixView_44 : decode cX7_mixView 44 = .ok (.aload 4, 2) := by decide +kernel
theorem dX7_mixView_46 : decode cX7_mixView 46 = .ok (.getfield 215, 3) := by decide +kernel
theorem dX7_mixView_49 : decode cX7_mixView 49 = .ok (.if_icmp .ge 36, 3) := by decide +kernel
theorem dX7_mixView_52 : decode cX7_mixView 52 = .ok (.aload 4, 2) := by decide +kernel
theorem dX7_mixView_54 : decode cX7_mixView 54 = .ok (.getfield 265, 3) := by decide +kernel
theorem dX7_mixView_57 : decode cX7_mixView 57 = .ok (.iload 8, 2) := by decide +kernel
theorem dX7_mixView_59 : decode cX7_mixView 59 = .ok (.iaload, 1) := by decide +kernel
theorem dX7_mixView_60 : decode cX7_mixView 60 = .ok (.iconst 1, 1) := by decide +kernel
theorem dX7_mixView_61 : decode cX7_mixView 61 = .ok (.if_icmp .ne 18, 3) := by decide +kernel
theorem dX7_mixView_64 : decode cX7_mixView 64 = .ok (.lload 5, 2) := by decide +kernel
theorem dX7_mixView_66 : decode cX7_mixView 66 = .ok (.aload 4, 2) := by decide +kernel
theorem dX7_mixView_68 : decode cX7_mixView 68 = .ok (.getfield 222, 3) := by decide +kernel
theorem dX7_mixView_71 : decode cX7_mixView 71 = .ok (.iload 8, 2) := by decide +kernel
theorem dX7_mixView_73 : decode cX7_mixView 73 = .ok (.iaload, 1) := by decide +kernel
theorem dX7_mixView_74 : decode cX7_mixView 74 = .ok (.invokestatic 241, 3) := by decide +kernel
theorem dX7_mixView_77 : decode cX7_mixView 77 = .ok (.lstore 5, 2) := by decide +kernel
theorem dX7_mixView_79 : decode cX7_mixView 79 = .ok (.iinc 8 1, 3) := by decide +kernel
theorem dX7_mixView_82 : decode cX7_mixView 82 = .ok (.goto (-40), 3) := by decide +kernel
theorem dX7_mixView_85 : decode cX7_mixView 85 = .ok (.lload 5, 2) := by decide +kernel
theorem dX7_mixView_87 : decode cX7_mixView 87 = .ok (.aload_n 0, 1) := by decide +kernel
theorem dX7_mixView_88 : decode cX7_mixView 88 = .ok (.getfield 27, 3) := by decide +kernel
theorem dX7_mixView_91 : decode cX7_mixView 91 = .ok (.getfield 185, 3) := by decide +kernel
theorem dX7_mixView_94 : decode cX7_mixView 94 = .ok (.iload_n 3, 1) := by decide +kernel
theorem dX7_mixView_95 : decode cX7_mixView 95 = .ok (.aaload, 1) := by decide +kernel
theorem dX7_mixView_96 : decode cX7_mixView 96 = .ok (.getfield 225, 3) := by decide +kernel
theorem dX7_mixView_99 : decode cX7_mixView 99 = .ok (.invokestatic 241, 3) := by decide +kernel
theorem dX7_mixView_102 : decode cX7_mixView 102 = .ok (.lreturn, 1) := by decide +kernel
theorem dX7_mix_0 : decode cX7_mix 0 = .ok (.ldc2_w 268, 3) := by decide +kernel
theorem dX7_mix_3 : decode cX7_mix 3 = .ok (.lload_n 0, 1) := by decide +kernel
theorem dX7_mix_4 : decode cX7_mix 4 = .ok (.lmul, 1) := by decide +kernel
theorem dX7_mix_5 : decode cX7_mix 5 = .ok (.iload_n 2, 1) := by decide +kernel
theorem dX7_mix_6 : decode cX7_mix 6 = .ok (.i2l, 1) := by decide +kernel
theorem dX7_mix_7 : decode cX7_mix 7 = .ok (.ladd, 1) := by decide +kernel
theorem dX7_mix_8 : decode cX7_mix 8 = .ok (.lreturn, 1) := by decide +kernel
theorem dX7_markFrontier_0 : decode cX7_markFrontier 0 = .ok (.iconst 0, 1) := by decide +kernel
theorem dX7_markFrontier_1 : decode cX7_markFrontier 1 = .ok (.istore_n 2, 1) := by decide +kernel
theorem dX7_markFrontier_2 : decode cX7_markFrontier 2 = .ok (.iconst 0, 1) := by decide +kernel
theorem dX7_markFrontier_3 : decode cX7_markFrontier 3 = .ok (.istore_n 3, 1) := by decide +kernel
theorem dX7_markFrontier_4 : decode cX7_markFrontier 4 = .ok (.iload_n 3, 1) := by decide +kernel
theorem dX7_markFrontier_5 : decode cX7_markFrontier 5 = .ok (.aload_n 1, 1) := by decide +kernel
theorem dX7_markFrontier_6 : decode cX7_markFrontier 6 = .ok (.getfield 215, 3) := by decide +kernel
theorem dX7_markFrontier_9 : decode cX7_markFrontier 9 = .ok (.if_icmp .ge 38, 3) := by decide +kernel
theorem dX7_markFrontier_12 : decode cX7_markFrontier 12 = .ok (.aload_n 1, 1) := by decide +kernel
theorem dX7_markFrontier_13 : decode cX7_markFrontier 13 = .ok (.getfield 265, 3) := by decide +kernel
theorem dX7_markFrontier_16 : decode cX7_markFrontier 16 = .ok (.iload_n 3, 1) := by decide +kernel
theorem dX7_markFrontier_17 : decode cX7_markFrontier 17 = .ok (.aload_n 0, 1) := by decide +kernel
theorem dX7_markFrontier_18 : decode cX7_markFrontier 18 = .ok (.aload_n 1, 1) := by decide +kernel
theorem dX7_markFrontier_19 : decode cX7_markFrontier 19 = .ok (.iload_n 3, 1) := by decide +kernel
theorem dX7_markFrontier_20 : decode cX7_markFrontier 20 = .ok (.invokevirtual 218, 3) := by decide +kernel
theorem dX7_markFrontier_23 : decode cX7_markFrontier 23 = .ok (.ifCond .eq 7, 3) := by decide +kernel
theorem dX7_markFrontier_26 : decode cX7_markFrontier 26 = .ok (.iconst 1, 1) := by decide +kernel
theorem dX7_markFrontier_27 : decode cX7_markFrontier 27 = .ok (.goto 4, 3) := by decide +kernel
theorem dX7_markFrontier_30 : decode cX7_markFrontier 30 = .ok (.iconst 0, 1) := by decide +kernel
theorem dX7_markFrontier_31 : decode cX7_markFrontier 31 = .ok (.iastore, 1) := by decide +kernel
theorem dX7_markFrontier_32 : decode cX7_markFrontier 32 = .ok (.iload_n 2, 1) := by decide +kernel
theorem dX7_markFrontier_33 : decode cX7_markFrontier 33 = .ok (.aload_n 1, 1) := by decide +kernel
theorem dX7_markFrontier_34 : decode cX7_markFrontier 34 = .ok (.getfield 265, 3) := by decide +kernel
theorem dX7_markFrontier_37 : decode cX7_markFrontier 37 = .ok (.iload_n 3, 1) := by decide +kernel
theorem dX7_markFrontier_38 : decode cX7_markFrontier 38 = .ok (.iaload, 1) := by decide +kernel
theorem dX7_markFrontier_39 : decode cX7_markFrontier 39 = .ok (.iadd, 1) := by decide +kernel
theorem dX7_markFrontier_40 : decode cX7_markFrontier 40 = .ok (.istore_n 2, 1) := by decide +kernel
theorem dX7_markFrontier_41 : decode cX7_markFrontier 41 = .ok (.iinc 3 1, 3) := by decide +kernel
theorem dX7_markFrontier_44 : decode cX7_markFrontier 44 = .ok (.goto (-40), 3) := by decide +kernel
theorem dX7_markFrontier_47 : decode cX7_markFrontier 47 = .ok (.iload_n 2, 1) := by decide +kernel
theorem dX7_markFrontier_48 : decode cX7_markFrontier 48 = .ok (.ireturn, 1) := by decide +kernel
theorem dX7_isOnFrontier_0 : decode cX7_isOnFrontier 0 = .ok (.aload_n 1, 1) := by decide +kernel
theorem dX7_isOnFrontier_1 : decode cX7_isOnFrontier 1 = .ok (.getfield 270, 3) := by decide +kernel
theorem dX7_isOnFrontier_4 : decode cX7_isOnFrontier 4 = .ok (.iload_n 2, 1) := by decide +kernel
theorem dX7_isOnFrontier_5 : decode cX7_isOnFrontier 5 = .ok (.iaload, 1) := by decide +kernel
theorem dX7_isOnFrontier_6 : decode cX7_isOnFrontier 6 = .ok (.ifCond .gt 5, 3) := by decide +kernel
theorem dX7_isOnFrontier_9 : decode cX7_isOnFrontier 9 = .ok (.iconst 0, 1) := by decide +kernel
theorem dX7_isOnFrontier_10 : decode cX7_isOnFrontier 10 = .ok (.ireturn, 1) := by decide +kernel
theorem dX7_isOnFrontier_11 : decode cX7_isOnFrontier 11 = .ok (.aload_n 1, 1) := by decide +kernel
theorem dX7_isOnFrontier_12 : decode cX7_isOnFrontier 12 = .ok (.getfield 222, 3) := by decide +kernel
theorem dX7_isOnFrontier_15 : decode cX7_isOnFrontier 15 = .ok (.iload_n 2, 1) := by decide +kernel
theorem dX7_isOnFrontier_16 : decode cX7_isOnFrontier 16 = .ok (.iaload, 1) := by decide +kernel
theorem dX7_isOnFrontier_17 : decode cX7_isOnFrontier 17 = .ok (.istore_n 3, 1) := by decide +kernel
theorem dX7_isOnFrontier_18 : decode cX7_isOnFrontier 18 = .ok (.iconst 0, 1) := by decide +kernel
theorem dX7_isOnFrontier_19 : decode cX7_isOnFrontier 19 = .ok (.istore 4, 2) := by decide +kernel
theorem dX7_isOnFrontier_21 : decode cX7_isOnFrontier 21 = .ok (.iload 4, 2) := by decide +kernel
theorem dX7_isOnFrontier_23 : decode cX7_isOnFrontier 23 = .ok (.aload_n 1, 1) := by decide +kernel
theorem dX7_isOnFrontier_24 : decode cX7_isOnFrontier 24 = .ok (.getfield 215, 3) := by decide +kernel
theorem dX7_isOnFrontier_27 : decode cX7_isOnFrontier 27 = .ok (.if_icmp .ge 52, 3) := by decide +kernel
theorem dX7_isOnFrontier_30 : decode cX7_isOnFrontier 30 = .ok (.iload 4, 2) := by decide +kernel
theorem dX7_isOnFrontier_32 : decode cX7_isOnFrontier 32 = .ok (.iload_n 2, 1) := by decide +kernel
theorem dX7_isOnFrontier_33 : decode cX7_isOnFrontier 33 = .ok (.if_icmp .eq 40, 3) := by decide +kernel
theorem dX7_isOnFrontier_36 : decode cX7_isOnFrontier 36 = .ok (.aload_n 1, 1) := by decide +kernel
theorem dX7_isOnFrontier_37 : decode cX7_isOnFrontier 37 = .ok (.getfield 270, 3) := by decide +kernel
theorem dX7_isOnFrontier_40 : decode cX7_isOnFrontier 40 = .ok (.iload 4, 2) := by decide +kernel
theorem dX7_isOnFrontier_42 : decode cX7_isOnFrontier 42 = .ok (.iaload, 1) := by decide +kernel
theorem dX7_isOnFrontier_43 : decode cX7_isOnFrontier 43 = .ok (.ifCond .le 30, 3) := by decide +kernel
theorem dX7_isOnFrontier_46 : decode cX7_isOnFrontier 46 = .ok (.aload_n 0, 1) := by decide +kernel
theorem dX7_isOnFrontier_47 : decode cX7_isOnFrontier 47 = .ok (.getfield 22, 3) := by decide +kernel
theorem dX7_isOnFrontier_50 : decode cX7_isOnFrontier 50 = .ok (.aload_n 0, 1) := by decide +kernel
theorem dX7_isOnFrontier_51 : decode cX7_isOnFrontier 51 = .ok (.getfield 27, 3) := by decide +kernel
theorem dX7_isOnFrontier_54 : decode cX7_isOnFrontier 54 = .ok (.getfield 43, 3) := by decide +kernel
theorem dX7_isOnFrontier_57 : decode cX7_isOnFrontier 57 = .ok (.aload_n 1, 1) := by decide +kernel
theorem dX7_isOnFrontier_58 : decode cX7_isOnFrontier 58 = .ok (.getfield 222, 3) := by decide +kernel
theorem dX7_isOnFrontier_61 : decode cX7_isOnFrontier 61 = .ok (.iload 4, 2) := by decide +kernel
theorem dX7_isOnFrontier_63 : decode cX7_isOnFrontier 63 = .ok (.iaload, 1) := by decide +kernel
theorem dX7_isOnFrontier_64 : decode cX7_isOnFrontier 64 = .ok (.iload_n 3, 1) := by decide +kernel
theorem dX7_isOnFrontier_65 : decode cX7_isOnFrontier 65 = .ok (.invokevirtual 97, 3) := by decide +kernel
theorem dX7_isOnFrontier_68 : decode cX7_isOnFrontier 68 = .ok (.ifCond .eq 5, 3) := by decide +kernel
theorem dX7_isOnFrontier_71 : decode cX7_isOnFrontier 71 = .ok (.iconst 0, 1) := by decide +kernel
theorem dX7_isOnFrontier_72 : decode cX7_isOnFrontier 72 = .ok (.ireturn, 1) := by decide +kernel
theorem dX7_isOnFrontier_73 : decode cX7_isOnFrontier 73 = .ok (.iinc 4 1, 3) := by decide +kernel
theorem dX7_isOnFrontier_76 : decode cX7_isOnFrontier 76 = .ok (.goto (-55), 3) := by decide +kernel
theorem dX7_isOnFrontier_79 : decode cX7_isOnFrontier 79 = .ok (.iconst 1, 1) := by decide +kernel
theorem dX7_isOnFrontier_80 : decode cX7_isOnFrontier 80 = .ok (.ireturn, 1) := by decide +kernel
theorem dX7_leastDeliverable_0 : decode cX7_leastDeliverable 0 = .ok (.aload_n 0, 1) := by decide +kernel
theorem dX7_leastDeliverable_1 : decode cX7_leastDeliverable 1 = .ok (.getfield 27, 3) := by decide +kernel
theorem dX7_leastDeliverable_4 : decode cX7_leastDeliverable 4 = .ok (.getfield 155, 3) := by decide +kernel
theorem dX7_leastDeliverable_7 : decode cX7_leastDeliverable 7 = .ok (.astore_n 3, 1) := by decide +kernel
theorem dX7_leastDeliverable_8 : decode cX7_leastDeliverable 8 = .ok (.aload_n 0, 1) := by decide +kernel
theorem dX7_leastDeliverable_9 : decode cX7_leastDeliverable 9 = .ok (.getfield 27, 3) := by decide +kernel
theorem dX7_leastDeliverable_12 : decode cX7_leastDeliverable 12 = .ok (.getfield 189, 3) := by decide +kernel
theorem dX7_leastDeliverable_15 : decode cX7_leastDeliverable 15 = .ok (.iload_n 1, 1) := by decide +kernel
theorem dX7_leastDeliverable_16 : decode cX7_leastDeliverable 16 = .ok (.aaload, 1) := by decide +kernel
theorem dX7_leastDeliverable_17 : decode cX7_leastDeliverable 17 = .ok (.astore 4, 2) := by decide +kernel
theorem dX7_leastDeliverable_19 : decode cX7_leastDeliverable 19 = .ok (.iconst (-1), 1) := by decide +kernel
theorem dX7_leastDeliverable_20 : decode cX7_leastDeliverable 20 = .ok (.istore 5, 2) := by decide +kernel
theorem dX7_leastDeliverable_22 : decode cX7_leastDeliverable 22 = .ok (.iconst 0, 1) := by decide +kernel
theorem dX7_leastDeliverable_23 : decode cX7_leastDeliverable 23 = .ok (.istore 6, 2) := by decide +kernel
theorem dX7_leastDeliverable_25 : decode cX7_leastDeliverable 25 = .ok (.iload 6, 2) := by decide +kernel
theorem dX7_leastDeliverable_27 : decode cX7_leastDeliverable 27 = .ok (.aload_n 3, 1) := by decide +kernel
theorem dX7_leastDeliverable_28 : decode cX7_leastDeliverable 28 = .ok (.iload_n 1, 1) := by decide +kernel
theorem dX7_leastDeliverable_29 : decode cX7_leastDeliverable 29 = .ok (.invokevirtual 273, 3) := by decide +kernel
theorem dX7_leastDeliverable_32 : decode cX7_leastDeliverable 32 = .ok (.if_icmp .ge 79, 3) := by decide +kernel
theorem dX7_leastDeliverable_35 : decode cX7_leastDeliverable 35 = .ok (.aload_n 3, 1) := by decide +kernel
theorem dX7_leastDeliverable_36 : decode cX7_leastDeliverable 36 = .ok (.iload_n 1, 1) := by decide +kernel
theorem dX7_leastDeliverable_37 : decode cX7_leastDeliverable 37 = .ok (.iload 6, 2) := by decide +kernel
theorem dX7_leastDeliverable_39 : decode cX7_leastDeliverable 39 = .ok (.invokevirtual 275, 3) := by decide +kernel
theorem dX7_leastDeliverable_42 : decode cX7_leastDeliverable 42 = .ok (.istore 7, 2) := by decide +kernel
theorem dX7_leastDeliverable_44 : decode cX7_leastDeliverable 44 = .ok (.iload 7, 2) := by decide +kernel
theorem dX7_leastDeliverable_46 : decode cX7_leastDeliverable 46 = .ok (.sipush 1000, 3) := by decide +kernel
theorem dX7_leastDeliverable_49 : decode cX7_leastDeliverable 49 = .ok (.irem, 1) := by decide +kernel
theorem dX7_leastDeliverable_50 : decode cX7_leastDeliverable 50 = .ok (.istore 8, 2) := by decide +kernel
theorem dX7_leastDeliverable_52 : decode cX7_leastDeliverable 52 = .ok (.iload 7, 2) := by decide +kernel
theorem dX7_leastDeliverable_54 : decode cX7_leastDeliverable 54 = .ok (.sipush 1000, 3) := by decide +kernel
theorem dX7_leastDeliverable_57 : decode cX7_leastDeliverable 57 = .ok (.idiv, 1) := by decide +kernel
theorem dX7_leastDeliverable_58 : decode cX7_leastDeliverable 58 = .ok (.iload_n 2, 1) := by decide +kernel
theorem dX7_leastDeliverable_59 : decode cX7_leastDeliverable 59 = .ok (.if_icmp .ne 46, 3) := by decide +kernel
theorem dX7_leastDeliverable_62 : decode cX7_leastDeliverable 62 = .ok (.iload 5, 2) := by decide +kernel
theorem dX7_leastDeliverable_64 : decode cX7_leastDeliverable 64 = .ok (.iconst (-1), 1) := by decide +kernel
theorem dX7_leastDeliverable_65 : decode cX7_leastDeliverable 65 = .ok (.if_icmp .eq 10, 3) := by decide +kernel
theorem dX7_leastDeliverable_68 : decode cX7_leastDeliverable 68 = .ok (.iload 8, 2) := by decide +kernel
theorem dX7_leastDeliverable_70 : decode cX7_leastDeliverable 70 = .ok (.iload 5, 2) := by decide +kernel
theorem dX7_leastDeliverable_72 : decode cX7_leastDeliverable 72 = .ok (.if_icmp .ge 33, 3) := by decide +kernel
theorem dX7_leastDeliverable_75 : decode cX7_leastDeliverable 75 = .ok (.aload 4, 2) := by decide +kernel
theorem dX7_leastDeliverable_77 : decode cX7_leastDeliverable 77 = .ok (.iload 7, 2) := by decide +kernel
theorem dX7_leastDeliverable_79 : decode cX7_leastDeliverable 79 = .ok (.invokevirtual 278, 3) := by decide +kernel
theorem dX7_leastDeliverable_82 : decode cX7_leastDeliverable 82 = .ok (.istore 9, 2) := by decide +kernel
theorem dX7_leastDeliverable_84 : decode cX7_leastDeliverable 84 = .ok (.iload 9, 2) := by decide +kernel
theorem dX7_leastDeliverable_86 : decode cX7_leastDeliverable 86 = .ok (.iconst (-1), 1) := by decide +kernel
theorem dX7_leastDeliverable_87 : decode cX7_leastDeliverable 87 = .ok (.if_icmp .eq 18, 3) := by decide +kernel
theorem dX7_leastDeliverable_90 : decode cX7_leastDeliverable 90 = .ok (.aload_n 0, 1) := by decide +kernel
theorem dX7_leastDeliverable_91 : decode cX7_leastDeliverable 91 = .ok (.aload 4, 2) := by decide +kernel
theorem dX7_leastDeliverable_93 : decode cX7_leastDeliverable 93 = .ok (.iload 9, 2) := by decide +kernel
theorem dX7_leastDeliverable_95 : decode cX7_leastDeliverable 95 = .ok (.invokevirtual 218, 3) := by decide +kernel
theorem dX7_leastDeliverable_98 : decode cX7_leastDeliverable 98 = .ok (.ifCond .eq 7, 3) := by decide +kernel
theorem dX7_leastDeliverable_101 : decode cX7_leastDeliverable 101 = .ok (.iload 8, 2) := by decide +kernel
theorem dX7_leastDeliverable_103 : decode cX7_leastDeliverable 103 = .ok (.istore 5, 2) := by decide +kernel
theorem dX7_leastDeliverable_105 : decode cX7_leastDeliverable 105 = .ok (.iinc 6 1, 3) := by decide +kernel
theorem dX7_leastDeliverable_108 : decode cX7_leastDeliverable 108 = .ok (.goto (-83), 3) := by decide +kernel
theorem dX7_leastDeliverable_111 : decode cX7_leastDeliverable 111 = .ok (.iload 5, 2) := by decide +kernel
theorem dX7_leastDeliverable_113 : decode cX7_leastDeliverable 113 = .ok (.ireturn, 1) := by decide +kernel
theorem dX7_fail_0 : decode cX7_fail 0 = .ok (.aload_n 0, 1) := by decide +kernel
theorem dX7_fail_1 : decode cX7_fail 1 = .ok (.getfield 9, 3) := by decide +kernel
theorem dX7_fail_4 : decode cX7_fail 4 = .ok (.bipush (-2), 2) := by decide +kernel
theorem dX7_fail_6 : decode cX7_fail 6 = .ok (.iload_n 1, 1) := by decide +kernel
theorem dX7_fail_7 : decode cX7_fail 7 = .ok (.isub, 1) := by decide +kernel
theorem dX7_fail_8 : decode cX7_fail 8 = .ok (.dup2, 1) := by decide +kernel
theorem dX7_fail_9 : decode cX7_fail 9 = .ok (.iaload, 1) := by decide +kernel
theorem dX7_fail_10 : decode cX7_fail 10 = .ok (.iconst 1, 1) := by decide +kernel
theorem dX7_fail_11 : decode cX7_fail 11 = .ok (.iadd, 1) := by decide +kernel
theorem dX7_fail_12 : decode cX7_fail 12 = .ok (.iastore, 1) := by decide +kernel
theorem dX7_fail_13 : decode cX7_fail 13 = .ok (.iload_n 1, 1) := by decide +kernel
theorem dX7_fail_14 : decode cX7_fail 14 = .ok (.ireturn, 1) := by decide +kernel
theorem dX7_beginEvent_0 : decode cX7_beginEvent 0 = .ok (.aload_n 0, 1) := by decide +kernel
theorem dX7_beginEvent_1 : decode cX7_beginEvent 1 = .ok (.invokevirtual 53, 3) := by decide +kernel
theorem dX7_beginEvent_4 : decode cX7_beginEvent 4 = .ok (.aload_n 0, 1) := by decide +kernel
theorem dX7_beginEvent_5 : decode cX7_beginEvent 5 = .ok (.getfield 27, 3) := by decide +kernel
theorem dX7_beginEvent_8 : decode cX7_beginEvent 8 = .ok (.iconst 1, 1) := by decide +kernel
theorem dX7_beginEvent_9 : decode cX7_beginEvent 9 = .ok (.putfield 39, 3) := by decide +kernel
theorem dX7_beginEvent_12 : decode cX7_beginEvent 12 = .ok (.return_, 1) := by decide +kernel
theorem dX7_save_0 : decode cX7_save 0 = .ok (.aload_n 0, 1) := by decide +kernel
theorem dX7_save_1 : decode cX7_save 1 = .ok (.getfield 232, 3) := by decide +kernel
theorem dX7_save_4 : decode cX7_save 4 = .ok (.iconst 3, 1) := by decide +kernel
theorem dX7_save_5 : decode cX7_save 5 = .ok (.if_icmp .ne 7, 3) := by decide +kernel
theorem dX7_save_8 : decode cX7_save 8 = .ok (.aload_n 0, 1) := by decide +kernel
theorem dX7_save_9 : decode cX7_save 9 = .ok (.invokevirtual 281, 3) := by decide +kernel
theorem dX7_save_12 : decode cX7_save 12 = .ok (.aload_n 0, 1) := by decide +kernel
theorem dX7_save_13 : decode cX7_save 13 = .ok (.getfield 15, 3) := by decide +kernel
theorem dX7_save_16 : decode cX7_save 16 = .ok (.aload_n 0, 1) := by decide +kernel
theorem dX7_save_17 : decode cX7_save 17 = .ok (.getfield 232, 3) := by decide +kernel
theorem dX7_save_20 : decode cX7_save 20 = .ok (.aaload, 1) := by decide +kernel
theorem dX7_save_21 : decode cX7_save 21 = .ok (.aload_n 0, 1) := by decide +kernel
theorem dX7_save_22 : decode cX7_save 22 = .ok (.getfield 27, 3) := by decide +kernel
theorem dX7_save_25 : decode cX7_save 25 = .ok (.invokevirtual 284, 3) := by decide +kernel
theorem dX7_save_28 : decode cX7_save 28 = .ok (.aload_n 0, 1) := by decide +kernel
theorem dX7_save_29 : decode cX7_save 29 = .ok (.dup, 1) := by decide +kernel
theorem dX7_save_30 : decode cX7_save 30 = .ok (.getfield 232, 3) := by decide +kernel
theorem dX7_save_33 : decode cX7_save 33 = .ok (.iconst 1, 1) := by decide +kernel
theorem dX7_save_34 : decode cX7_save 34 = .ok (.iadd, 1) := by decide +kernel
theorem dX7_save_35 : decode cX7_save 35 = .ok (.putfield 232, 3) := by decide +kernel
theorem dX7_save_38 : decode cX7_save 38 = .ok (.return_, 1) := by decide +kernel
theorem dX7_dropOldest_0 : decode cX7_dropOldest 0 = .ok (.aload_n 0, 1) := by decide +kernel
theorem dX7_dropOldest_1 : decode cX7_dropOldest 1 = .ok (.getfield 15, 3) := by decide +kernel
theorem dX7_dropOldest_4 : decode cX7_dropOldest 4 = .ok (.iconst 0, 1) := by decide +kernel
theorem dX7_dropOldest_5 : decode cX7_dropOldest 5 = .ok (.aaload, 1) := by decide +kernel
theorem dX7_dropOldest_6 : decode cX7_dropOldest 6 = .ok (.astore_n 1, 1) := by decide +kernel
theorem dX7_dropOldest_7 : decode cX7_dropOldest 7 = .ok (.iconst 1, 1) := by decide +kernel
theorem dX7_dropOldest_8 : decode cX7_dropOldest 8 = .ok (.istore_n 2, 1) := by decide +kernel
theorem dX7_dropOldest_9 : decode cX7_dropOldest 9 = .ok (.iload_n 2, 1) := by decide +kernel
theorem dX7_dropOldest_10 : decode cX7_dropOldest 10 = .ok (.iconst 3, 1) := by decide +kernel
theorem dX7_dropOldest_11 : decode cX7_dropOldest 11 = .ok (.if_icmp .ge 23, 3) := by decide +kernel
theorem dX7_dropOldest_14 : decode cX7_dropOldest 14 = .ok (.aload_n 0, 1) := by decide +kernel
theorem dX7_dropOldest_15 : decode cX7_dropOldest 15 = .ok (.getfield 15, 3) := by decide +kernel
theorem dX7_dropOldest_18 : decode cX7_dropOldest 18 = .ok (.iload_n 2, 1) := by decide +kernel
theorem dX7_dropOldest_19 : decode cX7_dropOldest 19 = .ok (.iconst 1, 1) := by decide +kernel
theorem dX7_dropOldest_20 : decode cX7_dropOldest 20 = .ok (.isub, 1) := by decide +kernel
theorem dX7_dropOldest_21 : decode cX7_dropOldest 21 = .ok (.aload_n 0, 1) := by decide +kernel
theorem dX7_dropOldest_22 : decode cX7_dropOldest 22 = .ok (.getfield 15, 3) := by decide +kernel
theorem dX7_dropOldest_25 : decode cX7_dropOldest 25 = .ok (.iload_n 2, 1) := by decide +kernel
theorem dX7_dropOldest_26 : decode cX7_dropOldest 26 = .ok (.aaload, 1) := by decide +kernel
theorem dX7_dropOldest_27 : decode cX7_dropOldest 27 = .ok (.aastore, 1) := by decide +kernel
theorem dX7_dropOldest_28 : decode cX7_dropOldest 28 = .ok (.iinc 2 1, 3) := by decide +kernel
theorem dX7_dropOldest_31 : decode cX7_dropOldest 31 = .ok (.goto (-22), 3) := by decide +kernel
theorem dX7_dropOldest_34 : decode cX7_dropOldest 34 = .ok (.aload_n 0, 1) := by decide +kernel
theorem dX7_dropOldest_35 : decode cX7_dropOldest 35 = .ok (.getfield 15, 3) := by decide +kernel
theorem dX7_dropOldest_38 : decode cX7_dropOldest 38 = .ok (.iconst 2, 1) := by decide +kernel
theorem dX7_dropOldest_39 : decode cX7_dropOldest 39 = .ok (.aload_n 1, 1) := by decide +kernel
theorem dX7_dropOldest_40 : decode cX7_dropOldest 40 = .ok (.aastore, 1) := by decide +kernel
theorem dX7_dropOldest_41 : decode cX7_dropOldest 41 = .ok (.aload_n 0, 1) := by decide +kernel
theorem dX7_dropOldest_42 : decode cX7_dropOldest 42 = .ok (.dup, 1) := by decide +kernel
theorem dX7_dropOldest_43 : decode cX7_dropOldest 43 = .ok (.getfield 232, 3) := by decide +kernel
theorem dX7_dropOldest_46 : decode cX7_dropOldest 46 = .ok (.iconst 1, 1) := by decide +kernel
theorem dX7_dropOldest_47 : decode cX7_dropOldest 47 = .ok (.isub, 1) := by decide +kernel
theorem dX7_dropOldest_48 : decode cX7_dropOldest 48 = .ok (.putfield 232, 3) := by decide +kernel
theorem dX7_dropOldest_51 : decode cX7_dropOldest 51 = .ok (.return_, 1) := by decide +kernel
theorem dX7_isWorker_0 : decode cX7_isWorker 0 = .ok (.iload_n 0, 1) := by decide +kernel
theorem dX7_isWorker_1 : decode cX7_isWorker 1 = .ok (.ifCond .lt 12, 3) := by decide +kernel
theorem dX7_isWorker_4 : decode cX7_isWorker 4 = .ok (.iload_n 0, 1) := by decide +kernel
theorem dX7_isWorker_5 : decode cX7_isWorker 5 = .ok (.iconst 2, 1) := by decide +kernel
theorem dX7_isWorker_6 : decode cX7_isWorker 6 = .ok (.if_icmp .ge 7, 3) := by decide +kernel
theorem dX7_isWorker_9 : decode cX7_isWorker 9 = .ok (.iconst 1, 1) := by decide +kernel
theorem dX7_isWorker_10 : decode cX7_isWorker 10 = .ok (.goto 4, 3) := by decide +kernel
theorem dX7_isWorker_13 : decode cX7_isWorker 13 = .ok (.iconst 0, 1) := by decide +kernel
theorem dX7_isWorker_14 : decode cX7_isWorker 14 = .ok (.ireturn, 1) := by decide +kernel
theorem dX7_isFlag_0 : decode cX7_isFlag 0 = .ok (.iload_n 0, 1) := by decide +kernel
theorem dX7_isFlag_1 : decode cX7_isFlag 1 = .ok (.ifCond .eq 8, 3) := by decide +kernel
theorem dX7_isFlag_4 : decode cX7_isFlag 4 = .ok (.iload_n 0, 1) := by decide +kernel
theorem dX7_isFlag_5 : decode cX7_isFlag 5 = .ok (.iconst 1, 1) := by decide +kernel
theorem dX7_isFlag_6 : decode cX7_isFlag 6 = .ok (.if_icmp .ne 7, 3) := by decide +kernel
theorem dX7_isFlag_9 : decode cX7_isFlag 9 = .ok (.iconst 1, 1) := by decide +kernel
theorem dX7_isFlag_10 : decode cX7_isFlag 10 = .ok (.goto 4, 3) := by decide +kernel
theorem dX7_isFlag_13 : decode cX7_isFlag 13 = .ok (.iconst 0, 1) := by decide +kernel
theorem dX7_isFlag_14 : decode cX7_isFlag 14 = .ok (.ireturn, 1) := by decide +kernel
theorem dX7_stampOf_0 : decode cX7_stampOf 0 = .ok (.sipush 1000, 3) := by decide +kernel
theorem dX7_stampOf_3 : decode cX7_stampOf 3 = .ok (.iload_n 0, 1) := by decide +kernel
theorem dX7_stampOf_4 : decode cX7_stampOf 4 = .ok (.imul, 1) := by decide +kernel
theorem dX7_stampOf_5 : decode cX7_stampOf 5 = .ok (.iload_n 1, 1) := by decide +kernel
theorem dX7_stampOf_6 : decode cX7_stampOf 6 = .ok (.iadd, 1) := by decide +kernel
theorem dX7_stampOf_7 : decode cX7_stampOf 7 = .ok (.ireturn, 1) := by decide +kernel
theorem dX7_countersOf_0 : decode cX7_countersOf 0 = .ok (.iload_n 0, 1) := by decide +kernel
theorem dX7_countersOf_1 : decode cX7_countersOf 1 = .ok (.bipush 100, 2) := by decide +kernel
theorem dX7_countersOf_3 : decode cX7_countersOf 3 = .ok (.irem, 1) := by decide +kernel
theorem dX7_countersOf_4 : decode cX7_countersOf 4 = .ok (.ireturn, 1) := by decide +kernel
theorem dX8_init_0 : decode cX8_init 0 = .ok (.aload_n 0, 1) := by decide +kernel
theorem dX8_init_1 : decode cX8_init 1 = .ok (.invokespecial 1, 3) := by decide +kernel
theorem dX8_init_4 : decode cX8_init 4 = .ok (.aload_n 0, 1) := by decide +kernel
theorem dX8_init_5 : decode cX8_init 5 = .ok (.ldc 7, 2) := by decide +kernel
theorem dX8_init_7 : decode cX8_init 7 = .ok (.newarray .int, 2) := by decide +kernel
theorem dX8_init_9 : decode cX8_init 9 = .ok (.putfield 8, 3) := by decide +kernel
theorem dX8_init_12 : decode cX8_init 12 = .ok (.aload_n 0, 1) := by decide +kernel
theorem dX8_init_13 : decode cX8_init 13 = .ok (.ldc 14, 2) := by decide +kernel
theorem dX8_init_15 : decode cX8_init 15 = .ok (.newarray .int, 2) := by decide +kernel
theorem dX8_init_17 : decode cX8_init 17 = .ok (.putfield 15, 3) := by decide +kernel
theorem dX8_init_20 : decode cX8_init 20 = .ok (.aload_n 0, 1) := by decide +kernel
theorem dX8_init_21 : decode cX8_init 21 = .ok (.iconst 4, 1) := by decide +kernel
theorem dX8_init_22 : decode cX8_init 22 = .ok (.newarray .int, 2) := by decide +kernel
theorem dX8_init_24 : decode cX8_init 24 = .ok (.putfield 18, 3) := by decide +kernel
theorem dX8_init_27 : decode cX8_init 27 = .ok (.aload_n 0, 1) := by decide +kernel
theorem dX8_init_28 : decode cX8_init 28 = .ok (.bipush 6, 2) := by decide +kernel
theorem dX8_init_30 : decode cX8_init 30 = .ok (.newarray .int, 2) := by decide +kernel
theorem dX8_init_32 : decode cX8_init 32 = .ok (.putfield 21, 3) := by decide +kernel
theorem dX8_init_35 : decode cX8_init 35 = .ok (.aload_n 0, 1) := by decide +kernel
theorem dX8_init_36 : decode cX8_init 36 = .ok (.bipush 6, 2) := by decide +kernel
theorem dX8_init_38 : decode cX8_init 38 = .ok (.newarray .int, 2) := by decide +kernel
theorem dX8_init_40 : decode cX8_init 40 = .ok (.putfield 24, 3) := by decide +kernel
theorem dX8_init_43 : decode cX8_init 43 = .ok (.aload_n 0, 1) := by decide +kernel
theorem dX8_init_44 : decode cX8_init 44 = .ok (.sipush 1600, 3) := by decide +kernel
theorem dX8_init_47 : decode cX8_init 47 = .ok (.newarray .boolean, 2) := by decide +kernel
theorem dX8_init_49 : decode cX8_init 49 = .ok (.putfield 27, 3) := by decide +kernel
theorem dX8_init_52 : decode cX8_init 52 = .ok (.aload_n 0, 1) := by decide +kernel
theorem dX8_init_53 : decode cX8_init 53 = .ok (.sipush 1600, 3) := by decide +kernel
theorem dX8_init_56 : decode cX8_init 56 = .ok (.newarray .int, 2) := by decide +kernel
theorem dX8_init_58 : decode cX8_init 58 = .ok (.putfield 31, 3) := by decide +kernel
theorem dX8_init_61 : decode cX8_init 61 = .ok (.aload_n 0, 1) := by decide +kernel
theorem dX8_init_62 : decode cX8_init 62 = .ok (.bipush 16, 2) := by decide +kernel
theorem dX8_init_64 : decode cX8_init 64 = .ok (.newarray .int, 2) := by decide +kernel
theorem dX8_init_66 : decode cX8_init 66 = .ok (.putfield 34, 3) := by decide +kernel
theorem dX8_init_69 : decode cX8_init 69 = .ok (.aload_n 0, 1) := by decide +kernel
theorem dX8_init_70 : decode cX8_init 70 = .ok (.sipush 16000, 3) := by decide +kernel
theorem dX8_init_73 : decode cX8_init 73 = .ok (.newarray .int, 2) := by decide +kernel
theorem dX8_init_75 : decode cX8_init 75 = .ok (.putfield 37, 3) := by decide +kernel
theorem dX8_init_78 : decode cX8_init 78 = .ok (.aload_n 0, 1) := by decide +kernel
theorem dX8_init_79 : decode cX8_init 79 = .ok (.sipush 16000, 3) := by decide +kernel
theorem dX8_init_82 : decode cX8_init 82 = .ok (.newarray .boolean, 2) := by decide +kernel
theorem dX8_init_84 : decode cX8_init 84 = .ok (.putfield 40, 3) := by decide +kernel
theorem dX8_init_87 : decode cX8_init 87 = .ok (.return_, 1) := by decide +kernel
theorem dX8_within_0 : decode cX8_within 0 = .ok (.iload_n 0, 1) := by decide +kernel
theorem dX8_within_1 : decode cX8_within 1 = .ok (.iload_n 1, 1) := by decide +kernel
theorem dX8_within_2 : decode cX8_within 2 = .ok (.if_icmp .lt 12, 3) := by decide +kernel
theorem dX8_within_5 : decode cX8_within 5 = .ok (.iload_n 0, 1) := by decide +kernel
theorem dX8_within_6 : decode cX8_within 6 = .ok (.iload_n 2, 1) := by decide +kernel
theorem dX8_within_7 : decode cX8_within 7 = .ok (.if_icmp .gt 7, 3) := by decide +kernel
theorem dX8_within_10 : decode cX8_within 10 = .ok (.iconst 1, 1) := by decide +kernel
theorem dX8_within_11 : decode cX8_within 11 = .ok (.goto 4, 3) := by decide +kernel
theorem dX8_within_14 : decode cX8_within 14 = .ok (.iconst 0, 1) := by decide +kernel
theorem dX8_within_15 : decode cX8_within 15 = .ok (.ireturn, 1) := by decide +kernel
theorem dX8_fails_0 : decode cX8_fails 0 = .ok (.aload_n 0, 1) := by decide +kernel
theorem dX8_fails_1 : decode cX8_fails 1 = .ok (.getfield 18, 3) := by decide +kernel
theorem dX8_fails_4 : decode cX8_fails 4 = .ok (.bipush (-2), 2) := by decide +kernel
theorem dX8_fails_6 : decode cX8_fails 6 = .ok (.iload_n 1, 1) := by decide +kernel
theorem dX8_fails_7 : decode cX8_fails 7 = .ok (.isub, 1) := by decide +kernel
theorem dX8_fails_8 : decode cX8_fails 8 = .ok (.dup2, 1) := by decide +kernel
theorem dX8_fails_9 : decode cX8_fails 9 = .ok (.iaload, 1) := by decide +kernel
theorem dX8_fails_10 : decode cX8_fails 10 = .ok (.iconst 1, 1) := by decide +kernel
theorem dX8_fails_11 : decode cX8_fails 11 = .ok (.iadd, 1) := by decide +kernel
theorem dX8_fails_12 : decode cX8_fails 12 = .ok (.iastore, 1) := by decide +kernel
theorem dX8_fails_13 : decode cX8_fails 13 = .ok (.iload_n 1, 1) := by decide +kernel
theorem dX8_fails_14 : decode cX8_fails 14 = .ok (.ireturn, 1) := by decide +kernel
theorem dX8_isNode_0 : decode cX8_isNode 0 = .ok (.iload_n 1, 1) := by decide +kernel
theorem dX8_isNode_1 : decode cX8_isNode 1 = .ok (.iconst 0, 1) := by decide +kernel
theorem dX8_isNode_2 : decode cX8_isNode 2 = .ok (.aload_n 0, 1) := by decide +kernel
theorem dX8_isNode_3 : decode cX8_isNode 3 = .ok (.getfield 8, 3) := by decide +kernel
theorem dX8_isNode_6 : decode cX8_isNode 6 = .ok (.iconst 0, 1) := by decide +kernel
theorem dX8_isNode_7 : decode cX8_isNode 7 = .ok (.iaload, 1) := by decide +kernel
theorem dX8_isNode_8 : decode cX8_isNode 8 = .ok (.iconst 1, 1) := by decide +kernel
theorem dX8_isNode_9 : decode cX8_isNode 9 = .ok (.isub, 1) := by decide +kernel
theorem dX8_isNode_10 : decode cX8_isNode 10 = .ok (.invokestatic 43, 3) := by decide +kernel
theorem dX8_isNode_13 : decode cX8_isNode 13 = .ok (.ireturn, 1) := by decide +kernel
theorem dX8_isEdge_0 : decode cX8_isEdge 0 = .ok (.iload_n 1, 1) := by decide +kernel
theorem dX8_isEdge_1 : decode cX8_isEdge 1 = .ok (.iconst 0, 1) := by decide +kernel
theorem dX8_isEdge_2 : decode cX8_isEdge 2 = .ok (.aload_n 0, 1) := by decide +kernel
theorem dX8_isEdge_3 : decode cX8_isEdge 3 = .ok (.getfield 8, 3) := by decide +kernel
theorem dX8_isEdge_6 : decode cX8_isEdge 6 = .ok (.iconst 1, 1) := by decide +kernel
theorem dX8_isEdge_7 : decode cX8_isEdge 7 = .ok (.iaload, 1) := by decide +kernel
theorem dX8_isEdge_8 : decode cX8_isEdge 8 = .ok (.iconst 1, 1) := by decide +kernel
theorem dX8_isEdge_9 : decode cX8_isEdge 9 = .ok (.isub, 1) := by decide +kernel
theorem dX8_isEdge_10 : decode cX8_isEdge 10 = .ok (.invokestatic 43, 3) := by decide +kernel
theorem dX8_isEdge_13 : decode cX8_isEdge 13 = .ok (.ireturn, 1) := by decide +kernel
theorem dX8_isWorker_0 : decode cX8_isWorker 0 = .ok (.iload_n 0, 1) := by decide +kernel
theorem dX8_isWorker_1 : decode cX8_isWorker 1 = .ok (.iconst 0, 1) := by decide +kernel
theorem dX8_isWorker_2 : decode cX8_isWorker 2 = .ok (.iconst 1, 1) := by decide +kernel
theorem dX8_isWorker_3 : decode cX8_isWorker 3 = .ok (.invokestatic 43, 3) := by decide +kernel
theorem dX8_isWorker_6 : decode cX8_isWorker 6 = .ok (.ireturn, 1) := by decide +kernel
theorem dX8_saves_0 : decode cX8_saves 0 = .ok (.aload_n 0, 1) := by decide +kernel
theorem dX8_saves_1 : decode cX8_saves 1 = .ok (.getfield 47, 3) := by decide +kernel
theorem dX8_saves_4 : decode cX8_saves 4 = .ok (.iconst 3, 1) := by decide +kernel
theorem dX8_saves_5 : decode cX8_saves 5 = .ok (.if_icmp .ne 42, 3) := by decide +kernel
theorem dX8_saves_8 : decode cX8_saves 8 = .ok (.iconst 0, 1) := by decide +kernel
theorem dX8_saves_9 : decode cX8_saves 9 = .ok (.istore_n 1, 1) := by decide +kernel
theorem dX8_saves_10 : decode cX8_saves 10 = .ok (.iload_n 1, 1) := by decide +kernel
theorem dX8_saves_11 : decode cX8_saves 11 = .ok (.ldc 51, 2) := by decide +kernel
theorem dX8_saves_13 : decode cX8_saves 13 = .ok (.if_icmp .ge 24, 3) := by decide +kernel
theorem dX8_saves_16 : decode cX8_saves 16 = .ok (.aload_n 0, 1) := by decide +kernel
theorem dX8_saves_17 : decode cX8_saves 17 = .ok (.getfield 15, 3) := by decide +kernel
theorem dX8_saves_20 : decode cX8_saves 20 = .ok (.iload_n 1, 1) := by decide +kernel
theorem dX8_saves_21 : decode cX8_saves 21 = .ok (.aload_n 0, 1) := by decide +kernel
theorem dX8_saves_22 : decode cX8_saves 22 = .ok (.getfield 15, 3) := by decide +kernel
theorem dX8_saves_25 : decode cX8_saves 25 = .ok (.iload_n 1, 1) := by decide +kernel
theorem dX8_saves_26 : decode cX8_saves 26 = .ok (.ldc 7, 2) := by decide +kernel
theorem dX8_saves_28 : decode cX8_saves 28 = .ok (.iadd, 1) := by decide +kernel
theorem dX8_saves_29 : decode cX8_saves 29 = .ok (.iaload, 1) := by decide +kernel
theorem dX8_saves_30 : decode cX8_saves 30 = .ok (.iastore, 1) := by decide +kernel
theorem dX8_saves_31 : decode cX8_saves 31 = .ok (.iinc 1 1, 3) := by decide +kernel
theorem dX8_saves_34 : decode cX8_saves 34 = .ok (.goto (-24), 3) := by decide +kernel
theorem dX8_saves_37 : decode cX8_saves 37 = .ok (.aload_n 0, 1) := by decide +kernel
theorem dX8_saves_38 : decode cX8_saves 38 = .ok (.dup, 1) := by decide +kernel
theorem dX8_saves_39 : decode cX8_saves 39 = .ok (.getfield 47, 3) := by decide +kernel
theorem dX8_saves_42 : decode cX8_saves 42 = .ok (.iconst 1, 1) := by decide +kernel
theorem dX8_saves_43 : decode cX8_saves 43 = .ok (.isub, 1) := by decide +kernel
theorem dX8_saves_44 : decode cX8_saves 44 = .ok (.putfield 47, 3) := by decide +kernel
theorem dX8_saves_47 : decode cX8_saves 47 = .ok (.iconst 0, 1) := by decide +kernel
theorem dX8_saves_48 : decode cX8_saves 48 = .ok (.istore_n 1, 1) := by decide +kernel
theorem dX8_saves_49 : decode cX8_saves 49 = .ok (.iload_n 1, 1) := by decide +kernel
theorem dX8_saves_50 : decode cX8_saves 50 = .ok (.ldc 7, 2) := by decide +kernel
theorem dX8_saves_52 : decode cX8_saves 52 = .ok (.if_icmp .ge 29, 3) := by decide +kernel
theorem dX8_saves_55 : decode cX8_saves 55 = .ok (.aload_n 0, 1) := by decide +kernel
theorem dX8_saves_56 : decode cX8_saves 56 = .ok (.getfield 15, 3) := by decide +kernel
theorem dX8_saves_59 : decode cX8_saves 59 = .ok (.ldc 7, 2) := by decide +kernel
theorem dX8_saves_61 : decode cX8_saves 61 = .ok (.aload_n 0, 1) := by decide +kernel
theorem dX8_saves_62 : decode cX8_saves 62 = .ok (.getfield 47, 3) := by decide +kernel
theorem dX8_saves_65 : decode cX8_saves 65 = .ok (.imul, 1) := by decide +kernel
theorem dX8_saves_66 : decode cX8_saves 66 = .ok (.iload_n 1, 1) := by decide +kernel
theorem dX8_saves_67 : decode cX8_saves 67 = .ok (.iadd, 1) := by decide +kernel
theorem dX8_saves_68 : decode cX8_saves 68 = .ok (.aload_n 0, 1) := by decide +kernel
theorem dX8_saves_69 : decode cX8_saves 69 = .ok (.getfield 8, 3) := by decide +kernel
theorem dX8_saves_72 : decode cX8_saves 72 = .ok (.iload_n 1, 1) := by decide +kernel
theorem dX8_saves_73 : decode cX8_saves 73 = .ok (.iaload, 1) := by decide +kernel
theorem dX8_saves_74 : decode cX8_saves 74 = .ok (.iastore, 1) := by decide +kernel
theorem dX8_saves_75 : decode cX8_saves 75 = .ok (.iinc 1 1, 3) := by decide +kernel
theorem dX8_saves_78 : decode cX8_saves 78 = .ok (.goto (-29), 3) := by decide +kernel
theorem dX8_saves_81 : decode cX8_saves 81 = .ok (.aload_n 0, 1) := by decide +kernel
theorem dX8_saves_82 : decode cX8_saves 82 = .ok (.dup, 1) := by decide +kernel
theorem dX8_saves_83 : decode cX8_saves 83 = .ok (.getfield 47, 3) := by decide +kernel
theorem dX8_saves_86 : decode cX8_saves 86 = .ok (.iconst 1, 1) := by decide +kernel
theorem dX8_saves_87 : decode cX8_saves 87 = .ok (.iadd, 1) := by decide +kernel
theorem dX8_saves_88 : decode cX8_saves 88 = .ok (.putfield 47, 3) := by decide +kernel
theorem dX8_saves_91 : decode cX8_saves 91 = .ok (.return_, 1) := by decide +kernel
theorem dX8_undo_0 : decode cX8_undo 0 = .ok (.aload_n 0, 1) := by decide +kernel
theorem dX8_undo_1 : decode cX8_undo 1 = .ok (.getfield 47, 3) := by decide +kernel
theorem dX8_undo_4 : decode cX8_undo 4 = .ok (.ifCond .ne 10, 3) := by decide +kernel
theorem dX8_undo_7 : decode cX8_undo 7 = .ok (.aload_n 0, 1) := by decide +kernel
theorem dX8_undo_8 : decode cX8_undo 8 = .ok (.bipush (-5), 2) := by decide +kernel
theorem dX8_undo_10 : decode cX8_undo 10 = .ok (.invokevirtual 52, 3) := by decide +kernel
theorem dX8_undo_13 : decode cX8_undo 13 = .ok (.ireturn, 1) := by decide +kernel
theorem dX8_undo_14 : decode cX8_undo 14 = .ok (.aload_n 0, 1) := by decide +kernel
theorem dX8_undo_15 : decode cX8_undo 15 = .ok (.dup, 1) := by decide +kernel
theorem dX8_undo_16 : decode cX8_undo 16 = .ok (.getfield 47, 3) := by decide +kernel
theorem dX8_undo_19 : decode cX8_undo 19 = .ok (.iconst 1, 1) := by decide +kernel
theorem dX8_undo_20 : decode cX8_undo 20 = .ok (.isub, 1) := by decide +kernel
theorem dX8_undo_21 : decode cX8_undo 21 = .ok (.putfield 47, 3) := by decide +kernel
theorem dX8_undo_24 : decode cX8_undo 24 = .ok (.iconst 0, 1) := by decide +kernel
theorem dX8_undo_25 : decode cX8_undo 25 = .ok (.istore_n 1, 1) := by decide +kernel
theorem dX8_undo_26 : decode cX8_undo 26 = .ok (.iload_n 1, 1) := by decide +kernel
theorem dX8_undo_27 : decode cX8_undo 27 = .ok (.ldc 7, 2) := by decide +kernel
theorem dX8_undo_29 : decode cX8_undo 29 = .ok (.if_icmp .ge 29, 3) := by decide +kernel
theorem dX8_undo_32 : decode cX8_undo 32 = .ok (.aload_n 0, 1) := by decide +kernel
theorem dX8_undo_33 : decode cX8_undo 33 = .ok (.getfield 8, 3) := by decide +kernel
theorem dX8_undo_36 : decode cX8_undo 36 = .ok (.iload_n 1, 1) := by decide +kernel
theorem dX8_undo_37 : decode cX8_undo 37 = .ok (.aload_n 0, 1) := by decide +kernel
theorem dX8_undo_38 : decode cX8_undo 38 = .ok (.getfield 15, 3) := by decide +kernel
theorem dX8_undo_41 : decode cX8_undo 41 = .ok (.ldc 7, 2) := by decide +kernel
theorem dX8_undo_43 : decode cX8_undo 43 = .ok (.aload_n 0, 1) := by decide +kernel
theorem dX8_undo_44 : decode cX8_undo 44 = .ok (.getfield 47, 3) := by decide +kernel
theorem dX8_undo_47 : decode cX8_undo 47 = .ok (.imul, 1) := by decide +kernel
theorem dX8_undo_48 : decode cX8_undo 48 = .ok (.iload_n 1, 1) := by decide +kernel
theorem dX8_undo_49 : decode cX8_undo 49 = .ok (.iadd, 1) := by decide +kernel
theorem dX8_undo_50 : decode cX8_undo 50 = .ok (.iaload, 1) := by decide +kernel
theorem dX8_undo_51 : decode cX8_undo 51 = .ok (.iastore, 1) := by decide +kernel
theorem dX8_undo_52 : decode cX8_undo 52 = .ok (.iinc 1 1, 3) := by decide +kernel
theorem dX8_undo_55 : decode cX8_undo 55 = .ok (.goto (-29), 3) := by decide +kernel
theorem dX8_undo_58 : decode cX8_undo 58 = .ok (.aload_n 0, 1) := by decide +kernel
theorem dX8_undo_59 : decode cX8_undo 59 = .ok (.getfield 47, 3) := by decide +kernel
theorem dX8_undo_62 : decode cX8_undo 62 = .ok (.ireturn, 1) := by decide +kernel
theorem dX8_viewAt_0 : decode cX8_viewAt 0 = .ok (.sipush 6359, 3) := by decide +kernel
theorem dX8_viewAt_3 : decode cX8_viewAt 3 = .ok (.sipush 1000, 3) := by decide +kernel
theorem dX8_viewAt_6 : decode cX8_viewAt 6 = .ok (.bipush 16, 2) := by decide +kernel
theorem dX8_viewAt_8 : decode cX8_viewAt 8 = .ok (.iload_n 1, 1) := by decide +kernel
theorem dX8_viewAt_9 : decode cX8_viewAt 9 = .ok (.imul, 1) := by decide +kernel
theorem dX8_viewAt_10 : decode cX8_viewAt 10 = .ok (.iload_n 2, 1) := by decide +kernel
theorem dX8_viewAt_11 : decode cX8_viewAt 11 = .ok (.iadd, 1) := by decide +kernel
theorem dX8_viewAt_12 : decode cX8_viewAt 12 = .ok (.imul, 1) := by decide +kernel
theorem dX8_viewAt_13 : decode cX8_viewAt 13 = .ok (.iadd, 1) := by decide +kernel
theorem dX8_viewAt_14 : decode cX8_viewAt 14 = .ok (.iload_n 3, 1) := by decide +kernel
theorem dX8_viewAt_15 : decode cX8_viewAt 15 = .ok (.iadd, 1) := by decide +kernel
theorem dX8_viewAt_16 : decode cX8_viewAt 16 = .ok (.ireturn, 1) := by decide +kernel
theorem dX8_addNode_0 : decode cX8_addNode 0 = .ok (.iload_n 1, 1) := by decide +kernel
theorem dX8_addNode_1 : decode cX8_addNode 1 = .ok (.iconst 0, 1) := by decide +kernel
theorem dX8_addNode_2 : decode cX8_addNode 2 = .ok (.iconst 2, 1) := by decide +kernel
theorem dX8_addNode_3 : decode cX8_addNode 3 = .ok (.invokestatic 43, 3) := by decide +kernel
theorem dX8_addNode_6 : decode cX8_addNode 6 = .ok (.ifCond .eq 21, 3) := by decide +kernel
theorem dX8_addNode_9 : decode cX8_addNode 9 = .ok (.iload_n 2, 1) := by decide +kernel
theorem dX8_addNode_10 : decode cX8_addNode 10 = .ok (.iconst 0, 1) := by decide +kernel
theorem dX8_addNode_11 : decode cX8_addNode 11 = .ok (.iconst 1, 1) := by decide +kernel
theorem dX8_addNode_12 : decode cX8_addNode 12 = .ok (.invokestatic 43, 3) := by decide +kernel
theorem dX8_addNode_15 : decode cX8_addNode 15 = .ok (.ifCond .eq 12, 3) := by decide +kernel
theorem dX8_addNode_18 : decode cX8_addNode 18 = .ok (.iload_n 2, 1) := by decide +kernel
theorem dX8_addNode_19 : decode cX8_addNode 19 = .ok (.iconst 1, 1) := by decide +kernel
theorem dX8_addNode_20 : decode cX8_addNode 20 = .ok (.if_icmp .ne 14, 3) := by decide +kernel
theorem dX8_addNode_23 : decode cX8_addNode 23 = .ok (.iload_n 1, 1) := by decide +kernel
theorem dX8_addNode_24 : decode cX8_addNode 24 = .ok (.ifCond .eq 10, 3) := by decide +kernel
theorem dX8_addNode_27 : decode cX8_addNode 27 = .ok (.aload_n 0, 1) := by decide +kernel
theorem dX8_addNode_28 : decode cX8_addNode 28 = .ok (.bipush (-2), 2) := by decide +kernel
theorem dX8_addNode_30 : decode cX8_addNode 30 = .ok (.invokevirtual 52, 3) := by decide +kernel
theorem dX8_addNode_33 : decode cX8_addNode 33 = .ok (.ireturn, 1) := by decide +kernel
theorem dX8_addNode_34 : decode cX8_addNode 34 = .ok (.aload_n 0, 1) := by decide +kernel
theorem dX8_addNode_35 : decode cX8_addNode 35 = .ok (.getfield 8, 3) := by decide +kernel
theorem dX8_addNode_38 : decode cX8_addNode 38 = .ok (.iconst 2, 1) := by decide +kernel
theorem dX8_addNode_39 : decode cX8_addNode 39 = .ok (.iaload, 1) := by decide +kernel
theorem dX8_addNode_40 : decode cX8_addNode 40 = .ok (.iconst 1, 1) := by decide +kernel
theorem dX8_addNode_41 : decode cX8_addNode 41 = .ok (.if_icmp .ne 10, 3) := by decide +kernel
theorem dX8_addNode_44 : decode cX8_addNode 44 = .ok (.aload_n 0, 1) := by decide +kernel
theorem dX8_addNode_45 : decode cX8_addNode 45 = .ok (.bipush (-3), 2) := by decide +kernel
theorem dX8_addNode_47 : decode cX8_addNode 47 = .ok (.invokevirtual 52, 3) := by decide +kernel
theorem dX8_addNode_50 : decode cX8_addNode 50 = .ok (.ireturn, 1) := by decide +kernel
theorem dX8_addNode_51 : decode cX8_addNode 51 = .ok (.aload_n 0, 1) := by decide +kernel
theorem dX8_addNode_52 : decode cX8_addNode 52 = .ok (.getfield 8, 3) := by decide +kernel
theorem dX8_addNode_55 : decode cX8_addNode 55 = .ok (.iconst 0, 1) := by decide +kernel
theorem dX8_addNode_56 : decode cX8_addNode 56 = .ok (.iaload, 1) := by decide +kernel
theorem dX8_addNode_57 : decode cX8_addNode 57 = .ok (.bipush 6, 2) := by decide +kernel
theorem dX8_addNode_59 : decode cX8_addNode 59 = .ok (.if_icmp .ne 10, 3) := by decide +kernel
theorem dX8_addNode_62 : decode cX8_addNode 62 = .ok (.aload_n 0, 1) := by decide +kernel
theorem dX8_addNode_63 : decode cX8_addNode 63 = .ok (.bipush (-4), 2) := by decide +kernel
theorem dX8_addNode_65 : decode cX8_addNode 65 = .ok (.invokevirtual 52, 3) := by decide +kernel
theorem dX8_addNode_68 : decode cX8_addNode 68 = .ok (.ireturn, 1) := by decide +kernel
theorem dX8_addNode_69 : decode cX8_addNode 69 = .ok (.aload_n 0, 1) := by decide +kernel
theorem dX8_addNode_70 : decode cX8_addNode 70 = .ok (.invokevirtual 56, 3) := by decide +kernel
theorem dX8_addNode_73 : decode cX8_addNode 73 = .ok (.aload_n 0, 1) := by decide +kernel
theorem dX8_addNode_74 : decode cX8_addNode 74 = .ok (.getfield 8, 3) := by decide +kernel
theorem dX8_addNode_77 : decode cX8_addNode 77 = .ok (.iconst 0, 1) := by decide +kernel
theorem dX8_addNode_78 : decode cX8_addNode 78 = .ok (.iaload, 1) := by decide +kernel
theorem dX8_addNode_79 : decode cX8_addNode 79 = .ok (.istore_n 3, 1) := by decide +kernel
theorem dX8_addNode_80 : decode cX8_addNode 80 = .ok (.aload_n 0, 1) := by decide +kernel
theorem dX8_addNode_81 : decode cX8_addNode 81 = .ok (.getfield 8, 3) := by decide +kernel
theorem dX8_addNode_84 : decode cX8_addNode 84 = .ok (.iconst 5, 1) := by decide +kernel
theorem dX8_addNode_85 : decode cX8_addNode 85 = .ok (.iload_n 3, 1) := by decide +kernel
theorem dX8_addNode_86 : decode cX8_addNode 86 = .ok (.iadd, 1) := by decide +kernel
theorem dX8_addNode_87 : decode cX8_addNode 87 = .ok (.iload_n 1, 1) := by decide +kernel
theorem dX8_addNode_88 : decode cX8_addNode 88 = .ok (.iastore, 1) := by decide +kernel
theorem dX8_addNode_89 : decode cX8_addNode 89 = .ok (.aload_n 0, 1) := by decide +kernel
theorem dX8_addNode_90 : decode cX8_addNode 90 = .ok (.getfield 8, 3) := by decide +kernel
theorem dX8_addNode_93 : decode cX8_addNode 93 = .ok (.bipush 11, 2) := by decide +kernel
theorem dX8_addNode_95 : decode cX8_addNode 95 = .ok (.iload_n 3, 1) := by decide +kernel
theorem dX8_addNode_96 : decode cX8_addNode 96 = .ok (.iadd, 1) := by decide +kernel
theorem dX8_addNode_97 : decode cX8_addNode 97 = .ok (.iload_n 2, 1) := by decide +kernel
theorem dX8_addNode_98 : decode cX8_addNode 98 = .ok (.iconst 1, 1) := by decide +kernel
theorem dX8_addNode_99 : decode cX8_addNode 99 = .ok (.if_icmp .ne 7, 3) := by decide +kernel
theorem dX8_addNode_102 : decode cX8_addNode 102 = .ok (.iconst 0, 1) := by decide +kernel
theorem dX8_addNode_103 : decode cX8_addNode 103 = .ok (.goto 4, 3) := by decide +kernel
theorem dX8_addNode_106 : decode cX8_addNode 106 = .ok (.iconst (-1), 1) := by decide +kernel
theorem dX8_addNode_107 : decode cX8_addNode 107 = .ok (.iastore, 1) := by decide +kernel
theorem dX8_addNode_108 : decode cX8_addNode 108 = .ok (.aload_n 0, 1) := by decide +kernel
theorem dX8_addNode_109 : decode cX8_addNode 109 = .ok (.getfield 8, 3) := by decide +kernel
theorem dX8_addNode_112 : decode cX8_addNode 112 = .ok (.aload_n 0, 1) := by decide +kernel
theorem dX8_addNode_113 : decode cX8_addNode 113 = .ok (.iconst 0, 1) := by decide +kernel
theorem dX8_addNode_114 : decode cX8_addNode 114 = .ok (.iload_n 3, 1) := by decide +kernel
theorem dX8_addNode_115 : decode cX8_addNode 115 = .ok (.iconst 0, 1) := by decide +kernel
theorem dX8_addNode_116 : decode cX8_addNode 116 = .ok (.invokevirtual 59, 3) := by decide +kernel
theorem dX8_addNode_119 : decode cX8_addNode 119 = .ok (.dup2, 1) := by decide +kernel
theorem dX8_addNode_120 : decode cX8_addNode 120 = .ok (.iaload, 1) := by decide +kernel
theorem dX8_addNode_121 : decode cX8_addNode 121 = .ok (.iload_n 2, 1) := by decide +kernel
theorem dX8_addNode_122 : decode cX8_addNode 122 = .ok (.iadd, 1) := by decide +kernel
theorem dX8_addNode_123 : decode cX8_addNode 123 = .ok (.iastore, 1) := by decide +kernel
theorem dX8_addNode_124 : decode cX8_addNode 124 = .ok (.aload_n 0, 1) := by decide +kernel
theorem dX8_addNode_125 : decode cX8_addNode 125 = .ok (.getfield 8, 3) := by decide +kernel
theorem dX8_addNode_128 : decode cX8_addNode 128 = .ok (.aload_n 0, 1) := by decide +kernel
theorem dX8_addNode_129 : decode cX8_addNode 129 = .ok (.iconst 1, 1) := by decide +kernel
theorem dX8_addNode_130 : decode cX8_addNode 130 = .ok (.iload_n 3, 1) := by decide +kernel
theorem dX8_addNode_131 : decode cX8_addNode 131 = .ok (.iconst 0, 1) := by decide +kernel
theorem dX8_addNode_132 : decode cX8_addNode 132 = .ok (.invokevirtual 59, 3) := by decide +kernel
theorem dX8_addNode_135 : decode cX8_addNode 135 = .ok (.dup2, 1) := by decide +kernel
theorem dX8_addNode_136 : decode cX8_addNode 136 = .ok (.iaload, 1) := by decide +kernel
theorem dX8_addNode_137 : decode cX8_addNode 137 = .ok (.iload_n 2, 1) := by decide +kernel
theorem dX8_addNode_138 : decode cX8_addNode 138 = .ok (.iadd, 1) := by decide +kernel
theorem dX8_addNode_139 : decode cX8_addNode 139 = .ok (.iastore, 1) := by decide +kernel
theorem dX8_addNode_140 : decode cX8_addNode 140 = .ok (.aload_n 0, 1) := by decide +kernel
theorem dX8_addNode_141 : decode cX8_addNode 141 = .ok (.getfield 8, 3) := by decide +kernel
theorem dX8_addNode_144 : decode cX8_addNode 144 = .ok (.iconst 0, 1) := by decide +kernel
theorem dX8_addNode_145 : decode cX8_addNode 145 = .ok (.dup2, 1) := by decide +kernel
theorem dX8_addNode_146 : decode cX8_addNode 146 = .ok (.iaload, 1) := by decide +kernel
theorem dX8_addNode_147 : decode cX8_addNode 147 = .ok (.iconst 1, 1) := by decide +kernel
theorem dX8_addNode_148 : decode cX8_addNode 148 = .ok (.iadd, 1) := by decide +kernel
theorem dX8_addNode_149 : decode cX8_addNode 149 = .ok (.iastore, 1) := by decide +kernel
theorem dX8_addNode_150 : decode cX8_addNode 150 = .ok (.iload_n 3, 1) := by decide +kernel
theorem dX8_addNode_151 : decode cX8_addNode 151 = .ok (.ireturn, 1) := by decide +kernel
theorem dX8_isInput_0 : decode cX8_isInput 0 = .ok (.aload_n 0, 1) := by decide +kernel
theorem dX8_isInput_1 : decode cX8_isInput 1 = .ok (.getfield 8, 3) := by decide +kernel
theorem dX8_isInput_4 : decode cX8_isInput 4 = .ok (.bipush 11, 2) := by decide +kernel
theorem dX8_isInput_6 : decode cX8_isInput 6 = .ok (.iload_n 1, 1) := by decide +kernel
theorem dX8_isInput_7 : decode cX8_isInput 7 = .ok (.iadd, 1) := by decide +kernel
theorem dX8_isInput_8 : decode cX8_isInput 8 = .ok (.iaload, 1) := by decide +kernel
theorem dX8_isInput_9 : decode cX8_isInput 9 = .ok (.iconst (-1), 1) := by decide +kernel
theorem dX8_isInput_10 : decode cX8_isInput 10 = .ok (.if_icmp .eq 7, 3) := by decide +kernel
theorem dX8_isInput_13 : decode cX8_isInput 13 = .ok (.iconst 1, 1) := by decide +kernel
theorem dX8_isInput_14 : decode cX8_isInput 14 = .ok (.goto 4, 3) := by decide +kernel
theorem dX8_isInput_17 : decode cX8_isInput 17 = .ok (.iconst 0, 1) := by decide +kernel
theorem dX8_isInput_18 : decode cX8_isInput 18 = .ok (.ireturn, 1) := by decide +kernel
theorem dX8_mayLead_0 : decode cX8_mayLead 0 = .ok (.aload_n 0, 1) := by decide +kernel
theorem dX8_mayLead_1 : decode cX8_mayLead 1 = .ok (.getfield 8, 3) := by decide +kernel
theorem dX8_mayLead_4 : decode cX8_mayLead 4 = .ok (.iconst 5, 1) := by decide +kernel
theorem dX8_mayLead_5 : decode cX8_mayLead 5 = .ok (.iload_n 2, 1) := by decide +kernel
theorem dX8_mayLead_6 : decode cX8_mayLead 6 = .ok (.iadd, 1) := by decide +kernel
theorem dX8_mayLead_7 : decode cX8_mayLead 7 = .ok (.iaload, 1) := by decide +kernel
theorem dX8_mayLead_8 : decode cX8_mayLead 8 = .ok (.aload_n 0, 1) := by decide +kernel
theorem dX8_mayLead_9 : decode cX8_mayLead 9 = .ok (.getfield 8, 3) := by decide +kernel
theorem dX8_mayLead_12 : decode cX8_mayLead 12 = .ok (.iconst 5, 1) := by decide +kernel
theorem dX8_mayLead_13 : decode cX8_mayLead 13 = .ok (.iload_n 1, 1) := by decide +kernel
theorem dX8_mayLead_14 : decode cX8_mayLead 14 = .ok (.iadd, 1) := by decide +kernel
theorem dX8_mayLead_15 : decode cX8_mayLead 15 = .ok (.iaload, 1) := by decide +kernel
theorem dX8_mayLead_16 : decode cX8_mayLead 16 = .ok (.isub, 1) := by decide +kernel
theorem dX8_mayLead_17 : decode cX8_mayLead 17 = .ok (.istore 4, 2) := by decide +kernel
theorem dX8_mayLead_19 : decode cX8_mayLead 19 = .ok (.aload_n 0, 1) := by decide +kernel
theorem dX8_mayLead_20 : decode cX8_mayLead 20 = .ok (.getfield 8, 3) := by decide +kernel
theorem dX8_mayLead_23 : decode cX8_mayLead 23 = .ok (.iconst 2, 1) := by decide +kernel
theorem dX8_mayLead_24 : decode cX8_mayLead 24 = .ok (.iaload, 1) := by decide +kernel
theorem dX8_mayLead_25 : decode cX8_mayLead 25 = .ok (.iconst 1, 1) := by decide +kernel
theorem dX8_mayLead_26 : decode cX8_mayLead 26 = .ok (.if_icmp .eq 42, 3) := by decide +kernel
theorem dX8_mayLead_29 : decode cX8_mayLead 29 = .ok (.aload_n 0, 1) := by decide +kernel
theorem dX8_mayLead_30 : decode cX8_mayLead 30 = .ok (.iload_n 2, 1) := by decide +kernel
theorem dX8_mayLead_31 : decode cX8_mayLead 31 = .ok (.invokevirtual 63, 3) := by decide +kernel
theorem dX8_mayLead_34 : decode cX8_mayLead 34 = .ok (.ifCond .ne 34, 3) := by decide +kernel
theorem dX8_mayLead_37 : decode cX8_mayLead 37 = .ok (.iload 4, 2) := by decide +kernel
theorem dX8_mayLead_39 : decode cX8_mayLead 39 = .ok (.iconst (-1), 1) := by decide +kernel
theorem dX8_mayLead_40 : decode cX8_mayLead 40 = .ok (.iconst 1, 1) := by decide +kernel
theorem dX8_mayLead_41 : decode cX8_mayLead 41 = .ok (.invokestatic 43, 3) := by decide +kernel
theorem dX8_mayLead_44 : decode cX8_mayLead 44 = .ok (.ifCond .eq 24, 3) := by decide +kernel
theorem dX8_mayLead_47 : decode cX8_mayLead 47 = .ok (.iload_n 3, 1) := by decide +kernel
theorem dX8_mayLead_48 : decode cX8_mayLead 48 = .ok (.iconst 1, 1) := by decide +kernel
theorem dX8_mayLead_49 : decode cX8_mayLead 49 = .ok (.if_icmp .ne 21, 3) := by decide +kernel
theorem dX8_mayLead_52 : decode cX8_mayLead 52 = .ok (.iload 4, 2) := by decide +kernel
theorem dX8_mayLead_54 : decode cX8_mayLead 54 = .ok (.ifCond .ne 14, 3) := by decide +kernel
theorem dX8_mayLead_57 : decode cX8_mayLead 57 = .ok (.aload_n 0, 1) := by decide +kernel
theorem dX8_mayLead_58 : decode cX8_mayLead 58 = .ok (.getfield 8, 3) := by decide +kernel
theorem dX8_mayLead_61 : decode cX8_mayLead 61 = .ok (.iconst 5, 1) := by decide +kernel
theorem dX8_mayLead_62 : decode cX8_mayLead 62 = .ok (.iload_n 2, 1) := by decide +kernel
theorem dX8_mayLead_63 : decode cX8_mayLead 63 = .ok (.iadd, 1) := by decide +kernel
theorem dX8_mayLead_64 : decode cX8_mayLead 64 = .ok (.iaload, 1) := by decide +kernel
theorem dX8_mayLead_65 : decode cX8_mayLead 65 = .ok (.ifCond .ne 5, 3) := by decide +kernel
theorem dX8_mayLead_68 : decode cX8_mayLead 68 = .ok (.iconst 0, 1) := by decide +kernel
theorem dX8_mayLead_69 : decode cX8_mayLead 69 = .ok (.ireturn, 1) := by decide +kernel
theorem dX8_mayLead_70 : decode cX8_mayLead 70 = .ok (.iconst 1, 1) := by decide +kernel
theorem dX8_mayLead_71 : decode cX8_mayLead 71 = .ok (.istore 5, 2) := by decide +kernel
theorem dX8_mayLead_73 : decode cX8_mayLead 73 = .ok (.iconst 0, 1) := by decide +kernel
theorem dX8_mayLead_74 : decode cX8_mayLead 74 = .ok (.istore 6, 2) := by decide +kernel
theorem dX8_mayLead_76 : decode cX8_mayLead 76 = .ok (.iload 6, 2) := by decide +kernel
theorem dX8_mayLead_78 : decode cX8_mayLead 78 = .ok (.aload_n 0, 1) := by decide +kernel
theorem dX8_mayLead_79 : decode cX8_mayLead 79 = .ok (.getfield 8, 3) := by decide +kernel
theorem dX8_mayLead_82 : decode cX8_mayLead 82 = .ok (.iconst 5, 1) := by decide +kernel
theorem dX8_mayLead_83 : decode cX8_mayLead 83 = .ok (.iload_n 1, 1) := by decide +kernel
theorem dX8_mayLead_84 : decode cX8_mayLead 84 = .ok (.iadd, 1) := by decide +kernel
theorem dX8_mayLead_85 : decode cX8_mayLead 85 = .ok (.iaload, 1) := by decide +kernel
theorem dX8_mayLead_86 : decode cX8_mayLead 86 = .ok (.if_icmp .gt 46, 3) := by decide +kernel
theorem dX8_mayLead_89 : decode cX8_mayLead 89 = .ok (.iload 6, 2) := by decide +kernel
theorem dX8_mayLead_91 : decode cX8_mayLead 91 = .ok (.aload_n 0, 1) := by decide +kernel
theorem dX8_mayLead_92 : decode cX8_mayLead 92 = .ok (.getfield 8, 3) := by decide +kernel
theorem dX8_mayLead_95 : decode cX8_mayLead 95 = .ok (.iconst 5, 1) := by decide +kernel
theorem dX8_mayLead_96 : decode cX8_mayLead 96 = .ok (.iload_n 2, 1) := by decide +kernel
theorem dX8_mayLead_97 : decode cX8_mayLead 97 = .ok (.iadd, 1) := by decide +kernel
theorem dX8_mayLead_98 : decode cX8_mayLead 98 = .ok (.iaload, 1) := by decide +kernel
theorem dX8_mayLead_99 : decode cX8_mayLead 99 = .ok (.if_icmp .gt 33, 3) := by decide +kernel
theorem dX8_mayLead_102 : decode cX8_mayLead 102 = .ok (.iload 5, 2) := by decide +kernel
theorem dX8_mayLead_104 : decode cX8_mayLead 104 = .ok (.ifCond .eq 19, 3) := by decide +kernel
theorem dX8_mayLead_107 : decode cX8_mayLead 107 = .ok (.aload_n 0, 1) := by decide +kernel
theorem dX8_mayLead_108 : decode cX8_mayLead 108 = .ok (.iload_n 1, 1) := by decide +kernel
theorem dX8_mayLead_109 : decode cX8_mayLead 109 = .ok (.iload_n 2, 1) := by decide +kernel
theorem dX8_mayLead_110 : decode cX8_mayLead 110 = .ok (.iload_n 3, 1) := by decide +kernel
theorem dX8_mayLead_111 : decode cX8_mayLead 111 = .ok (.iload 6, 2) := by decide +kernel
theorem dX8_mayLead_113 : decode cX8_mayLead 113 = .ok (.invokevirtual 67, 3) := by decide +kernel
theorem dX8_mayLead_116 : decode cX8_mayLead 116 = .ok (.ifCond .ne 7, 3) := by decide +kernel
theorem dX8_mayLead_119 : decode cX8_mayLead 119 = .ok (.iconst 1, 1) := by decide +kernel
theorem dX8_mayLead_120 : decode cX8_mayLead 120 = .ok (.goto 4, 3) := by decide +kernel
theorem dX8_mayLead_123 : decode cX8_mayLead 123 = .ok (.iconst 0, 1) := by decide +kernel
theorem dX8_mayLead_124 : decode cX8_mayLead 124 = .ok (.istore 5, 2) := by decide +kernel
theorem dX8_mayLead_126 : decode cX8_mayLead 126 = .ok (.iinc 6 1, 3) := by decide +kernel
theorem dX8_mayLead_129 : decode cX8_mayLead 129 = .ok (.goto (-53), 3) := by decide +kernel
theorem dX8_mayLead_132 : decode cX8_mayLead 132 = .ok (.iload 5, 2) := by decide +kernel
theorem dX8_mayLead_134 : decode cX8_mayLead 134 = .ok (.ireturn, 1) := by decide +kernel
theorem dX8_returns_0 : decode cX8_returns 0 = .ok (.iload_n 3, 1) := by decide +kernel
theorem dX8_returns_1 : decode cX8_returns 1 = .ok (.iconst 1, 1) := by decide +kernel
theorem dX8_returns_2 : decode cX8_returns 2 = .ok (.if_icmp .ne 18, 3) := by decide +kernel
theorem dX8_returns_5 : decode cX8_returns 5 = .ok (.aload_n 0, 1) := by decide +kernel
theorem dX8_returns_6 : decode cX8_returns 6 = .ok (.getfield 8, 3) := by decide +kernel
theorem dX8_returns_9 : decode cX8_returns 9 = .ok (.iconst 5, 1) := by decide +kernel
theorem dX8_returns_10 : decode cX8_returns 10 = .ok (.iload_n 1, 1) := by decide +kernel
theorem dX8_returns_11 : decode cX8_returns 11 = .ok (.iadd, 1) := by decide +kernel
theorem dX8_returns_12 : decode cX8_returns 12 = .ok (.iaload, 1) := by decide +kernel
theorem dX8_returns_13 : decode cX8_returns 13 = .ok (.iload 4, 2) := by decide +kernel
theorem dX8_returns_15 : decode cX8_returns 15 = .ok (.if_icmp .ne 5, 3) := by decide +kernel
theorem dX8_returns_18 : decode cX8_returns 18 = .ok (.iconst 0, 1) := by decide +kernel
theorem dX8_returns_19 : decode cX8_returns 19 = .ok (.ireturn, 1) := by decide +kernel
theorem dX8_returns_20 : decode cX8_returns 20 = .ok (.iconst 0, 1) := by decide +kernel
theorem dX8_returns_21 : decode cX8_returns 21 = .ok (.istore 5, 2) := by decide +kernel
theorem dX8_returns_23 : decode cX8_returns 23 = .ok (.iload 5, 2) := by decide +kernel
theorem dX8_returns_25 : decode cX8_returns 25 = .ok (.bipush 6, 2) := by decide +kernel
theorem dX8_returns_27 : decode cX8_returns 27 = .ok (.if_icmp .ge 25, 3) := by decide +kernel
theorem dX8_returns_30 : decode cX8_returns 30 = .ok (.aload_n 0, 1) := by decide +kernel
theorem dX8_returns_31 : decode cX8_returns 31 = .ok (.getfield 21, 3) := by decide +kernel
theorem dX8_returns_34 : decode cX8_returns 34 = .ok (.iload 5, 2) := by decide +kernel
theorem dX8_returns_36 : decode cX8_returns 36 = .ok (.iconst 0, 1) := by decide +kernel
theorem dX8_returns_37 : decode cX8_returns 37 = .ok (.iastore, 1) := by decide +kernel
theorem dX8_returns_38 : decode cX8_returns 38 = .ok (.aload_n 0, 1) := by decide +kernel
theorem dX8_returns_39 : decode cX8_returns 39 = .ok (.getfield 24, 3) := by decide +kernel
theorem dX8_returns_42 : decode cX8_returns 42 = .ok (.iload 5, 2) := by decide +kernel
theorem dX8_returns_44 : decode cX8_returns 44 = .ok (.iconst 0, 1) := by decide +kernel
theorem dX8_returns_45 : decode cX8_returns 45 = .ok (.iastore, 1) := by decide +kernel
theorem dX8_returns_46 : decode cX8_returns 46 = .ok (.iinc 5 1, 3) := by decide +kernel
theorem dX8_returns_49 : decode cX8_returns 49 = .ok (.goto (-26), 3) := by decide +kernel
theorem dX8_returns_52 : decode cX8_returns 52 = .ok (.aload_n 0, 1) := by decide +kernel
theorem dX8_returns_53 : decode cX8_returns 53 = .ok (.getfield 21, 3) := by decide +kernel
theorem dX8_returns_56 : decode cX8_returns 56 = .ok (.iload_n 2, 1) := by decide +kernel
theorem dX8_returns_57 : decode cX8_returns 57 = .ok (.iconst 1, 1) := by decide +kernel
theorem dX8_returns_58 : decode cX8_returns 58 = .ok (.iastore, 1) := by decide +kernel
theorem dX8_returns_59 : decode cX8_returns 59 = .ok (.aload_n 0, 1) := by decide +kernel
theorem dX8_returns_60 : decode cX8_returns 60 = .ok (.getfield 24, 3) := by decide +kernel
theorem dX8_returns_63 : decode cX8_returns 63 = .ok (.iload_n 2, 1) := by decide +kernel
theorem dX8_returns_64 : decode cX8_returns 64 = .ok (.aload_n 0, 1) := by decide +kernel
theorem dX8_returns_65 : decode cX8_returns 65 = .ok (.getfield 8, 3) := by decide +kernel
theorem dX8_returns_68 : decode cX8_returns 68 = .ok (.iconst 5, 1) := by decide +kernel
theorem dX8_returns_69 : decode cX8_returns 69 = .ok (.iload_n 2, 1) := by decide +kernel
theorem dX8_returns_70 : decode cX8_returns 70 = .ok (.iadd, 1) := by decide +kernel
theorem dX8_returns_71 : decode cX8_returns 71 = .ok (.iaload, 1) := by decide +kernel
theorem dX8_returns_72 : decode cX8_returns 72 = .ok (.iload 4, 2) := by decide +kernel
theorem dX8_returns_74 : decode cX8_returns 74 = .ok (.if_icmp .ne 7, 3) := by decide +kernel
theorem dX8_returns_77 : decode cX8_returns 77 = .ok (.iconst 1, 1) := by decide +kernel
theorem dX8_returns_78 : decode cX8_returns 78 = .ok (.goto 4, 3) := by decide +kernel
theorem dX8_returns_81 : decode cX8_returns 81 = .ok (.iconst 0, 1) := by decide +kernel
theorem dX8_returns_82 : decode cX8_returns 82 = .ok (.iastore, 1) := by decide +kernel
theorem dX8_returns_83 : decode cX8_returns 83 = .ok (.iconst 1, 1) := by decide +kernel
theorem dX8_returns_84 : decode cX8_returns 84 = .ok (.istore 5, 2) := by decide +kernel
theorem dX8_returns_86 : decode cX8_returns 86 = .ok (.iload 5, 2) := by decide +kernel
theorem dX8_returns_88 : decode cX8_returns 88 = .ok (.ifCond .eq 213, 3) := by decide +kernel
theorem dX8_returns_91 : decode cX8_returns 91 = .ok (.iconst 0, 1) := by decide +kernel
theorem dX8_returns_92 : decode cX8_returns 92 = .ok (.istore 5, 2) := by decide +kernel
theorem dX8_returns_94 : decode cX8_returns 94 = .ok (.iconst 0, 1) := by decide +kernel
theorem dX8_returns_95 : decode cX8_returns 95 = .ok (.istore 6, 2) := by decide +kernel
theorem dX8_returns_97 : decode cX8_returns 97 = .ok (.iload 6, 2) := by decide +kernel
theorem dX8_returns_99 : decode cX8_returns 99 = .ok (.aload_n 0, 1) := by decide +kernel
theorem dX8_returns_100 : decode cX8_returns 100 = .ok (.getfield 8, 3) := by decide +kernel
theorem dX8_returns_103 : decode cX8_returns 103 = .ok (.iconst 1, 1) := by decide +kernel
theorem dX8_returns_104 : decode cX8_returns 104 = .ok (.iaload, 1) := by decide +kernel
theorem dX8_returns_105 : decode cX8_returns 105 = .ok (.if_icmp .ge 193, 3) := by decide +kernel
theorem dX8_returns_108 : decode cX8_returns 108 = .ok (.aload_n 0, 1) := by decide +kernel
theorem dX8_returns_109 : decode cX8_returns 109 = .ok (.getfield 8, 3) := by decide +kernel
theorem dX8_returns_112 : decode cX8_returns 112 = .ok (.bipush 17, 2) := by decide +kernel
theorem dX8_returns_114 : decode cX8_returns 114 = .ok (.iload 6, 2) := by decide +kernel
theorem dX8_returns_116 : decode cX8_returns 116 = .ok (.iadd, 1) := by decide +kernel
theorem dX8_returns_117 : decode cX8_returns 117 = .ok (.iaload, 1) := by decide +kernel
theorem dX8_returns_118 : decode cX8_returns 118 = .ok (.istore 7, 2) := by decide +kernel
theorem dX8_returns_120 : decode cX8_returns 120 = .ok (.aload_n 0, 1) := by decide +kernel
theorem dX8_returns_121 : decode cX8_returns 121 = .ok (.getfield 8, 3) := by decide +kernel
theorem dX8_returns_124 : decode cX8_returns 124 = .ok (.bipush 27, 2) := by decide +kernel
theorem dX8_returns_126 : decode cX8_returns 126 = .ok (.iload 6, 2) := by decide +kernel
theorem dX8_returns_128 : decode cX8_returns 128 = .ok (.iadd, 1) := by decide +kernel
theorem dX8_returns_129 : decode cX8_returns 129 = .ok (.iaload, 1) := by decide +kernel
theorem dX8_returns_130 : decode cX8_returns 130 = .ok (.istore 8, 2) := by decide +kernel
theorem dX8_returns_132 : decode cX8_returns 132 = .ok (.aload_n 0, 1) := by decide +kernel
theorem dX8_returns_133 : decode cX8_returns 133 = .ok (.getfield 8, 3) := by decide +kernel
theorem dX8_returns_136 : decode cX8_returns 136 = .ok (.iconst 5, 1) := by decide +kernel
theorem dX8_returns_137 : decode cX8_returns 137 = .ok (.iload 7, 2) := by decide +kernel
theorem dX8_returns_139 : decode cX8_returns 139 = .ok (.iadd, 1) := by decide +kernel
theorem dX8_returns_140 : decode cX8_returns 140 = .ok (.iaload, 1) := by decide +kernel
theorem dX8_returns_141 : decode cX8_returns 141 = .ok (.iload 4, 2) := by decide +kernel
theorem dX8_returns_143 : decode cX8_returns 143 = .ok (.if_icmp .lt 48, 3) := by decide +kernel
theorem dX8_returns_146 : decode cX8_returns 146 = .ok (.aload_n 0, 1) := by decide +kernel
theorem dX8_returns_147 : decode cX8_returns 147 = .ok (.getfield 8, 3) := by decide +kernel
theorem dX8_returns_150 : decode cX8_returns 150 = .ok (.iconst 5, 1) := by decide +kernel
theorem dX8_returns_151 : decode cX8_returns 151 = .ok (.iload 8, 2) := by decide +kernel
theorem dX8_returns_153 : decode cX8_returns 153 = .ok (.iadd, 1) := by decide +kernel
theorem dX8_returns_154 : decode cX8_returns 154 = .ok (.iaload, 1) := by decide +kernel
theorem dX8_returns_155 : decode cX8_returns 155 = .ok (.iload 4, 2) := by decide +kernel
theorem dX8_returns_157 : decode cX8_returns 157 = .ok (.if_icmp .lt 34, 3) := by decide +kernel
theorem dX8_returns_160 : decode cX8_returns 160 = .ok (.aload_n 0, 1) := by decide +kernel
theorem dX8_returns_161 : decode cX8_returns 161 = .ok (.getfield 8, 3) := by decide +kernel
theorem dX8_returns_164 : decode cX8_returns 164 = .ok (.bipush 37, 2) := by decide +kernel
theorem dX8_returns_166 : decode cX8_returns 166 = .ok (.iload 6, 2) := by decide +kernel
theorem dX8_returns_168 : decode cX8_returns 168 = .ok (.iadd, 1) := by decide +kernel
theorem dX8_returns_169 : decode cX8_returns 169 = .ok (.iaload, 1) := by decide +kernel
theorem dX8_returns_170 : decode cX8_returns 170 = .ok (.ifCond .eq 17, 3) := by decide +kernel
theorem dX8_returns_173 : decode cX8_returns 173 = .ok (.aload_n 0, 1) := by decide +kernel
theorem dX8_returns_174 : decode cX8_returns 174 = .ok (.getfield 8, 3) := by decide +kernel
theorem dX8_returns_177 : decode cX8_returns 177 = .ok (.iconst 5, 1) := by decide +kernel
theorem dX8_returns_178 : decode cX8_returns 178 = .ok (.iload 7, 2) := by decide +kernel
theorem dX8_returns_180 : decode cX8_returns 180 = .ok (.iadd, 1) := by decide +kernel
theorem dX8_returns_181 : decode cX8_returns 181 = .ok (.iaload, 1) := by decide +kernel
theorem dX8_returns_182 : decode cX8_returns 182 = .ok (.iload 4, 2) := by decide +kernel
theorem dX8_returns_184 : decode cX8_returns 184 = .ok (.if_icmp .le 7, 3) := by decide +kernel
theorem dX8_returns_187 : decode cX8_returns 187 = .ok (.iconst 1, 1) := by decide +kernel
theorem dX8_returns_188 : decode cX8_returns 188 = .ok (.goto 4, 3) := by decide +kernel
theorem dX8_returns_191 : decode cX8_returns 191 = .ok (.iconst 0, 1) := by decide +kernel
theorem dX8_returns_192 : decode cX8_returns 192 = .ok (.istore 9, 2) := by decide +kernel
theorem dX8_returns_194 : decode cX8_returns 194 = .ok (.aload_n 0, 1) := by decide +kernel
theorem dX8_returns_195 : decode cX8_returns 195 = .ok (.getfield 24, 3) := by decide +kernel
theorem dX8_returns_198 : decode cX8_returns 198 = .ok (.iload 7, 2) := by decide +kernel
theorem dX8_returns_200 : decode cX8_returns 200 = .ok (.iaload, 1) := by decide +kernel
theorem dX8_returns_201 : decode cX8_returns 201 = .ok (.iconst 1, 1) := by decide +kernel
theorem dX8_returns_202 : decode cX8_returns 202 = .ok (.if_icmp .eq 17, 3) := by decide +kernel
theorem dX8_returns_205 : decode cX8_returns 205 = .ok (.aload_n 0, 1) := by decide +kernel
theorem dX8_returns_206 : decode cX8_returns 206 = .ok (.getfield 8, 3) := by decide +kernel
theorem dX8_returns_209 : decode cX8_returns 209 = .ok (.iconst 5, 1) := by decide +kernel
theorem dX8_returns_210 : decode cX8_returns 210 = .ok (.iload 8, 2) := by decide +kernel
theorem dX8_returns_212 : decode cX8_returns 212 = .ok (.iadd, 1) := by decide +kernel
theorem dX8_returns_213 : decode cX8_returns 213 = .ok (.iaload, 1) := by decide +kernel
theorem dX8_returns_214 : decode cX8_returns 214 = .ok (.iload 4, 2) := by decide +kernel
theorem dX8_returns_216 : decode cX8_returns 216 = .ok (.if_icmp .ne 7, 3) := by decide +kernel
theorem dX8_returns_219 : decode cX8_returns 219 = .ok (.iconst 1, 1) := by decide +kernel
theorem dX8_returns_220 : decode cX8_returns 220 = .ok (.goto 4, 3) := by decide +kernel
theorem dX8_returns_223 : decode cX8_returns 223 = .ok (.iconst 0, 1) := by decide +kernel
theorem dX8_returns_224 : decode cX8_returns 224 = .ok (.istore 10, 2) := by decide +kernel
theorem dX8_returns_226 : decode cX8_returns 226 = .ok (.iload 9, 2) := by decide +kernel
theorem dX8_returns_228 : decode cX8_returns 228 = .ok (.ifCond .eq 64, 3) := by decide +kernel
theorem dX8_returns_231 : decode cX8_returns 231 = .ok (.aload_n 0, 1) := by decide +kernel
theorem dX8_returns_232 : decode cX8_returns 232 = .ok (.getfield 21, 3) := by decide +kernel
theorem dX8_returns_235 : decode cX8_returns 235 = .ok (.iload 7, 2) := by decide +kernel
theorem dX8_returns_237 : decode cX8_returns 237 = .ok (.iaload, 1) := by decide +kernel
theorem dX8_returns_238 : decode cX8_returns 238 = .ok (.iconst 1, 1) := by decide +kernel
theorem dX8_returns_239 : decode cX8_returns 239 = .ok (.if_icmp .ne 53, 3) := by decide +kernel
theorem dX8_returns_242 : decode cX8_returns 242 = .ok (.aload_n 0, 1) := by decide +kernel
theorem dX8_returns_243 : decode cX8_returns 243 = .ok (.getfield 21, 3) := by decide +kernel
theorem dX8_returns_246 : decode cX8_returns 246 = .ok (.iload 8, 2) := by decide +kernel
theorem dX8_returns_248 : decode cX8_returns 248 = .ok (.iaload, 1) := by decide +kernel
theorem dX8_returns_249 : decode cX8_returns 249 = .ok (.ifCond .eq 15, 3) := by decide +kernel
theorem dX8_returns_252 : decode cX8_returns 252 = .ok (.aload_n 0, 1) := by decide +kernel
theorem dX8_returns_253 : decode cX8_returns 253 = .ok (.getfield 24, 3) := by decide +kernel
theorem dX8_returns_256 : decode cX8_returns 256 = .ok (.iload 8, 2) := by decide +kernel
theorem dX8_returns_258 : decode cX8_returns 258 = .ok (.iaload, 1) := by decide +kernel
theorem dX8_returns_259 : decode cX8_returns 259 = .ok (.iload 10, 2) := by decide +kernel
theorem dX8_returns_261 : decode cX8_returns 261 = .ok (.if_icmp .ge 31, 3) := by decide +kernel
theorem dX8_returns_264 : decode cX8_returns 264 = .ok (.aload_n 0, 1) := by decide +kernel
theorem dX8_returns_265 : decode cX8_returns 265 = .ok (.getfield 21, 3) := by decide +kernel
theorem dX8_returns_268 : decode cX8_returns 268 = .ok (.iload 8, 2) := by decide +kernel
theorem dX8_returns_270 : decode cX8_returns 270 = .ok (.iconst 1, 1) := by decide +kernel
theorem dX8_returns_271 : decode cX8_returns 271 = .ok (.iastore, 1) := by decide +kernel
theorem dX8_returns_272 : decode cX8_returns 272 = .ok (.aload_n 0, 1) := by decide +kernel
theorem dX8_returns_273 : decode cX8_returns 273 = .ok (.getfield 24, 3) := by decide +kernel
theorem dX8_returns_276 : decode cX8_returns 276 = .ok (.iload 8, 2) := by decide +kernel
theorem dX8_returns_278 : decode cX8_returns 278 = .ok (.aload_n 0, 1) := by decide +kernel
theorem dX8_returns_279 : decode cX8_returns 279 = .ok (.getfield 24, 3) := by decide +kernel
theorem dX8_returns_282 : decode cX8_returns 282 = .ok (.iload 8, 2) := by decide +kernel
theorem dX8_returns_284 : decode cX8_returns 284 = .ok (.iaload, 1) := by decide +kernel
theorem dX8_returns_285 : decode cX8_returns 285 = .ok (.iload 10, 2) := by decide +kernel
theorem dX8_returns_287 : decode cX8_returns 287 = .ok (.ior, 1) := by decide +kernel
theorem dX8_returns_288 : decode cX8_returns 288 = .ok (.iastore, 1) := by decide +kernel
theorem dX8_returns_289 : decode cX8_returns 289 = .ok (.iconst 1, 1) := by decide +kernel
theorem dX8_returns_290 : decode cX8_returns 290 = .ok (.istore 5, 2) := by decide +kernel
theorem dX8_returns_292 : decode cX8_returns 292 = .ok (.iinc 6 1, 3) := by decide +kernel
theorem dX8_returns_295 : decode cX8_returns 295 = .ok (.goto (-198), 3) := by decide +kernel
theorem dX8_returns_298 : decode cX8_returns 298 = .ok (.goto (-212), 3) := by decide +kernel
theorem dX8_returns_301 : decode cX8_returns 301 = .ok (.aload_n 0, 1) := by decide +kernel
theorem dX8_returns_302 : decode cX8_returns 302 = .ok (.getfield 21, 3) := by decide +kernel
theorem dX8_returns_305 : decode cX8_returns 305 = .ok (.iload_n 1, 1) := by decide +kernel
theorem dX8_returns_306 : decode cX8_returns 306 = .ok (.iaload, 1) := by decide +kernel
theorem dX8_returns_307 : decode cX8_returns 307 = .ok (.iconst 1, 1) := by decide +kernel
theorem dX8_returns_308 : decode cX8_returns 308 = .ok (.if_icmp .ne 17, 3) := by decide +kernel
theorem dX8_returns_311 : decode cX8_returns 311 = .ok (.aload_n 0, 1) := by decide +kernel
theorem dX8_returns_312 : decode cX8_returns 312 = .ok (.getfield 24, 3) := by decide +kernel
theorem dX8_returns_315 : decode cX8_returns 315 = .ok (.iload_n 1, 1) := by decide +kernel
theorem dX8_returns_316 : decode cX8_returns 316 = .ok (.iaload, 1) := by decide +kernel
theorem dX8_returns_317 : decode cX8_returns 317 = .ok (.iconst 1, 1) := by decide +kernel
theorem dX8_returns_318 : decode cX8_returns 318 = .ok (.if_icmp .ne 7, 3) := by decide +kernel
theorem dX8_returns_321 : decode cX8_returns 321 = .ok (.iconst 1, 1) := by decide +kernel
theorem dX8_returns_322 : decode cX8_returns 322 = .ok (.goto 4, 3) := by decide +kernel
theorem dX8_returns_325 : decode cX8_returns 325 = .ok (.iconst 0, 1) := by decide +kernel
theorem dX8_returns_326 : decode cX8_returns 326 = .ok (.ireturn, 1) := by decide +kernel
theorem dX8_addEdge_0 : decode cX8_addEdge 0 = .ok (.aload_n 0, 1) := by decide +kernel
theorem dX8_addEdge_1 : decode cX8_addEdge 1 = .ok (.iload_n 1, 1) := by decide +kernel
theorem dX8_addEdge_2 : decode cX8_addEdge 2 = .ok (.invokevirtual 71, 3) := by decide +kernel
theorem dX8_addEdge_5 : decode cX8_addEdge 5 = .ok (.ifCond .eq 20, 3) := by decide +kernel
theorem dX8_addEdge_8 : decode cX8_addEdge 8 = .ok (.aload_n 0, 1) := by decide +kernel
theorem dX8_addEdge_9 : decode cX8_addEdge 9 = .ok (.iload_n 2, 1) := by decide +kernel
theorem dX8_addEdge_10 : decode cX8_addEdge 10 = .ok (.invokevirtual 71, 3) := by decide +kernel
theorem dX8_addEdge_13 : decode cX8_addEdge 13 = .ok (.ifCond .eq 12, 3) := by decide +kernel
theorem dX8_addEdge_16 : decode cX8_addEdge 16 = .ok (.iload_n 3, 1) := by decide +kernel
theorem dX8_addEdge_17 : decode cX8_addEdge 17 = .ok (.iconst 0, 1) := by decide +kernel
theorem dX8_addEdge_18 : decode cX8_addEdge 18 = .ok (.iconst 1, 1) := by decide +kernel
theorem dX8_addEdge_19 : decode cX8_addEdge 19 = .ok (.invokestatic 43, 3) := by decide +kernel
theorem dX8_addEdge_22 : decode cX8_addEdge 22 = .ok (.ifCond .ne 10, 3) := by decide +kernel
theorem dX8_addEdge_25 : decode cX8_addEdge 25 = .ok (.aload_n 0, 1) := by decide +kernel
theorem dX8_addEdge_26 : decode cX8_addEdge 26 = .ok (.bipush (-2), 2) := by decide +kernel
theorem dX8_addEdge_28 : decode cX8_addEdge 28 = .ok (.invokevirtual 52, 3) := by decide +kernel
theorem dX8_addEdge_31 : decode cX8_addEdge 31 = .ok (.ireturn, 1) := by decide +kernel
theorem dX8_addEdge_32 : decode cX8_addEdge 32 = .ok (.aload_n 0, 1) := by decide +kernel
theorem dX8_addEdge_33 : decode cX8_addEdge 33 = .ok (.iload_n 1, 1) := by decide +kernel
theorem dX8_addEdge_34 : decode cX8_addEdge 34 = .ok (.iload_n 2, 1) := by decide +kernel
theorem dX8_addEdge_35 : decode cX8_addEdge 35 = .ok (.iload_n 3, 1) := by decide +kernel
theorem dX8_addEdge_36 : decode cX8_addEdge 36 = .ok (.invokevirtual 74, 3) := by decide +kernel
theorem dX8_addEdge_39 : decode cX8_addEdge 39 = .ok (.ifCond .ne 10, 3) := by decide +kernel
theorem dX8_addEdge_42 : decode cX8_addEdge 42 = .ok (.aload_n 0, 1) := by decide +kernel
theorem dX8_addEdge_43 : decode cX8_addEdge 43 = .ok (.bipush (-3), 2) := by decide +kernel
theorem dX8_addEdge_45 : decode cX8_addEdge 45 = .ok (.invokevirtual 52, 3) := by decide +kernel
theorem dX8_addEdge_48 : decode cX8_addEdge 48 = .ok (.ireturn, 1) := by decide +kernel
theorem dX8_addEdge_49 : decode cX8_addEdge 49 = .ok (.aload_n 0, 1) := by decide +kernel
theorem dX8_addEdge_50 : decode cX8_addEdge 50 = .ok (.getfield 8, 3) := by decide +kernel
theorem dX8_addEdge_53 : decode cX8_addEdge 53 = .ok (.iconst 1, 1) := by decide +kernel
theorem dX8_addEdge_54 : decode cX8_addEdge 54 = .ok (.iaload, 1) := by decide +kernel
theorem dX8_addEdge_55 : decode cX8_addEdge 55 = .ok (.bipush 10, 2) := by decide +kernel
theorem dX8_addEdge_57 : decode cX8_addEdge 57 = .ok (.if_icmp .ne 10, 3) := by decide +kernel
theorem dX8_addEdge_60 : decode cX8_addEdge 60 = .ok (.aload_n 0, 1) := by decide +kernel
theorem dX8_addEdge_61 : decode cX8_addEdge 61 = .ok (.bipush (-4), 2) := by decide +kernel
theorem dX8_addEdge_63 : decode cX8_addEdge 63 = .ok (.invokevirtual 52, 3) := by decide +kernel
theorem dX8_addEdge_66 : decode cX8_addEdge 66 = .ok (.ireturn, 1) := by decide +kernel
theorem dX8_addEdge_67 : decode cX8_addEdge 67 = .ok (.aload_n 0, 1) := by decide +kernel
theorem dX8_addEdge_68 : decode cX8_addEdge 68 = .ok (.invokevirtual 56, 3) := by decide +kernel
theorem dX8_addEdge_71 : decode cX8_addEdge 71 = .ok (.aload_n 0, 1) := by decide +kernel
theorem dX8_addEdge_72 : decode cX8_addEdge 72 = .ok (.getfield 8, 3) := by decide +kernel
theorem dX8_addEdge_75 : decode cX8_addEdge 75 = .ok (.bipush 17, 2) := by decide +kernel
theorem dX8_addEdge_77 : decode cX8_addEdge 77 = .ok (.aload_n 0, 1) := by decide +kernel
theorem dX8_addEdge_78 : decode cX8_addEdge 78 = .ok (.getfield 8, 3) := by decide +kernel
theorem dX8_addEdge_81 : decode cX8_addEdge 81 = .ok (.iconst 1, 1) := by decide +kernel
theorem dX8_addEdge_82 : decode cX8_addEdge 82 = .ok (.iaload, 1) := by decide +kernel
theorem dX8_addEdge_83 : decode cX8_addEdge 83 = .ok (.iadd, 1) := by decide +kernel
theorem dX8_addEdge_84 : decode cX8_addEdge 84 = .ok (.iload_n 1, 1) := by decide +kernel
theorem dX8_addEdge_85 : decode cX8_addEdge 85 = .ok (.iastore, 1) := by decide +kernel
theorem dX8_addEdge_86 : decode cX8_addEdge 86 = .ok (.aload_n 0, 1) := by decide +kernel
theorem dX8_addEdge_87 : decode cX8_addEdge 87 = .ok (.getfield 8, 3) := by decide +kernel
theorem dX8_addEdge_90 : decode cX8_addEdge 90 = .ok (.bipush 27, 2) := by decide +kernel
theorem dX8_addEdge_92 : decode cX8_addEdge 92 = .ok (.aload_n 0, 1) := by decide +kernel
theorem dX8_addEdge_93 : decode cX8_addEdge 93 = .ok (.getfield 8, 3) := by decide +kernel
theorem dX8_addEdge_96 : decode cX8_addEdge 96 = .ok (.iconst 1, 1) := by decide +kernel
theorem dX8_addEdge_97 : decode cX8_addEdge 97 = .ok (.iaload, 1) := by decide +kernel
theorem dX8_addEdge_98 : decode cX8_addEdge 98 = .ok (.iadd, 1) := by decide +kernel
theorem dX8_addEdge_99 : decode cX8_addEdge 99 = .ok (.iload_n 2, 1) := by decide +kernel
theorem dX8_addEdge_100 : decode cX8_addEdge 100 = .ok (.iastore, 1) := by decide +kernel
theorem dX8_addEdge_101 : decode cX8_addEdge 101 = .ok (.aload_n 0, 1) := by decide +kernel
theorem dX8_addEdge_102 : decode cX8_addEdge 102 = .ok (.getfield 8, 3) := by decide +kernel
theorem dX8_addEdge_105 : decode cX8_addEdge 105 = .ok (.bipush 37, 2) := by decide +kernel
theorem dX8_addEdge_107 : decode cX8_addEdge 107 = .ok (.aload_n 0, 1) := by decide +kernel
theorem dX8_addEdge_108 : decode cX8_addEdge 108 = .ok (.getfield 8, 3) := by decide +kernel
theorem dX8_addEdge_111 : decode cX8_addEdge 111 = .ok (.iconst 1, 1) := by decide +kernel
theorem dX8_addEdge_112 : decode cX8_addEdge 112 = .ok (.iaload, 1) := by decide +kernel
theorem dX8_addEdge_113 : decode cX8_addEdge 113 = .ok (.iadd, 1) := by decide +kernel
theorem dX8_addEdge_114 : decode cX8_addEdge 114 = .ok (.iload_n 3, 1) := by decide +kernel
theorem dX8_addEdge_115 : decode cX8_addEdge 115 = .ok (.iastore, 1) := by decide +kernel
theorem dX8_addEdge_116 : decode cX8_addEdge 116 = .ok (.aload_n 0, 1) := by decide +kernel
theorem dX8_addEdge_117 : decode cX8_addEdge 117 = .ok (.getfield 8, 3) := by decide +kernel
theorem dX8_addEdge_120 : decode cX8_addEdge 120 = .ok (.iconst 1, 1) := by decide +kernel
theorem dX8_addEdge_121 : decode cX8_addEdge 121 = .ok (.dup2, 1) := by decide +kernel
theorem dX8_addEdge_122 : decode cX8_addEdge 122 = .ok (.iaload, 1) := by decide +kernel
theorem dX8_addEdge_123 : decode cX8_addEdge 123 = .ok (.iconst 1, 1) := by decide +kernel
theorem dX8_addEdge_124 : decode cX8_addEdge 124 = .ok (.iadd, 1) := by decide +kernel
theorem dX8_addEdge_125 : decode cX8_addEdge 125 = .ok (.iastore, 1) := by decide +kernel
theorem dX8_addEdge_126 : decode cX8_addEdge 126 = .ok (.aload_n 0, 1) := by decide +kernel
theorem dX8_addEdge_127 : decode cX8_addEdge 127 = .ok (.getfield 8, 3) := by decide +kernel
theorem dX8_addEdge_130 : decode cX8_addEdge 130 = .ok (.iconst 1, 1) := by decide +kernel
theorem dX8_addEdge_131 : decode cX8_addEdge 131 = .ok (.iaload, 1) := by decide +kernel
theorem dX8_addEdge_132 : decode cX8_addEdge 132 = .ok (.iconst 1, 1) := by decide +kernel
theorem dX8_addEdge_133 : decode cX8_addEdge 133 = .ok (.isub, 1) := by decide +kernel
theorem dX8_addEdge_134 : decode cX8_addEdge 134 = .ok (.ireturn, 1) := by decide +kernel
theorem dX8_kindOf_0 : decode cX8_kindOf 0 = .ok (.aload_n 0, 1) := by decide +kernel
theorem dX8_kindOf_1 : decode cX8_kindOf 1 = .ok (.getfield 8, 3) := by decide +kernel
theorem dX8_kindOf_4 : decode cX8_kindOf 4 = .ok (.iconst 5, 1) := by decide +kernel
theorem dX8_kindOf_5 : decode cX8_kindOf 5 = .ok (.aload_n 0, 1) := by decide +kernel
theorem dX8_kindOf_6 : decode cX8_kindOf 6 = .ok (.getfield 8, 3) := by decide +kernel
theorem dX8_kindOf_9 : decode cX8_kindOf 9 = .ok (.bipush 27, 2) := by decide +kernel
theorem dX8_kindOf_11 : decode cX8_kindOf 11 = .ok (.iload_n 1, 1) := by decide +kernel
theorem dX8_kindOf_12 : decode cX8_kindOf 12 = .ok (.iadd, 1) := by decide +kernel
theorem dX8_kindOf_13 : decode cX8_kindOf 13 = .ok (.iaload, 1) := by decide +kernel
theorem dX8_kindOf_14 : decode cX8_kindOf 14 = .ok (.iadd, 1) := by decide +kernel
theorem dX8_kindOf_15 : decode cX8_kindOf 15 = .ok (.iaload, 1) := by decide +kernel
theorem dX8_kindOf_16 : decode cX8_kindOf 16 = .ok (.aload_n 0, 1) := by decide +kernel
theorem dX8_kindOf_17 : decode cX8_kindOf 17 = .ok (.getfield 8, 3) := by decide +kernel
theorem dX8_kindOf_20 : decode cX8_kindOf 20 = .ok (.iconst 5, 1) := by decide +kernel
theorem dX8_kindOf_21 : decode cX8_kindOf 21 = .ok (.aload_n 0, 1) := by decide +kernel
theorem dX8_kindOf_22 : decode cX8_kindOf 22 = .ok (.getfield 8, 3) := by decide +kernel
theorem dX8_kindOf_25 : decode cX8_kindOf 25 = .ok (.bipush 17, 2) := by decide +kernel
theorem dX8_kindOf_27 : decode cX8_kindOf 27 = .ok (.iload_n 1, 1) := by decide +kernel
theorem dX8_kindOf_28 : decode cX8_kindOf 28 = .ok (.iadd, 1) := by decide +kernel
theorem dX8_kindOf_29 : decode cX8_kindOf 29 = .ok (.iaload, 1) := by decide +kernel
theorem dX8_kindOf_30 : decode cX8_kindOf 30 = .ok (.iadd, 1) := by decide +kernel
theorem dX8_kindOf_31 : decode cX8_kindOf 31 = .ok (.iaload, 1) := by decide +kernel
theorem dX8_kindOf_32 : decode cX8_kindOf 32 = .ok (.isub, 1) := by decide +kernel
theorem dX8_kindOf_33 : decode cX8_kindOf 33 = .ok (.istore_n 2, 1) := by decide +kernel
theorem dX8_kindOf_34 : decode cX8_kindOf 34 = .ok (.aload_n 0, 1) := by decide +kernel
theorem dX8_kindOf_35 : decode cX8_kindOf 35 = .ok (.getfield 8, 3) := by decide +kernel
theorem dX8_kindOf_38 : decode cX8_kindOf 38 = .ok (.bipush 37, 2) := by decide +kernel
theorem dX8_kindOf_40 : decode cX8_kindOf 40 = .ok (.iload_n 1, 1) := by decide +kernel
theorem dX8_kindOf_41 : decode cX8_kindOf 41 = .ok (.iadd, 1) := by decide +kernel
theorem dX8_kindOf_42 : decode cX8_kindOf 42 = .ok (.iaload, 1) := by decide +kernel
theorem dX8_kindOf_43 : decode cX8_kindOf 43 = .ok (.iconst 1, 1) := by decide +kernel
theorem dX8_kindOf_44 : decode cX8_kindOf 44 = .ok (.if_icmp .ne 7, 3) := by decide +kernel
theorem dX8_kindOf_47 : decode cX8_kindOf 47 = .ok (.iconst 3, 1) := by decide +kernel
theorem dX8_kindOf_48 : decode cX8_kindOf 48 = .ok (.goto 20, 3) := by decide +kernel
theorem dX8_kindOf_51 : decode cX8_kindOf 51 = .ok (.iload_n 2, 1) := by decide +kernel
theorem dX8_kindOf_52 : decode cX8_kindOf 52 = .ok (.ifCond .ne 7, 3) := by decide +kernel
theorem dX8_kindOf_55 : decode cX8_kindOf 55 = .ok (.iconst 0, 1) := by decide +kernel
theorem dX8_kindOf_56 : decode cX8_kindOf 56 = .ok (.goto 12, 3) := by decide +kernel
theorem dX8_kindOf_59 : decode cX8_kindOf 59 = .ok (.iload_n 2, 1) := by decide +kernel
theorem dX8_kindOf_60 : decode cX8_kindOf 60 = .ok (.ifCond .le 7, 3) := by decide +kernel
theorem dX8_kindOf_63 : decode cX8_kindOf 63 = .ok (.iconst 1, 1) := by decide +kernel
theorem dX8_kindOf_64 : decode cX8_kindOf 64 = .ok (.goto 4, 3) := by decide +kernel
theorem dX8_kindOf_67 : decode cX8_kindOf 67 = .ok (.iconst 2, 1) := by decide +kernel
theorem dX8_kindOf_68 : decode cX8_kindOf 68 = .ok (.ireturn, 1) := by decide +kernel
theorem dX8_kind_0 : decode cX8_kind 0 = .ok (.aload_n 0, 1) := by decide +kernel
theorem dX8_kind_1 : decode cX8_kind 1 = .ok (.iload_n 1, 1) := by decide +kernel
theorem dX8_kind_2 : decode cX8_kind 2 = .ok (.invokevirtual 77, 3) := by decide +kernel
theorem dX8_kind_5 : decode cX8_kind 5 = .ok (.ifCond .eq 11, 3) := by decide +kernel
theorem dX8_kind_8 : decode cX8_kind 8 = .ok (.aload_n 0, 1) := by decide +kernel
theorem dX8_kind_9 : decode cX8_kind 9 = .ok (.iload_n 1, 1) := by decide +kernel
theorem dX8_kind_10 : decode cX8_kind 10 = .ok (.invokevirtual 80, 3) := by decide +kernel
theorem dX8_kind_13 : decode cX8_kind 13 = .ok (.goto 9, 3) := by decide +kernel
theorem dX8_kind_16 : decode cX8_kind 16 = .ok (.aload_n 0, 1) := by decide +kernel
theorem dX8_kind_17 : decode cX8_kind 17 = .ok (.bipush (-2), 2) := by decide +kernel
theorem dX8_kind_19 : decode cX8_kind 19 = .ok (.invokevirtual 52, 3) := by decide +kernel
theorem dX8_kind_22 : decode cX8_kind 22 = .ok (.ireturn, 1) := by decide +kernel
theorem dX8_isPlace_0 : decode cX8_isPlace 0 = .ok (.iload_n 1, 1) := by decide +kernel
theorem dX8_isPlace_1 : decode cX8_isPlace 1 = .ok (.bipush 6, 2) := by decide +kernel
theorem dX8_isPlace_3 : decode cX8_isPlace 3 = .ok (.if_icmp .ge 11, 3) := by decide +kernel
theorem dX8_isPlace_6 : decode cX8_isPlace 6 = .ok (.aload_n 0, 1) := by decide +kernel
theorem dX8_isPlace_7 : decode cX8_isPlace 7 = .ok (.iload_n 1, 1) := by decide +kernel
theorem dX8_isPlace_8 : decode cX8_isPlace 8 = .ok (.invokevirtual 71, 3) := by decide +kernel
theorem dX8_isPlace_11 : decode cX8_isPlace 11 = .ok (.goto 11, 3) := by decide +kernel
theorem dX8_isPlace_14 : decode cX8_isPlace 14 = .ok (.aload_n 0, 1) := by decide +kernel
theorem dX8_isPlace_15 : decode cX8_isPlace 15 = .ok (.iload_n 1, 1) := by decide +kernel
theorem dX8_isPlace_16 : decode cX8_isPlace 16 = .ok (.bipush 6, 2) := by decide +kernel
theorem dX8_isPlace_18 : decode cX8_isPlace 18 = .ok (.isub, 1) := by decide +kernel
theorem dX8_isPlace_19 : decode cX8_isPlace 19 = .ok (.invokevirtual 77, 3) := by decide +kernel
theorem dX8_isPlace_22 : decode cX8_isPlace 22 = .ok (.ireturn, 1) := by decide +kernel
theorem dX8_depthAt_0 : decode cX8_depthAt 0 = .ok (.aload_n 0, 1) := by decide +kernel
theorem dX8_depthAt_1 : decode cX8_depthAt 1 = .ok (.getfield 8, 3) := by decide +kernel
theorem dX8_depthAt_4 : decode cX8_depthAt 4 = .ok (.iconst 5, 1) := by decide +kernel
theorem dX8_depthAt_5 : decode cX8_depthAt 5 = .ok (.iload_n 1, 1) := by decide +kernel
theorem dX8_depthAt_6 : decode cX8_depthAt 6 = .ok (.bipush 6, 2) := by decide +kernel
theorem dX8_depthAt_8 : decode cX8_depthAt 8 = .ok (.if_icmp .ge 7, 3) := by decide +kernel
theorem dX8_depthAt_11 : decode cX8_depthAt 11 = .ok (.iload_n 1, 1) := by decide +kernel
theorem dX8_depthAt_12 : decode cX8_depthAt 12 = .ok (.goto 15, 3) := by decide +kernel
theorem dX8_depthAt_15 : decode cX8_depthAt 15 = .ok (.aload_n 0, 1) := by decide +kernel
theorem dX8_depthAt_16 : decode cX8_depthAt 16 = .ok (.getfield 8, 3) := by decide +kernel
theorem dX8_depthAt_19 : decode cX8_depthAt 19 = .ok (.bipush 17, 2) := by decide +kernel
theorem dX8_depthAt_21 : decode cX8_depthAt 21 = .ok (.iload_n 1, 1) := by decide +kernel
theorem dX8_depthAt_22 : decode cX8_depthAt 22 = .ok (.iadd, 1) := by decide +kernel
theorem dX8_depthAt_23 : decode cX8_depthAt 23 = .ok (.bipush 6, 2) := by decide +kernel
theorem dX8_depthAt_25 : decode cX8_depthAt 25 = .ok (.isub, 1) := by decide +kernel
theorem dX8_depthAt_26 : decode cX8_depthAt 26 = .ok (.iaload, 1) := by decide +kernel
theorem dX8_depthAt_27 : decode cX8_depthAt 27 = .ok (.iadd, 1) := by decide +kernel
theorem dX8_depthAt_28 : decode cX8_depthAt 28 = .ok (.iaload, 1) := by decide +kernel
theorem dX8_depthAt_29 : decode cX8_depthAt 29 = .ok (.ireturn, 1) := by decide +kernel
theorem dX8_isTime_0 : decode cX8_isTime 0 = .ok (.aload_n 0, 1) := by decide +kernel
theorem dX8_isTime_1 : decode cX8_isTime 1 = .ok (.iload_n 1, 1) := by decide +kernel
theorem dX8_isTime_2 : decode cX8_isTime 2 = .ok (.invokevirtual 83, 3) := by decide +kernel
theorem dX8_isTime_5 : decode cX8_isTime 5 = .ok (.istore_n 3, 1) := by decide +kernel
theorem dX8_isTime_6 : decode cX8_isTime 6 = .ok (.iload_n 2, 1) := by decide +kernel
theorem dX8_isTime_7 : decode cX8_isTime 7 = .ok (.iconst 0, 1) := by decide +kernel
theorem dX8_isTime_8 : decode cX8_isTime 8 = .ok (.sipush 999, 3) := by decide +kernel
theorem dX8_isTime_11 : decode cX8_isTime 11 = .ok (.invokestatic 43, 3) := by decide +kernel
theorem dX8_isTime_14 : decode cX8_isTime 14 = .ok (.ifCond .eq 29, 3) := by decide +kernel
theorem dX8_isTime_17 : decode cX8_isTime 17 = .ok (.iload_n 3, 1) := by decide +kernel
theorem dX8_isTime_18 : decode cX8_isTime 18 = .ok (.iconst 2, 1) := by decide +kernel
theorem dX8_isTime_19 : decode cX8_isTime 19 = .ok (.if_icmp .eq 20, 3) := by decide +kernel
theorem dX8_isTime_22 : decode cX8_isTime 22 = .ok (.iload_n 2, 1) := by decide +kernel
theorem dX8_isTime_23 : decode cX8_isTime 23 = .ok (.iload_n 3, 1) := by decide +kernel
theorem dX8_isTime_24 : decode cX8_isTime 24 = .ok (.iconst 1, 1) := by decide +kernel
theorem dX8_isTime_25 : decode cX8_isTime 25 = .ok (.if_icmp .ne 8, 3) := by decide +kernel
theorem dX8_isTime_28 : decode cX8_isTime 28 = .ok (.bipush 10, 2) := by decide +kernel
theorem dX8_isTime_30 : decode cX8_isTime 30 = .ok (.goto 5, 3) := by decide +kernel
theorem dX8_isTime_33 : decode cX8_isTime 33 = .ok (.bipush 100, 2) := by decide +kernel
theorem dX8_isTime_35 : decode cX8_isTime 35 = .ok (.irem, 1) := by decide +kernel
theorem dX8_isTime_36 : decode cX8_isTime 36 = .ok (.ifCond .ne 7, 3) := by decide +kernel
theorem dX8_isTime_39 : decode cX8_isTime 39 = .ok (.iconst 1, 1) := by decide +kernel
theorem dX8_isTime_40 : decode cX8_isTime 40 = .ok (.goto 4, 3) := by decide +kernel
theorem dX8_isTime_43 : decode cX8_isTime 43 = .ok (.iconst 0, 1) := by decide +kernel
theorem dX8_isTime_44 : decode cX8_isTime 44 = .ok (.ireturn, 1) := by decide +kernel
theorem dX8_moved_0 : decode cX8_moved 0 = .ok (.aload_n 0, 1) := by decide +kernel
theorem dX8_moved_1 : decode cX8_moved 1 = .ok (.iload_n 1, 1) := by decide +kernel
theorem dX8_moved_2 : decode cX8_moved 2 = .ok (.invokevirtual 80, 3) := by decide +kernel
theorem dX8_moved_5 : decode cX8_moved 5 = .ok (.istore_n 3, 1) := by decide +kernel
theorem dX8_moved_6 : decode cX8_moved 6 = .ok (.aload_n 0, 1) := by decide +kernel
theorem dX8_moved_7 : decode cX8_moved 7 = .ok (.getfield 8, 3) := by decide +kernel
theorem dX8_moved_10 : decode cX8_moved 10 = .ok (.iconst 5, 1) := by decide +kernel
theorem dX8_moved_11 : decode cX8_moved 11 = .ok (.aload_n 0, 1) := by decide +kernel
theorem dX8_moved_12 : decode cX8_moved 12 = .ok (.getfield 8, 3) := by decide +kernel
theorem dX8_moved_15 : decode cX8_moved 15 = .ok (.bipush 17, 2) := by decide +kernel
theorem dX8_moved_17 : decode cX8_moved 17 = .ok (.iload_n 1, 1) := by decide +kernel
theorem dX8_moved_18 : decode cX8_moved 18 = .ok (.iadd, 1) := by decide +kernel
theorem dX8_moved_19 : decode cX8_moved 19 = .ok (.iaload, 1) := by decide +kernel
theorem dX8_moved_20 : decode cX8_moved 20 = .ok (.iadd, 1) := by decide +kernel
theorem dX8_moved_21 : decode cX8_moved 21 = .ok (.iaload, 1) := by decide +kernel
theorem dX8_moved_22 : decode cX8_moved 22 = .ok (.iconst 2, 1) := by decide +kernel
theorem dX8_moved_23 : decode cX8_moved 23 = .ok (.if_icmp .ne 7, 3) := by decide +kernel
theorem dX8_moved_26 : decode cX8_moved 26 = .ok (.iconst 1, 1) := by decide +kernel
theorem dX8_moved_27 : decode cX8_moved 27 = .ok (.goto 4, 3) := by decide +kernel
theorem dX8_moved_30 : decode cX8_moved 30 = .ok (.iconst 0, 1) := by decide +kernel
theorem dX8_moved_31 : decode cX8_moved 31 = .ok (.istore 4, 2) := by decide +kernel
theorem dX8_moved_33 : decode cX8_moved 33 = .ok (.iload_n 3, 1) := by decide +kernel
theorem dX8_moved_34 : decode cX8_moved 34 = .ok (.iconst 2, 1) := by decide +kernel
theorem dX8_moved_35 : decode cX8_moved 35 = .ok (.if_icmp .ne 24, 3) := by decide +kernel
theorem dX8_moved_38 : decode cX8_moved 38 = .ok (.iload 4, 2) := by decide +kernel
theorem dX8_moved_40 : decode cX8_moved 40 = .ok (.ifCond .eq 12, 3) := by decide +kernel
theorem dX8_moved_43 : decode cX8_moved 43 = .ok (.iload_n 2, 1) := by decide +kernel
theorem dX8_moved_44 : decode cX8_moved 44 = .ok (.iload_n 2, 1) := by decide +kernel
theorem dX8_moved_45 : decode cX8_moved 45 = .ok (.bipush 10, 2) := by decide +kernel
theorem dX8_moved_47 : decode cX8_moved 47 = .ok (.irem, 1) := by decide +kernel
theorem dX8_moved_48 : decode cX8_moved 48 = .ok (.isub, 1) := by decide +kernel
theorem dX8_moved_49 : decode cX8_moved 49 = .ok (.goto 9, 3) := by decide +kernel
theorem dX8_moved_52 : decode cX8_moved 52 = .ok (.iload_n 2, 1) := by decide +kernel
theorem dX8_moved_53 : decode cX8_moved 53 = .ok (.iload_n 2, 1) := by decide +kernel
theorem dX8_moved_54 : decode cX8_moved 54 = .ok (.bipush 100, 2) := by decide +kernel
theorem dX8_moved_56 : decode cX8_moved 56 = .ok (.irem, 1) := by decide +kernel
theorem dX8_moved_57 : decode cX8_moved 57 = .ok (.isub, 1) := by decide +kernel
theorem dX8_moved_58 : decode cX8_moved 58 = .ok (.ireturn, 1) := by decide +kernel
theorem dX8_moved_59 : decode cX8_moved 59 = .ok (.iload_n 3, 1) := by decide +kernel
theorem dX8_moved_60 : decode cX8_moved 60 = .ok (.iconst 3, 1) := by decide +kernel
theorem dX8_moved_61 : decode cX8_moved 61 = .ok (.if_icmp .ne 49, 3) := by decide +kernel
theorem dX8_moved_64 : decode cX8_moved 64 = .ok (.iload 4, 2) := by decide +kernel
theorem dX8_moved_66 : decode cX8_moved 66 = .ok (.ifCond .eq 10, 3) := by decide +kernel
theorem dX8_moved_69 : decode cX8_moved 69 = .ok (.iload_n 2, 1) := by decide +kernel
theorem dX8_moved_70 : decode cX8_moved 70 = .ok (.bipush 10, 2) := by decide +kernel
theorem dX8_moved_72 : decode cX8_moved 72 = .ok (.irem, 1) := by decide +kernel
theorem dX8_moved_73 : decode cX8_moved 73 = .ok (.goto 10, 3) := by decide +kernel
theorem dX8_moved_76 : decode cX8_moved 76 = .ok (.iload_n 2, 1) := by decide +kernel
theorem dX8_moved_77 : decode cX8_moved 77 = .ok (.bipush 10, 2) := by decide +kernel
theorem dX8_moved_79 : decode cX8_moved 79 = .ok (.idiv, 1) := by decide +kernel
theorem dX8_moved_80 : decode cX8_moved 80 = .ok (.bipush 10, 2) := by decide +kernel
theorem dX8_moved_82 : decode cX8_moved 82 = .ok (.irem, 1) := by decide +kernel
theorem dX8_moved_83 : decode cX8_moved 83 = .ok (.istore 5, 2) := by decide +kernel
theorem dX8_moved_85 : decode cX8_moved 85 = .ok (.iload 5, 2) := by decide +kernel
theorem dX8_moved_87 : decode cX8_moved 87 = .ok (.bipush 9, 2) := by decide +kernel
theorem dX8_moved_89 : decode cX8_moved 89 = .ok (.if_icmp .ne 7, 3) := by decide +kernel
theorem dX8_moved_92 : decode cX8_moved 92 = .ok (.iconst (-1), 1) := by decide +kernel
theorem dX8_moved_93 : decode cX8_moved 93 = .ok (.goto 16, 3) := by decide +kernel
theorem dX8_moved_96 : decode cX8_moved 96 = .ok (.iload_n 2, 1) := by decide +kernel
theorem dX8_moved_97 : decode cX8_moved 97 = .ok (.iload 4, 2) := by decide +kernel
theorem dX8_moved_99 : decode cX8_moved 99 = .ok (.ifCond .eq 7, 3) := by decide +kernel
theorem dX8_moved_102 : decode cX8_moved 102 = .ok (.iconst 1, 1) := by decide +kernel
theorem dX8_moved_103 : decode cX8_moved 103 = .ok (.goto 5, 3) := by decide +kernel
theorem dX8_moved_106 : decode cX8_moved 106 = .ok (.bipush 10, 2) := by decide +kernel
theorem dX8_moved_108 : decode cX8_moved 108 = .ok (.iadd, 1) := by decide +kernel
theorem dX8_moved_109 : decode cX8_moved 109 = .ok (.ireturn, 1) := by decide +kernel
theorem dX8_moved_110 : decode cX8_moved 110 = .ok (.iload_n 2, 1) := by decide +kernel
theorem dX8_moved_111 : decode cX8_moved 111 = .ok (.ireturn, 1) := by decide +kernel
theorem dX8_move_0 : decode cX8_move 0 = .ok (.aload_n 0, 1) := by decide +kernel
theorem dX8_move_1 : decode cX8_move 1 = .ok (.iload_n 1, 1) := by decide +kernel
theorem dX8_move_2 : decode cX8_move 2 = .ok (.invokevirtual 77, 3) := by decide +kernel
theorem dX8_move_5 : decode cX8_move 5 = .ok (.ifCond .eq 24, 3) := by decide +kernel
theorem dX8_move_8 : decode cX8_move 8 = .ok (.aload_n 0, 1) := by decide +kernel
theorem dX8_move_9 : decode cX8_move 9 = .ok (.bipush 6, 2) := by decide +kernel
theorem dX8_move_11 : decode cX8_move 11 = .ok (.iload_n 1, 1) := by decide +kernel
theorem dX8_move_12 : decode cX8_move 12 = .ok (.iadd, 1) := by decide +kernel
theorem dX8_move_13 : decode cX8_move 13 = .ok (.iload_n 2, 1) := by decide +kernel
theorem dX8_move_14 : decode cX8_move 14 = .ok (.invokevirtual 86, 3) := by decide +kernel
theorem dX8_move_17 : decode cX8_move 17 = .ok (.ifCond .eq 12, 3) := by decide +kernel
theorem dX8_move_20 : decode cX8_move 20 = .ok (.aload_n 0, 1) := by decide +kernel
theorem dX8_move_21 : decode cX8_move 21 = .ok (.iload_n 1, 1) := by decide +kernel
theorem dX8_move_22 : decode cX8_move 22 = .ok (.iload_n 2, 1) := by decide +kernel
theorem dX8_move_23 : decode cX8_move 23 = .ok (.invokevirtual 90, 3) := by decide +kernel
theorem dX8_move_26 : decode cX8_move 26 = .ok (.goto 9, 3) := by decide +kernel
theorem dX8_move_29 : decode cX8_move 29 = .ok (.aload_n 0, 1) := by decide +kernel
theorem dX8_move_30 : decode cX8_move 30 = .ok (.bipush (-2), 2) := by decide +kernel
theorem dX8_move_32 : decode cX8_move 32 = .ok (.invokevirtual 52, 3) := by decide +kernel
theorem dX8_move_35 : decode cX8_move 35 = .ok (.ireturn, 1) := by decide +kernel
theorem dX8_reaches_0 : decode cX8_reaches 0 = .ok (.aload_n 0, 1) := by decide +kernel
theorem dX8_reaches_1 : decode cX8_reaches 1 = .ok (.getfield 27, 3) := by decide +kernel
theorem dX8_reaches_4 : decode cX8_reaches 4 = .ok (.bipush 100, 2) := by decide +kernel
theorem dX8_reaches_6 : decode cX8_reaches 6 = .ok (.iload_n 1, 1) := by decide +kernel
theorem dX8_reaches_7 : decode cX8_reaches 7 = .ok (.imul, 1) := by decide +kernel
theorem dX8_reaches_8 : decode cX8_reaches 8 = .ok (.iload_n 2, 1) := by decide +kernel
theorem dX8_reaches_9 : decode cX8_reaches 9 = .ok (.iadd, 1) := by decide +kernel
theorem dX8_reaches_10 : decode cX8_reaches 10 = .ok (.baload, 1) := by decide +kernel
theorem dX8_reaches_11 : decode cX8_reaches 11 = .ok (.ifCond .ne 76, 3) := by decide +kernel
theorem dX8_reaches_14 : decode cX8_reaches 14 = .ok (.aload_n 0, 1) := by decide +kernel
theorem dX8_reaches_15 : decode cX8_reaches 15 = .ok (.getfield 27, 3) := by decide +kernel
theorem dX8_reaches_18 : decode cX8_reaches 18 = .ok (.bipush 100, 2) := by decide +kernel
theorem dX8_reaches_20 : decode cX8_reaches 20 = .ok (.iload_n 1, 1) := by decide +kernel
theorem dX8_reaches_21 : decode cX8_reaches 21 = .ok (.imul, 1) := by decide +kernel
theorem dX8_reaches_22 : decode cX8_reaches 22 = .ok (.iload_n 2, 1) := by decide +kernel
theorem dX8_reaches_23 : decode cX8_reaches 23 = .ok (.iadd, 1) := by decide +kernel
theorem dX8_reaches_24 : decode cX8_reaches 24 = .ok (.iconst 1, 1) := by decide +kernel
theorem dX8_reaches_25 : decode cX8_reaches 25 = .ok (.bastore, 1) := by decide +kernel
theorem dX8_reaches_26 : decode cX8_reaches 26 = .ok (.aload_n 0, 1) := by decide +kernel
theorem dX8_reaches_27 : decode cX8_reaches 27 = .ok (.getfield 31, 3) := by decide +kernel
theorem dX8_reaches_30 : decode cX8_reaches 30 = .ok (.aload_n 0, 1) := by decide +kernel
theorem dX8_reaches_31 : decode cX8_reaches 31 = .ok (.getfield 94, 3) := by decide +kernel
theorem dX8_reaches_34 : decode cX8_reaches 34 = .ok (.bipush 100, 2) := by decide +kernel
theorem dX8_reaches_36 : decode cX8_reaches 36 = .ok (.iload_n 1, 1) := by decide +kernel
theorem dX8_reaches_37 : decode cX8_reaches 37 = .ok (.imul, 1) := by decide +kernel
theorem dX8_reaches_38 : decode cX8_reaches 38 = .ok (.iload_n 2, 1) := by decide +kernel
theorem dX8_reaches_39 : decode cX8_reaches 39 = .ok (.iadd, 1) := by decide +kernel
theorem dX8_reaches_40 : decode cX8_reaches 40 = .ok (.iastore, 1) := by decide +kernel
theorem dX8_reaches_41 : decode cX8_reaches 41 = .ok (.aload_n 0, 1) := by decide +kernel
theorem dX8_reaches_42 : decode cX8_reaches 42 = .ok (.dup, 1) := by decide +kernel
theorem dX8_reaches_43 : decode cX8_reaches 43 = .ok (.getfield 94, 3) := by decide +kernel
theorem dX8_reaches_46 : decode cX8_reaches 46 = .ok (.iconst 1, 1) := by decide +kernel
theorem dX8_reaches_47 : decode cX8_reaches 47 = .ok (.iadd, 1) := by decide +kernel
theorem dX8_reaches_48 : decode cX8_reaches 48 = .ok (.putfield 94, 3) := by decide +kernel
theorem dX8_reaches_51 : decode cX8_reaches 51 = .ok (.aload_n 0, 1) := by decide +kernel
theorem dX8_reaches_52 : decode cX8_reaches 52 = .ok (.getfield 34, 3) := by decide +kernel
theorem dX8_reaches_55 : decode cX8_reaches 55 = .ok (.iload_n 1, 1) := by decide +kernel
theorem dX8_reaches_56 : decode cX8_reaches 56 = .ok (.aload_n 0, 1) := by decide +kernel
theorem dX8_reaches_57 : decode cX8_reaches 57 = .ok (.getfield 34, 3) := by decide +kernel
theorem dX8_reaches_60 : decode cX8_reaches 60 = .ok (.iload_n 1, 1) := by decide +kernel
theorem dX8_reaches_61 : decode cX8_reaches 61 = .ok (.iaload, 1) := by decide +kernel
theorem dX8_reaches_62 : decode cX8_reaches 62 = .ok (.iconst (-1), 1) := by decide +kernel
theorem dX8_reaches_63 : decode cX8_reaches 63 = .ok (.if_icmp .eq 13, 3) := by decide +kernel
theorem dX8_reaches_66 : decode cX8_reaches 66 = .ok (.iload_n 2, 1) := by decide +kernel
theorem dX8_reaches_67 : decode cX8_reaches 67 = .ok (.aload_n 0, 1) := by decide +kernel
theorem dX8_reaches_68 : decode cX8_reaches 68 = .ok (.getfield 34, 3) := by decide +kernel
theorem dX8_reaches_71 : decode cX8_reaches 71 = .ok (.iload_n 1, 1) := by decide +kernel
theorem dX8_reaches_72 : decode cX8_reaches 72 = .ok (.iaload, 1) := by decide +kernel
theorem dX8_reaches_73 : decode cX8_reaches 73 = .ok (.if_icmp .ge 7, 3) := by decide +kernel
theorem dX8_reaches_76 : decode cX8_reaches 76 = .ok (.iload_n 2, 1) := by decide +kernel
theorem dX8_reaches_77 : decode cX8_reaches 77 = .ok (.goto 9, 3) := by decide +kernel
theorem dX8_reaches_80 : decode cX8_reaches 80 = .ok (.aload_n 0, 1) := by decide +kernel
theorem dX8_reaches_81 : decode cX8_reaches 81 = .ok (.getfield 34, 3) := by decide +kernel
theorem dX8_reaches_84 : decode cX8_reaches 84 = .ok (.iload_n 1, 1) := by decide +kernel
theorem dX8_reaches_85 : decode cX8_reaches 85 = .ok (.iaload, 1) := by decide +kernel
theorem dX8_reaches_86 : decode cX8_reaches 86 = .ok (.iastore, 1) := by decide +kernel
theorem dX8_reaches_87 : decode cX8_reaches 87 = .ok (.return_, 1) := by decide +kernel
theorem dX8_goes_0 : decode cX8_goes 0 = .ok (.iconst 0, 1) := by decide +kernel
theorem dX8_goes_1 : decode cX8_goes 1 = .ok (.istore_n 3, 1) := by decide +kernel
theorem dX8_goes_2 : decode cX8_goes 2 = .ok (.iload_n 3, 1) := by decide +kernel
theorem dX8_goes_3 : decode cX8_goes 3 = .ok (.sipush 1600, 3) := by decide +kernel
theorem dX8_goes_6 : decode cX8_goes 6 = .ok (.if_icmp .ge 16, 3) := by decide +kernel
theorem dX8_goes_9 : decode cX8_goes 9 = .ok (.aload_n 0, 1) := by decide +kernel
theorem dX8_goes_10 : decode cX8_goes 10 = .ok (.getfield 27, 3) := by decide +kernel
theorem dX8_goes_13 : decode cX8_goes 13 = .ok (.iload_n 3, 1) := by decide +kernel
theorem dX8_goes_14 : decode cX8_goes 14 = .ok (.iconst 0, 1) := by decide +kernel
theorem dX8_goes_15 : decode cX8_goes 15 = .ok (.bastore, 1) := by decide +kernel
theorem dX8_goes_16 : decode cX8_goes 16 = .ok (.iinc 3 1, 3) := by decide +kernel
theorem dX8_goes_19 : decode cX8_goes 19 = .ok (.goto (-17), 3) := by decide +kernel
theorem dX8_goes_22 : decode cX8_goes 22 = .ok (.iconst 0, 1) := by decide +kernel
theorem dX8_goes_23 : decode cX8_goes 23 = .ok (.istore_n 3, 1) := by decide +kernel
theorem dX8_goes_24 : decode cX8_goes 24 = .ok (.iload_n 3, 1) := by decide +kernel
theorem dX8_goes_25 : decode cX8_goes 25 = .ok (.bipush 16, 2) := by decide +kernel
theorem dX8_goes_27 : decode cX8_goes 27 = .ok (.if_icmp .ge 16, 3) := by decide +kernel
theorem dX8_goes_30 : decode cX8_goes 30 = .ok (.aload_n 0, 1) := by decide +kernel
theorem dX8_goes_31 : decode cX8_goes 31 = .ok (.getfield 34, 3) := by decide +kernel
theorem dX8_goes_34 : decode cX8_goes 34 = .ok (.iload_n 3, 1) := by decide +kernel
theorem dX8_goes_35 : decode cX8_goes 35 = .ok (.iconst (-1), 1) := by decide +kernel
theorem dX8_goes_36 : decode cX8_goes 36 = .ok (.iastore, 1) := by decide +kernel
theorem dX8_goes_37 : decode cX8_goes 37 = .ok (.iinc 3 1, 3) := by decide +kernel
theorem dX8_goes_40 : decode cX8_goes 40 = .ok (.goto (-16), 3) := by decide +kernel
theorem dX8_goes_43 : decode cX8_goes 43 = .ok (.aload_n 0, 1) := by decide +kernel
theorem dX8_goes_44 : decode cX8_goes 44 = .ok (.iconst 0, 1) := by decide +kernel
theorem dX8_goes_45 : decode cX8_goes 45 = .ok (.putfield 94, 3) := by decide +kernel
theorem dX8_goes_48 : decode cX8_goes 48 = .ok (.aload_n 0, 1) := by decide +kernel
theorem dX8_goes_49 : decode cX8_goes 49 = .ok (.iload_n 1, 1) := by decide +kernel
theorem dX8_goes_50 : decode cX8_goes 50 = .ok (.iload_n 2, 1) := by decide +kernel
theorem dX8_goes_51 : decode cX8_goes 51 = .ok (.invokevirtual 97, 3) := by decide +kernel
theorem dX8_goes_54 : decode cX8_goes 54 = .ok (.iconst 0, 1) := by decide +kernel
theorem dX8_goes_55 : decode cX8_goes 55 = .ok (.istore_n 3, 1) := by decide +kernel
theorem dX8_goes_56 : decode cX8_goes 56 = .ok (.iload_n 3, 1) := by decide +kernel
theorem dX8_goes_57 : decode cX8_goes 57 = .ok (.aload_n 0, 1) := by decide +kernel
theorem dX8_goes_58 : decode cX8_goes 58 = .ok (.getfield 94, 3) := by decide +kernel
theorem dX8_goes_61 : decode cX8_goes 61 = .ok (.if_icmp .ge 125, 3) := by decide +kernel
theorem dX8_goes_64 : decode cX8_goes 64 = .ok (.aload_n 0, 1) := by decide +kernel
theorem dX8_goes_65 : decode cX8_goes 65 = .ok (.getfield 31, 3) := by decide +kernel
theorem dX8_goes_68 : decode cX8_goes 68 = .ok (.iload_n 3, 1) := by decide +kernel
theorem dX8_goes_69 : decode cX8_goes 69 = .ok (.iaload, 1) := by decide +kernel
theorem dX8_goes_70 : decode cX8_goes 70 = .ok (.bipush 100, 2) := by decide +kernel
theorem dX8_goes_72 : decode cX8_goes 72 = .ok (.idiv, 1) := by decide +kernel
theorem dX8_goes_73 : decode cX8_goes 73 = .ok (.istore 4, 2) := by decide +kernel
theorem dX8_goes_75 : decode cX8_goes 75 = .ok (.aload_n 0, 1) := by decide +kernel
theorem dX8_goes_76 : decode cX8_goes 76 = .ok (.getfield 31, 3) := by decide +kernel
theorem dX8_goes_79 : decode cX8_goes 79 = .ok (.iload_n 3, 1) := by decide +kernel
theorem dX8_goes_80 : decode cX8_goes 80 = .ok (.iaload, 1) := by decide +kernel
theorem dX8_goes_81 : decode cX8_goes 81 = .ok (.bipush 100, 2) := by decide +kernel
theorem dX8_goes_83 : decode cX8_goes 83 = .ok (.irem, 1) := by decide +kernel
theorem dX8_goes_84 : decode cX8_goes 84 = .ok (.istore 5, 2) := by decide +kernel
theorem dX8_goes_86 : decode cX8_goes 86 = .ok (.iload 4, 2) := by decide +kernel
theorem dX8_goes_88 : decode cX8_goes 88 = .ok (.bipush 6, 2) := by decide +kernel
theorem dX8_goes_90 : decode cX8_goes 90 = .ok (.if_icmp .lt 44, 3) := by decide +kernel
theorem dX8_goes_93 : decode cX8_goes 93 = .ok (.aload_n 0, 1) := by decide +kernel
theorem dX8_goes_94 : decode cX8_goes 94 = .ok (.iload 4, 2) := by decide +kernel
theorem dX8_goes_96 : decode cX8_goes 96 = .ok (.bipush 6, 2) := by decide +kernel
theorem dX8_goes_98 : decode cX8_goes 98 = .ok (.isub, 1) := by decide +kernel
theorem dX8_goes_99 : decode cX8_goes 99 = .ok (.iload 5, 2) := by decide +kernel
theorem dX8_goes_101 : decode cX8_goes 101 = .ok (.invokevirtual 90, 3) := by decide +kernel
theorem dX8_goes_104 : decode cX8_goes 104 = .ok (.istore 6, 2) := by decide +kernel
theorem dX8_goes_106 : decode cX8_goes 106 = .ok (.iload 6, 2) := by decide +kernel
theorem dX8_goes_108 : decode cX8_goes 108 = .ok (.iconst (-1), 1) := by decide +kernel
theorem dX8_goes_109 : decode cX8_goes 109 = .ok (.if_icmp .eq 22, 3) := by decide +kernel
theorem dX8_goes_112 : decode cX8_goes 112 = .ok (.aload_n 0, 1) := by decide +kernel
theorem dX8_goes_113 : decode cX8_goes 113 = .ok (.aload_n 0, 1) := by decide +kernel
theorem dX8_goes_114 : decode cX8_goes 114 = .ok (.getfield 8, 3) := by decide +kernel
theorem dX8_goes_117 : decode cX8_goes 117 = .ok (.bipush 27, 2) := by decide +kernel
theorem dX8_goes_119 : decode cX8_goes 119 = .ok (.iload 4, 2) := by decide +kernel
theorem dX8_goes_121 : decode cX8_goes 121 = .ok (.iadd, 1) := by decide +kernel
theorem dX8_goes_122 : decode cX8_goes 122 = .ok (.bipush 6, 2) := by decide +kernel
theorem dX8_goes_124 : decode cX8_goes 124 = .ok (.isub, 1) := by decide +kernel
theorem dX8_goes_125 : decode cX8_goes 125 = .ok (.iaload, 1) := by decide +kernel
theorem dX8_goes_126 : decode cX8_goes 126 = .ok (.iload 6, 2) := by decide +kernel
theorem dX8_goes_128 : decode cX8_goes 128 = .ok (.invokevirtual 97, 3) := by decide +kernel
theorem dX8_goes_131 : decode cX8_goes 131 = .ok (.goto 49, 3) := by decide +kernel
theorem dX8_goes_134 : decode cX8_goes 134 = .ok (.iconst 0, 1) := by decide +kernel
theorem dX8_goes_135 : decode cX8_goes 135 = .ok (.istore 6, 2) := by decide +kernel
theorem dX8_goes_137 : decode cX8_goes 137 = .ok (.iload 6, 2) := by decide +kernel
theorem dX8_goes_139 : decode cX8_goes 139 = .ok (.aload_n 0, 1) := by decide +kernel
theorem dX8_goes_140 : decode cX8_goes 140 = .ok (.getfield 8, 3) := by decide +kernel
theorem dX8_goes_143 : decode cX8_goes 143 = .ok (.iconst 1, 1) := by decide +kernel
theorem dX8_goes_144 : decode cX8_goes 144 = .ok (.iaload, 1) := by decide +kernel
theorem dX8_goes_145 : decode cX8_goes 145 = .ok (.if_icmp .ge 35, 3) := by decide +kernel
theorem dX8_goes_148 : decode cX8_goes 148 = .ok (.aload_n 0, 1) := by decide +kernel
theorem dX8_goes_149 : decode cX8_goes 149 = .ok (.getfield 8, 3) := by decide +kernel
theorem dX8_goes_152 : decode cX8_goes 152 = .ok (.bipush 17, 2) := by decide +kernel
theorem dX8_goes_154 : decode cX8_goes 154 = .ok (.iload 6, 2) := by decide +kernel
theorem dX8_goes_156 : decode cX8_goes 156 = .ok (.iadd, 1) := by decide +kernel
theorem dX8_goes_157 : decode cX8_goes 157 = .ok (.iaload, 1) := by decide +kernel
theorem dX8_goes_158 : decode cX8_goes 158 = .ok (.iload 4, 2) := by decide +kernel
theorem dX8_goes_160 : decode cX8_goes 160 = .ok (.if_icmp .ne 14, 3) := by decide +kernel
theorem dX8_goes_163 : decode cX8_goes 163 = .ok (.aload_n 0, 1) := by decide +kernel
theorem dX8_goes_164 : decode cX8_goes 164 = .ok (.bipush 6, 2) := by decide +kernel
theorem dX8_goes_166 : decode cX8_goes 166 = .ok (.iload 6, 2) := by decide +kernel
theorem dX8_goes_168 : decode cX8_goes 168 = .ok (.iadd, 1) := by decide +kernel
theorem dX8_goes_169 : decode cX8_goes 169 = .ok (.iload 5, 2) := by decide +kernel
theorem dX8_goes_171 : decode cX8_goes 171 = .ok (.invokevirtual 97, 3) := by decide +kernel
theorem dX8_goes_174 : decode cX8_goes 174 = .ok (.iinc 6 1, 3) := by decide +kernel
theorem dX8_goes_177 : decode cX8_goes 177 = .ok (.goto (-40), 3) := by decide +kernel
theorem dX8_goes_180 : decode cX8_goes 180 = .ok (.iinc 3 1, 3) := by decide +kernel
theorem dX8_goes_183 : decode cX8_goes 183 = .ok (.goto (-127), 3) := by decide +kernel
theorem dX8_goes_186 : decode cX8_goes 186 = .ok (.return_, 1) := by decide +kernel
theorem dX8_couldResultIn_0 : decode cX8_couldResultIn 0 = .ok (.aload_n 0, 1) := by decide +kernel
theorem dX8_couldResultIn_1 : decode cX8_couldResultIn 1 = .ok (.iload_n 1, 1) := by decide +kernel
theorem dX8_couldResultIn_2 : decode cX8_couldResultIn 2 = .ok (.invokevirtual 101, 3) := by decide +kernel
theorem dX8_couldResultIn_5 : decode cX8_couldResultIn 5 = .ok (.ifCond .eq 30, 3) := by decide +kernel
theorem dX8_couldResultIn_8 : decode cX8_couldResultIn 8 = .ok (.aload_n 0, 1) := by decide +kernel
theorem dX8_couldResultIn_9 : decode cX8_couldResultIn 9 = .ok (.iload_n 3, 1) := by decide +kernel
theorem dX8_couldResultIn_10 : decode cX8_couldResultIn 10 = .ok (.invokevirtual 101, 3) := by decide +kernel
theorem dX8_couldResultIn_13 : decode cX8_couldResultIn 13 = .ok (.ifCond .eq 22, 3) := by decide +kernel
theorem dX8_couldResultIn_16 : decode cX8_couldResultIn 16 = .ok (.aload_n 0, 1) := by decide +kernel
theorem dX8_couldResultIn_17 : decode cX8_couldResultIn 17 = .ok (.iload_n 1, 1) := by decide +kernel
theorem dX8_couldResultIn_18 : decode cX8_couldResultIn 18 = .ok (.iload_n 2, 1) := by decide +kernel
theorem dX8_couldResultIn_19 : decode cX8_couldResultIn 19 = .ok (.invokevirtual 86, 3) := by decide +kernel
theorem dX8_couldResultIn_22 : decode cX8_couldResultIn 22 = .ok (.ifCond .eq 13, 3) := by decide +kernel
theorem dX8_couldResultIn_25 : decode cX8_couldResultIn 25 = .ok (.aload_n 0, 1) := by decide +kernel
theorem dX8_couldResultIn_26 : decode cX8_couldResultIn 26 = .ok (.iload_n 3, 1) := by decide +kernel
theorem dX8_couldResultIn_27 : decode cX8_couldResultIn 27 = .ok (.iload 4, 2) := by decide +kernel
theorem dX8_couldResultIn_29 : decode cX8_couldResultIn 29 = .ok (.invokevirtual 86, 3) := by decide +kernel
theorem dX8_couldResultIn_32 : decode cX8_couldResultIn 32 = .ok (.ifCond .ne 10, 3) := by decide +kernel
theorem dX8_couldResultIn_35 : decode cX8_couldResultIn 35 = .ok (.aload_n 0, 1) := by decide +kernel
theorem dX8_couldResultIn_36 : decode cX8_couldResultIn 36 = .ok (.bipush (-2), 2) := by decide +kernel
theorem dX8_couldResultIn_38 : decode cX8_couldResultIn 38 = .ok (.invokevirtual 52, 3) := by decide +kernel
theorem dX8_couldResultIn_41 : decode cX8_couldResultIn 41 = .ok (.ireturn, 1) := by decide +kernel
theorem dX8_couldResultIn_42 : decode cX8_couldResultIn 42 = .ok (.aload_n 0, 1) := by decide +kernel
theorem dX8_couldResultIn_43 : decode cX8_couldResultIn 43 = .ok (.iload_n 1, 1) := by decide +kernel
theorem dX8_couldResultIn_44 : decode cX8_couldResultIn 44 = .ok (.iload_n 2, 1) := by decide +kernel
theorem dX8_couldResultIn_45 : decode cX8_couldResultIn 45 = .ok (.bipush 100, 2) := by decide +kernel
theorem dX8_couldResultIn_47 : decode cX8_couldResultIn 47 = .ok (.irem, 1) := by decide +kernel
theorem dX8_couldResultIn_48 : decode cX8_couldResultIn 48 = .ok (.invokevirtual 104, 3) := by decide +kernel
theorem dX8_couldResultIn_51 : decode cX8_couldResultIn 51 = .ok (.iload_n 2, 1) := by decide +kernel
theorem dX8_couldResultIn_52 : decode cX8_couldResultIn 52 = .ok (.bipush 100, 2) := by decide +kernel
theorem dX8_couldResultIn_54 : decode cX8_couldResultIn 54 = .ok (.idiv, 1) := by decide +kernel
theorem dX8_couldResultIn_55 : decode cX8_couldResultIn 55 = .ok (.iload 4, 2) := by decide +kernel
theorem dX8_couldResultIn_57 : decode cX8_couldResultIn 57 = .ok (.bipush 100, 2) := by decide +kernel
theorem dX8_couldResultIn_59 : decode cX8_couldResultIn 59 = .ok (.idiv, 1) := by decide +kernel
theorem dX8_couldResultIn_60 : decode cX8_couldResultIn 60 = .ok (.if_icmp .gt 31, 3) := by decide +kernel
theorem dX8_couldResultIn_63 : decode cX8_couldResultIn 63 = .ok (.aload_n 0, 1) := by decide +kernel
theorem dX8_couldResultIn_64 : decode cX8_couldResultIn 64 = .ok (.getfield 34, 3) := by decide +kernel
theorem dX8_couldResultIn_67 : decode cX8_couldResultIn 67 = .ok (.iload_n 3, 1) := by decide +kernel
theorem dX8_couldResultIn_68 : decode cX8_couldResultIn 68 = .ok (.iaload, 1) := by decide +kernel
theorem dX8_couldResultIn_69 : decode cX8_couldResultIn 69 = .ok (.iconst (-1), 1) := by decide +kernel
theorem dX8_couldResultIn_70 : decode cX8_couldResultIn 70 = .ok (.if_icmp .eq 21, 3) := by decide +kernel
theorem dX8_couldResultIn_73 : decode cX8_couldResultIn 73 = .ok (.aload_n 0, 1) := by decide +kernel
theorem dX8_couldResultIn_74 : decode cX8_couldResultIn 74 = .ok (.getfield 34, 3) := by decide +kernel
theorem dX8_couldResultIn_77 : decode cX8_couldResultIn 77 = .ok (.iload_n 3, 1) := by decide +kernel
theorem dX8_couldResultIn_78 : decode cX8_couldResultIn 78 = .ok (.iaload, 1) := by decide +kernel
theorem dX8_couldResultIn_79 : decode cX8_couldResultIn 79 = .ok (.iload 4, 2) := by decide +kernel
theorem dX8_couldResultIn_81 : decode cX8_couldResultIn 81 = .ok (.bipush 100, 2) := by decide +kernel
theorem dX8_couldResultIn_83 : decode cX8_couldResultIn 83 = .ok (.irem, 1) := by decide +kernel
end
section
theorem dX8_couldResultIn_84 : decode cX8_couldResultIn 84 = .ok (.if_icmp .gt 7, 3) := by decide +kernel
theorem dX8_couldResultIn_87 : decode cX8_couldResultIn 87 = .ok (.iconst 1, 1) := by decide +kernel
theorem dX8_couldResultIn_88 : decode cX8_couldResultIn 88 = .ok (.goto 4, 3) := by decide +kernel
theorem dX8_couldResultIn_91 : decode cX8_couldResultIn 91 = .ok (.iconst 0, 1) := by decide +kernel
theorem dX8_couldResultIn_92 : decode cX8_couldResultIn 92 = .ok (.ireturn, 1) := by decide +kernel
theorem dX8_earliest_0 : decode cX8_earliest 0 = .ok (.aload_n 0, 1) := by decide +kernel
theorem dX8_earliest_1 : decode cX8_earliest 1 = .ok (.iload_n 1, 1) := by decide +kernel
theorem dX8_earliest_2 : decode cX8_earliest 2 = .ok (.invokevirtual 101, 3) := by decide +kernel
theorem dX8_earliest_5 : decode cX8_earliest 5 = .ok (.ifCond .eq 20, 3) := by decide +kernel
theorem dX8_earliest_8 : decode cX8_earliest 8 = .ok (.aload_n 0, 1) := by decide +kernel
theorem dX8_earliest_9 : decode cX8_earliest 9 = .ok (.iload_n 3, 1) := by decide +kernel
theorem dX8_earliest_10 : decode cX8_earliest 10 = .ok (.invokevirtual 101, 3) := by decide +kernel
theorem dX8_earliest_13 : decode cX8_earliest 13 = .ok (.ifCond .eq 12, 3) := by decide +kernel
theorem dX8_earliest_16 : decode cX8_earliest 16 = .ok (.aload_n 0, 1) := by decide +kernel
theorem dX8_earliest_17 : decode cX8_earliest 17 = .ok (.iload_n 1, 1) := by decide +kernel
theorem dX8_earliest_18 : decode cX8_earliest 18 = .ok (.iload_n 2, 1) := by decide +kernel
theorem dX8_earliest_19 : decode cX8_earliest 19 = .ok (.invokevirtual 86, 3) := by decide +kernel
theorem dX8_earliest_22 : decode cX8_earliest 22 = .ok (.ifCond .ne 10, 3) := by decide +kernel
theorem dX8_earliest_25 : decode cX8_earliest 25 = .ok (.aload_n 0, 1) := by decide +kernel
theorem dX8_earliest_26 : decode cX8_earliest 26 = .ok (.bipush (-2), 2) := by decide +kernel
theorem dX8_earliest_28 : decode cX8_earliest 28 = .ok (.invokevirtual 52, 3) := by decide +kernel
theorem dX8_earliest_31 : decode cX8_earliest 31 = .ok (.ireturn, 1) := by decide +kernel
theorem dX8_earliest_32 : decode cX8_earliest 32 = .ok (.aload_n 0, 1) := by decide +kernel
theorem dX8_earliest_33 : decode cX8_earliest 33 = .ok (.iload_n 1, 1) := by decide +kernel
theorem dX8_earliest_34 : decode cX8_earliest 34 = .ok (.iload_n 2, 1) := by decide +kernel
theorem dX8_earliest_35 : decode cX8_earliest 35 = .ok (.bipush 100, 2) := by decide +kernel
theorem dX8_earliest_37 : decode cX8_earliest 37 = .ok (.irem, 1) := by decide +kernel
theorem dX8_earliest_38 : decode cX8_earliest 38 = .ok (.invokevirtual 104, 3) := by decide +kernel
theorem dX8_earliest_41 : decode cX8_earliest 41 = .ok (.aload_n 0, 1) := by decide +kernel
theorem dX8_earliest_42 : decode cX8_earliest 42 = .ok (.getfield 34, 3) := by decide +kernel
theorem dX8_earliest_45 : decode cX8_earliest 45 = .ok (.iload_n 3, 1) := by decide +kernel
theorem dX8_earliest_46 : decode cX8_earliest 46 = .ok (.iaload, 1) := by decide +kernel
theorem dX8_earliest_47 : decode cX8_earliest 47 = .ok (.iconst (-1), 1) := by decide +kernel
theorem dX8_earliest_48 : decode cX8_earliest 48 = .ok (.if_icmp .ne 7, 3) := by decide +kernel
theorem dX8_earliest_51 : decode cX8_earliest 51 = .ok (.iconst (-1), 1) := by decide +kernel
theorem dX8_earliest_52 : decode cX8_earliest 52 = .ok (.goto 16, 3) := by decide +kernel
theorem dX8_earliest_55 : decode cX8_earliest 55 = .ok (.iload_n 2, 1) := by decide +kernel
theorem dX8_earliest_56 : decode cX8_earliest 56 = .ok (.iload_n 2, 1) := by decide +kernel
theorem dX8_earliest_57 : decode cX8_earliest 57 = .ok (.bipush 100, 2) := by decide +kernel
theorem dX8_earliest_59 : decode cX8_earliest 59 = .ok (.irem, 1) := by decide +kernel
theorem dX8_earliest_60 : decode cX8_earliest 60 = .ok (.isub, 1) := by decide +kernel
theorem dX8_earliest_61 : decode cX8_earliest 61 = .ok (.aload_n 0, 1) := by decide +kernel
theorem dX8_earliest_62 : decode cX8_earliest 62 = .ok (.getfield 34, 3) := by decide +kernel
theorem dX8_earliest_65 : decode cX8_earliest 65 = .ok (.iload_n 3, 1) := by decide +kernel
theorem dX8_earliest_66 : decode cX8_earliest 66 = .ok (.iaload, 1) := by decide +kernel
theorem dX8_earliest_67 : decode cX8_earliest 67 = .ok (.iadd, 1) := by decide +kernel
theorem dX8_earliest_68 : decode cX8_earliest 68 = .ok (.ireturn, 1) := by decide +kernel
theorem dX8_updates_0 : decode cX8_updates 0 = .ok (.aload_n 0, 1) := by decide +kernel
theorem dX8_updates_1 : decode cX8_updates 1 = .ok (.getfield 8, 3) := by decide +kernel
theorem dX8_updates_4 : decode cX8_updates 4 = .ok (.aload_n 0, 1) := by decide +kernel
theorem dX8_updates_5 : decode cX8_updates 5 = .ok (.iload_n 1, 1) := by decide +kernel
theorem dX8_updates_6 : decode cX8_updates 6 = .ok (.iload_n 2, 1) := by decide +kernel
theorem dX8_updates_7 : decode cX8_updates 7 = .ok (.iload_n 3, 1) := by decide +kernel
theorem dX8_updates_8 : decode cX8_updates 8 = .ok (.invokevirtual 59, 3) := by decide +kernel
theorem dX8_updates_11 : decode cX8_updates 11 = .ok (.dup2, 1) := by decide +kernel
theorem dX8_updates_12 : decode cX8_updates 12 = .ok (.iaload, 1) := by decide +kernel
theorem dX8_updates_13 : decode cX8_updates 13 = .ok (.iload 4, 2) := by decide +kernel
theorem dX8_updates_15 : decode cX8_updates 15 = .ok (.iadd, 1) := by decide +kernel
theorem dX8_updates_16 : decode cX8_updates 16 = .ok (.iastore, 1) := by decide +kernel
theorem dX8_updates_17 : decode cX8_updates 17 = .ok (.iconst 1, 1) := by decide +kernel
theorem dX8_updates_18 : decode cX8_updates 18 = .ok (.iload_n 1, 1) := by decide +kernel
theorem dX8_updates_19 : decode cX8_updates 19 = .ok (.isub, 1) := by decide +kernel
theorem dX8_updates_20 : decode cX8_updates 20 = .ok (.istore 5, 2) := by decide +kernel
theorem dX8_updates_22 : decode cX8_updates 22 = .ok (.aload_n 0, 1) := by decide +kernel
theorem dX8_updates_23 : decode cX8_updates 23 = .ok (.getfield 8, 3) := by decide +kernel
theorem dX8_updates_26 : decode cX8_updates 26 = .ok (.ldc 107, 2) := by decide +kernel
theorem dX8_updates_28 : decode cX8_updates 28 = .ok (.sipush 8192, 3) := by decide +kernel
theorem dX8_updates_31 : decode cX8_updates 31 = .ok (.iload 5, 2) := by decide +kernel
theorem dX8_updates_33 : decode cX8_updates 33 = .ok (.imul, 1) := by decide +kernel
theorem dX8_updates_34 : decode cX8_updates 34 = .ok (.iadd, 1) := by decide +kernel
theorem dX8_updates_35 : decode cX8_updates 35 = .ok (.aload_n 0, 1) := by decide +kernel
theorem dX8_updates_36 : decode cX8_updates 36 = .ok (.getfield 8, 3) := by decide +kernel
theorem dX8_updates_39 : decode cX8_updates 39 = .ok (.sipush 357, 3) := by decide +kernel
theorem dX8_updates_42 : decode cX8_updates 42 = .ok (.iload 5, 2) := by decide +kernel
theorem dX8_updates_44 : decode cX8_updates 44 = .ok (.iadd, 1) := by decide +kernel
theorem dX8_updates_45 : decode cX8_updates 45 = .ok (.iaload, 1) := by decide +kernel
theorem dX8_updates_46 : decode cX8_updates 46 = .ok (.iadd, 1) := by decide +kernel
theorem dX8_updates_47 : decode cX8_updates 47 = .ok (.iconst 2, 1) := by decide +kernel
theorem dX8_updates_48 : decode cX8_updates 48 = .ok (.sipush 1000, 3) := by decide +kernel
theorem dX8_updates_51 : decode cX8_updates 51 = .ok (.iload_n 2, 1) := by decide +kernel
theorem dX8_updates_52 : decode cX8_updates 52 = .ok (.imul, 1) := by decide +kernel
theorem dX8_updates_53 : decode cX8_updates 53 = .ok (.iload_n 3, 1) := by decide +kernel
theorem dX8_updates_54 : decode cX8_updates 54 = .ok (.iadd, 1) := by decide +kernel
theorem dX8_updates_55 : decode cX8_updates 55 = .ok (.imul, 1) := by decide +kernel
theorem dX8_updates_56 : decode cX8_updates 56 = .ok (.iload 4, 2) := by decide +kernel
theorem dX8_updates_58 : decode cX8_updates 58 = .ok (.ifCond .le 7, 3) := by decide +kernel
theorem dX8_updates_61 : decode cX8_updates 61 = .ok (.iconst 1, 1) := by decide +kernel
theorem dX8_updates_62 : decode cX8_updates 62 = .ok (.goto 4, 3) := by decide +kernel
theorem dX8_updates_65 : decode cX8_updates 65 = .ok (.iconst 0, 1) := by decide +kernel
theorem dX8_updates_66 : decode cX8_updates 66 = .ok (.iadd, 1) := by decide +kernel
theorem dX8_updates_67 : decode cX8_updates 67 = .ok (.iastore, 1) := by decide +kernel
theorem dX8_updates_68 : decode cX8_updates 68 = .ok (.aload_n 0, 1) := by decide +kernel
theorem dX8_updates_69 : decode cX8_updates 69 = .ok (.getfield 8, 3) := by decide +kernel
theorem dX8_updates_72 : decode cX8_updates 72 = .ok (.sipush 357, 3) := by decide +kernel
theorem dX8_updates_75 : decode cX8_updates 75 = .ok (.iload 5, 2) := by decide +kernel
theorem dX8_updates_77 : decode cX8_updates 77 = .ok (.iadd, 1) := by decide +kernel
theorem dX8_updates_78 : decode cX8_updates 78 = .ok (.dup2, 1) := by decide +kernel
theorem dX8_updates_79 : decode cX8_updates 79 = .ok (.iaload, 1) := by decide +kernel
theorem dX8_updates_80 : decode cX8_updates 80 = .ok (.iconst 1, 1) := by decide +kernel
theorem dX8_updates_81 : decode cX8_updates 81 = .ok (.iadd, 1) := by decide +kernel
theorem dX8_updates_82 : decode cX8_updates 82 = .ok (.iastore, 1) := by decide +kernel
theorem dX8_updates_83 : decode cX8_updates 83 = .ok (.aload_n 0, 1) := by decide +kernel
theorem dX8_updates_84 : decode cX8_updates 84 = .ok (.getfield 8, 3) := by decide +kernel
theorem dX8_updates_87 : decode cX8_updates 87 = .ok (.iconst 2, 1) := by decide +kernel
theorem dX8_updates_88 : decode cX8_updates 88 = .ok (.iconst 1, 1) := by decide +kernel
theorem dX8_updates_89 : decode cX8_updates 89 = .ok (.iastore, 1) := by decide +kernel
theorem dX8_updates_90 : decode cX8_updates 90 = .ok (.return_, 1) := by decide +kernel
theorem dX8_lineOf_0 : decode cX8_lineOf 0 = .ok (.bipush 10, 2) := by decide +kernel
theorem dX8_lineOf_2 : decode cX8_lineOf 2 = .ok (.iload_n 1, 1) := by decide +kernel
theorem dX8_lineOf_3 : decode cX8_lineOf 3 = .ok (.imul, 1) := by decide +kernel
theorem dX8_lineOf_4 : decode cX8_lineOf 4 = .ok (.iload_n 2, 1) := by decide +kernel
theorem dX8_lineOf_5 : decode cX8_lineOf 5 = .ok (.iadd, 1) := by decide +kernel
theorem dX8_lineOf_6 : decode cX8_lineOf 6 = .ok (.ireturn, 1) := by decide +kernel
theorem dX8_puts_0 : decode cX8_puts 0 = .ok (.aload_n 0, 1) := by decide +kernel
theorem dX8_puts_1 : decode cX8_puts 1 = .ok (.iload_n 1, 1) := by decide +kernel
theorem dX8_puts_2 : decode cX8_puts 2 = .ok (.iload_n 2, 1) := by decide +kernel
theorem dX8_puts_3 : decode cX8_puts 3 = .ok (.invokevirtual 108, 3) := by decide +kernel
theorem dX8_puts_6 : decode cX8_puts 6 = .ok (.istore 4, 2) := by decide +kernel
theorem dX8_puts_8 : decode cX8_puts 8 = .ok (.aload_n 0, 1) := by decide +kernel
theorem dX8_puts_9 : decode cX8_puts 9 = .ok (.getfield 8, 3) := by decide +kernel
theorem dX8_puts_12 : decode cX8_puts 12 = .ok (.bipush 67, 2) := by decide +kernel
theorem dX8_puts_14 : decode cX8_puts 14 = .ok (.bipush 12, 2) := by decide +kernel
theorem dX8_puts_16 : decode cX8_puts 16 = .ok (.iload 4, 2) := by decide +kernel
theorem dX8_puts_18 : decode cX8_puts 18 = .ok (.imul, 1) := by decide +kernel
theorem dX8_puts_19 : decode cX8_puts 19 = .ok (.iadd, 1) := by decide +kernel
theorem dX8_puts_20 : decode cX8_puts 20 = .ok (.aload_n 0, 1) := by decide +kernel
theorem dX8_puts_21 : decode cX8_puts 21 = .ok (.getfield 8, 3) := by decide +kernel
theorem dX8_puts_24 : decode cX8_puts 24 = .ok (.bipush 47, 2) := by decide +kernel
theorem dX8_puts_26 : decode cX8_puts 26 = .ok (.iload 4, 2) := by decide +kernel
theorem dX8_puts_28 : decode cX8_puts 28 = .ok (.iadd, 1) := by decide +kernel
theorem dX8_puts_29 : decode cX8_puts 29 = .ok (.iaload, 1) := by decide +kernel
theorem dX8_puts_30 : decode cX8_puts 30 = .ok (.iadd, 1) := by decide +kernel
theorem dX8_puts_31 : decode cX8_puts 31 = .ok (.iload_n 3, 1) := by decide +kernel
theorem dX8_puts_32 : decode cX8_puts 32 = .ok (.iastore, 1) := by decide +kernel
theorem dX8_puts_33 : decode cX8_puts 33 = .ok (.aload_n 0, 1) := by decide +kernel
theorem dX8_puts_34 : decode cX8_puts 34 = .ok (.getfield 8, 3) := by decide +kernel
theorem dX8_puts_37 : decode cX8_puts 37 = .ok (.bipush 47, 2) := by decide +kernel
theorem dX8_puts_39 : decode cX8_puts 39 = .ok (.iload 4, 2) := by decide +kernel
theorem dX8_puts_41 : decode cX8_puts 41 = .ok (.iadd, 1) := by decide +kernel
theorem dX8_puts_42 : decode cX8_puts 42 = .ok (.dup2, 1) := by decide +kernel
theorem dX8_puts_43 : decode cX8_puts 43 = .ok (.iaload, 1) := by decide +kernel
theorem dX8_puts_44 : decode cX8_puts 44 = .ok (.iconst 1, 1) := by decide +kernel
theorem dX8_puts_45 : decode cX8_puts 45 = .ok (.iadd, 1) := by decide +kernel
theorem dX8_puts_46 : decode cX8_puts 46 = .ok (.iastore, 1) := by decide +kernel
theorem dX8_puts_47 : decode cX8_puts 47 = .ok (.return_, 1) := by decide +kernel
theorem dX8_isFullLine_0 : decode cX8_isFullLine 0 = .ok (.aload_n 0, 1) := by decide +kernel
theorem dX8_isFullLine_1 : decode cX8_isFullLine 1 = .ok (.getfield 8, 3) := by decide +kernel
theorem dX8_isFullLine_4 : decode cX8_isFullLine 4 = .ok (.bipush 47, 2) := by decide +kernel
theorem dX8_isFullLine_6 : decode cX8_isFullLine 6 = .ok (.aload_n 0, 1) := by decide +kernel
theorem dX8_isFullLine_7 : decode cX8_isFullLine 7 = .ok (.iload_n 1, 1) := by decide +kernel
theorem dX8_isFullLine_8 : decode cX8_isFullLine 8 = .ok (.iload_n 2, 1) := by decide +kernel
theorem dX8_isFullLine_9 : decode cX8_isFullLine 9 = .ok (.invokevirtual 108, 3) := by decide +kernel
theorem dX8_isFullLine_12 : decode cX8_isFullLine 12 = .ok (.iadd, 1) := by decide +kernel
theorem dX8_isFullLine_13 : decode cX8_isFullLine 13 = .ok (.iaload, 1) := by decide +kernel
theorem dX8_isFullLine_14 : decode cX8_isFullLine 14 = .ok (.bipush 12, 2) := by decide +kernel
theorem dX8_isFullLine_16 : decode cX8_isFullLine 16 = .ok (.if_icmp .ne 7, 3) := by decide +kernel
theorem dX8_isFullLine_19 : decode cX8_isFullLine 19 = .ok (.iconst 1, 1) := by decide +kernel
theorem dX8_isFullLine_20 : decode cX8_isFullLine 20 = .ok (.goto 4, 3) := by decide +kernel
theorem dX8_isFullLine_23 : decode cX8_isFullLine 23 = .ok (.iconst 0, 1) := by decide +kernel
theorem dX8_isFullLine_24 : decode cX8_isFullLine 24 = .ok (.ireturn, 1) := by decide +kernel
theorem dX8_send_0 : decode cX8_send 0 = .ok (.aload_n 0, 1) := by decide +kernel
theorem dX8_send_1 : decode cX8_send 1 = .ok (.iload_n 1, 1) := by decide +kernel
theorem dX8_send_2 : decode cX8_send 2 = .ok (.invokevirtual 77, 3) := by decide +kernel
theorem dX8_send_5 : decode cX8_send 5 = .ok (.ifCond .eq 10, 3) := by decide +kernel
theorem dX8_send_8 : decode cX8_send 8 = .ok (.iload_n 2, 1) := by decide +kernel
theorem dX8_send_9 : decode cX8_send 9 = .ok (.invokestatic 111, 3) := by decide +kernel
theorem dX8_send_12 : decode cX8_send 12 = .ok (.ifCond .ne 10, 3) := by decide +kernel
theorem dX8_send_15 : decode cX8_send 15 = .ok (.aload_n 0, 1) := by decide +kernel
theorem dX8_send_16 : decode cX8_send 16 = .ok (.bipush (-2), 2) := by decide +kernel
theorem dX8_send_18 : decode cX8_send 18 = .ok (.invokevirtual 52, 3) := by decide +kernel
theorem dX8_send_21 : decode cX8_send 21 = .ok (.ireturn, 1) := by decide +kernel
theorem dX8_send_22 : decode cX8_send 22 = .ok (.aload_n 0, 1) := by decide +kernel
theorem dX8_send_23 : decode cX8_send 23 = .ok (.getfield 8, 3) := by decide +kernel
theorem dX8_send_26 : decode cX8_send 26 = .ok (.bipush 11, 2) := by decide +kernel
theorem dX8_send_28 : decode cX8_send 28 = .ok (.aload_n 0, 1) := by decide +kernel
theorem dX8_send_29 : decode cX8_send 29 = .ok (.getfield 8, 3) := by decide +kernel
theorem dX8_send_32 : decode cX8_send 32 = .ok (.bipush 17, 2) := by decide +kernel
theorem dX8_send_34 : decode cX8_send 34 = .ok (.iload_n 1, 1) := by decide +kernel
theorem dX8_send_35 : decode cX8_send 35 = .ok (.iadd, 1) := by decide +kernel
theorem dX8_send_36 : decode cX8_send 36 = .ok (.iaload, 1) := by decide +kernel
theorem dX8_send_37 : decode cX8_send 37 = .ok (.iadd, 1) := by decide +kernel
theorem dX8_send_38 : decode cX8_send 38 = .ok (.iaload, 1) := by decide +kernel
theorem dX8_send_39 : decode cX8_send 39 = .ok (.istore_n 3, 1) := by decide +kernel
theorem dX8_send_40 : decode cX8_send 40 = .ok (.iload_n 3, 1) := by decide +kernel
theorem dX8_send_41 : decode cX8_send 41 = .ok (.ifCond .ge 10, 3) := by decide +kernel
theorem dX8_send_44 : decode cX8_send 44 = .ok (.aload_n 0, 1) := by decide +kernel
theorem dX8_send_45 : decode cX8_send 45 = .ok (.bipush (-3), 2) := by decide +kernel
theorem dX8_send_47 : decode cX8_send 47 = .ok (.invokevirtual 52, 3) := by decide +kernel
theorem dX8_send_50 : decode cX8_send 50 = .ok (.ireturn, 1) := by decide +kernel
theorem dX8_send_51 : decode cX8_send 51 = .ok (.aload_n 0, 1) := by decide +kernel
theorem dX8_send_52 : decode cX8_send 52 = .ok (.iload_n 2, 1) := by decide +kernel
theorem dX8_send_53 : decode cX8_send 53 = .ok (.iload_n 1, 1) := by decide +kernel
theorem dX8_send_54 : decode cX8_send 54 = .ok (.invokevirtual 114, 3) := by decide +kernel
theorem dX8_send_57 : decode cX8_send 57 = .ok (.ifCond .eq 10, 3) := by decide +kernel
theorem dX8_send_60 : decode cX8_send 60 = .ok (.aload_n 0, 1) := by decide +kernel
theorem dX8_send_61 : decode cX8_send 61 = .ok (.bipush (-4), 2) := by decide +kernel
theorem dX8_send_63 : decode cX8_send 63 = .ok (.invokevirtual 52, 3) := by decide +kernel
theorem dX8_send_66 : decode cX8_send 66 = .ok (.ireturn, 1) := by decide +kernel
theorem dX8_send_67 : decode cX8_send 67 = .ok (.aload_n 0, 1) := by decide +kernel
theorem dX8_send_68 : decode cX8_send 68 = .ok (.invokevirtual 56, 3) := by decide +kernel
theorem dX8_send_71 : decode cX8_send 71 = .ok (.aload_n 0, 1) := by decide +kernel
theorem dX8_send_72 : decode cX8_send 72 = .ok (.iload_n 2, 1) := by decide +kernel
theorem dX8_send_73 : decode cX8_send 73 = .ok (.iload_n 1, 1) := by decide +kernel
theorem dX8_send_74 : decode cX8_send 74 = .ok (.bipush 100, 2) := by decide +kernel
theorem dX8_send_76 : decode cX8_send 76 = .ok (.iload_n 3, 1) := by decide +kernel
theorem dX8_send_77 : decode cX8_send 77 = .ok (.imul, 1) := by decide +kernel
theorem dX8_send_78 : decode cX8_send 78 = .ok (.invokevirtual 117, 3) := by decide +kernel
theorem dX8_send_81 : decode cX8_send 81 = .ok (.aload_n 0, 1) := by decide +kernel
theorem dX8_send_82 : decode cX8_send 82 = .ok (.iconst 0, 1) := by decide +kernel
theorem dX8_send_83 : decode cX8_send 83 = .ok (.bipush 6, 2) := by decide +kernel
theorem dX8_send_85 : decode cX8_send 85 = .ok (.iload_n 1, 1) := by decide +kernel
theorem dX8_send_86 : decode cX8_send 86 = .ok (.iadd, 1) := by decide +kernel
theorem dX8_send_87 : decode cX8_send 87 = .ok (.bipush 100, 2) := by decide +kernel
theorem dX8_send_89 : decode cX8_send 89 = .ok (.iload_n 3, 1) := by decide +kernel
theorem dX8_send_90 : decode cX8_send 90 = .ok (.imul, 1) := by decide +kernel
theorem dX8_send_91 : decode cX8_send 91 = .ok (.iconst 1, 1) := by decide +kernel
theorem dX8_send_92 : decode cX8_send 92 = .ok (.invokevirtual 121, 3) := by decide +kernel
theorem dX8_send_95 : decode cX8_send 95 = .ok (.bipush 100, 2) := by decide +kernel
theorem dX8_send_97 : decode cX8_send 97 = .ok (.iload_n 3, 1) := by decide +kernel
theorem dX8_send_98 : decode cX8_send 98 = .ok (.imul, 1) := by decide +kernel
theorem dX8_send_99 : decode cX8_send 99 = .ok (.ireturn, 1) := by decide +kernel
theorem dX8_advance_0 : decode cX8_advance 0 = .ok (.aload_n 0, 1) := by decide +kernel
theorem dX8_advance_1 : decode cX8_advance 1 = .ok (.iload_n 1, 1) := by decide +kernel
theorem dX8_advance_2 : decode cX8_advance 2 = .ok (.invokevirtual 71, 3) := by decide +kernel
theorem dX8_advance_5 : decode cX8_advance 5 = .ok (.ifCond .ne 10, 3) := by decide +kernel
theorem dX8_advance_8 : decode cX8_advance 8 = .ok (.aload_n 0, 1) := by decide +kernel
theorem dX8_advance_9 : decode cX8_advance 9 = .ok (.bipush (-2), 2) := by decide +kernel
theorem dX8_advance_11 : decode cX8_advance 11 = .ok (.invokevirtual 52, 3) := by decide +kernel
theorem dX8_advance_14 : decode cX8_advance 14 = .ok (.ireturn, 1) := by decide +kernel
theorem dX8_advance_15 : decode cX8_advance 15 = .ok (.aload_n 0, 1) := by decide +kernel
theorem dX8_advance_16 : decode cX8_advance 16 = .ok (.getfield 8, 3) := by decide +kernel
theorem dX8_advance_19 : decode cX8_advance 19 = .ok (.bipush 11, 2) := by decide +kernel
theorem dX8_advance_21 : decode cX8_advance 21 = .ok (.iload_n 1, 1) := by decide +kernel
theorem dX8_advance_22 : decode cX8_advance 22 = .ok (.iadd, 1) := by decide +kernel
theorem dX8_advance_23 : decode cX8_advance 23 = .ok (.iaload, 1) := by decide +kernel
theorem dX8_advance_24 : decode cX8_advance 24 = .ok (.istore_n 2, 1) := by decide +kernel
theorem dX8_advance_25 : decode cX8_advance 25 = .ok (.iload_n 2, 1) := by decide +kernel
theorem dX8_advance_26 : decode cX8_advance 26 = .ok (.ifCond .lt 9, 3) := by decide +kernel
theorem dX8_advance_29 : decode cX8_advance 29 = .ok (.iload_n 2, 1) := by decide +kernel
theorem dX8_advance_30 : decode cX8_advance 30 = .ok (.bipush 9, 2) := by decide +kernel
theorem dX8_advance_32 : decode cX8_advance 32 = .ok (.if_icmp .ne 10, 3) := by decide +kernel
theorem dX8_advance_35 : decode cX8_advance 35 = .ok (.aload_n 0, 1) := by decide +kernel
theorem dX8_advance_36 : decode cX8_advance 36 = .ok (.bipush (-3), 2) := by decide +kernel
theorem dX8_advance_38 : decode cX8_advance 38 = .ok (.invokevirtual 52, 3) := by decide +kernel
theorem dX8_advance_41 : decode cX8_advance 41 = .ok (.ireturn, 1) := by decide +kernel
theorem dX8_advance_42 : decode cX8_advance 42 = .ok (.aload_n 0, 1) := by decide +kernel
theorem dX8_advance_43 : decode cX8_advance 43 = .ok (.invokevirtual 56, 3) := by decide +kernel
theorem dX8_advance_46 : decode cX8_advance 46 = .ok (.aload_n 0, 1) := by decide +kernel
theorem dX8_advance_47 : decode cX8_advance 47 = .ok (.getfield 8, 3) := by decide +kernel
theorem dX8_advance_50 : decode cX8_advance 50 = .ok (.bipush 11, 2) := by decide +kernel
theorem dX8_advance_52 : decode cX8_advance 52 = .ok (.iload_n 1, 1) := by decide +kernel
theorem dX8_advance_53 : decode cX8_advance 53 = .ok (.iadd, 1) := by decide +kernel
theorem dX8_advance_54 : decode cX8_advance 54 = .ok (.iload_n 2, 1) := by decide +kernel
theorem dX8_advance_55 : decode cX8_advance 55 = .ok (.iconst 1, 1) := by decide +kernel
theorem dX8_advance_56 : decode cX8_advance 56 = .ok (.iadd, 1) := by decide +kernel
theorem dX8_advance_57 : decode cX8_advance 57 = .ok (.iastore, 1) := by decide +kernel
theorem dX8_advance_58 : decode cX8_advance 58 = .ok (.aload_n 0, 1) := by decide +kernel
theorem dX8_advance_59 : decode cX8_advance 59 = .ok (.iconst 0, 1) := by decide +kernel
theorem dX8_advance_60 : decode cX8_advance 60 = .ok (.iload_n 1, 1) := by decide +kernel
theorem dX8_advance_61 : decode cX8_advance 61 = .ok (.bipush 100, 2) := by decide +kernel
theorem dX8_advance_63 : decode cX8_advance 63 = .ok (.iload_n 2, 1) := by decide +kernel
theorem dX8_advance_64 : decode cX8_advance 64 = .ok (.iconst 1, 1) := by decide +kernel
theorem dX8_advance_65 : decode cX8_advance 65 = .ok (.iadd, 1) := by decide +kernel
theorem dX8_advance_66 : decode cX8_advance 66 = .ok (.imul, 1) := by decide +kernel
theorem dX8_advance_67 : decode cX8_advance 67 = .ok (.iconst 1, 1) := by decide +kernel
theorem dX8_advance_68 : decode cX8_advance 68 = .ok (.invokevirtual 121, 3) := by decide +kernel
theorem dX8_advance_71 : decode cX8_advance 71 = .ok (.aload_n 0, 1) := by decide +kernel
theorem dX8_advance_72 : decode cX8_advance 72 = .ok (.iconst 0, 1) := by decide +kernel
theorem dX8_advance_73 : decode cX8_advance 73 = .ok (.iload_n 1, 1) := by decide +kernel
theorem dX8_advance_74 : decode cX8_advance 74 = .ok (.bipush 100, 2) := by decide +kernel
theorem dX8_advance_76 : decode cX8_advance 76 = .ok (.iload_n 2, 1) := by decide +kernel
theorem dX8_advance_77 : decode cX8_advance 77 = .ok (.imul, 1) := by decide +kernel
theorem dX8_advance_78 : decode cX8_advance 78 = .ok (.iconst (-1), 1) := by decide +kernel
theorem dX8_advance_79 : decode cX8_advance 79 = .ok (.invokevirtual 121, 3) := by decide +kernel
theorem dX8_advance_82 : decode cX8_advance 82 = .ok (.iload_n 2, 1) := by decide +kernel
theorem dX8_advance_83 : decode cX8_advance 83 = .ok (.iconst 1, 1) := by decide +kernel
theorem dX8_advance_84 : decode cX8_advance 84 = .ok (.iadd, 1) := by decide +kernel
theorem dX8_advance_85 : decode cX8_advance 85 = .ok (.ireturn, 1) := by decide +kernel
theorem dX8_close_0 : decode cX8_close 0 = .ok (.aload_n 0, 1) := by decide +kernel
theorem dX8_close_1 : decode cX8_close 1 = .ok (.iload_n 1, 1) := by decide +kernel
theorem dX8_close_2 : decode cX8_close 2 = .ok (.invokevirtual 71, 3) := by decide +kernel
theorem dX8_close_5 : decode cX8_close 5 = .ok (.ifCond .ne 10, 3) := by decide +kernel
theorem dX8_close_8 : decode cX8_close 8 = .ok (.aload_n 0, 1) := by decide +kernel
theorem dX8_close_9 : decode cX8_close 9 = .ok (.bipush (-2), 2) := by decide +kernel
theorem dX8_close_11 : decode cX8_close 11 = .ok (.invokevirtual 52, 3) := by decide +kernel
theorem dX8_close_14 : decode cX8_close 14 = .ok (.ireturn, 1) := by decide +kernel
theorem dX8_close_15 : decode cX8_close 15 = .ok (.aload_n 0, 1) := by decide +kernel
theorem dX8_close_16 : decode cX8_close 16 = .ok (.getfield 8, 3) := by decide +kernel
theorem dX8_close_19 : decode cX8_close 19 = .ok (.bipush 11, 2) := by decide +kernel
theorem dX8_close_21 : decode cX8_close 21 = .ok (.iload_n 1, 1) := by decide +kernel
theorem dX8_close_22 : decode cX8_close 22 = .ok (.iadd, 1) := by decide +kernel
theorem dX8_close_23 : decode cX8_close 23 = .ok (.iaload, 1) := by decide +kernel
theorem dX8_close_24 : decode cX8_close 24 = .ok (.istore_n 2, 1) := by decide +kernel
theorem dX8_close_25 : decode cX8_close 25 = .ok (.iload_n 2, 1) := by decide +kernel
theorem dX8_close_26 : decode cX8_close 26 = .ok (.ifCond .ge 10, 3) := by decide +kernel
theorem dX8_close_29 : decode cX8_close 29 = .ok (.aload_n 0, 1) := by decide +kernel
theorem dX8_close_30 : decode cX8_close 30 = .ok (.bipush (-3), 2) := by decide +kernel
theorem dX8_close_32 : decode cX8_close 32 = .ok (.invokevirtual 52, 3) := by decide +kernel
theorem dX8_close_35 : decode cX8_close 35 = .ok (.ireturn, 1) := by decide +kernel
theorem dX8_close_36 : decode cX8_close 36 = .ok (.aload_n 0, 1) := by decide +kernel
theorem dX8_close_37 : decode cX8_close 37 = .ok (.invokevirtual 56, 3) := by decide +kernel
theorem dX8_close_40 : decode cX8_close 40 = .ok (.aload_n 0, 1) := by decide +kernel
theorem dX8_close_41 : decode cX8_close 41 = .ok (.getfield 8, 3) := by decide +kernel
theorem dX8_close_44 : decode cX8_close 44 = .ok (.bipush 11, 2) := by decide +kernel
theorem dX8_close_46 : decode cX8_close 46 = .ok (.iload_n 1, 1) := by decide +kernel
theorem dX8_close_47 : decode cX8_close 47 = .ok (.iadd, 1) := by decide +kernel
theorem dX8_close_48 : decode cX8_close 48 = .ok (.bipush (-2), 2) := by decide +kernel
theorem dX8_close_50 : decode cX8_close 50 = .ok (.iastore, 1) := by decide +kernel
theorem dX8_close_51 : decode cX8_close 51 = .ok (.aload_n 0, 1) := by decide +kernel
theorem dX8_close_52 : decode cX8_close 52 = .ok (.iconst 0, 1) := by decide +kernel
theorem dX8_close_53 : decode cX8_close 53 = .ok (.iload_n 1, 1) := by decide +kernel
theorem dX8_close_54 : decode cX8_close 54 = .ok (.bipush 100, 2) := by decide +kernel
theorem dX8_close_56 : decode cX8_close 56 = .ok (.iload_n 2, 1) := by decide +kernel
theorem dX8_close_57 : decode cX8_close 57 = .ok (.imul, 1) := by decide +kernel
theorem dX8_close_58 : decode cX8_close 58 = .ok (.iconst (-1), 1) := by decide +kernel
theorem dX8_close_59 : decode cX8_close 59 = .ok (.invokevirtual 121, 3) := by decide +kernel
theorem dX8_close_62 : decode cX8_close 62 = .ok (.iload_n 2, 1) := by decide +kernel
theorem dX8_close_63 : decode cX8_close 63 = .ok (.ireturn, 1) := by decide +kernel
theorem dX8_areEdges_0 : decode cX8_areEdges 0 = .ok (.iload_n 1, 1) := by decide +kernel
theorem dX8_areEdges_1 : decode cX8_areEdges 1 = .ok (.iconst 0, 1) := by decide +kernel
theorem dX8_areEdges_2 : decode cX8_areEdges 2 = .ok (.iconst 1, 1) := by decide +kernel
theorem dX8_areEdges_3 : decode cX8_areEdges 3 = .ok (.aload_n 0, 1) := by decide +kernel
theorem dX8_areEdges_4 : decode cX8_areEdges 4 = .ok (.getfield 8, 3) := by decide +kernel
theorem dX8_areEdges_7 : decode cX8_areEdges 7 = .ok (.iconst 1, 1) := by decide +kernel
theorem dX8_areEdges_8 : decode cX8_areEdges 8 = .ok (.iaload, 1) := by decide +kernel
theorem dX8_areEdges_9 : decode cX8_areEdges 9 = .ok (.ishl, 1) := by decide +kernel
theorem dX8_areEdges_10 : decode cX8_areEdges 10 = .ok (.iconst 1, 1) := by decide +kernel
theorem dX8_areEdges_11 : decode cX8_areEdges 11 = .ok (.isub, 1) := by decide +kernel
theorem dX8_areEdges_12 : decode cX8_areEdges 12 = .ok (.invokestatic 43, 3) := by decide +kernel
theorem dX8_areEdges_15 : decode cX8_areEdges 15 = .ok (.ireturn, 1) := by decide +kernel
theorem dX8_has_0 : decode cX8_has 0 = .ok (.iload_n 0, 1) := by decide +kernel
theorem dX8_has_1 : decode cX8_has 1 = .ok (.iload_n 1, 1) := by decide +kernel
theorem dX8_has_2 : decode cX8_has 2 = .ok (.ishr, 1) := by decide +kernel
theorem dX8_has_3 : decode cX8_has 3 = .ok (.iconst 1, 1) := by decide +kernel
theorem dX8_has_4 : decode cX8_has 4 = .ok (.iand, 1) := by decide +kernel
theorem dX8_has_5 : decode cX8_has 5 = .ok (.iconst 1, 1) := by decide +kernel
theorem dX8_has_6 : decode cX8_has 6 = .ok (.if_icmp .ne 7, 3) := by decide +kernel
theorem dX8_has_9 : decode cX8_has 9 = .ok (.iconst 1, 1) := by decide +kernel
theorem dX8_has_10 : decode cX8_has 10 = .ok (.goto 4, 3) := by decide +kernel
theorem dX8_has_13 : decode cX8_has 13 = .ok (.iconst 0, 1) := by decide +kernel
theorem dX8_has_14 : decode cX8_has 14 = .ok (.ireturn, 1) := by decide +kernel
theorem dX8_startAt_0 : decode cX8_startAt 0 = .ok (.iconst 1, 1) := by decide +kernel
theorem dX8_startAt_1 : decode cX8_startAt 1 = .ok (.istore_n 3, 1) := by decide +kernel
theorem dX8_startAt_2 : decode cX8_startAt 2 = .ok (.iconst 0, 1) := by decide +kernel
theorem dX8_startAt_3 : decode cX8_startAt 3 = .ok (.istore 4, 2) := by decide +kernel
theorem dX8_startAt_5 : decode cX8_startAt 5 = .ok (.iload 4, 2) := by decide +kernel
theorem dX8_startAt_7 : decode cX8_startAt 7 = .ok (.aload_n 0, 1) := by decide +kernel
theorem dX8_startAt_8 : decode cX8_startAt 8 = .ok (.getfield 8, 3) := by decide +kernel
theorem dX8_startAt_11 : decode cX8_startAt 11 = .ok (.iconst 1, 1) := by decide +kernel
theorem dX8_startAt_12 : decode cX8_startAt 12 = .ok (.iaload, 1) := by decide +kernel
theorem dX8_startAt_13 : decode cX8_startAt 13 = .ok (.if_icmp .ge 42, 3) := by decide +kernel
theorem dX8_startAt_16 : decode cX8_startAt 16 = .ok (.iload_n 3, 1) := by decide +kernel
theorem dX8_startAt_17 : decode cX8_startAt 17 = .ok (.ifCond .eq 30, 3) := by decide +kernel
theorem dX8_startAt_20 : decode cX8_startAt 20 = .ok (.iload_n 1, 1) := by decide +kernel
theorem dX8_startAt_21 : decode cX8_startAt 21 = .ok (.iload 4, 2) := by decide +kernel
theorem dX8_startAt_23 : decode cX8_startAt 23 = .ok (.invokestatic 125, 3) := by decide +kernel
theorem dX8_startAt_26 : decode cX8_startAt 26 = .ok (.ifCond .eq 17, 3) := by decide +kernel
theorem dX8_startAt_29 : decode cX8_startAt 29 = .ok (.aload_n 0, 1) := by decide +kernel
theorem dX8_startAt_30 : decode cX8_startAt 30 = .ok (.getfield 8, 3) := by decide +kernel
theorem dX8_startAt_33 : decode cX8_startAt 33 = .ok (.bipush 17, 2) := by decide +kernel
theorem dX8_startAt_35 : decode cX8_startAt 35 = .ok (.iload 4, 2) := by decide +kernel
theorem dX8_startAt_37 : decode cX8_startAt 37 = .ok (.iadd, 1) := by decide +kernel
theorem dX8_startAt_38 : decode cX8_startAt 38 = .ok (.iaload, 1) := by decide +kernel
theorem dX8_startAt_39 : decode cX8_startAt 39 = .ok (.iload_n 2, 1) := by decide +kernel
theorem dX8_startAt_40 : decode cX8_startAt 40 = .ok (.if_icmp .ne 7, 3) := by decide +kernel
theorem dX8_startAt_43 : decode cX8_startAt 43 = .ok (.iconst 1, 1) := by decide +kernel
theorem dX8_startAt_44 : decode cX8_startAt 44 = .ok (.goto 4, 3) := by decide +kernel
theorem dX8_startAt_47 : decode cX8_startAt 47 = .ok (.iconst 0, 1) := by decide +kernel
theorem dX8_startAt_48 : decode cX8_startAt 48 = .ok (.istore_n 3, 1) := by decide +kernel
theorem dX8_startAt_49 : decode cX8_startAt 49 = .ok (.iinc 4 1, 3) := by decide +kernel
theorem dX8_startAt_52 : decode cX8_startAt 52 = .ok (.goto (-47), 3) := by decide +kernel
theorem dX8_startAt_55 : decode cX8_startAt 55 = .ok (.iload_n 3, 1) := by decide +kernel
theorem dX8_startAt_56 : decode cX8_startAt 56 = .ok (.ireturn, 1) := by decide +kernel
theorem dX8_isOneFull_0 : decode cX8_isOneFull 0 = .ok (.iconst 0, 1) := by decide +kernel
theorem dX8_isOneFull_1 : decode cX8_isOneFull 1 = .ok (.istore_n 3, 1) := by decide +kernel
theorem dX8_isOneFull_2 : decode cX8_isOneFull 2 = .ok (.iconst 0, 1) := by decide +kernel
theorem dX8_isOneFull_3 : decode cX8_isOneFull 3 = .ok (.istore 4, 2) := by decide +kernel
theorem dX8_isOneFull_5 : decode cX8_isOneFull 5 = .ok (.iload 4, 2) := by decide +kernel
theorem dX8_isOneFull_7 : decode cX8_isOneFull 7 = .ok (.aload_n 0, 1) := by decide +kernel
theorem dX8_isOneFull_8 : decode cX8_isOneFull 8 = .ok (.getfield 8, 3) := by decide +kernel
theorem dX8_isOneFull_11 : decode cX8_isOneFull 11 = .ok (.iconst 1, 1) := by decide +kernel
theorem dX8_isOneFull_12 : decode cX8_isOneFull 12 = .ok (.iaload, 1) := by decide +kernel
theorem dX8_isOneFull_13 : decode cX8_isOneFull 13 = .ok (.if_icmp .ge 38, 3) := by decide +kernel
theorem dX8_isOneFull_16 : decode cX8_isOneFull 16 = .ok (.iload_n 3, 1) := by decide +kernel
theorem dX8_isOneFull_17 : decode cX8_isOneFull 17 = .ok (.ifCond .ne 22, 3) := by decide +kernel
theorem dX8_isOneFull_20 : decode cX8_isOneFull 20 = .ok (.iload_n 1, 1) := by decide +kernel
theorem dX8_isOneFull_21 : decode cX8_isOneFull 21 = .ok (.iload 4, 2) := by decide +kernel
theorem dX8_isOneFull_23 : decode cX8_isOneFull 23 = .ok (.invokestatic 125, 3) := by decide +kernel
theorem dX8_isOneFull_26 : decode cX8_isOneFull 26 = .ok (.ifCond .eq 17, 3) := by decide +kernel
theorem dX8_isOneFull_29 : decode cX8_isOneFull 29 = .ok (.aload_n 0, 1) := by decide +kernel
theorem dX8_isOneFull_30 : decode cX8_isOneFull 30 = .ok (.iload_n 2, 1) := by decide +kernel
theorem dX8_isOneFull_31 : decode cX8_isOneFull 31 = .ok (.iload 4, 2) := by decide +kernel
theorem dX8_isOneFull_33 : decode cX8_isOneFull 33 = .ok (.invokevirtual 114, 3) := by decide +kernel
theorem dX8_isOneFull_36 : decode cX8_isOneFull 36 = .ok (.ifCond .eq 7, 3) := by decide +kernel
theorem dX8_isOneFull_39 : decode cX8_isOneFull 39 = .ok (.iconst 1, 1) := by decide +kernel
theorem dX8_isOneFull_40 : decode cX8_isOneFull 40 = .ok (.goto 4, 3) := by decide +kernel
theorem dX8_isOneFull_43 : decode cX8_isOneFull 43 = .ok (.iconst 0, 1) := by decide +kernel
theorem dX8_isOneFull_44 : decode cX8_isOneFull 44 = .ok (.istore_n 3, 1) := by decide +kernel
theorem dX8_isOneFull_45 : decode cX8_isOneFull 45 = .ok (.iinc 4 1, 3) := by decide +kernel
theorem dX8_isOneFull_48 : decode cX8_isOneFull 48 = .ok (.goto (-43), 3) := by decide +kernel
theorem dX8_isOneFull_51 : decode cX8_isOneFull 51 = .ok (.iload_n 3, 1) := by decide +kernel
theorem dX8_isOneFull_52 : decode cX8_isOneFull 52 = .ok (.ireturn, 1) := by decide +kernel
theorem dX8_putsAll_0 : decode cX8_putsAll 0 = .ok (.iconst 0, 1) := by decide +kernel
theorem dX8_putsAll_1 : decode cX8_putsAll 1 = .ok (.istore 5, 2) := by decide +kernel
theorem dX8_putsAll_3 : decode cX8_putsAll 3 = .ok (.iload 5, 2) := by decide +kernel
theorem dX8_putsAll_5 : decode cX8_putsAll 5 = .ok (.aload_n 0, 1) := by decide +kernel
theorem dX8_putsAll_6 : decode cX8_putsAll 6 = .ok (.getfield 8, 3) := by decide +kernel
theorem dX8_putsAll_9 : decode cX8_putsAll 9 = .ok (.iconst 1, 1) := by decide +kernel
theorem dX8_putsAll_10 : decode cX8_putsAll 10 = .ok (.iaload, 1) := by decide +kernel
theorem dX8_putsAll_11 : decode cX8_putsAll 11 = .ok (.if_icmp .ge 40, 3) := by decide +kernel
theorem dX8_putsAll_14 : decode cX8_putsAll 14 = .ok (.iload_n 2, 1) := by decide +kernel
theorem dX8_putsAll_15 : decode cX8_putsAll 15 = .ok (.iload 5, 2) := by decide +kernel
theorem dX8_putsAll_17 : decode cX8_putsAll 17 = .ok (.invokestatic 125, 3) := by decide +kernel
theorem dX8_putsAll_20 : decode cX8_putsAll 20 = .ok (.ifCond .eq 25, 3) := by decide +kernel
theorem dX8_putsAll_23 : decode cX8_putsAll 23 = .ok (.aload_n 0, 1) := by decide +kernel
theorem dX8_putsAll_24 : decode cX8_putsAll 24 = .ok (.iload_n 3, 1) := by decide +kernel
theorem dX8_putsAll_25 : decode cX8_putsAll 25 = .ok (.iload 5, 2) := by decide +kernel
theorem dX8_putsAll_27 : decode cX8_putsAll 27 = .ok (.iload 4, 2) := by decide +kernel
theorem dX8_putsAll_29 : decode cX8_putsAll 29 = .ok (.invokevirtual 117, 3) := by decide +kernel
theorem dX8_putsAll_32 : decode cX8_putsAll 32 = .ok (.aload_n 0, 1) := by decide +kernel
theorem dX8_putsAll_33 : decode cX8_putsAll 33 = .ok (.iload_n 1, 1) := by decide +kernel
theorem dX8_putsAll_34 : decode cX8_putsAll 34 = .ok (.bipush 6, 2) := by decide +kernel
theorem dX8_putsAll_36 : decode cX8_putsAll 36 = .ok (.iload 5, 2) := by decide +kernel
theorem dX8_putsAll_38 : decode cX8_putsAll 38 = .ok (.iadd, 1) := by decide +kernel
theorem dX8_putsAll_39 : decode cX8_putsAll 39 = .ok (.iload 4, 2) := by decide +kernel
theorem dX8_putsAll_41 : decode cX8_putsAll 41 = .ok (.iconst 1, 1) := by decide +kernel
theorem dX8_putsAll_42 : decode cX8_putsAll 42 = .ok (.invokevirtual 121, 3) := by decide +kernel
theorem dX8_putsAll_45 : decode cX8_putsAll 45 = .ok (.iinc 5 1, 3) := by decide +kernel
theorem dX8_putsAll_48 : decode cX8_putsAll 48 = .ok (.goto (-45), 3) := by decide +kernel
theorem dX8_putsAll_51 : decode cX8_putsAll 51 = .ok (.return_, 1) := by decide +kernel
theorem dX8_takes_0 : decode cX8_takes 0 = .ok (.aload_n 0, 1) := by decide +kernel
theorem dX8_takes_1 : decode cX8_takes 1 = .ok (.getfield 8, 3) := by decide +kernel
theorem dX8_takes_4 : decode cX8_takes 4 = .ok (.bipush 67, 2) := by decide +kernel
theorem dX8_takes_6 : decode cX8_takes 6 = .ok (.bipush 12, 2) := by decide +kernel
theorem dX8_takes_8 : decode cX8_takes 8 = .ok (.iload_n 1, 1) := by decide +kernel
theorem dX8_takes_9 : decode cX8_takes 9 = .ok (.imul, 1) := by decide +kernel
theorem dX8_takes_10 : decode cX8_takes 10 = .ok (.iadd, 1) := by decide +kernel
theorem dX8_takes_11 : decode cX8_takes 11 = .ok (.iaload, 1) := by decide +kernel
theorem dX8_takes_12 : decode cX8_takes 12 = .ok (.istore_n 2, 1) := by decide +kernel
theorem dX8_takes_13 : decode cX8_takes 13 = .ok (.aload_n 0, 1) := by decide +kernel
theorem dX8_takes_14 : decode cX8_takes 14 = .ok (.getfield 8, 3) := by decide +kernel
theorem dX8_takes_17 : decode cX8_takes 17 = .ok (.bipush 47, 2) := by decide +kernel
theorem dX8_takes_19 : decode cX8_takes 19 = .ok (.iload_n 1, 1) := by decide +kernel
theorem dX8_takes_20 : decode cX8_takes 20 = .ok (.iadd, 1) := by decide +kernel
theorem dX8_takes_21 : decode cX8_takes 21 = .ok (.dup2, 1) := by decide +kernel
theorem dX8_takes_22 : decode cX8_takes 22 = .ok (.iaload, 1) := by decide +kernel
theorem dX8_takes_23 : decode cX8_takes 23 = .ok (.iconst 1, 1) := by decide +kernel
theorem dX8_takes_24 : decode cX8_takes 24 = .ok (.isub, 1) := by decide +kernel
theorem dX8_takes_25 : decode cX8_takes 25 = .ok (.iastore, 1) := by decide +kernel
theorem dX8_takes_26 : decode cX8_takes 26 = .ok (.iconst 0, 1) := by decide +kernel
theorem dX8_takes_27 : decode cX8_takes 27 = .ok (.istore_n 3, 1) := by decide +kernel
theorem dX8_takes_28 : decode cX8_takes 28 = .ok (.iload_n 3, 1) := by decide +kernel
theorem dX8_takes_29 : decode cX8_takes 29 = .ok (.aload_n 0, 1) := by decide +kernel
theorem dX8_takes_30 : decode cX8_takes 30 = .ok (.getfield 8, 3) := by decide +kernel
theorem dX8_takes_33 : decode cX8_takes 33 = .ok (.bipush 47, 2) := by decide +kernel
theorem dX8_takes_35 : decode cX8_takes 35 = .ok (.iload_n 1, 1) := by decide +kernel
theorem dX8_takes_36 : decode cX8_takes 36 = .ok (.iadd, 1) := by decide +kernel
theorem dX8_takes_37 : decode cX8_takes 37 = .ok (.iaload, 1) := by decide +kernel
theorem dX8_takes_38 : decode cX8_takes 38 = .ok (.if_icmp .ge 39, 3) := by decide +kernel
theorem dX8_takes_41 : decode cX8_takes 41 = .ok (.aload_n 0, 1) := by decide +kernel
theorem dX8_takes_42 : decode cX8_takes 42 = .ok (.getfield 8, 3) := by decide +kernel
theorem dX8_takes_45 : decode cX8_takes 45 = .ok (.bipush 67, 2) := by decide +kernel
theorem dX8_takes_47 : decode cX8_takes 47 = .ok (.bipush 12, 2) := by decide +kernel
theorem dX8_takes_49 : decode cX8_takes 49 = .ok (.iload_n 1, 1) := by decide +kernel
theorem dX8_takes_50 : decode cX8_takes 50 = .ok (.imul, 1) := by decide +kernel
theorem dX8_takes_51 : decode cX8_takes 51 = .ok (.iadd, 1) := by decide +kernel
theorem dX8_takes_52 : decode cX8_takes 52 = .ok (.iload_n 3, 1) := by decide +kernel
theorem dX8_takes_53 : decode cX8_takes 53 = .ok (.iadd, 1) := by decide +kernel
theorem dX8_takes_54 : decode cX8_takes 54 = .ok (.aload_n 0, 1) := by decide +kernel
theorem dX8_takes_55 : decode cX8_takes 55 = .ok (.getfield 8, 3) := by decide +kernel
theorem dX8_takes_58 : decode cX8_takes 58 = .ok (.bipush 67, 2) := by decide +kernel
theorem dX8_takes_60 : decode cX8_takes 60 = .ok (.bipush 12, 2) := by decide +kernel
theorem dX8_takes_62 : decode cX8_takes 62 = .ok (.iload_n 1, 1) := by decide +kernel
theorem dX8_takes_63 : decode cX8_takes 63 = .ok (.imul, 1) := by decide +kernel
theorem dX8_takes_64 : decode cX8_takes 64 = .ok (.iadd, 1) := by decide +kernel
theorem dX8_takes_65 : decode cX8_takes 65 = .ok (.iload_n 3, 1) := by decide +kernel
theorem dX8_takes_66 : decode cX8_takes 66 = .ok (.iadd, 1) := by decide +kernel
theorem dX8_takes_67 : decode cX8_takes 67 = .ok (.iconst 1, 1) := by decide +kernel
theorem dX8_takes_68 : decode cX8_takes 68 = .ok (.iadd, 1) := by decide +kernel
theorem dX8_takes_69 : decode cX8_takes 69 = .ok (.iaload, 1) := by decide +kernel
theorem dX8_takes_70 : decode cX8_takes 70 = .ok (.iastore, 1) := by decide +kernel
theorem dX8_takes_71 : decode cX8_takes 71 = .ok (.iinc 3 1, 3) := by decide +kernel
theorem dX8_takes_74 : decode cX8_takes 74 = .ok (.goto (-46), 3) := by decide +kernel
theorem dX8_takes_77 : decode cX8_takes 77 = .ok (.iload_n 2, 1) := by decide +kernel
theorem dX8_takes_78 : decode cX8_takes 78 = .ok (.ireturn, 1) := by decide +kernel
theorem dX8_atMost_0 : decode cX8_atMost 0 = .ok (.iload_n 0, 1) := by decide +kernel
theorem dX8_atMost_1 : decode cX8_atMost 1 = .ok (.bipush 100, 2) := by decide +kernel
theorem dX8_atMost_3 : decode cX8_atMost 3 = .ok (.idiv, 1) := by decide +kernel
theorem dX8_atMost_4 : decode cX8_atMost 4 = .ok (.iload_n 1, 1) := by decide +kernel
theorem dX8_atMost_5 : decode cX8_atMost 5 = .ok (.bipush 100, 2) := by decide +kernel
theorem dX8_atMost_7 : decode cX8_atMost 7 = .ok (.idiv, 1) := by decide +kernel
theorem dX8_atMost_8 : decode cX8_atMost 8 = .ok (.if_icmp .gt 18, 3) := by decide +kernel
theorem dX8_atMost_11 : decode cX8_atMost 11 = .ok (.iload_n 0, 1) := by decide +kernel
theorem dX8_atMost_12 : decode cX8_atMost 12 = .ok (.bipush 100, 2) := by decide +kernel
theorem dX8_atMost_14 : decode cX8_atMost 14 = .ok (.irem, 1) := by decide +kernel
theorem dX8_atMost_15 : decode cX8_atMost 15 = .ok (.iload_n 1, 1) := by decide +kernel
theorem dX8_atMost_16 : decode cX8_atMost 16 = .ok (.bipush 100, 2) := by decide +kernel
theorem dX8_atMost_18 : decode cX8_atMost 18 = .ok (.irem, 1) := by decide +kernel
theorem dX8_atMost_19 : decode cX8_atMost 19 = .ok (.if_icmp .gt 7, 3) := by decide +kernel
theorem dX8_atMost_22 : decode cX8_atMost 22 = .ok (.iconst 1, 1) := by decide +kernel
theorem dX8_atMost_23 : decode cX8_atMost 23 = .ok (.goto 4, 3) := by decide +kernel
theorem dX8_atMost_26 : decode cX8_atMost 26 = .ok (.iconst 0, 1) := by decide +kernel
theorem dX8_atMost_27 : decode cX8_atMost 27 = .ok (.ireturn, 1) := by decide +kernel
theorem dX8_violates_0 : decode cX8_violates 0 = .ok (.iconst 0, 1) := by decide +kernel
theorem dX8_violates_1 : decode cX8_violates 1 = .ok (.istore_n 3, 1) := by decide +kernel
theorem dX8_violates_2 : decode cX8_violates 2 = .ok (.iconst 0, 1) := by decide +kernel
theorem dX8_violates_3 : decode cX8_violates 3 = .ok (.istore 4, 2) := by decide +kernel
theorem dX8_violates_5 : decode cX8_violates 5 = .ok (.iload 4, 2) := by decide +kernel
theorem dX8_violates_7 : decode cX8_violates 7 = .ok (.sipush 1000, 3) := by decide +kernel
theorem dX8_violates_10 : decode cX8_violates 10 = .ok (.if_icmp .ge 49, 3) := by decide +kernel
theorem dX8_violates_13 : decode cX8_violates 13 = .ok (.iload_n 3, 1) := by decide +kernel
theorem dX8_violates_14 : decode cX8_violates 14 = .ok (.ifCond .ne 33, 3) := by decide +kernel
theorem dX8_violates_17 : decode cX8_violates 17 = .ok (.aload_n 0, 1) := by decide +kernel
theorem dX8_violates_18 : decode cX8_violates 18 = .ok (.getfield 8, 3) := by decide +kernel
theorem dX8_violates_21 : decode cX8_violates 21 = .ok (.sipush 359, 3) := by decide +kernel
theorem dX8_violates_24 : decode cX8_violates 24 = .ok (.sipush 1000, 3) := by decide +kernel
theorem dX8_violates_27 : decode cX8_violates 27 = .ok (.iload_n 1, 1) := by decide +kernel
theorem dX8_violates_28 : decode cX8_violates 28 = .ok (.imul, 1) := by decide +kernel
theorem dX8_violates_29 : decode cX8_violates 29 = .ok (.iadd, 1) := by decide +kernel
theorem dX8_violates_30 : decode cX8_violates 30 = .ok (.iload 4, 2) := by decide +kernel
theorem dX8_violates_32 : decode cX8_violates 32 = .ok (.iadd, 1) := by decide +kernel
theorem dX8_violates_33 : decode cX8_violates 33 = .ok (.iaload, 1) := by decide +kernel
theorem dX8_violates_34 : decode cX8_violates 34 = .ok (.iconst 1, 1) := by decide +kernel
theorem dX8_violates_35 : decode cX8_violates 35 = .ok (.if_icmp .ne 16, 3) := by decide +kernel
theorem dX8_violates_38 : decode cX8_violates 38 = .ok (.iload_n 2, 1) := by decide +kernel
theorem dX8_violates_39 : decode cX8_violates 39 = .ok (.iload 4, 2) := by decide +kernel
theorem dX8_violates_41 : decode cX8_violates 41 = .ok (.invokestatic 128, 3) := by decide +kernel
theorem dX8_violates_44 : decode cX8_violates 44 = .ok (.ifCond .eq 7, 3) := by decide +kernel
theorem dX8_violates_47 : decode cX8_violates 47 = .ok (.iconst 1, 1) := by decide +kernel
theorem dX8_violates_48 : decode cX8_violates 48 = .ok (.goto 4, 3) := by decide +kernel
theorem dX8_violates_51 : decode cX8_violates 51 = .ok (.iconst 0, 1) := by decide +kernel
theorem dX8_violates_52 : decode cX8_violates 52 = .ok (.istore_n 3, 1) := by decide +kernel
theorem dX8_violates_53 : decode cX8_violates 53 = .ok (.iinc 4 1, 3) := by decide +kernel
theorem dX8_violates_56 : decode cX8_violates 56 = .ok (.goto (-51), 3) := by decide +kernel
theorem dX8_violates_59 : decode cX8_violates 59 = .ok (.iload_n 3, 1) := by decide +kernel
theorem dX8_violates_60 : decode cX8_violates 60 = .ok (.ireturn, 1) := by decide +kernel
theorem dX8_process_0 : decode cX8_process 0 = .ok (.iload_n 1, 1) := by decide +kernel
theorem dX8_process_1 : decode cX8_process 1 = .ok (.invokestatic 111, 3) := by decide +kernel
theorem dX8_process_4 : decode cX8_process 4 = .ok (.ifCond .eq 37, 3) := by decide +kernel
theorem dX8_process_7 : decode cX8_process 7 = .ok (.aload_n 0, 1) := by decide +kernel
theorem dX8_process_8 : decode cX8_process 8 = .ok (.iload_n 2, 1) := by decide +kernel
theorem dX8_process_9 : decode cX8_process 9 = .ok (.invokevirtual 77, 3) := by decide +kernel
theorem dX8_process_12 : decode cX8_process 12 = .ok (.ifCond .eq 29, 3) := by decide +kernel
theorem dX8_process_15 : decode cX8_process 15 = .ok (.iload 4, 2) := by decide +kernel
theorem dX8_process_17 : decode cX8_process 17 = .ok (.invokestatic 111, 3) := by decide +kernel
theorem dX8_process_20 : decode cX8_process 20 = .ok (.ifCond .eq 21, 3) := by decide +kernel
theorem dX8_process_23 : decode cX8_process 23 = .ok (.iload 5, 2) := by decide +kernel
theorem dX8_process_25 : decode cX8_process 25 = .ok (.iconst 0, 1) := by decide +kernel
theorem dX8_process_26 : decode cX8_process 26 = .ok (.iconst 1, 1) := by decide +kernel
theorem dX8_process_27 : decode cX8_process 27 = .ok (.invokestatic 43, 3) := by decide +kernel
theorem dX8_process_30 : decode cX8_process 30 = .ok (.ifCond .eq 11, 3) := by decide +kernel
theorem dX8_process_33 : decode cX8_process 33 = .ok (.aload_n 0, 1) := by decide +kernel
theorem dX8_process_34 : decode cX8_process 34 = .ok (.iload_n 3, 1) := by decide +kernel
theorem dX8_process_35 : decode cX8_process 35 = .ok (.invokevirtual 131, 3) := by decide +kernel
theorem dX8_process_38 : decode cX8_process 38 = .ok (.ifCond .ne 10, 3) := by decide +kernel
theorem dX8_process_41 : decode cX8_process 41 = .ok (.aload_n 0, 1) := by decide +kernel
theorem dX8_process_42 : decode cX8_process 42 = .ok (.bipush (-2), 2) := by decide +kernel
theorem dX8_process_44 : decode cX8_process 44 = .ok (.invokevirtual 52, 3) := by decide +kernel
theorem dX8_process_47 : decode cX8_process 47 = .ok (.ireturn, 1) := by decide +kernel
theorem dX8_process_48 : decode cX8_process 48 = .ok (.aload_n 0, 1) := by decide +kernel
theorem dX8_process_49 : decode cX8_process 49 = .ok (.getfield 8, 3) := by decide +kernel
theorem dX8_process_52 : decode cX8_process 52 = .ok (.bipush 27, 2) := by decide +kernel
theorem dX8_process_54 : decode cX8_process 54 = .ok (.iload_n 2, 1) := by decide +kernel
theorem dX8_process_55 : decode cX8_process 55 = .ok (.iadd, 1) := by decide +kernel
theorem dX8_process_56 : decode cX8_process 56 = .ok (.iaload, 1) := by decide +kernel
theorem dX8_process_57 : decode cX8_process 57 = .ok (.istore 6, 2) := by decide +kernel
theorem dX8_process_59 : decode cX8_process 59 = .ok (.aload_n 0, 1) := by decide +kernel
theorem dX8_process_60 : decode cX8_process 60 = .ok (.getfield 8, 3) := by decide +kernel
theorem dX8_process_63 : decode cX8_process 63 = .ok (.bipush 47, 2) := by decide +kernel
theorem dX8_process_65 : decode cX8_process 65 = .ok (.aload_n 0, 1) := by decide +kernel
theorem dX8_process_66 : decode cX8_process 66 = .ok (.iload_n 1, 1) := by decide +kernel
theorem dX8_process_67 : decode cX8_process 67 = .ok (.iload_n 2, 1) := by decide +kernel
theorem dX8_process_68 : decode cX8_process 68 = .ok (.invokevirtual 108, 3) := by decide +kernel
theorem dX8_process_71 : decode cX8_process 71 = .ok (.iadd, 1) := by decide +kernel
theorem dX8_process_72 : decode cX8_process 72 = .ok (.iaload, 1) := by decide +kernel
theorem dX8_process_73 : decode cX8_process 73 = .ok (.ifCond .eq 13, 3) := by decide +kernel
theorem dX8_process_76 : decode cX8_process 76 = .ok (.aload_n 0, 1) := by decide +kernel
theorem dX8_process_77 : decode cX8_process 77 = .ok (.iload_n 3, 1) := by decide +kernel
theorem dX8_process_78 : decode cX8_process 78 = .ok (.iload 6, 2) := by decide +kernel
theorem dX8_process_80 : decode cX8_process 80 = .ok (.invokevirtual 134, 3) := by decide +kernel
theorem dX8_process_83 : decode cX8_process 83 = .ok (.ifCond .ne 10, 3) := by decide +kernel
theorem dX8_process_86 : decode cX8_process 86 = .ok (.aload_n 0, 1) := by decide +kernel
theorem dX8_process_87 : decode cX8_process 87 = .ok (.bipush (-3), 2) := by decide +kernel
theorem dX8_process_89 : decode cX8_process 89 = .ok (.invokevirtual 52, 3) := by decide +kernel
theorem dX8_process_92 : decode cX8_process 92 = .ok (.ireturn, 1) := by decide +kernel
theorem dX8_process_93 : decode cX8_process 93 = .ok (.aload_n 0, 1) := by decide +kernel
theorem dX8_process_94 : decode cX8_process 94 = .ok (.iload_n 3, 1) := by decide +kernel
theorem dX8_process_95 : decode cX8_process 95 = .ok (.iload 4, 2) := by decide +kernel
theorem dX8_process_97 : decode cX8_process 97 = .ok (.invokevirtual 137, 3) := by decide +kernel
theorem dX8_process_100 : decode cX8_process 100 = .ok (.ifCond .ne 24, 3) := by decide +kernel
theorem dX8_process_103 : decode cX8_process 103 = .ok (.iload 5, 2) := by decide +kernel
theorem dX8_process_105 : decode cX8_process 105 = .ok (.iconst 1, 1) := by decide +kernel
theorem dX8_process_106 : decode cX8_process 106 = .ok (.if_icmp .ne 25, 3) := by decide +kernel
theorem dX8_process_109 : decode cX8_process 109 = .ok (.aload_n 0, 1) := by decide +kernel
theorem dX8_process_110 : decode cX8_process 110 = .ok (.getfield 8, 3) := by decide +kernel
theorem dX8_process_113 : decode cX8_process 113 = .ok (.sipush 307, 3) := by decide +kernel
theorem dX8_process_116 : decode cX8_process 116 = .ok (.iload_n 1, 1) := by decide +kernel
theorem dX8_process_117 : decode cX8_process 117 = .ok (.iadd, 1) := by decide +kernel
theorem dX8_process_118 : decode cX8_process 118 = .ok (.iaload, 1) := by decide +kernel
theorem dX8_process_119 : decode cX8_process 119 = .ok (.bipush 12, 2) := by decide +kernel
theorem dX8_process_121 : decode cX8_process 121 = .ok (.if_icmp .ne 10, 3) := by decide +kernel
theorem dX8_process_124 : decode cX8_process 124 = .ok (.aload_n 0, 1) := by decide +kernel
theorem dX8_process_125 : decode cX8_process 125 = .ok (.bipush (-4), 2) := by decide +kernel
theorem dX8_process_127 : decode cX8_process 127 = .ok (.invokevirtual 52, 3) := by decide +kernel
theorem dX8_process_130 : decode cX8_process 130 = .ok (.ireturn, 1) := by decide +kernel
theorem dX8_process_131 : decode cX8_process 131 = .ok (.aload_n 0, 1) := by decide +kernel
theorem dX8_process_132 : decode cX8_process 132 = .ok (.invokevirtual 56, 3) := by decide +kernel
theorem dX8_process_135 : decode cX8_process 135 = .ok (.aload_n 0, 1) := by decide +kernel
theorem dX8_process_136 : decode cX8_process 136 = .ok (.aload_n 0, 1) := by decide +kernel
theorem dX8_process_137 : decode cX8_process 137 = .ok (.iload_n 1, 1) := by decide +kernel
theorem dX8_process_138 : decode cX8_process 138 = .ok (.iload_n 2, 1) := by decide +kernel
theorem dX8_process_139 : decode cX8_process 139 = .ok (.invokevirtual 108, 3) := by decide +kernel
theorem dX8_process_142 : decode cX8_process 142 = .ok (.invokevirtual 140, 3) := by decide +kernel
theorem dX8_process_145 : decode cX8_process 145 = .ok (.istore 7, 2) := by decide +kernel
theorem dX8_process_147 : decode cX8_process 147 = .ok (.aload_n 0, 1) := by decide +kernel
theorem dX8_process_148 : decode cX8_process 148 = .ok (.iload_n 2, 1) := by decide +kernel
theorem dX8_process_149 : decode cX8_process 149 = .ok (.iload 7, 2) := by decide +kernel
theorem dX8_process_151 : decode cX8_process 151 = .ok (.invokevirtual 90, 3) := by decide +kernel
theorem dX8_process_154 : decode cX8_process 154 = .ok (.istore 8, 2) := by decide +kernel
theorem dX8_process_156 : decode cX8_process 156 = .ok (.iload 8, 2) := by decide +kernel
theorem dX8_process_158 : decode cX8_process 158 = .ok (.iconst (-1), 1) := by decide +kernel
theorem dX8_process_159 : decode cX8_process 159 = .ok (.if_icmp .eq 111, 3) := by decide +kernel
theorem dX8_process_162 : decode cX8_process 162 = .ok (.aload_n 0, 1) := by decide +kernel
theorem dX8_process_163 : decode cX8_process 163 = .ok (.getfield 8, 3) := by decide +kernel
theorem dX8_process_166 : decode cX8_process 166 = .ok (.iconst 4, 1) := by decide +kernel
theorem dX8_process_167 : decode cX8_process 167 = .ok (.dup2, 1) := by decide +kernel
theorem dX8_process_168 : decode cX8_process 168 = .ok (.iaload, 1) := by decide +kernel
theorem dX8_process_169 : decode cX8_process 169 = .ok (.aload_n 0, 1) := by decide +kernel
theorem dX8_process_170 : decode cX8_process 170 = .ok (.iload 6, 2) := by decide +kernel
theorem dX8_process_172 : decode cX8_process 172 = .ok (.iload 8, 2) := by decide +kernel
theorem dX8_process_174 : decode cX8_process 174 = .ok (.invokevirtual 143, 3) := by decide +kernel
theorem dX8_process_177 : decode cX8_process 177 = .ok (.ifCond .eq 7, 3) := by decide +kernel
theorem dX8_process_180 : decode cX8_process 180 = .ok (.iconst 1, 1) := by decide +kernel
theorem dX8_process_181 : decode cX8_process 181 = .ok (.goto 4, 3) := by decide +kernel
theorem dX8_process_184 : decode cX8_process 184 = .ok (.iconst 0, 1) := by decide +kernel
theorem dX8_process_185 : decode cX8_process 185 = .ok (.iadd, 1) := by decide +kernel
theorem dX8_process_186 : decode cX8_process 186 = .ok (.iastore, 1) := by decide +kernel
theorem dX8_process_187 : decode cX8_process 187 = .ok (.aload_n 0, 1) := by decide +kernel
theorem dX8_process_188 : decode cX8_process 188 = .ok (.iload_n 1, 1) := by decide +kernel
theorem dX8_process_189 : decode cX8_process 189 = .ok (.iload_n 3, 1) := by decide +kernel
theorem dX8_process_190 : decode cX8_process 190 = .ok (.iload 4, 2) := by decide +kernel
theorem dX8_process_192 : decode cX8_process 192 = .ok (.iload 8, 2) := by decide +kernel
theorem dX8_process_194 : decode cX8_process 194 = .ok (.invokevirtual 146, 3) := by decide +kernel
theorem dX8_process_197 : decode cX8_process 197 = .ok (.iload 5, 2) := by decide +kernel
theorem dX8_process_199 : decode cX8_process 199 = .ok (.iconst 1, 1) := by decide +kernel
theorem dX8_process_200 : decode cX8_process 200 = .ok (.if_icmp .ne 70, 3) := by decide +kernel
theorem dX8_process_203 : decode cX8_process 203 = .ok (.bipush 12, 2) := by decide +kernel
theorem dX8_process_205 : decode cX8_process 205 = .ok (.iload_n 1, 1) := by decide +kernel
theorem dX8_process_206 : decode cX8_process 206 = .ok (.imul, 1) := by decide +kernel
theorem dX8_process_207 : decode cX8_process 207 = .ok (.aload_n 0, 1) := by decide +kernel
theorem dX8_process_208 : decode cX8_process 208 = .ok (.getfield 8, 3) := by decide +kernel
theorem dX8_process_211 : decode cX8_process 211 = .ok (.sipush 307, 3) := by decide +kernel
theorem dX8_process_214 : decode cX8_process 214 = .ok (.iload_n 1, 1) := by decide +kernel
theorem dX8_process_215 : decode cX8_process 215 = .ok (.iadd, 1) := by decide +kernel
theorem dX8_process_216 : decode cX8_process 216 = .ok (.iaload, 1) := by decide +kernel
theorem dX8_process_217 : decode cX8_process 217 = .ok (.iadd, 1) := by decide +kernel
theorem dX8_process_218 : decode cX8_process 218 = .ok (.istore 9, 2) := by decide +kernel
theorem dX8_process_220 : decode cX8_process 220 = .ok (.aload_n 0, 1) := by decide +kernel
theorem dX8_process_221 : decode cX8_process 221 = .ok (.getfield 8, 3) := by decide +kernel
theorem dX8_process_224 : decode cX8_process 224 = .ok (.sipush 309, 3) := by decide +kernel
theorem dX8_process_227 : decode cX8_process 227 = .ok (.iload 9, 2) := by decide +kernel
theorem dX8_process_229 : decode cX8_process 229 = .ok (.iadd, 1) := by decide +kernel
theorem dX8_process_230 : decode cX8_process 230 = .ok (.iload 6, 2) := by decide +kernel
theorem dX8_process_232 : decode cX8_process 232 = .ok (.iastore, 1) := by decide +kernel
theorem dX8_process_233 : decode cX8_process 233 = .ok (.aload_n 0, 1) := by decide +kernel
theorem dX8_process_234 : decode cX8_process 234 = .ok (.getfield 8, 3) := by decide +kernel
theorem dX8_process_237 : decode cX8_process 237 = .ok (.sipush 333, 3) := by decide +kernel
theorem dX8_process_240 : decode cX8_process 240 = .ok (.iload 9, 2) := by decide +kernel
theorem dX8_process_242 : decode cX8_process 242 = .ok (.iadd, 1) := by decide +kernel
theorem dX8_process_243 : decode cX8_process 243 = .ok (.iload 8, 2) := by decide +kernel
theorem dX8_process_245 : decode cX8_process 245 = .ok (.iastore, 1) := by decide +kernel
theorem dX8_process_246 : decode cX8_process 246 = .ok (.aload_n 0, 1) := by decide +kernel
theorem dX8_process_247 : decode cX8_process 247 = .ok (.getfield 8, 3) := by decide +kernel
theorem dX8_process_250 : decode cX8_process 250 = .ok (.sipush 307, 3) := by decide +kernel
theorem dX8_process_253 : decode cX8_process 253 = .ok (.iload_n 1, 1) := by decide +kernel
theorem dX8_process_254 : decode cX8_process 254 = .ok (.iadd, 1) := by decide +kernel
theorem dX8_process_255 : decode cX8_process 255 = .ok (.dup2, 1) := by decide +kernel
theorem dX8_process_256 : decode cX8_process 256 = .ok (.iaload, 1) := by decide +kernel
theorem dX8_process_257 : decode cX8_process 257 = .ok (.iconst 1, 1) := by decide +kernel
theorem dX8_process_258 : decode cX8_process 258 = .ok (.iadd, 1) := by decide +kernel
theorem dX8_process_259 : decode cX8_process 259 = .ok (.iastore, 1) := by decide +kernel
theorem dX8_process_260 : decode cX8_process 260 = .ok (.aload_n 0, 1) := by decide +kernel
theorem dX8_process_261 : decode cX8_process 261 = .ok (.iload_n 1, 1) := by decide +kernel
theorem dX8_process_262 : decode cX8_process 262 = .ok (.iload 6, 2) := by decide +kernel
theorem dX8_process_264 : decode cX8_process 264 = .ok (.iload 8, 2) := by decide +kernel
theorem dX8_process_266 : decode cX8_process 266 = .ok (.iconst 1, 1) := by decide +kernel
theorem dX8_process_267 : decode cX8_process 267 = .ok (.invokevirtual 121, 3) := by decide +kernel
theorem dX8_process_270 : decode cX8_process 270 = .ok (.aload_n 0, 1) := by decide +kernel
theorem dX8_process_271 : decode cX8_process 271 = .ok (.iload_n 1, 1) := by decide +kernel
theorem dX8_process_272 : decode cX8_process 272 = .ok (.bipush 6, 2) := by decide +kernel
theorem dX8_process_274 : decode cX8_process 274 = .ok (.iload_n 2, 1) := by decide +kernel
theorem dX8_process_275 : decode cX8_process 275 = .ok (.iadd, 1) := by decide +kernel
theorem dX8_process_276 : decode cX8_process 276 = .ok (.iload 7, 2) := by decide +kernel
theorem dX8_process_278 : decode cX8_process 278 = .ok (.iconst (-1), 1) := by decide +kernel
theorem dX8_process_279 : decode cX8_process 279 = .ok (.invokevirtual 121, 3) := by decide +kernel
theorem dX8_process_282 : decode cX8_process 282 = .ok (.iload 8, 2) := by decide +kernel
theorem dX8_process_284 : decode cX8_process 284 = .ok (.ireturn, 1) := by decide +kernel
theorem dX8_findsActive_0 : decode cX8_findsActive 0 = .ok (.aload_n 0, 1) := by decide +kernel
theorem dX8_findsActive_1 : decode cX8_findsActive 1 = .ok (.iconst 0, 1) := by decide +kernel
theorem dX8_findsActive_2 : decode cX8_findsActive 2 = .ok (.putfield 149, 3) := by decide +kernel
theorem dX8_findsActive_5 : decode cX8_findsActive 5 = .ok (.iconst 0, 1) := by decide +kernel
theorem dX8_findsActive_6 : decode cX8_findsActive 6 = .ok (.istore_n 2, 1) := by decide +kernel
theorem dX8_findsActive_7 : decode cX8_findsActive 7 = .ok (.iload_n 2, 1) := by decide +kernel
theorem dX8_findsActive_8 : decode cX8_findsActive 8 = .ok (.sipush 16000, 3) := by decide +kernel
theorem dX8_findsActive_11 : decode cX8_findsActive 11 = .ok (.if_icmp .ge 58, 3) := by decide +kernel
theorem dX8_findsActive_14 : decode cX8_findsActive 14 = .ok (.aload_n 0, 1) := by decide +kernel
theorem dX8_findsActive_15 : decode cX8_findsActive 15 = .ok (.getfield 8, 3) := by decide +kernel
theorem dX8_findsActive_18 : decode cX8_findsActive 18 = .ok (.sipush 6359, 3) := by decide +kernel
theorem dX8_findsActive_21 : decode cX8_findsActive 21 = .ok (.sipush 16000, 3) := by decide +kernel
theorem dX8_findsActive_24 : decode cX8_findsActive 24 = .ok (.iload_n 1, 1) := by decide +kernel
theorem dX8_findsActive_25 : decode cX8_findsActive 25 = .ok (.imul, 1) := by decide +kernel
theorem dX8_findsActive_26 : decode cX8_findsActive 26 = .ok (.iadd, 1) := by decide +kernel
theorem dX8_findsActive_27 : decode cX8_findsActive 27 = .ok (.iload_n 2, 1) := by decide +kernel
theorem dX8_findsActive_28 : decode cX8_findsActive 28 = .ok (.iadd, 1) := by decide +kernel
theorem dX8_findsActive_29 : decode cX8_findsActive 29 = .ok (.iaload, 1) := by decide +kernel
theorem dX8_findsActive_30 : decode cX8_findsActive 30 = .ok (.ifCond .le 33, 3) := by decide +kernel
theorem dX8_findsActive_33 : decode cX8_findsActive 33 = .ok (.aload_n 0, 1) := by decide +kernel
theorem dX8_findsActive_34 : decode cX8_findsActive 34 = .ok (.getfield 37, 3) := by decide +kernel
theorem dX8_findsActive_37 : decode cX8_findsActive 37 = .ok (.aload_n 0, 1) := by decide +kernel
theorem dX8_findsActive_38 : decode cX8_findsActive 38 = .ok (.getfield 149, 3) := by decide +kernel
theorem dX8_findsActive_41 : decode cX8_findsActive 41 = .ok (.iload_n 2, 1) := by decide +kernel
theorem dX8_findsActive_42 : decode cX8_findsActive 42 = .ok (.iastore, 1) := by decide +kernel
theorem dX8_findsActive_43 : decode cX8_findsActive 43 = .ok (.aload_n 0, 1) := by decide +kernel
theorem dX8_findsActive_44 : decode cX8_findsActive 44 = .ok (.getfield 40, 3) := by decide +kernel
theorem dX8_findsActive_47 : decode cX8_findsActive 47 = .ok (.aload_n 0, 1) := by decide +kernel
theorem dX8_findsActive_48 : decode cX8_findsActive 48 = .ok (.getfield 149, 3) := by decide +kernel
theorem dX8_findsActive_51 : decode cX8_findsActive 51 = .ok (.iconst 1, 1) := by decide +kernel
theorem dX8_findsActive_52 : decode cX8_findsActive 52 = .ok (.bastore, 1) := by decide +kernel
theorem dX8_findsActive_53 : decode cX8_findsActive 53 = .ok (.aload_n 0, 1) := by decide +kernel
theorem dX8_findsActive_54 : decode cX8_findsActive 54 = .ok (.dup, 1) := by decide +kernel
theorem dX8_findsActive_55 : decode cX8_findsActive 55 = .ok (.getfield 149, 3) := by decide +kernel
theorem dX8_findsActive_58 : decode cX8_findsActive 58 = .ok (.iconst 1, 1) := by decide +kernel
theorem dX8_findsActive_59 : decode cX8_findsActive 59 = .ok (.iadd, 1) := by decide +kernel
theorem dX8_findsActive_60 : decode cX8_findsActive 60 = .ok (.putfield 149, 3) := by decide +kernel
theorem dX8_findsActive_63 : decode cX8_findsActive 63 = .ok (.iinc 2 1, 3) := by decide +kernel
theorem dX8_findsActive_66 : decode cX8_findsActive 66 = .ok (.goto (-59), 3) := by decide +kernel
theorem dX8_findsActive_69 : decode cX8_findsActive 69 = .ok (.return_, 1) := by decide +kernel
theorem dX8_findsFrontier_0 : decode cX8_findsFrontier 0 = .ok (.aload_n 0, 1) := by decide +kernel
theorem dX8_findsFrontier_1 : decode cX8_findsFrontier 1 = .ok (.iload_n 1, 1) := by decide +kernel
theorem dX8_findsFrontier_2 : decode cX8_findsFrontier 2 = .ok (.invokevirtual 152, 3) := by decide +kernel
theorem dX8_findsFrontier_5 : decode cX8_findsFrontier 5 = .ok (.iconst 0, 1) := by decide +kernel
theorem dX8_findsFrontier_6 : decode cX8_findsFrontier 6 = .ok (.istore_n 2, 1) := by decide +kernel
theorem dX8_findsFrontier_7 : decode cX8_findsFrontier 7 = .ok (.iload_n 2, 1) := by decide +kernel
theorem dX8_findsFrontier_8 : decode cX8_findsFrontier 8 = .ok (.aload_n 0, 1) := by decide +kernel
theorem dX8_findsFrontier_9 : decode cX8_findsFrontier 9 = .ok (.getfield 149, 3) := by decide +kernel
theorem dX8_findsFrontier_12 : decode cX8_findsFrontier 12 = .ok (.if_icmp .ge 143, 3) := by decide +kernel
theorem dX8_findsFrontier_15 : decode cX8_findsFrontier 15 = .ok (.aload_n 0, 1) := by decide +kernel
theorem dX8_findsFrontier_16 : decode cX8_findsFrontier 16 = .ok (.getfield 37, 3) := by decide +kernel
theorem dX8_findsFrontier_19 : decode cX8_findsFrontier 19 = .ok (.iload_n 2, 1) := by decide +kernel
theorem dX8_findsFrontier_20 : decode cX8_findsFrontier 20 = .ok (.iaload, 1) := by decide +kernel
theorem dX8_findsFrontier_21 : decode cX8_findsFrontier 21 = .ok (.sipush 1000, 3) := by decide +kernel
theorem dX8_findsFrontier_24 : decode cX8_findsFrontier 24 = .ok (.irem, 1) := by decide +kernel
theorem dX8_findsFrontier_25 : decode cX8_findsFrontier 25 = .ok (.istore_n 3, 1) := by decide +kernel
theorem dX8_findsFrontier_26 : decode cX8_findsFrontier 26 = .ok (.aload_n 0, 1) := by decide +kernel
theorem dX8_findsFrontier_27 : decode cX8_findsFrontier 27 = .ok (.aload_n 0, 1) := by decide +kernel
theorem dX8_findsFrontier_28 : decode cX8_findsFrontier 28 = .ok (.getfield 37, 3) := by decide +kernel
theorem dX8_findsFrontier_31 : decode cX8_findsFrontier 31 = .ok (.iload_n 2, 1) := by decide +kernel
theorem dX8_findsFrontier_32 : decode cX8_findsFrontier 32 = .ok (.iaload, 1) := by decide +kernel
theorem dX8_findsFrontier_33 : decode cX8_findsFrontier 33 = .ok (.sipush 1000, 3) := by decide +kernel
theorem dX8_findsFrontier_36 : decode cX8_findsFrontier 36 = .ok (.idiv, 1) := by decide +kernel
theorem dX8_findsFrontier_37 : decode cX8_findsFrontier 37 = .ok (.iload_n 3, 1) := by decide +kernel
theorem dX8_findsFrontier_38 : decode cX8_findsFrontier 38 = .ok (.bipush 100, 2) := by decide +kernel
theorem dX8_findsFrontier_40 : decode cX8_findsFrontier 40 = .ok (.irem, 1) := by decide +kernel
theorem dX8_findsFrontier_41 : decode cX8_findsFrontier 41 = .ok (.invokevirtual 104, 3) := by decide +kernel
theorem dX8_findsFrontier_44 : decode cX8_findsFrontier 44 = .ok (.iconst 0, 1) := by decide +kernel
theorem dX8_findsFrontier_45 : decode cX8_findsFrontier 45 = .ok (.istore 4, 2) := by decide +kernel
theorem dX8_findsFrontier_47 : decode cX8_findsFrontier 47 = .ok (.iload 4, 2) := by decide +kernel
theorem dX8_findsFrontier_49 : decode cX8_findsFrontier 49 = .ok (.aload_n 0, 1) := by decide +kernel
theorem dX8_findsFrontier_50 : decode cX8_findsFrontier 50 = .ok (.getfield 149, 3) := by decide +kernel
theorem dX8_findsFrontier_53 : decode cX8_findsFrontier 53 = .ok (.if_icmp .ge 96, 3) := by decide +kernel
theorem dX8_findsFrontier_56 : decode cX8_findsFrontier 56 = .ok (.aload_n 0, 1) := by decide +kernel
theorem dX8_findsFrontier_57 : decode cX8_findsFrontier 57 = .ok (.getfield 37, 3) := by decide +kernel
theorem dX8_findsFrontier_60 : decode cX8_findsFrontier 60 = .ok (.iload 4, 2) := by decide +kernel
theorem dX8_findsFrontier_62 : decode cX8_findsFrontier 62 = .ok (.iaload, 1) := by decide +kernel
theorem dX8_findsFrontier_63 : decode cX8_findsFrontier 63 = .ok (.sipush 1000, 3) := by decide +kernel
theorem dX8_findsFrontier_66 : decode cX8_findsFrontier 66 = .ok (.irem, 1) := by decide +kernel
theorem dX8_findsFrontier_67 : decode cX8_findsFrontier 67 = .ok (.istore 5, 2) := by decide +kernel
theorem dX8_findsFrontier_69 : decode cX8_findsFrontier 69 = .ok (.aload_n 0, 1) := by decide +kernel
theorem dX8_findsFrontier_70 : decode cX8_findsFrontier 70 = .ok (.getfield 34, 3) := by decide +kernel
theorem dX8_findsFrontier_73 : decode cX8_findsFrontier 73 = .ok (.aload_n 0, 1) := by decide +kernel
theorem dX8_findsFrontier_74 : decode cX8_findsFrontier 74 = .ok (.getfield 37, 3) := by decide +kernel
theorem dX8_findsFrontier_77 : decode cX8_findsFrontier 77 = .ok (.iload 4, 2) := by decide +kernel
theorem dX8_findsFrontier_79 : decode cX8_findsFrontier 79 = .ok (.iaload, 1) := by decide +kernel
theorem dX8_findsFrontier_80 : decode cX8_findsFrontier 80 = .ok (.sipush 1000, 3) := by decide +kernel
theorem dX8_findsFrontier_83 : decode cX8_findsFrontier 83 = .ok (.idiv, 1) := by decide +kernel
theorem dX8_findsFrontier_84 : decode cX8_findsFrontier 84 = .ok (.iaload, 1) := by decide +kernel
theorem dX8_findsFrontier_85 : decode cX8_findsFrontier 85 = .ok (.istore 6, 2) := by decide +kernel
theorem dX8_findsFrontier_87 : decode cX8_findsFrontier 87 = .ok (.aload_n 0, 1) := by decide +kernel
theorem dX8_findsFrontier_88 : decode cX8_findsFrontier 88 = .ok (.getfield 40, 3) := by decide +kernel
theorem dX8_findsFrontier_91 : decode cX8_findsFrontier 91 = .ok (.iload 4, 2) := by decide +kernel
theorem dX8_findsFrontier_93 : decode cX8_findsFrontier 93 = .ok (.aload_n 0, 1) := by decide +kernel
theorem dX8_findsFrontier_94 : decode cX8_findsFrontier 94 = .ok (.getfield 40, 3) := by decide +kernel
theorem dX8_findsFrontier_97 : decode cX8_findsFrontier 97 = .ok (.iload 4, 2) := by decide +kernel
theorem dX8_findsFrontier_99 : decode cX8_findsFrontier 99 = .ok (.baload, 1) := by decide +kernel
theorem dX8_findsFrontier_100 : decode cX8_findsFrontier 100 = .ok (.ifCond .eq 41, 3) := by decide +kernel
theorem dX8_findsFrontier_103 : decode cX8_findsFrontier 103 = .ok (.iload_n 2, 1) := by decide +kernel
theorem dX8_findsFrontier_104 : decode cX8_findsFrontier 104 = .ok (.iload 4, 2) := by decide +kernel
theorem dX8_findsFrontier_106 : decode cX8_findsFrontier 106 = .ok (.if_icmp .eq 31, 3) := by decide +kernel
theorem dX8_findsFrontier_109 : decode cX8_findsFrontier 109 = .ok (.iload_n 3, 1) := by decide +kernel
theorem dX8_findsFrontier_110 : decode cX8_findsFrontier 110 = .ok (.bipush 100, 2) := by decide +kernel
theorem dX8_findsFrontier_112 : decode cX8_findsFrontier 112 = .ok (.idiv, 1) := by decide +kernel
theorem dX8_findsFrontier_113 : decode cX8_findsFrontier 113 = .ok (.iload 5, 2) := by decide +kernel
theorem dX8_findsFrontier_115 : decode cX8_findsFrontier 115 = .ok (.bipush 100, 2) := by decide +kernel
theorem dX8_findsFrontier_117 : decode cX8_findsFrontier 117 = .ok (.idiv, 1) := by decide +kernel
theorem dX8_findsFrontier_118 : decode cX8_findsFrontier 118 = .ok (.if_icmp .gt 19, 3) := by decide +kernel
theorem dX8_findsFrontier_121 : decode cX8_findsFrontier 121 = .ok (.iload 6, 2) := by decide +kernel
theorem dX8_findsFrontier_123 : decode cX8_findsFrontier 123 = .ok (.iconst (-1), 1) := by decide +kernel
theorem dX8_findsFrontier_124 : decode cX8_findsFrontier 124 = .ok (.if_icmp .eq 13, 3) := by decide +kernel
theorem dX8_findsFrontier_127 : decode cX8_findsFrontier 127 = .ok (.iload 6, 2) := by decide +kernel
theorem dX8_findsFrontier_129 : decode cX8_findsFrontier 129 = .ok (.iload 5, 2) := by decide +kernel
theorem dX8_findsFrontier_131 : decode cX8_findsFrontier 131 = .ok (.bipush 100, 2) := by decide +kernel
theorem dX8_findsFrontier_133 : decode cX8_findsFrontier 133 = .ok (.irem, 1) := by decide +kernel
theorem dX8_findsFrontier_134 : decode cX8_findsFrontier 134 = .ok (.if_icmp .le 7, 3) := by decide +kernel
theorem dX8_findsFrontier_137 : decode cX8_findsFrontier 137 = .ok (.iconst 1, 1) := by decide +kernel
theorem dX8_findsFrontier_138 : decode cX8_findsFrontier 138 = .ok (.goto 4, 3) := by decide +kernel
theorem dX8_findsFrontier_141 : decode cX8_findsFrontier 141 = .ok (.iconst 0, 1) := by decide +kernel
theorem dX8_findsFrontier_142 : decode cX8_findsFrontier 142 = .ok (.bastore, 1) := by decide +kernel
theorem dX8_findsFrontier_143 : decode cX8_findsFrontier 143 = .ok (.iinc 4 1, 3) := by decide +kernel
theorem dX8_findsFrontier_146 : decode cX8_findsFrontier 146 = .ok (.goto (-99), 3) := by decide +kernel
theorem dX8_findsFrontier_149 : decode cX8_findsFrontier 149 = .ok (.iinc 2 1, 3) := by decide +kernel
theorem dX8_findsFrontier_152 : decode cX8_findsFrontier 152 = .ok (.goto (-145), 3) := by decide +kernel
theorem dX8_findsFrontier_155 : decode cX8_findsFrontier 155 = .ok (.return_, 1) := by decide +kernel
theorem dX8_isOnFrontier_0 : decode cX8_isOnFrontier 0 = .ok (.iconst 0, 1) := by decide +kernel
theorem dX8_isOnFrontier_1 : decode cX8_isOnFrontier 1 = .ok (.istore_n 3, 1) := by decide +kernel
theorem dX8_isOnFrontier_2 : decode cX8_isOnFrontier 2 = .ok (.iconst 0, 1) := by decide +kernel
theorem dX8_isOnFrontier_3 : decode cX8_isOnFrontier 3 = .ok (.istore 4, 2) := by decide +kernel
theorem dX8_isOnFrontier_5 : decode cX8_isOnFrontier 5 = .ok (.iload 4, 2) := by decide +kernel
theorem dX8_isOnFrontier_7 : decode cX8_isOnFrontier 7 = .ok (.aload_n 0, 1) := by decide +kernel
theorem dX8_isOnFrontier_8 : decode cX8_isOnFrontier 8 = .ok (.getfield 149, 3) := by decide +kernel
theorem dX8_isOnFrontier_11 : decode cX8_isOnFrontier 11 = .ok (.if_icmp .ge 46, 3) := by decide +kernel
theorem dX8_isOnFrontier_14 : decode cX8_isOnFrontier 14 = .ok (.iload_n 3, 1) := by decide +kernel
theorem dX8_isOnFrontier_15 : decode cX8_isOnFrontier 15 = .ok (.ifCond .ne 30, 3) := by decide +kernel
theorem dX8_isOnFrontier_18 : decode cX8_isOnFrontier 18 = .ok (.aload_n 0, 1) := by decide +kernel
theorem dX8_isOnFrontier_19 : decode cX8_isOnFrontier 19 = .ok (.getfield 40, 3) := by decide +kernel
theorem dX8_isOnFrontier_22 : decode cX8_isOnFrontier 22 = .ok (.iload 4, 2) := by decide +kernel
theorem dX8_isOnFrontier_24 : decode cX8_isOnFrontier 24 = .ok (.baload, 1) := by decide +kernel
theorem dX8_isOnFrontier_25 : decode cX8_isOnFrontier 25 = .ok (.ifCond .eq 24, 3) := by decide +kernel
theorem dX8_isOnFrontier_28 : decode cX8_isOnFrontier 28 = .ok (.aload_n 0, 1) := by decide +kernel
theorem dX8_isOnFrontier_29 : decode cX8_isOnFrontier 29 = .ok (.getfield 37, 3) := by decide +kernel
theorem dX8_isOnFrontier_32 : decode cX8_isOnFrontier 32 = .ok (.iload 4, 2) := by decide +kernel
theorem dX8_isOnFrontier_34 : decode cX8_isOnFrontier 34 = .ok (.iaload, 1) := by decide +kernel
theorem dX8_isOnFrontier_35 : decode cX8_isOnFrontier 35 = .ok (.sipush 1000, 3) := by decide +kernel
theorem dX8_isOnFrontier_38 : decode cX8_isOnFrontier 38 = .ok (.iload_n 1, 1) := by decide +kernel
theorem dX8_isOnFrontier_39 : decode cX8_isOnFrontier 39 = .ok (.imul, 1) := by decide +kernel
theorem dX8_isOnFrontier_40 : decode cX8_isOnFrontier 40 = .ok (.iload_n 2, 1) := by decide +kernel
theorem dX8_isOnFrontier_41 : decode cX8_isOnFrontier 41 = .ok (.iadd, 1) := by decide +kernel
theorem dX8_isOnFrontier_42 : decode cX8_isOnFrontier 42 = .ok (.if_icmp .ne 7, 3) := by decide +kernel
theorem dX8_isOnFrontier_45 : decode cX8_isOnFrontier 45 = .ok (.iconst 1, 1) := by decide +kernel
theorem dX8_isOnFrontier_46 : decode cX8_isOnFrontier 46 = .ok (.goto 4, 3) := by decide +kernel
theorem dX8_isOnFrontier_49 : decode cX8_isOnFrontier 49 = .ok (.iconst 0, 1) := by decide +kernel
theorem dX8_isOnFrontier_50 : decode cX8_isOnFrontier 50 = .ok (.istore_n 3, 1) := by decide +kernel
theorem dX8_isOnFrontier_51 : decode cX8_isOnFrontier 51 = .ok (.iinc 4 1, 3) := by decide +kernel
theorem dX8_isOnFrontier_54 : decode cX8_isOnFrontier 54 = .ok (.goto (-49), 3) := by decide +kernel
theorem dX8_isOnFrontier_57 : decode cX8_isOnFrontier 57 = .ok (.iload_n 3, 1) := by decide +kernel
theorem dX8_isOnFrontier_58 : decode cX8_isOnFrontier 58 = .ok (.ireturn, 1) := by decide +kernel
theorem dX8_nextAt_0 : decode cX8_nextAt 0 = .ok (.iconst (-1), 1) := by decide +kernel
theorem dX8_nextAt_1 : decode cX8_nextAt 1 = .ok (.istore_n 3, 1) := by decide +kernel
theorem dX8_nextAt_2 : decode cX8_nextAt 2 = .ok (.bipush 12, 2) := by decide +kernel
theorem dX8_nextAt_4 : decode cX8_nextAt 4 = .ok (.iload_n 1, 1) := by decide +kernel
theorem dX8_nextAt_5 : decode cX8_nextAt 5 = .ok (.imul, 1) := by decide +kernel
theorem dX8_nextAt_6 : decode cX8_nextAt 6 = .ok (.istore 4, 2) := by decide +kernel
theorem dX8_nextAt_8 : decode cX8_nextAt 8 = .ok (.iload 4, 2) := by decide +kernel
theorem dX8_nextAt_10 : decode cX8_nextAt 10 = .ok (.bipush 12, 2) := by decide +kernel
theorem dX8_nextAt_12 : decode cX8_nextAt 12 = .ok (.iload_n 1, 1) := by decide +kernel
theorem dX8_nextAt_13 : decode cX8_nextAt 13 = .ok (.imul, 1) := by decide +kernel
theorem dX8_nextAt_14 : decode cX8_nextAt 14 = .ok (.aload_n 0, 1) := by decide +kernel
theorem dX8_nextAt_15 : decode cX8_nextAt 15 = .ok (.getfield 8, 3) := by decide +kernel
theorem dX8_nextAt_18 : decode cX8_nextAt 18 = .ok (.sipush 307, 3) := by decide +kernel
theorem dX8_nextAt_21 : decode cX8_nextAt 21 = .ok (.iload_n 1, 1) := by decide +kernel
theorem dX8_nextAt_22 : decode cX8_nextAt 22 = .ok (.iadd, 1) := by decide +kernel
theorem dX8_nextAt_23 : decode cX8_nextAt 23 = .ok (.iaload, 1) := by decide +kernel
theorem dX8_nextAt_24 : decode cX8_nextAt 24 = .ok (.iadd, 1) := by decide +kernel
theorem dX8_nextAt_25 : decode cX8_nextAt 25 = .ok (.if_icmp .ge 65, 3) := by decide +kernel
theorem dX8_nextAt_28 : decode cX8_nextAt 28 = .ok (.aload_n 0, 1) := by decide +kernel
theorem dX8_nextAt_29 : decode cX8_nextAt 29 = .ok (.getfield 8, 3) := by decide +kernel
theorem dX8_nextAt_32 : decode cX8_nextAt 32 = .ok (.sipush 333, 3) := by decide +kernel
theorem dX8_nextAt_35 : decode cX8_nextAt 35 = .ok (.iload 4, 2) := by decide +kernel
theorem dX8_nextAt_37 : decode cX8_nextAt 37 = .ok (.iadd, 1) := by decide +kernel
theorem dX8_nextAt_38 : decode cX8_nextAt 38 = .ok (.iaload, 1) := by decide +kernel
theorem dX8_nextAt_39 : decode cX8_nextAt 39 = .ok (.istore 5, 2) := by decide +kernel
theorem dX8_nextAt_41 : decode cX8_nextAt 41 = .ok (.aload_n 0, 1) := by decide +kernel
theorem dX8_nextAt_42 : decode cX8_nextAt 42 = .ok (.getfield 8, 3) := by decide +kernel
theorem dX8_nextAt_45 : decode cX8_nextAt 45 = .ok (.sipush 309, 3) := by decide +kernel
theorem dX8_nextAt_48 : decode cX8_nextAt 48 = .ok (.iload 4, 2) := by decide +kernel
theorem dX8_nextAt_50 : decode cX8_nextAt 50 = .ok (.iadd, 1) := by decide +kernel
theorem dX8_nextAt_51 : decode cX8_nextAt 51 = .ok (.iaload, 1) := by decide +kernel
theorem dX8_nextAt_52 : decode cX8_nextAt 52 = .ok (.iload_n 2, 1) := by decide +kernel
theorem dX8_nextAt_53 : decode cX8_nextAt 53 = .ok (.if_icmp .ne 29, 3) := by decide +kernel
theorem dX8_nextAt_56 : decode cX8_nextAt 56 = .ok (.iload_n 3, 1) := by decide +kernel
theorem dX8_nextAt_57 : decode cX8_nextAt 57 = .ok (.iconst (-1), 1) := by decide +kernel
theorem dX8_nextAt_58 : decode cX8_nextAt 58 = .ok (.if_icmp .eq 9, 3) := by decide +kernel
theorem dX8_nextAt_61 : decode cX8_nextAt 61 = .ok (.iload 5, 2) := by decide +kernel
theorem dX8_nextAt_63 : decode cX8_nextAt 63 = .ok (.iload_n 3, 1) := by decide +kernel
theorem dX8_nextAt_64 : decode cX8_nextAt 64 = .ok (.if_icmp .ge 18, 3) := by decide +kernel
theorem dX8_nextAt_67 : decode cX8_nextAt 67 = .ok (.aload_n 0, 1) := by decide +kernel
theorem dX8_nextAt_68 : decode cX8_nextAt 68 = .ok (.iload_n 2, 1) := by decide +kernel
theorem dX8_nextAt_69 : decode cX8_nextAt 69 = .ok (.iload 5, 2) := by decide +kernel
theorem dX8_nextAt_71 : decode cX8_nextAt 71 = .ok (.invokevirtual 156, 3) := by decide +kernel
theorem dX8_nextAt_74 : decode cX8_nextAt 74 = .ok (.ifCond .eq 8, 3) := by decide +kernel
theorem dX8_nextAt_77 : decode cX8_nextAt 77 = .ok (.iload 5, 2) := by decide +kernel
theorem dX8_nextAt_79 : decode cX8_nextAt 79 = .ok (.goto 4, 3) := by decide +kernel
theorem dX8_nextAt_82 : decode cX8_nextAt 82 = .ok (.iload_n 3, 1) := by decide +kernel
theorem dX8_nextAt_83 : decode cX8_nextAt 83 = .ok (.istore_n 3, 1) := by decide +kernel
theorem dX8_nextAt_84 : decode cX8_nextAt 84 = .ok (.iinc 4 1, 3) := by decide +kernel
theorem dX8_nextAt_87 : decode cX8_nextAt 87 = .ok (.goto (-79), 3) := by decide +kernel
theorem dX8_nextAt_90 : decode cX8_nextAt 90 = .ok (.iload_n 3, 1) := by decide +kernel
theorem dX8_nextAt_91 : decode cX8_nextAt 91 = .ok (.ireturn, 1) := by decide +kernel
theorem dX8_deliver_0 : decode cX8_deliver 0 = .ok (.iload_n 1, 1) := by decide +kernel
theorem dX8_deliver_1 : decode cX8_deliver 1 = .ok (.invokestatic 111, 3) := by decide +kernel
theorem dX8_deliver_4 : decode cX8_deliver 4 = .ok (.ifCond .eq 27, 3) := by decide +kernel
theorem dX8_deliver_7 : decode cX8_deliver 7 = .ok (.aload_n 0, 1) := by decide +kernel
theorem dX8_deliver_8 : decode cX8_deliver 8 = .ok (.iload_n 2, 1) := by decide +kernel
theorem dX8_deliver_9 : decode cX8_deliver 9 = .ok (.invokevirtual 71, 3) := by decide +kernel
theorem dX8_deliver_12 : decode cX8_deliver 12 = .ok (.ifCond .eq 19, 3) := by decide +kernel
theorem dX8_deliver_15 : decode cX8_deliver 15 = .ok (.iload 4, 2) := by decide +kernel
theorem dX8_deliver_17 : decode cX8_deliver 17 = .ok (.invokestatic 111, 3) := by decide +kernel
theorem dX8_deliver_20 : decode cX8_deliver 20 = .ok (.ifCond .eq 11, 3) := by decide +kernel
theorem dX8_deliver_23 : decode cX8_deliver 23 = .ok (.aload_n 0, 1) := by decide +kernel
theorem dX8_deliver_24 : decode cX8_deliver 24 = .ok (.iload_n 3, 1) := by decide +kernel
theorem dX8_deliver_25 : decode cX8_deliver 25 = .ok (.invokevirtual 131, 3) := by decide +kernel
theorem dX8_deliver_28 : decode cX8_deliver 28 = .ok (.ifCond .ne 10, 3) := by decide +kernel
theorem dX8_deliver_31 : decode cX8_deliver 31 = .ok (.aload_n 0, 1) := by decide +kernel
theorem dX8_deliver_32 : decode cX8_deliver 32 = .ok (.bipush (-2), 2) := by decide +kernel
theorem dX8_deliver_34 : decode cX8_deliver 34 = .ok (.invokevirtual 52, 3) := by decide +kernel
theorem dX8_deliver_37 : decode cX8_deliver 37 = .ok (.ireturn, 1) := by decide +kernel
theorem dX8_deliver_38 : decode cX8_deliver 38 = .ok (.aload_n 0, 1) := by decide +kernel
theorem dX8_deliver_39 : decode cX8_deliver 39 = .ok (.iload_n 1, 1) := by decide +kernel
theorem dX8_deliver_40 : decode cX8_deliver 40 = .ok (.invokevirtual 159, 3) := by decide +kernel
theorem dX8_deliver_43 : decode cX8_deliver 43 = .ok (.aload_n 0, 1) := by decide +kernel
theorem dX8_deliver_44 : decode cX8_deliver 44 = .ok (.iload_n 1, 1) := by decide +kernel
theorem dX8_deliver_45 : decode cX8_deliver 45 = .ok (.iload_n 2, 1) := by decide +kernel
theorem dX8_deliver_46 : decode cX8_deliver 46 = .ok (.invokevirtual 162, 3) := by decide +kernel
theorem dX8_deliver_49 : decode cX8_deliver 49 = .ok (.istore 5, 2) := by decide +kernel
theorem dX8_deliver_51 : decode cX8_deliver 51 = .ok (.iload 5, 2) := by decide +kernel
theorem dX8_deliver_53 : decode cX8_deliver 53 = .ok (.iconst (-1), 1) := by decide +kernel
theorem dX8_deliver_54 : decode cX8_deliver 54 = .ok (.if_icmp .eq 12, 3) := by decide +kernel
theorem dX8_deliver_57 : decode cX8_deliver 57 = .ok (.aload_n 0, 1) := by decide +kernel
theorem dX8_deliver_58 : decode cX8_deliver 58 = .ok (.iload_n 3, 1) := by decide +kernel
theorem dX8_deliver_59 : decode cX8_deliver 59 = .ok (.iload_n 2, 1) := by decide +kernel
theorem dX8_deliver_60 : decode cX8_deliver 60 = .ok (.invokevirtual 134, 3) := by decide +kernel
theorem dX8_deliver_63 : decode cX8_deliver 63 = .ok (.ifCond .ne 10, 3) := by decide +kernel
theorem dX8_deliver_66 : decode cX8_deliver 66 = .ok (.aload_n 0, 1) := by decide +kernel
theorem dX8_deliver_67 : decode cX8_deliver 67 = .ok (.bipush (-3), 2) := by decide +kernel
theorem dX8_deliver_69 : decode cX8_deliver 69 = .ok (.invokevirtual 52, 3) := by decide +kernel
theorem dX8_deliver_72 : decode cX8_deliver 72 = .ok (.ireturn, 1) := by decide +kernel
theorem dX8_deliver_73 : decode cX8_deliver 73 = .ok (.aload_n 0, 1) := by decide +kernel
theorem dX8_deliver_74 : decode cX8_deliver 74 = .ok (.iload_n 3, 1) := by decide +kernel
theorem dX8_deliver_75 : decode cX8_deliver 75 = .ok (.iload 4, 2) := by decide +kernel
theorem dX8_deliver_77 : decode cX8_deliver 77 = .ok (.invokevirtual 137, 3) := by decide +kernel
theorem dX8_deliver_80 : decode cX8_deliver 80 = .ok (.ifCond .eq 10, 3) := by decide +kernel
theorem dX8_deliver_83 : decode cX8_deliver 83 = .ok (.aload_n 0, 1) := by decide +kernel
theorem dX8_deliver_84 : decode cX8_deliver 84 = .ok (.bipush (-4), 2) := by decide +kernel
theorem dX8_deliver_86 : decode cX8_deliver 86 = .ok (.invokevirtual 52, 3) := by decide +kernel
theorem dX8_deliver_89 : decode cX8_deliver 89 = .ok (.ireturn, 1) := by decide +kernel
theorem dX8_deliver_90 : decode cX8_deliver 90 = .ok (.aload_n 0, 1) := by decide +kernel
theorem dX8_deliver_91 : decode cX8_deliver 91 = .ok (.invokevirtual 56, 3) := by decide +kernel
theorem dX8_deliver_94 : decode cX8_deliver 94 = .ok (.bipush 12, 2) := by decide +kernel
theorem dX8_deliver_96 : decode cX8_deliver 96 = .ok (.iload_n 1, 1) := by decide +kernel
theorem dX8_deliver_97 : decode cX8_deliver 97 = .ok (.imul, 1) := by decide +kernel
theorem dX8_deliver_98 : decode cX8_deliver 98 = .ok (.istore 6, 2) := by decide +kernel
theorem dX8_deliver_100 : decode cX8_deliver 100 = .ok (.aload_n 0, 1) := by decide +kernel
theorem dX8_deliver_101 : decode cX8_deliver 101 = .ok (.getfield 8, 3) := by decide +kernel
theorem dX8_deliver_104 : decode cX8_deliver 104 = .ok (.sipush 309, 3) := by decide +kernel
theorem dX8_deliver_107 : decode cX8_deliver 107 = .ok (.iload 6, 2) := by decide +kernel
theorem dX8_deliver_109 : decode cX8_deliver 109 = .ok (.iadd, 1) := by decide +kernel
theorem dX8_deliver_110 : decode cX8_deliver 110 = .ok (.iaload, 1) := by decide +kernel
theorem dX8_deliver_111 : decode cX8_deliver 111 = .ok (.iload_n 2, 1) := by decide +kernel
theorem dX8_deliver_112 : decode cX8_deliver 112 = .ok (.if_icmp .ne 19, 3) := by decide +kernel
theorem dX8_deliver_115 : decode cX8_deliver 115 = .ok (.aload_n 0, 1) := by decide +kernel
theorem dX8_deliver_116 : decode cX8_deliver 116 = .ok (.getfield 8, 3) := by decide +kernel
theorem dX8_deliver_119 : decode cX8_deliver 119 = .ok (.sipush 333, 3) := by decide +kernel
theorem dX8_deliver_122 : decode cX8_deliver 122 = .ok (.iload 6, 2) := by decide +kernel
theorem dX8_deliver_124 : decode cX8_deliver 124 = .ok (.iadd, 1) := by decide +kernel
theorem dX8_deliver_125 : decode cX8_deliver 125 = .ok (.iaload, 1) := by decide +kernel
theorem dX8_deliver_126 : decode cX8_deliver 126 = .ok (.iload 5, 2) := by decide +kernel
theorem dX8_deliver_128 : decode cX8_deliver 128 = .ok (.if_icmp .eq 9, 3) := by decide +kernel
theorem dX8_deliver_131 : decode cX8_deliver 131 = .ok (.iinc 6 1, 3) := by decide +kernel
theorem dX8_deliver_134 : decode cX8_deliver 134 = .ok (.goto (-34), 3) := by decide +kernel
theorem dX8_deliver_137 : decode cX8_deliver 137 = .ok (.aload_n 0, 1) := by decide +kernel
theorem dX8_deliver_138 : decode cX8_deliver 138 = .ok (.getfield 8, 3) := by decide +kernel
theorem dX8_deliver_141 : decode cX8_deliver 141 = .ok (.sipush 307, 3) := by decide +kernel
theorem dX8_deliver_144 : decode cX8_deliver 144 = .ok (.iload_n 1, 1) := by decide +kernel
theorem dX8_deliver_145 : decode cX8_deliver 145 = .ok (.iadd, 1) := by decide +kernel
theorem dX8_deliver_146 : decode cX8_deliver 146 = .ok (.dup2, 1) := by decide +kernel
theorem dX8_deliver_147 : decode cX8_deliver 147 = .ok (.iaload, 1) := by decide +kernel
theorem dX8_deliver_148 : decode cX8_deliver 148 = .ok (.iconst 1, 1) := by decide +kernel
theorem dX8_deliver_149 : decode cX8_deliver 149 = .ok (.isub, 1) := by decide +kernel
theorem dX8_deliver_150 : decode cX8_deliver 150 = .ok (.iastore, 1) := by decide +kernel
theorem dX8_deliver_151 : decode cX8_deliver 151 = .ok (.iload 6, 2) := by decide +kernel
theorem dX8_deliver_153 : decode cX8_deliver 153 = .ok (.istore 7, 2) := by decide +kernel
theorem dX8_deliver_155 : decode cX8_deliver 155 = .ok (.iload 7, 2) := by decide +kernel
theorem dX8_deliver_157 : decode cX8_deliver 157 = .ok (.bipush 12, 2) := by decide +kernel
theorem dX8_deliver_159 : decode cX8_deliver 159 = .ok (.iload_n 1, 1) := by decide +kernel
theorem dX8_deliver_160 : decode cX8_deliver 160 = .ok (.imul, 1) := by decide +kernel
theorem dX8_deliver_161 : decode cX8_deliver 161 = .ok (.aload_n 0, 1) := by decide +kernel
theorem dX8_deliver_162 : decode cX8_deliver 162 = .ok (.getfield 8, 3) := by decide +kernel
theorem dX8_deliver_165 : decode cX8_deliver 165 = .ok (.sipush 307, 3) := by decide +kernel
theorem dX8_deliver_168 : decode cX8_deliver 168 = .ok (.iload_n 1, 1) := by decide +kernel
theorem dX8_deliver_169 : decode cX8_deliver 169 = .ok (.iadd, 1) := by decide +kernel
theorem dX8_deliver_170 : decode cX8_deliver 170 = .ok (.iaload, 1) := by decide +kernel
theorem dX8_deliver_171 : decode cX8_deliver 171 = .ok (.iadd, 1) := by decide +kernel
theorem dX8_deliver_172 : decode cX8_deliver 172 = .ok (.if_icmp .ge 57, 3) := by decide +kernel
theorem dX8_deliver_175 : decode cX8_deliver 175 = .ok (.aload_n 0, 1) := by decide +kernel
theorem dX8_deliver_176 : decode cX8_deliver 176 = .ok (.getfield 8, 3) := by decide +kernel
theorem dX8_deliver_179 : decode cX8_deliver 179 = .ok (.sipush 309, 3) := by decide +kernel
theorem dX8_deliver_182 : decode cX8_deliver 182 = .ok (.iload 7, 2) := by decide +kernel
theorem dX8_deliver_184 : decode cX8_deliver 184 = .ok (.iadd, 1) := by decide +kernel
theorem dX8_deliver_185 : decode cX8_deliver 185 = .ok (.aload_n 0, 1) := by decide +kernel
theorem dX8_deliver_186 : decode cX8_deliver 186 = .ok (.getfield 8, 3) := by decide +kernel
theorem dX8_deliver_189 : decode cX8_deliver 189 = .ok (.sipush 309, 3) := by decide +kernel
theorem dX8_deliver_192 : decode cX8_deliver 192 = .ok (.iload 7, 2) := by decide +kernel
theorem dX8_deliver_194 : decode cX8_deliver 194 = .ok (.iadd, 1) := by decide +kernel
theorem dX8_deliver_195 : decode cX8_deliver 195 = .ok (.iconst 1, 1) := by decide +kernel
theorem dX8_deliver_196 : decode cX8_deliver 196 = .ok (.iadd, 1) := by decide +kernel
theorem dX8_deliver_197 : decode cX8_deliver 197 = .ok (.iaload, 1) := by decide +kernel
theorem dX8_deliver_198 : decode cX8_deliver 198 = .ok (.iastore, 1) := by decide +kernel
theorem dX8_deliver_199 : decode cX8_deliver 199 = .ok (.aload_n 0, 1) := by decide +kernel
theorem dX8_deliver_200 : decode cX8_deliver 200 = .ok (.getfield 8, 3) := by decide +kernel
theorem dX8_deliver_203 : decode cX8_deliver 203 = .ok (.sipush 333, 3) := by decide +kernel
theorem dX8_deliver_206 : decode cX8_deliver 206 = .ok (.iload 7, 2) := by decide +kernel
theorem dX8_deliver_208 : decode cX8_deliver 208 = .ok (.iadd, 1) := by decide +kernel
theorem dX8_deliver_209 : decode cX8_deliver 209 = .ok (.aload_n 0, 1) := by decide +kernel
theorem dX8_deliver_210 : decode cX8_deliver 210 = .ok (.getfield 8, 3) := by decide +kernel
theorem dX8_deliver_213 : decode cX8_deliver 213 = .ok (.sipush 333, 3) := by decide +kernel
theorem dX8_deliver_216 : decode cX8_deliver 216 = .ok (.iload 7, 2) := by decide +kernel
theorem dX8_deliver_218 : decode cX8_deliver 218 = .ok (.iadd, 1) := by decide +kernel
theorem dX8_deliver_219 : decode cX8_deliver 219 = .ok (.iconst 1, 1) := by decide +kernel
theorem dX8_deliver_220 : decode cX8_deliver 220 = .ok (.iadd, 1) := by decide +kernel
theorem dX8_deliver_221 : decode cX8_deliver 221 = .ok (.iaload, 1) := by decide +kernel
theorem dX8_deliver_222 : decode cX8_deliver 222 = .ok (.iastore, 1) := by decide +kernel
theorem dX8_deliver_223 : decode cX8_deliver 223 = .ok (.iinc 7 1, 3) := by decide +kernel
theorem dX8_deliver_226 : decode cX8_deliver 226 = .ok (.goto (-71), 3) := by decide +kernel
theorem dX8_deliver_229 : decode cX8_deliver 229 = .ok (.aload_n 0, 1) := by decide +kernel
theorem dX8_deliver_230 : decode cX8_deliver 230 = .ok (.getfield 8, 3) := by decide +kernel
theorem dX8_deliver_233 : decode cX8_deliver 233 = .ok (.iconst 3, 1) := by decide +kernel
theorem dX8_deliver_234 : decode cX8_deliver 234 = .ok (.dup2, 1) := by decide +kernel
theorem dX8_deliver_235 : decode cX8_deliver 235 = .ok (.iaload, 1) := by decide +kernel
theorem dX8_deliver_236 : decode cX8_deliver 236 = .ok (.iconst 1, 1) := by decide +kernel
theorem dX8_deliver_237 : decode cX8_deliver 237 = .ok (.iadd, 1) := by decide +kernel
theorem dX8_deliver_238 : decode cX8_deliver 238 = .ok (.iastore, 1) := by decide +kernel
theorem dX8_deliver_239 : decode cX8_deliver 239 = .ok (.aload_n 0, 1) := by decide +kernel
theorem dX8_deliver_240 : decode cX8_deliver 240 = .ok (.getfield 8, 3) := by decide +kernel
theorem dX8_deliver_243 : decode cX8_deliver 243 = .ok (.sipush 359, 3) := by decide +kernel
theorem dX8_deliver_246 : decode cX8_deliver 246 = .ok (.sipush 1000, 3) := by decide +kernel
theorem dX8_deliver_249 : decode cX8_deliver 249 = .ok (.iload_n 2, 1) := by decide +kernel
theorem dX8_deliver_250 : decode cX8_deliver 250 = .ok (.imul, 1) := by decide +kernel
theorem dX8_deliver_251 : decode cX8_deliver 251 = .ok (.iadd, 1) := by decide +kernel
theorem dX8_deliver_252 : decode cX8_deliver 252 = .ok (.iload 5, 2) := by decide +kernel
theorem dX8_deliver_254 : decode cX8_deliver 254 = .ok (.iadd, 1) := by decide +kernel
theorem dX8_deliver_255 : decode cX8_deliver 255 = .ok (.iconst 1, 1) := by decide +kernel
theorem dX8_deliver_256 : decode cX8_deliver 256 = .ok (.iastore, 1) := by decide +kernel
theorem dX8_deliver_257 : decode cX8_deliver 257 = .ok (.aload_n 0, 1) := by decide +kernel
theorem dX8_deliver_258 : decode cX8_deliver 258 = .ok (.iload_n 1, 1) := by decide +kernel
theorem dX8_deliver_259 : decode cX8_deliver 259 = .ok (.iload_n 3, 1) := by decide +kernel
theorem dX8_deliver_260 : decode cX8_deliver 260 = .ok (.iload 4, 2) := by decide +kernel
theorem dX8_deliver_262 : decode cX8_deliver 262 = .ok (.iload 5, 2) := by decide +kernel
theorem dX8_deliver_264 : decode cX8_deliver 264 = .ok (.invokevirtual 146, 3) := by decide +kernel
theorem dX8_deliver_267 : decode cX8_deliver 267 = .ok (.aload_n 0, 1) := by decide +kernel
theorem dX8_deliver_268 : decode cX8_deliver 268 = .ok (.iload_n 1, 1) := by decide +kernel
theorem dX8_deliver_269 : decode cX8_deliver 269 = .ok (.iload_n 2, 1) := by decide +kernel
theorem dX8_deliver_270 : decode cX8_deliver 270 = .ok (.iload 5, 2) := by decide +kernel
theorem dX8_deliver_272 : decode cX8_deliver 272 = .ok (.iconst (-1), 1) := by decide +kernel
theorem dX8_deliver_273 : decode cX8_deliver 273 = .ok (.invokevirtual 121, 3) := by decide +kernel
theorem dX8_deliver_276 : decode cX8_deliver 276 = .ok (.iload 5, 2) := by decide +kernel
theorem dX8_deliver_278 : decode cX8_deliver 278 = .ok (.ireturn, 1) := by decide +kernel
theorem dX8_receive_0 : decode cX8_receive 0 = .ok (.iload_n 1, 1) := by decide +kernel
theorem dX8_receive_1 : decode cX8_receive 1 = .ok (.invokestatic 111, 3) := by decide +kernel
theorem dX8_receive_4 : decode cX8_receive 4 = .ok (.ifCond .eq 13, 3) := by decide +kernel
theorem dX8_receive_7 : decode cX8_receive 7 = .ok (.iload_n 2, 1) := by decide +kernel
theorem dX8_receive_8 : decode cX8_receive 8 = .ok (.iconst 1, 1) := by decide +kernel
theorem dX8_receive_9 : decode cX8_receive 9 = .ok (.bipush 99, 2) := by decide +kernel
theorem dX8_receive_11 : decode cX8_receive 11 = .ok (.invokestatic 43, 3) := by decide +kernel
theorem dX8_receive_14 : decode cX8_receive 14 = .ok (.ifCond .ne 10, 3) := by decide +kernel
theorem dX8_receive_17 : decode cX8_receive 17 = .ok (.aload_n 0, 1) := by decide +kernel
theorem dX8_receive_18 : decode cX8_receive 18 = .ok (.bipush (-2), 2) := by decide +kernel
theorem dX8_receive_20 : decode cX8_receive 20 = .ok (.invokevirtual 52, 3) := by decide +kernel
theorem dX8_receive_23 : decode cX8_receive 23 = .ok (.ireturn, 1) := by decide +kernel
theorem dX8_receive_24 : decode cX8_receive 24 = .ok (.aload_n 0, 1) := by decide +kernel
theorem dX8_receive_25 : decode cX8_receive 25 = .ok (.invokevirtual 56, 3) := by decide +kernel
theorem dX8_receive_28 : decode cX8_receive 28 = .ok (.aload_n 0, 1) := by decide +kernel
theorem dX8_receive_29 : decode cX8_receive 29 = .ok (.getfield 8, 3) := by decide +kernel
theorem dX8_receive_32 : decode cX8_receive 32 = .ok (.sipush 357, 3) := by decide +kernel
theorem dX8_receive_35 : decode cX8_receive 35 = .ok (.iload_n 1, 1) := by decide +kernel
theorem dX8_receive_36 : decode cX8_receive 36 = .ok (.iadd, 1) := by decide +kernel
theorem dX8_receive_37 : decode cX8_receive 37 = .ok (.iaload, 1) := by decide +kernel
theorem dX8_receive_38 : decode cX8_receive 38 = .ok (.iload_n 2, 1) := by decide +kernel
theorem dX8_receive_39 : decode cX8_receive 39 = .ok (.if_icmp .ge 16, 3) := by decide +kernel
theorem dX8_receive_42 : decode cX8_receive 42 = .ok (.aload_n 0, 1) := by decide +kernel
theorem dX8_receive_43 : decode cX8_receive 43 = .ok (.getfield 8, 3) := by decide +kernel
theorem dX8_receive_46 : decode cX8_receive 46 = .ok (.sipush 357, 3) := by decide +kernel
theorem dX8_receive_49 : decode cX8_receive 49 = .ok (.iload_n 1, 1) := by decide +kernel
theorem dX8_receive_50 : decode cX8_receive 50 = .ok (.iadd, 1) := by decide +kernel
theorem dX8_receive_51 : decode cX8_receive 51 = .ok (.iaload, 1) := by decide +kernel
theorem dX8_receive_52 : decode cX8_receive 52 = .ok (.goto 4, 3) := by decide +kernel
theorem dX8_receive_55 : decode cX8_receive 55 = .ok (.iload_n 2, 1) := by decide +kernel
theorem dX8_receive_56 : decode cX8_receive 56 = .ok (.istore_n 3, 1) := by decide +kernel
theorem dX8_receive_57 : decode cX8_receive 57 = .ok (.ldc 107, 2) := by decide +kernel
theorem dX8_receive_59 : decode cX8_receive 59 = .ok (.sipush 8192, 3) := by decide +kernel
theorem dX8_receive_62 : decode cX8_receive 62 = .ok (.iload_n 1, 1) := by decide +kernel
theorem dX8_receive_63 : decode cX8_receive 63 = .ok (.imul, 1) := by decide +kernel
theorem dX8_receive_64 : decode cX8_receive 64 = .ok (.iadd, 1) := by decide +kernel
theorem dX8_receive_65 : decode cX8_receive 65 = .ok (.istore 4, 2) := by decide +kernel
theorem dX8_receive_67 : decode cX8_receive 67 = .ok (.iconst 0, 1) := by decide +kernel
theorem dX8_receive_68 : decode cX8_receive 68 = .ok (.istore 5, 2) := by decide +kernel
theorem dX8_receive_70 : decode cX8_receive 70 = .ok (.iload 5, 2) := by decide +kernel
theorem dX8_receive_72 : decode cX8_receive 72 = .ok (.iload_n 3, 1) := by decide +kernel
theorem dX8_receive_73 : decode cX8_receive 73 = .ok (.if_icmp .ge 56, 3) := by decide +kernel
theorem dX8_receive_76 : decode cX8_receive 76 = .ok (.aload_n 0, 1) := by decide +kernel
theorem dX8_receive_77 : decode cX8_receive 77 = .ok (.getfield 8, 3) := by decide +kernel
theorem dX8_receive_80 : decode cX8_receive 80 = .ok (.iload 4, 2) := by decide +kernel
theorem dX8_receive_82 : decode cX8_receive 82 = .ok (.iload 5, 2) := by decide +kernel
theorem dX8_receive_84 : decode cX8_receive 84 = .ok (.iadd, 1) := by decide +kernel
theorem dX8_receive_85 : decode cX8_receive 85 = .ok (.iaload, 1) := by decide +kernel
theorem dX8_receive_86 : decode cX8_receive 86 = .ok (.istore 6, 2) := by decide +kernel
theorem dX8_receive_88 : decode cX8_receive 88 = .ok (.aload_n 0, 1) := by decide +kernel
theorem dX8_receive_89 : decode cX8_receive 89 = .ok (.getfield 8, 3) := by decide +kernel
theorem dX8_receive_92 : decode cX8_receive 92 = .ok (.sipush 6359, 3) := by decide +kernel
theorem dX8_receive_95 : decode cX8_receive 95 = .ok (.sipush 16000, 3) := by decide +kernel
theorem dX8_receive_98 : decode cX8_receive 98 = .ok (.iload_n 1, 1) := by decide +kernel
theorem dX8_receive_99 : decode cX8_receive 99 = .ok (.imul, 1) := by decide +kernel
theorem dX8_receive_100 : decode cX8_receive 100 = .ok (.iadd, 1) := by decide +kernel
theorem dX8_receive_101 : decode cX8_receive 101 = .ok (.iload 6, 2) := by decide +kernel
theorem dX8_receive_103 : decode cX8_receive 103 = .ok (.iconst 2, 1) := by decide +kernel
theorem dX8_receive_104 : decode cX8_receive 104 = .ok (.idiv, 1) := by decide +kernel
theorem dX8_receive_105 : decode cX8_receive 105 = .ok (.iadd, 1) := by decide +kernel
theorem dX8_receive_106 : decode cX8_receive 106 = .ok (.dup2, 1) := by decide +kernel
theorem dX8_receive_107 : decode cX8_receive 107 = .ok (.iaload, 1) := by decide +kernel
theorem dX8_receive_108 : decode cX8_receive 108 = .ok (.iload 6, 2) := by decide +kernel
theorem dX8_receive_110 : decode cX8_receive 110 = .ok (.iconst 2, 1) := by decide +kernel
theorem dX8_receive_111 : decode cX8_receive 111 = .ok (.irem, 1) := by decide +kernel
theorem dX8_receive_112 : decode cX8_receive 112 = .ok (.iconst 1, 1) := by decide +kernel
theorem dX8_receive_113 : decode cX8_receive 113 = .ok (.if_icmp .ne 7, 3) := by decide +kernel
theorem dX8_receive_116 : decode cX8_receive 116 = .ok (.iconst 1, 1) := by decide +kernel
theorem dX8_receive_117 : decode cX8_receive 117 = .ok (.goto 4, 3) := by decide +kernel
theorem dX8_receive_120 : decode cX8_receive 120 = .ok (.iconst (-1), 1) := by decide +kernel
theorem dX8_receive_121 : decode cX8_receive 121 = .ok (.iadd, 1) := by decide +kernel
theorem dX8_receive_122 : decode cX8_receive 122 = .ok (.iastore, 1) := by decide +kernel
theorem dX8_receive_123 : decode cX8_receive 123 = .ok (.iinc 5 1, 3) := by decide +kernel
theorem dX8_receive_126 : decode cX8_receive 126 = .ok (.goto (-56), 3) := by decide +kernel
theorem dX8_receive_129 : decode cX8_receive 129 = .ok (.aload_n 0, 1) := by decide +kernel
theorem dX8_receive_130 : decode cX8_receive 130 = .ok (.getfield 8, 3) := by decide +kernel
theorem dX8_receive_133 : decode cX8_receive 133 = .ok (.sipush 357, 3) := by decide +kernel
theorem dX8_receive_136 : decode cX8_receive 136 = .ok (.iload_n 1, 1) := by decide +kernel
theorem dX8_receive_137 : decode cX8_receive 137 = .ok (.iadd, 1) := by decide +kernel
theorem dX8_receive_138 : decode cX8_receive 138 = .ok (.dup2, 1) := by decide +kernel
theorem dX8_receive_139 : decode cX8_receive 139 = .ok (.iaload, 1) := by decide +kernel
theorem dX8_receive_140 : decode cX8_receive 140 = .ok (.iload_n 3, 1) := by decide +kernel
theorem dX8_receive_141 : decode cX8_receive 141 = .ok (.isub, 1) := by decide +kernel
theorem dX8_receive_142 : decode cX8_receive 142 = .ok (.iastore, 1) := by decide +kernel
theorem dX8_receive_143 : decode cX8_receive 143 = .ok (.iconst 0, 1) := by decide +kernel
theorem dX8_receive_144 : decode cX8_receive 144 = .ok (.istore 5, 2) := by decide +kernel
theorem dX8_receive_146 : decode cX8_receive 146 = .ok (.iload 5, 2) := by decide +kernel
theorem dX8_receive_148 : decode cX8_receive 148 = .ok (.aload_n 0, 1) := by decide +kernel
theorem dX8_receive_149 : decode cX8_receive 149 = .ok (.getfield 8, 3) := by decide +kernel
theorem dX8_receive_152 : decode cX8_receive 152 = .ok (.sipush 357, 3) := by decide +kernel
theorem dX8_receive_155 : decode cX8_receive 155 = .ok (.iload_n 1, 1) := by decide +kernel
theorem dX8_receive_156 : decode cX8_receive 156 = .ok (.iadd, 1) := by decide +kernel
theorem dX8_receive_157 : decode cX8_receive 157 = .ok (.iaload, 1) := by decide +kernel
theorem dX8_receive_158 : decode cX8_receive 158 = .ok (.if_icmp .ge 31, 3) := by decide +kernel
theorem dX8_receive_161 : decode cX8_receive 161 = .ok (.aload_n 0, 1) := by decide +kernel
theorem dX8_receive_162 : decode cX8_receive 162 = .ok (.getfield 8, 3) := by decide +kernel
theorem dX8_receive_165 : decode cX8_receive 165 = .ok (.iload 4, 2) := by decide +kernel
theorem dX8_receive_167 : decode cX8_receive 167 = .ok (.iload 5, 2) := by decide +kernel
theorem dX8_receive_169 : decode cX8_receive 169 = .ok (.iadd, 1) := by decide +kernel
theorem dX8_receive_170 : decode cX8_receive 170 = .ok (.aload_n 0, 1) := by decide +kernel
theorem dX8_receive_171 : decode cX8_receive 171 = .ok (.getfield 8, 3) := by decide +kernel
theorem dX8_receive_174 : decode cX8_receive 174 = .ok (.iload 4, 2) := by decide +kernel
theorem dX8_receive_176 : decode cX8_receive 176 = .ok (.iload_n 3, 1) := by decide +kernel
theorem dX8_receive_177 : decode cX8_receive 177 = .ok (.iadd, 1) := by decide +kernel
theorem dX8_receive_178 : decode cX8_receive 178 = .ok (.iload 5, 2) := by decide +kernel
theorem dX8_receive_180 : decode cX8_receive 180 = .ok (.iadd, 1) := by decide +kernel
theorem dX8_receive_181 : decode cX8_receive 181 = .ok (.iaload, 1) := by decide +kernel
theorem dX8_receive_182 : decode cX8_receive 182 = .ok (.iastore, 1) := by decide +kernel
theorem dX8_receive_183 : decode cX8_receive 183 = .ok (.iinc 5 1, 3) := by decide +kernel
theorem dX8_receive_186 : decode cX8_receive 186 = .ok (.goto (-40), 3) := by decide +kernel
theorem dX8_receive_189 : decode cX8_receive 189 = .ok (.iload_n 3, 1) := by decide +kernel
theorem dX8_receive_190 : decode cX8_receive 190 = .ok (.ireturn, 1) := by decide +kernel
theorem dX8_messages_0 : decode cX8_messages 0 = .ok (.iload_n 1, 1) := by decide +kernel
theorem dX8_messages_1 : decode cX8_messages 1 = .ok (.invokestatic 111, 3) := by decide +kernel
theorem dX8_messages_4 : decode cX8_messages 4 = .ok (.ifCond .eq 28, 3) := by decide +kernel
theorem dX8_messages_7 : decode cX8_messages 7 = .ok (.aload_n 0, 1) := by decide +kernel
theorem dX8_messages_8 : decode cX8_messages 8 = .ok (.iload_n 2, 1) := by decide +kernel
theorem dX8_messages_9 : decode cX8_messages 9 = .ok (.invokevirtual 77, 3) := by decide +kernel
theorem dX8_messages_12 : decode cX8_messages 12 = .ok (.ifCond .eq 20, 3) := by decide +kernel
theorem dX8_messages_15 : decode cX8_messages 15 = .ok (.aload_n 0, 1) := by decide +kernel
theorem dX8_messages_16 : decode cX8_messages 16 = .ok (.getfield 8, 3) := by decide +kernel
theorem dX8_messages_19 : decode cX8_messages 19 = .ok (.bipush 47, 2) := by decide +kernel
theorem dX8_messages_21 : decode cX8_messages 21 = .ok (.aload_n 0, 1) := by decide +kernel
theorem dX8_messages_22 : decode cX8_messages 22 = .ok (.iload_n 1, 1) := by decide +kernel
theorem dX8_messages_23 : decode cX8_messages 23 = .ok (.iload_n 2, 1) := by decide +kernel
theorem dX8_messages_24 : decode cX8_messages 24 = .ok (.invokevirtual 108, 3) := by decide +kernel
theorem dX8_messages_27 : decode cX8_messages 27 = .ok (.iadd, 1) := by decide +kernel
theorem dX8_messages_28 : decode cX8_messages 28 = .ok (.iaload, 1) := by decide +kernel
theorem dX8_messages_29 : decode cX8_messages 29 = .ok (.goto 9, 3) := by decide +kernel
theorem dX8_messages_32 : decode cX8_messages 32 = .ok (.aload_n 0, 1) := by decide +kernel
theorem dX8_messages_33 : decode cX8_messages 33 = .ok (.bipush (-2), 2) := by decide +kernel
theorem dX8_messages_35 : decode cX8_messages 35 = .ok (.invokevirtual 52, 3) := by decide +kernel
theorem dX8_messages_38 : decode cX8_messages 38 = .ok (.ireturn, 1) := by decide +kernel
theorem dX8_messageTime_0 : decode cX8_messageTime 0 = .ok (.iload_n 1, 1) := by decide +kernel
theorem dX8_messageTime_1 : decode cX8_messageTime 1 = .ok (.invokestatic 111, 3) := by decide +kernel
theorem dX8_messageTime_4 : decode cX8_messageTime 4 = .ok (.ifCond .eq 15, 3) := by decide +kernel
theorem dX8_messageTime_7 : decode cX8_messageTime 7 = .ok (.aload_n 0, 1) := by decide +kernel
theorem dX8_messageTime_8 : decode cX8_messageTime 8 = .ok (.iload_n 2, 1) := by decide +kernel
theorem dX8_messageTime_9 : decode cX8_messageTime 9 = .ok (.invokevirtual 77, 3) := by decide +kernel
theorem dX8_messageTime_12 : decode cX8_messageTime 12 = .ok (.ifCond .eq 7, 3) := by decide +kernel
theorem dX8_messageTime_15 : decode cX8_messageTime 15 = .ok (.iload_n 3, 1) := by decide +kernel
theorem dX8_messageTime_16 : decode cX8_messageTime 16 = .ok (.ifCond .ge 10, 3) := by decide +kernel
theorem dX8_messageTime_19 : decode cX8_messageTime 19 = .ok (.aload_n 0, 1) := by decide +kernel
theorem dX8_messageTime_20 : decode cX8_messageTime 20 = .ok (.bipush (-2), 2) := by decide +kernel
theorem dX8_messageTime_22 : decode cX8_messageTime 22 = .ok (.invokevirtual 52, 3) := by decide +kernel
theorem dX8_messageTime_25 : decode cX8_messageTime 25 = .ok (.ireturn, 1) := by decide +kernel
theorem dX8_messageTime_26 : decode cX8_messageTime 26 = .ok (.aload_n 0, 1) := by decide +kernel
theorem dX8_messageTime_27 : decode cX8_messageTime 27 = .ok (.iload_n 1, 1) := by decide +kernel
theorem dX8_messageTime_28 : decode cX8_messageTime 28 = .ok (.iload_n 2, 1) := by decide +kernel
theorem dX8_messageTime_29 : decode cX8_messageTime 29 = .ok (.invokevirtual 108, 3) := by decide +kernel
theorem dX8_messageTime_32 : decode cX8_messageTime 32 = .ok (.istore 4, 2) := by decide +kernel
theorem dX8_messageTime_34 : decode cX8_messageTime 34 = .ok (.iload_n 3, 1) := by decide +kernel
theorem dX8_messageTime_35 : decode cX8_messageTime 35 = .ok (.aload_n 0, 1) := by decide +kernel
theorem dX8_messageTime_36 : decode cX8_messageTime 36 = .ok (.getfield 8, 3) := by decide +kernel
theorem dX8_messageTime_39 : decode cX8_messageTime 39 = .ok (.bipush 47, 2) := by decide +kernel
theorem dX8_messageTime_41 : decode cX8_messageTime 41 = .ok (.iload 4, 2) := by decide +kernel
theorem dX8_messageTime_43 : decode cX8_messageTime 43 = .ok (.iadd, 1) := by decide +kernel
theorem dX8_messageTime_44 : decode cX8_messageTime 44 = .ok (.iaload, 1) := by decide +kernel
theorem dX8_messageTime_45 : decode cX8_messageTime 45 = .ok (.if_icmp .ge 21, 3) := by decide +kernel
theorem dX8_messageTime_48 : decode cX8_messageTime 48 = .ok (.aload_n 0, 1) := by decide +kernel
theorem dX8_messageTime_49 : decode cX8_messageTime 49 = .ok (.getfield 8, 3) := by decide +kernel
theorem dX8_messageTime_52 : decode cX8_messageTime 52 = .ok (.bipush 67, 2) := by decide +kernel
theorem dX8_messageTime_54 : decode cX8_messageTime 54 = .ok (.bipush 12, 2) := by decide +kernel
theorem dX8_messageTime_56 : decode cX8_messageTime 56 = .ok (.iload 4, 2) := by decide +kernel
theorem dX8_messageTime_58 : decode cX8_messageTime 58 = .ok (.imul, 1) := by decide +kernel
theorem dX8_messageTime_59 : decode cX8_messageTime 59 = .ok (.iadd, 1) := by decide +kernel
theorem dX8_messageTime_60 : decode cX8_messageTime 60 = .ok (.iload_n 3, 1) := by decide +kernel
theorem dX8_messageTime_61 : decode cX8_messageTime 61 = .ok (.iadd, 1) := by decide +kernel
theorem dX8_messageTime_62 : decode cX8_messageTime 62 = .ok (.iaload, 1) := by decide +kernel
theorem dX8_messageTime_63 : decode cX8_messageTime 63 = .ok (.goto 4, 3) := by decide +kernel
theorem dX8_messageTime_66 : decode cX8_messageTime 66 = .ok (.iconst (-1), 1) := by decide +kernel
theorem dX8_messageTime_67 : decode cX8_messageTime 67 = .ok (.ireturn, 1) := by decide +kernel
theorem dX8_requestsOf_0 : decode cX8_requestsOf 0 = .ok (.iconst 0, 1) := by decide +kernel
theorem dX8_requestsOf_1 : decode cX8_requestsOf 1 = .ok (.istore_n 3, 1) := by decide +kernel
theorem dX8_requestsOf_2 : decode cX8_requestsOf 2 = .ok (.bipush 12, 2) := by decide +kernel
theorem dX8_requestsOf_4 : decode cX8_requestsOf 4 = .ok (.iload_n 1, 1) := by decide +kernel
theorem dX8_requestsOf_5 : decode cX8_requestsOf 5 = .ok (.imul, 1) := by decide +kernel
theorem dX8_requestsOf_6 : decode cX8_requestsOf 6 = .ok (.istore 4, 2) := by decide +kernel
theorem dX8_requestsOf_8 : decode cX8_requestsOf 8 = .ok (.iload 4, 2) := by decide +kernel
theorem dX8_requestsOf_10 : decode cX8_requestsOf 10 = .ok (.bipush 12, 2) := by decide +kernel
theorem dX8_requestsOf_12 : decode cX8_requestsOf 12 = .ok (.iload_n 1, 1) := by decide +kernel
theorem dX8_requestsOf_13 : decode cX8_requestsOf 13 = .ok (.imul, 1) := by decide +kernel
theorem dX8_requestsOf_14 : decode cX8_requestsOf 14 = .ok (.aload_n 0, 1) := by decide +kernel
theorem dX8_requestsOf_15 : decode cX8_requestsOf 15 = .ok (.getfield 8, 3) := by decide +kernel
theorem dX8_requestsOf_18 : decode cX8_requestsOf 18 = .ok (.sipush 307, 3) := by decide +kernel
theorem dX8_requestsOf_21 : decode cX8_requestsOf 21 = .ok (.iload_n 1, 1) := by decide +kernel
theorem dX8_requestsOf_22 : decode cX8_requestsOf 22 = .ok (.iadd, 1) := by decide +kernel
theorem dX8_requestsOf_23 : decode cX8_requestsOf 23 = .ok (.iaload, 1) := by decide +kernel
theorem dX8_requestsOf_24 : decode cX8_requestsOf 24 = .ok (.iadd, 1) := by decide +kernel
theorem dX8_requestsOf_25 : decode cX8_requestsOf 25 = .ok (.if_icmp .ge 32, 3) := by decide +kernel
theorem dX8_requestsOf_28 : decode cX8_requestsOf 28 = .ok (.iload_n 3, 1) := by decide +kernel
theorem dX8_requestsOf_29 : decode cX8_requestsOf 29 = .ok (.aload_n 0, 1) := by decide +kernel
theorem dX8_requestsOf_30 : decode cX8_requestsOf 30 = .ok (.getfield 8, 3) := by decide +kernel
theorem dX8_requestsOf_33 : decode cX8_requestsOf 33 = .ok (.sipush 309, 3) := by decide +kernel
theorem dX8_requestsOf_36 : decode cX8_requestsOf 36 = .ok (.iload 4, 2) := by decide +kernel
theorem dX8_requestsOf_38 : decode cX8_requestsOf 38 = .ok (.iadd, 1) := by decide +kernel
theorem dX8_requestsOf_39 : decode cX8_requestsOf 39 = .ok (.iaload, 1) := by decide +kernel
theorem dX8_requestsOf_40 : decode cX8_requestsOf 40 = .ok (.iload_n 2, 1) := by decide +kernel
theorem dX8_requestsOf_41 : decode cX8_requestsOf 41 = .ok (.if_icmp .ne 7, 3) := by decide +kernel
theorem dX8_requestsOf_44 : decode cX8_requestsOf 44 = .ok (.iconst 1, 1) := by decide +kernel
theorem dX8_requestsOf_45 : decode cX8_requestsOf 45 = .ok (.goto 4, 3) := by decide +kernel
theorem dX8_requestsOf_48 : decode cX8_requestsOf 48 = .ok (.iconst 0, 1) := by decide +kernel
theorem dX8_requestsOf_49 : decode cX8_requestsOf 49 = .ok (.iadd, 1) := by decide +kernel
theorem dX8_requestsOf_50 : decode cX8_requestsOf 50 = .ok (.istore_n 3, 1) := by decide +kernel
theorem dX8_requestsOf_51 : decode cX8_requestsOf 51 = .ok (.iinc 4 1, 3) := by decide +kernel
theorem dX8_requestsOf_54 : decode cX8_requestsOf 54 = .ok (.goto (-46), 3) := by decide +kernel
theorem dX8_requestsOf_57 : decode cX8_requestsOf 57 = .ok (.iload_n 3, 1) := by decide +kernel
theorem dX8_requestsOf_58 : decode cX8_requestsOf 58 = .ok (.ireturn, 1) := by decide +kernel
theorem dX8_requests_0 : decode cX8_requests 0 = .ok (.iload_n 1, 1) := by decide +kernel
theorem dX8_requests_1 : decode cX8_requests 1 = .ok (.invokestatic 111, 3) := by decide +kernel
theorem dX8_requests_4 : decode cX8_requests 4 = .ok (.ifCond .eq 20, 3) := by decide +kernel
theorem dX8_requests_7 : decode cX8_requests 7 = .ok (.aload_n 0, 1) := by decide +kernel
theorem dX8_requests_8 : decode cX8_requests 8 = .ok (.iload_n 2, 1) := by decide +kernel
theorem dX8_requests_9 : decode cX8_requests 9 = .ok (.invokevirtual 71, 3) := by decide +kernel
theorem dX8_requests_12 : decode cX8_requests 12 = .ok (.ifCond .eq 12, 3) := by decide +kernel
theorem dX8_requests_15 : decode cX8_requests 15 = .ok (.aload_n 0, 1) := by decide +kernel
theorem dX8_requests_16 : decode cX8_requests 16 = .ok (.iload_n 1, 1) := by decide +kernel
theorem dX8_requests_17 : decode cX8_requests 17 = .ok (.iload_n 2, 1) := by decide +kernel
theorem dX8_requests_18 : decode cX8_requests 18 = .ok (.invokevirtual 165, 3) := by decide +kernel
theorem dX8_requests_21 : decode cX8_requests 21 = .ok (.goto 9, 3) := by decide +kernel
theorem dX8_requests_24 : decode cX8_requests 24 = .ok (.aload_n 0, 1) := by decide +kernel
theorem dX8_requests_25 : decode cX8_requests 25 = .ok (.bipush (-2), 2) := by decide +kernel
theorem dX8_requests_27 : decode cX8_requests 27 = .ok (.invokevirtual 52, 3) := by decide +kernel
theorem dX8_requests_30 : decode cX8_requests 30 = .ok (.ireturn, 1) := by decide +kernel
theorem dX8_deliverable_0 : decode cX8_deliverable 0 = .ok (.iload_n 1, 1) := by decide +kernel
theorem dX8_deliverable_1 : decode cX8_deliverable 1 = .ok (.invokestatic 111, 3) := by decide +kernel
theorem dX8_deliverable_4 : decode cX8_deliverable 4 = .ok (.ifCond .eq 11, 3) := by decide +kernel
theorem dX8_deliverable_7 : decode cX8_deliverable 7 = .ok (.aload_n 0, 1) := by decide +kernel
theorem dX8_deliverable_8 : decode cX8_deliverable 8 = .ok (.iload_n 2, 1) := by decide +kernel
theorem dX8_deliverable_9 : decode cX8_deliverable 9 = .ok (.invokevirtual 71, 3) := by decide +kernel
theorem dX8_deliverable_12 : decode cX8_deliverable 12 = .ok (.ifCond .ne 10, 3) := by decide +kernel
theorem dX8_deliverable_15 : decode cX8_deliverable 15 = .ok (.aload_n 0, 1) := by decide +kernel
theorem dX8_deliverable_16 : decode cX8_deliverable 16 = .ok (.bipush (-2), 2) := by decide +kernel
theorem dX8_deliverable_18 : decode cX8_deliverable 18 = .ok (.invokevirtual 52, 3) := by decide +kernel
theorem dX8_deliverable_21 : decode cX8_deliverable 21 = .ok (.ireturn, 1) := by decide +kernel
theorem dX8_deliverable_22 : decode cX8_deliverable 22 = .ok (.aload_n 0, 1) := by decide +kernel
theorem dX8_deliverable_23 : decode cX8_deliverable 23 = .ok (.iload_n 1, 1) := by decide +kernel
theorem dX8_deliverable_24 : decode cX8_deliverable 24 = .ok (.invokevirtual 159, 3) := by decide +kernel
theorem dX8_deliverable_27 : decode cX8_deliverable 27 = .ok (.aload_n 0, 1) := by decide +kernel
theorem dX8_deliverable_28 : decode cX8_deliverable 28 = .ok (.iload_n 1, 1) := by decide +kernel
theorem dX8_deliverable_29 : decode cX8_deliverable 29 = .ok (.iload_n 2, 1) := by decide +kernel
theorem dX8_deliverable_30 : decode cX8_deliverable 30 = .ok (.invokevirtual 162, 3) := by decide +kernel
theorem dX8_deliverable_33 : decode cX8_deliverable 33 = .ok (.ireturn, 1) := by decide +kernel
theorem dX8_count_0 : decode cX8_count 0 = .ok (.iload_n 1, 1) := by decide +kernel
theorem dX8_count_1 : decode cX8_count 1 = .ok (.invokestatic 111, 3) := by decide +kernel
theorem dX8_count_4 : decode cX8_count 4 = .ok (.ifCond .eq 39, 3) := by decide +kernel
theorem dX8_count_7 : decode cX8_count 7 = .ok (.aload_n 0, 1) := by decide +kernel
theorem dX8_count_8 : decode cX8_count 8 = .ok (.iload_n 2, 1) := by decide +kernel
theorem dX8_count_9 : decode cX8_count 9 = .ok (.invokevirtual 101, 3) := by decide +kernel
theorem dX8_count_12 : decode cX8_count 12 = .ok (.ifCond .eq 31, 3) := by decide +kernel
theorem dX8_count_15 : decode cX8_count 15 = .ok (.aload_n 0, 1) := by decide +kernel
theorem dX8_count_16 : decode cX8_count 16 = .ok (.iload_n 2, 1) := by decide +kernel
theorem dX8_count_17 : decode cX8_count 17 = .ok (.iload_n 3, 1) := by decide +kernel
theorem dX8_count_18 : decode cX8_count 18 = .ok (.invokevirtual 86, 3) := by decide +kernel
theorem dX8_count_21 : decode cX8_count 21 = .ok (.ifCond .eq 22, 3) := by decide +kernel
theorem dX8_count_24 : decode cX8_count 24 = .ok (.sipush 1000, 3) := by decide +kernel
theorem dX8_count_27 : decode cX8_count 27 = .ok (.aload_n 0, 1) := by decide +kernel
theorem dX8_count_28 : decode cX8_count 28 = .ok (.getfield 8, 3) := by decide +kernel
theorem dX8_count_31 : decode cX8_count 31 = .ok (.aload_n 0, 1) := by decide +kernel
theorem dX8_count_32 : decode cX8_count 32 = .ok (.iload_n 1, 1) := by decide +kernel
theorem dX8_count_33 : decode cX8_count 33 = .ok (.iload_n 2, 1) := by decide +kernel
theorem dX8_count_34 : decode cX8_count 34 = .ok (.iload_n 3, 1) := by decide +kernel
theorem dX8_count_35 : decode cX8_count 35 = .ok (.invokevirtual 59, 3) := by decide +kernel
theorem dX8_count_38 : decode cX8_count 38 = .ok (.iaload, 1) := by decide +kernel
theorem dX8_count_39 : decode cX8_count 39 = .ok (.iadd, 1) := by decide +kernel
theorem dX8_count_40 : decode cX8_count 40 = .ok (.goto 9, 3) := by decide +kernel
theorem dX8_count_43 : decode cX8_count 43 = .ok (.aload_n 0, 1) := by decide +kernel
theorem dX8_count_44 : decode cX8_count 44 = .ok (.bipush (-2), 2) := by decide +kernel
theorem dX8_count_46 : decode cX8_count 46 = .ok (.invokevirtual 52, 3) := by decide +kernel
theorem dX8_count_49 : decode cX8_count 49 = .ok (.ireturn, 1) := by decide +kernel
theorem dX8_active_0 : decode cX8_active 0 = .ok (.iload_n 1, 1) := by decide +kernel
theorem dX8_active_1 : decode cX8_active 1 = .ok (.invokestatic 111, 3) := by decide +kernel
theorem dX8_active_4 : decode cX8_active 4 = .ok (.ifCond .ne 10, 3) := by decide +kernel
theorem dX8_active_7 : decode cX8_active 7 = .ok (.aload_n 0, 1) := by decide +kernel
theorem dX8_active_8 : decode cX8_active 8 = .ok (.bipush (-2), 2) := by decide +kernel
theorem dX8_active_10 : decode cX8_active 10 = .ok (.invokevirtual 52, 3) := by decide +kernel
theorem dX8_active_13 : decode cX8_active 13 = .ok (.ireturn, 1) := by decide +kernel
theorem dX8_active_14 : decode cX8_active 14 = .ok (.aload_n 0, 1) := by decide +kernel
theorem dX8_active_15 : decode cX8_active 15 = .ok (.iload_n 1, 1) := by decide +kernel
theorem dX8_active_16 : decode cX8_active 16 = .ok (.invokevirtual 152, 3) := by decide +kernel
theorem dX8_active_19 : decode cX8_active 19 = .ok (.aload_n 0, 1) := by decide +kernel
theorem dX8_active_20 : decode cX8_active 20 = .ok (.getfield 149, 3) := by decide +kernel
theorem dX8_active_23 : decode cX8_active 23 = .ok (.ireturn, 1) := by decide +kernel
theorem dX8_frontierAt_0 : decode cX8_frontierAt 0 = .ok (.iconst 0, 1) := by decide +kernel
theorem dX8_frontierAt_1 : decode cX8_frontierAt 1 = .ok (.istore_n 2, 1) := by decide +kernel
theorem dX8_frontierAt_2 : decode cX8_frontierAt 2 = .ok (.iconst (-1), 1) := by decide +kernel
theorem dX8_frontierAt_3 : decode cX8_frontierAt 3 = .ok (.istore_n 3, 1) := by decide +kernel
theorem dX8_frontierAt_4 : decode cX8_frontierAt 4 = .ok (.iconst 0, 1) := by decide +kernel
theorem dX8_frontierAt_5 : decode cX8_frontierAt 5 = .ok (.istore 4, 2) := by decide +kernel
theorem dX8_frontierAt_7 : decode cX8_frontierAt 7 = .ok (.iload 4, 2) := by decide +kernel
theorem dX8_frontierAt_9 : decode cX8_frontierAt 9 = .ok (.aload_n 0, 1) := by decide +kernel
theorem dX8_frontierAt_10 : decode cX8_frontierAt 10 = .ok (.getfield 149, 3) := by decide +kernel
theorem dX8_frontierAt_13 : decode cX8_frontierAt 13 = .ok (.if_icmp .ge 39, 3) := by decide +kernel
theorem dX8_frontierAt_16 : decode cX8_frontierAt 16 = .ok (.aload_n 0, 1) := by decide +kernel
theorem dX8_frontierAt_17 : decode cX8_frontierAt 17 = .ok (.getfield 40, 3) := by decide +kernel
theorem dX8_frontierAt_20 : decode cX8_frontierAt 20 = .ok (.iload 4, 2) := by decide +kernel
theorem dX8_frontierAt_22 : decode cX8_frontierAt 22 = .ok (.baload, 1) := by decide +kernel
theorem dX8_frontierAt_23 : decode cX8_frontierAt 23 = .ok (.ifCond .eq 23, 3) := by decide +kernel
theorem dX8_frontierAt_26 : decode cX8_frontierAt 26 = .ok (.iload_n 2, 1) := by decide +kernel
theorem dX8_frontierAt_27 : decode cX8_frontierAt 27 = .ok (.iload_n 1, 1) := by decide +kernel
theorem dX8_frontierAt_28 : decode cX8_frontierAt 28 = .ok (.if_icmp .ne 13, 3) := by decide +kernel
theorem dX8_frontierAt_31 : decode cX8_frontierAt 31 = .ok (.aload_n 0, 1) := by decide +kernel
theorem dX8_frontierAt_32 : decode cX8_frontierAt 32 = .ok (.getfield 37, 3) := by decide +kernel
theorem dX8_frontierAt_35 : decode cX8_frontierAt 35 = .ok (.iload 4, 2) := by decide +kernel
theorem dX8_frontierAt_37 : decode cX8_frontierAt 37 = .ok (.iaload, 1) := by decide +kernel
theorem dX8_frontierAt_38 : decode cX8_frontierAt 38 = .ok (.goto 4, 3) := by decide +kernel
theorem dX8_frontierAt_41 : decode cX8_frontierAt 41 = .ok (.iload_n 3, 1) := by decide +kernel
theorem dX8_frontierAt_42 : decode cX8_frontierAt 42 = .ok (.istore_n 3, 1) := by decide +kernel
theorem dX8_frontierAt_43 : decode cX8_frontierAt 43 = .ok (.iinc 2 1, 3) := by decide +kernel
theorem dX8_frontierAt_46 : decode cX8_frontierAt 46 = .ok (.iinc 4 1, 3) := by decide +kernel
theorem dX8_frontierAt_49 : decode cX8_frontierAt 49 = .ok (.goto (-42), 3) := by decide +kernel
theorem dX8_frontierAt_52 : decode cX8_frontierAt 52 = .ok (.iload_n 1, 1) := by decide +kernel
theorem dX8_frontierAt_53 : decode cX8_frontierAt 53 = .ok (.iconst (-1), 1) := by decide +kernel
theorem dX8_frontierAt_54 : decode cX8_frontierAt 54 = .ok (.if_icmp .ne 7, 3) := by decide +kernel
theorem dX8_frontierAt_57 : decode cX8_frontierAt 57 = .ok (.iload_n 2, 1) := by decide +kernel
theorem dX8_frontierAt_58 : decode cX8_frontierAt 58 = .ok (.goto 4, 3) := by decide +kernel
theorem dX8_frontierAt_61 : decode cX8_frontierAt 61 = .ok (.iload_n 3, 1) := by decide +kernel
theorem dX8_frontierAt_62 : decode cX8_frontierAt 62 = .ok (.ireturn, 1) := by decide +kernel
theorem dX8_frontier_0 : decode cX8_frontier 0 = .ok (.iload_n 1, 1) := by decide +kernel
theorem dX8_frontier_1 : decode cX8_frontier 1 = .ok (.invokestatic 111, 3) := by decide +kernel
theorem dX8_frontier_4 : decode cX8_frontier 4 = .ok (.ifCond .eq 8, 3) := by decide +kernel
theorem dX8_frontier_7 : decode cX8_frontier 7 = .ok (.iload_n 2, 1) := by decide +kernel
theorem dX8_frontier_8 : decode cX8_frontier 8 = .ok (.iconst (-1), 1) := by decide +kernel
theorem dX8_frontier_9 : decode cX8_frontier 9 = .ok (.if_icmp .ge 10, 3) := by decide +kernel
theorem dX8_frontier_12 : decode cX8_frontier 12 = .ok (.aload_n 0, 1) := by decide +kernel
theorem dX8_frontier_13 : decode cX8_frontier 13 = .ok (.bipush (-2), 2) := by decide +kernel
theorem dX8_frontier_15 : decode cX8_frontier 15 = .ok (.invokevirtual 52, 3) := by decide +kernel
theorem dX8_frontier_18 : decode cX8_frontier 18 = .ok (.ireturn, 1) := by decide +kernel
theorem dX8_frontier_19 : decode cX8_frontier 19 = .ok (.aload_n 0, 1) := by decide +kernel
theorem dX8_frontier_20 : decode cX8_frontier 20 = .ok (.iload_n 1, 1) := by decide +kernel
theorem dX8_frontier_21 : decode cX8_frontier 21 = .ok (.invokevirtual 159, 3) := by decide +kernel
theorem dX8_frontier_24 : decode cX8_frontier 24 = .ok (.aload_n 0, 1) := by decide +kernel
theorem dX8_frontier_25 : decode cX8_frontier 25 = .ok (.iload_n 2, 1) := by decide +kernel
theorem dX8_frontier_26 : decode cX8_frontier 26 = .ok (.invokevirtual 168, 3) := by decide +kernel
theorem dX8_frontier_29 : decode cX8_frontier 29 = .ok (.ireturn, 1) := by decide +kernel
end
section
theorem dX8_pending_0 : decode cX8_pending 0 = .ok (.iload_n 1, 1) := by decide +kernel
theorem dX8_pending_1 : decode cX8_pending 1 = .ok (.invokestatic 111, 3) := by decide +kernel
theorem dX8_pending_4 : decode cX8_pending 4 = .ok (.ifCond .eq 16, 3) := by decide +kernel
theorem dX8_pending_7 : decode cX8_pending 7 = .ok (.aload_n 0, 1) := by decide +kernel
theorem dX8_pending_8 : decode cX8_pending 8 = .ok (.getfield 8, 3) := by decide +kernel
theorem dX8_pending_11 : decode cX8_pending 11 = .ok (.sipush 357, 3) := by decide +kernel
theorem dX8_pending_14 : decode cX8_pending 14 = .ok (.iload_n 1, 1) := by decide +kernel
theorem dX8_pending_15 : decode cX8_pending 15 = .ok (.iadd, 1) := by decide +kernel
theorem dX8_pending_16 : decode cX8_pending 16 = .ok (.iaload, 1) := by decide +kernel
theorem dX8_pending_17 : decode cX8_pending 17 = .ok (.goto 9, 3) := by decide +kernel
theorem dX8_pending_20 : decode cX8_pending 20 = .ok (.aload_n 0, 1) := by decide +kernel
theorem dX8_pending_21 : decode cX8_pending 21 = .ok (.bipush (-2), 2) := by decide +kernel
theorem dX8_pending_23 : decode cX8_pending 23 = .ok (.invokevirtual 52, 3) := by decide +kernel
theorem dX8_pending_26 : decode cX8_pending 26 = .ok (.ireturn, 1) := by decide +kernel
theorem dX8_delivered_0 : decode cX8_delivered 0 = .ok (.aload_n 0, 1) := by decide +kernel
theorem dX8_delivered_1 : decode cX8_delivered 1 = .ok (.getfield 8, 3) := by decide +kernel
theorem dX8_delivered_4 : decode cX8_delivered 4 = .ok (.iconst 3, 1) := by decide +kernel
theorem dX8_delivered_5 : decode cX8_delivered 5 = .ok (.iaload, 1) := by decide +kernel
theorem dX8_delivered_6 : decode cX8_delivered 6 = .ok (.ireturn, 1) := by decide +kernel
theorem dX8_violations_0 : decode cX8_violations 0 = .ok (.aload_n 0, 1) := by decide +kernel
theorem dX8_violations_1 : decode cX8_violations 1 = .ok (.getfield 8, 3) := by decide +kernel
theorem dX8_violations_4 : decode cX8_violations 4 = .ok (.iconst 4, 1) := by decide +kernel
theorem dX8_violations_5 : decode cX8_violations 5 = .ok (.iaload, 1) := by decide +kernel
theorem dX8_violations_6 : decode cX8_violations 6 = .ok (.ireturn, 1) := by decide +kernel
theorem dX8_errorCount_0 : decode cX8_errorCount 0 = .ok (.iload_n 1, 1) := by decide +kernel
theorem dX8_errorCount_1 : decode cX8_errorCount 1 = .ok (.bipush (-5), 2) := by decide +kernel
theorem dX8_errorCount_3 : decode cX8_errorCount 3 = .ok (.bipush (-2), 2) := by decide +kernel
theorem dX8_errorCount_5 : decode cX8_errorCount 5 = .ok (.invokestatic 43, 3) := by decide +kernel
theorem dX8_errorCount_8 : decode cX8_errorCount 8 = .ok (.ifCond .eq 15, 3) := by decide +kernel
theorem dX8_errorCount_11 : decode cX8_errorCount 11 = .ok (.aload_n 0, 1) := by decide +kernel
theorem dX8_errorCount_12 : decode cX8_errorCount 12 = .ok (.getfield 18, 3) := by decide +kernel
theorem dX8_errorCount_15 : decode cX8_errorCount 15 = .ok (.bipush (-2), 2) := by decide +kernel
theorem dX8_errorCount_17 : decode cX8_errorCount 17 = .ok (.iload_n 1, 1) := by decide +kernel
theorem dX8_errorCount_18 : decode cX8_errorCount 18 = .ok (.isub, 1) := by decide +kernel
theorem dX8_errorCount_19 : decode cX8_errorCount 19 = .ok (.iaload, 1) := by decide +kernel
theorem dX8_errorCount_20 : decode cX8_errorCount 20 = .ok (.goto 9, 3) := by decide +kernel
theorem dX8_errorCount_23 : decode cX8_errorCount 23 = .ok (.aload_n 0, 1) := by decide +kernel
theorem dX8_errorCount_24 : decode cX8_errorCount 24 = .ok (.bipush (-2), 2) := by decide +kernel
theorem dX8_errorCount_26 : decode cX8_errorCount 26 = .ok (.invokevirtual 52, 3) := by decide +kernel
theorem dX8_errorCount_29 : decode cX8_errorCount 29 = .ok (.ireturn, 1) := by decide +kernel
theorem dX8_mix_0 : decode cX8_mix 0 = .ok (.aload_n 0, 1) := by decide +kernel
theorem dX8_mix_1 : decode cX8_mix 1 = .ok (.ldc2_w 171, 3) := by decide +kernel
theorem dX8_mix_4 : decode cX8_mix 4 = .ok (.aload_n 0, 1) := by decide +kernel
theorem dX8_mix_5 : decode cX8_mix 5 = .ok (.getfield 173, 3) := by decide +kernel
theorem dX8_mix_8 : decode cX8_mix 8 = .ok (.lmul, 1) := by decide +kernel
theorem dX8_mix_9 : decode cX8_mix 9 = .ok (.iload_n 1, 1) := by decide +kernel
theorem dX8_mix_10 : decode cX8_mix 10 = .ok (.i2l, 1) := by decide +kernel
theorem dX8_mix_11 : decode cX8_mix 11 = .ok (.ladd, 1) := by decide +kernel
theorem dX8_mix_12 : decode cX8_mix 12 = .ok (.putfield 173, 3) := by decide +kernel
theorem dX8_mix_15 : decode cX8_mix 15 = .ok (.return_, 1) := by decide +kernel
theorem dX8_mixWorker_0 : decode cX8_mixWorker 0 = .ok (.iconst 0, 1) := by decide +kernel
theorem dX8_mixWorker_1 : decode cX8_mixWorker 1 = .ok (.istore_n 2, 1) := by decide +kernel
theorem dX8_mixWorker_2 : decode cX8_mixWorker 2 = .ok (.iload_n 2, 1) := by decide +kernel
theorem dX8_mixWorker_3 : decode cX8_mixWorker 3 = .ok (.aload_n 0, 1) := by decide +kernel
theorem dX8_mixWorker_4 : decode cX8_mixWorker 4 = .ok (.getfield 8, 3) := by decide +kernel
theorem dX8_mixWorker_7 : decode cX8_mixWorker 7 = .ok (.iconst 1, 1) := by decide +kernel
theorem dX8_mixWorker_8 : decode cX8_mixWorker 8 = .ok (.iaload, 1) := by decide +kernel
theorem dX8_mixWorker_9 : decode cX8_mixWorker 9 = .ok (.if_icmp .ge 71, 3) := by decide +kernel
theorem dX8_mixWorker_12 : decode cX8_mixWorker 12 = .ok (.aload_n 0, 1) := by decide +kernel
theorem dX8_mixWorker_13 : decode cX8_mixWorker 13 = .ok (.iload_n 1, 1) := by decide +kernel
theorem dX8_mixWorker_14 : decode cX8_mixWorker 14 = .ok (.iload_n 2, 1) := by decide +kernel
theorem dX8_mixWorker_15 : decode cX8_mixWorker 15 = .ok (.invokevirtual 108, 3) := by decide +kernel
theorem dX8_mixWorker_18 : decode cX8_mixWorker 18 = .ok (.istore_n 3, 1) := by decide +kernel
theorem dX8_mixWorker_19 : decode cX8_mixWorker 19 = .ok (.aload_n 0, 1) := by decide +kernel
theorem dX8_mixWorker_20 : decode cX8_mixWorker 20 = .ok (.aload_n 0, 1) := by decide +kernel
theorem dX8_mixWorker_21 : decode cX8_mixWorker 21 = .ok (.getfield 8, 3) := by decide +kernel
theorem dX8_mixWorker_24 : decode cX8_mixWorker 24 = .ok (.bipush 47, 2) := by decide +kernel
theorem dX8_mixWorker_26 : decode cX8_mixWorker 26 = .ok (.iload_n 3, 1) := by decide +kernel
theorem dX8_mixWorker_27 : decode cX8_mixWorker 27 = .ok (.iadd, 1) := by decide +kernel
theorem dX8_mixWorker_28 : decode cX8_mixWorker 28 = .ok (.iaload, 1) := by decide +kernel
theorem dX8_mixWorker_29 : decode cX8_mixWorker 29 = .ok (.invokevirtual 177, 3) := by decide +kernel
theorem dX8_mixWorker_32 : decode cX8_mixWorker 32 = .ok (.iconst 0, 1) := by decide +kernel
theorem dX8_mixWorker_33 : decode cX8_mixWorker 33 = .ok (.istore 4, 2) := by decide +kernel
theorem dX8_mixWorker_35 : decode cX8_mixWorker 35 = .ok (.iload 4, 2) := by decide +kernel
theorem dX8_mixWorker_37 : decode cX8_mixWorker 37 = .ok (.aload_n 0, 1) := by decide +kernel
theorem dX8_mixWorker_38 : decode cX8_mixWorker 38 = .ok (.getfield 8, 3) := by decide +kernel
theorem dX8_mixWorker_41 : decode cX8_mixWorker 41 = .ok (.bipush 47, 2) := by decide +kernel
theorem dX8_mixWorker_43 : decode cX8_mixWorker 43 = .ok (.iload_n 3, 1) := by decide +kernel
theorem dX8_mixWorker_44 : decode cX8_mixWorker 44 = .ok (.iadd, 1) := by decide +kernel
theorem dX8_mixWorker_45 : decode cX8_mixWorker 45 = .ok (.iaload, 1) := by decide +kernel
theorem dX8_mixWorker_46 : decode cX8_mixWorker 46 = .ok (.if_icmp .ge 28, 3) := by decide +kernel
theorem dX8_mixWorker_49 : decode cX8_mixWorker 49 = .ok (.aload_n 0, 1) := by decide +kernel
theorem dX8_mixWorker_50 : decode cX8_mixWorker 50 = .ok (.aload_n 0, 1) := by decide +kernel
theorem dX8_mixWorker_51 : decode cX8_mixWorker 51 = .ok (.getfield 8, 3) := by decide +kernel
theorem dX8_mixWorker_54 : decode cX8_mixWorker 54 = .ok (.bipush 67, 2) := by decide +kernel
theorem dX8_mixWorker_56 : decode cX8_mixWorker 56 = .ok (.bipush 12, 2) := by decide +kernel
theorem dX8_mixWorker_58 : decode cX8_mixWorker 58 = .ok (.iload_n 3, 1) := by decide +kernel
theorem dX8_mixWorker_59 : decode cX8_mixWorker 59 = .ok (.imul, 1) := by decide +kernel
theorem dX8_mixWorker_60 : decode cX8_mixWorker 60 = .ok (.iadd, 1) := by decide +kernel
theorem dX8_mixWorker_61 : decode cX8_mixWorker 61 = .ok (.iload 4, 2) := by decide +kernel
theorem dX8_mixWorker_63 : decode cX8_mixWorker 63 = .ok (.iadd, 1) := by decide +kernel
theorem dX8_mixWorker_64 : decode cX8_mixWorker 64 = .ok (.iaload, 1) := by decide +kernel
theorem dX8_mixWorker_65 : decode cX8_mixWorker 65 = .ok (.invokevirtual 177, 3) := by decide +kernel
theorem dX8_mixWorker_68 : decode cX8_mixWorker 68 = .ok (.iinc 4 1, 3) := by decide +kernel
theorem dX8_mixWorker_71 : decode cX8_mixWorker 71 = .ok (.goto (-36), 3) := by decide +kernel
theorem dX8_mixWorker_74 : decode cX8_mixWorker 74 = .ok (.iinc 2 1, 3) := by decide +kernel
theorem dX8_mixWorker_77 : decode cX8_mixWorker 77 = .ok (.goto (-75), 3) := by decide +kernel
theorem dX8_mixWorker_80 : decode cX8_mixWorker 80 = .ok (.aload_n 0, 1) := by decide +kernel
theorem dX8_mixWorker_81 : decode cX8_mixWorker 81 = .ok (.iload_n 1, 1) := by decide +kernel
theorem dX8_mixWorker_82 : decode cX8_mixWorker 82 = .ok (.invokevirtual 159, 3) := by decide +kernel
theorem dX8_mixWorker_85 : decode cX8_mixWorker 85 = .ok (.iconst 0, 1) := by decide +kernel
theorem dX8_mixWorker_86 : decode cX8_mixWorker 86 = .ok (.istore_n 2, 1) := by decide +kernel
theorem dX8_mixWorker_87 : decode cX8_mixWorker 87 = .ok (.iload_n 2, 1) := by decide +kernel
theorem dX8_mixWorker_88 : decode cX8_mixWorker 88 = .ok (.aload_n 0, 1) := by decide +kernel
theorem dX8_mixWorker_89 : decode cX8_mixWorker 89 = .ok (.getfield 8, 3) := by decide +kernel
theorem dX8_mixWorker_92 : decode cX8_mixWorker 92 = .ok (.iconst 0, 1) := by decide +kernel
theorem dX8_mixWorker_93 : decode cX8_mixWorker 93 = .ok (.iaload, 1) := by decide +kernel
theorem dX8_mixWorker_94 : decode cX8_mixWorker 94 = .ok (.if_icmp .ge 29, 3) := by decide +kernel
theorem dX8_mixWorker_97 : decode cX8_mixWorker 97 = .ok (.aload_n 0, 1) := by decide +kernel
theorem dX8_mixWorker_98 : decode cX8_mixWorker 98 = .ok (.aload_n 0, 1) := by decide +kernel
theorem dX8_mixWorker_99 : decode cX8_mixWorker 99 = .ok (.iload_n 1, 1) := by decide +kernel
theorem dX8_mixWorker_100 : decode cX8_mixWorker 100 = .ok (.iload_n 2, 1) := by decide +kernel
theorem dX8_mixWorker_101 : decode cX8_mixWorker 101 = .ok (.invokevirtual 165, 3) := by decide +kernel
theorem dX8_mixWorker_104 : decode cX8_mixWorker 104 = .ok (.invokevirtual 177, 3) := by decide +kernel
theorem dX8_mixWorker_107 : decode cX8_mixWorker 107 = .ok (.aload_n 0, 1) := by decide +kernel
theorem dX8_mixWorker_108 : decode cX8_mixWorker 108 = .ok (.aload_n 0, 1) := by decide +kernel
theorem dX8_mixWorker_109 : decode cX8_mixWorker 109 = .ok (.iload_n 1, 1) := by decide +kernel
theorem dX8_mixWorker_110 : decode cX8_mixWorker 110 = .ok (.iload_n 2, 1) := by decide +kernel
theorem dX8_mixWorker_111 : decode cX8_mixWorker 111 = .ok (.invokevirtual 162, 3) := by decide +kernel
theorem dX8_mixWorker_114 : decode cX8_mixWorker 114 = .ok (.invokevirtual 177, 3) := by decide +kernel
theorem dX8_mixWorker_117 : decode cX8_mixWorker 117 = .ok (.iinc 2 1, 3) := by decide +kernel
theorem dX8_mixWorker_120 : decode cX8_mixWorker 120 = .ok (.goto (-33), 3) := by decide +kernel
theorem dX8_mixWorker_123 : decode cX8_mixWorker 123 = .ok (.aload_n 0, 1) := by decide +kernel
theorem dX8_mixWorker_124 : decode cX8_mixWorker 124 = .ok (.aload_n 0, 1) := by decide +kernel
theorem dX8_mixWorker_125 : decode cX8_mixWorker 125 = .ok (.getfield 149, 3) := by decide +kernel
theorem dX8_mixWorker_128 : decode cX8_mixWorker 128 = .ok (.invokevirtual 177, 3) := by decide +kernel
theorem dX8_mixWorker_131 : decode cX8_mixWorker 131 = .ok (.aload_n 0, 1) := by decide +kernel
theorem dX8_mixWorker_132 : decode cX8_mixWorker 132 = .ok (.iconst (-1), 1) := by decide +kernel
theorem dX8_mixWorker_133 : decode cX8_mixWorker 133 = .ok (.invokevirtual 168, 3) := by decide +kernel
theorem dX8_mixWorker_136 : decode cX8_mixWorker 136 = .ok (.istore_n 2, 1) := by decide +kernel
theorem dX8_mixWorker_137 : decode cX8_mixWorker 137 = .ok (.aload_n 0, 1) := by decide +kernel
theorem dX8_mixWorker_138 : decode cX8_mixWorker 138 = .ok (.iload_n 2, 1) := by decide +kernel
theorem dX8_mixWorker_139 : decode cX8_mixWorker 139 = .ok (.invokevirtual 177, 3) := by decide +kernel
theorem dX8_mixWorker_142 : decode cX8_mixWorker 142 = .ok (.iconst 0, 1) := by decide +kernel
theorem dX8_mixWorker_143 : decode cX8_mixWorker 143 = .ok (.istore_n 3, 1) := by decide +kernel
theorem dX8_mixWorker_144 : decode cX8_mixWorker 144 = .ok (.iload_n 3, 1) := by decide +kernel
theorem dX8_mixWorker_145 : decode cX8_mixWorker 145 = .ok (.iload_n 2, 1) := by decide +kernel
theorem dX8_mixWorker_146 : decode cX8_mixWorker 146 = .ok (.if_icmp .ge 18, 3) := by decide +kernel
theorem dX8_mixWorker_149 : decode cX8_mixWorker 149 = .ok (.aload_n 0, 1) := by decide +kernel
theorem dX8_mixWorker_150 : decode cX8_mixWorker 150 = .ok (.aload_n 0, 1) := by decide +kernel
theorem dX8_mixWorker_151 : decode cX8_mixWorker 151 = .ok (.iload_n 3, 1) := by decide +kernel
theorem dX8_mixWorker_152 : decode cX8_mixWorker 152 = .ok (.invokevirtual 168, 3) := by decide +kernel
theorem dX8_mixWorker_155 : decode cX8_mixWorker 155 = .ok (.invokevirtual 177, 3) := by decide +kernel
theorem dX8_mixWorker_158 : decode cX8_mixWorker 158 = .ok (.iinc 3 1, 3) := by decide +kernel
theorem dX8_mixWorker_161 : decode cX8_mixWorker 161 = .ok (.goto (-17), 3) := by decide +kernel
theorem dX8_mixWorker_164 : decode cX8_mixWorker 164 = .ok (.aload_n 0, 1) := by decide +kernel
theorem dX8_mixWorker_165 : decode cX8_mixWorker 165 = .ok (.aload_n 0, 1) := by decide +kernel
theorem dX8_mixWorker_166 : decode cX8_mixWorker 166 = .ok (.getfield 8, 3) := by decide +kernel
theorem dX8_mixWorker_169 : decode cX8_mixWorker 169 = .ok (.sipush 357, 3) := by decide +kernel
theorem dX8_mixWorker_172 : decode cX8_mixWorker 172 = .ok (.iload_n 1, 1) := by decide +kernel
theorem dX8_mixWorker_173 : decode cX8_mixWorker 173 = .ok (.iadd, 1) := by decide +kernel
theorem dX8_mixWorker_174 : decode cX8_mixWorker 174 = .ok (.iaload, 1) := by decide +kernel
theorem dX8_mixWorker_175 : decode cX8_mixWorker 175 = .ok (.invokevirtual 177, 3) := by decide +kernel
theorem dX8_mixWorker_178 : decode cX8_mixWorker 178 = .ok (.return_, 1) := by decide +kernel
theorem dX8_digest_0 : decode cX8_digest 0 = .ok (.aload_n 0, 1) := by decide +kernel
theorem dX8_digest_1 : decode cX8_digest 1 = .ok (.ldc2_w 180, 3) := by decide +kernel
theorem dX8_digest_4 : decode cX8_digest 4 = .ok (.putfield 173, 3) := by decide +kernel
theorem dX8_digest_7 : decode cX8_digest 7 = .ok (.iconst 0, 1) := by decide +kernel
theorem dX8_digest_8 : decode cX8_digest 8 = .ok (.istore_n 1, 1) := by decide +kernel
theorem dX8_digest_9 : decode cX8_digest 9 = .ok (.iload_n 1, 1) := by decide +kernel
theorem dX8_digest_10 : decode cX8_digest 10 = .ok (.iconst 4, 1) := by decide +kernel
theorem dX8_digest_11 : decode cX8_digest 11 = .ok (.if_icmp .ge 19, 3) := by decide +kernel
theorem dX8_digest_14 : decode cX8_digest 14 = .ok (.aload_n 0, 1) := by decide +kernel
theorem dX8_digest_15 : decode cX8_digest 15 = .ok (.aload_n 0, 1) := by decide +kernel
theorem dX8_digest_16 : decode cX8_digest 16 = .ok (.getfield 18, 3) := by decide +kernel
theorem dX8_digest_19 : decode cX8_digest 19 = .ok (.iload_n 1, 1) := by decide +kernel
theorem dX8_digest_20 : decode cX8_digest 20 = .ok (.iaload, 1) := by decide +kernel
theorem dX8_digest_21 : decode cX8_digest 21 = .ok (.invokevirtual 177, 3) := by decide +kernel
theorem dX8_digest_24 : decode cX8_digest 24 = .ok (.iinc 1 1, 3) := by decide +kernel
theorem dX8_digest_27 : decode cX8_digest 27 = .ok (.goto (-18), 3) := by decide +kernel
theorem dX8_digest_30 : decode cX8_digest 30 = .ok (.aload_n 0, 1) := by decide +kernel
theorem dX8_digest_31 : decode cX8_digest 31 = .ok (.aload_n 0, 1) := by decide +kernel
theorem dX8_digest_32 : decode cX8_digest 32 = .ok (.getfield 8, 3) := by decide +kernel
theorem dX8_digest_35 : decode cX8_digest 35 = .ok (.iconst 0, 1) := by decide +kernel
theorem dX8_digest_36 : decode cX8_digest 36 = .ok (.iaload, 1) := by decide +kernel
theorem dX8_digest_37 : decode cX8_digest 37 = .ok (.invokevirtual 177, 3) := by decide +kernel
theorem dX8_digest_40 : decode cX8_digest 40 = .ok (.iconst 0, 1) := by decide +kernel
theorem dX8_digest_41 : decode cX8_digest 41 = .ok (.istore_n 1, 1) := by decide +kernel
theorem dX8_digest_42 : decode cX8_digest 42 = .ok (.iload_n 1, 1) := by decide +kernel
theorem dX8_digest_43 : decode cX8_digest 43 = .ok (.aload_n 0, 1) := by decide +kernel
theorem dX8_digest_44 : decode cX8_digest 44 = .ok (.getfield 8, 3) := by decide +kernel
theorem dX8_digest_47 : decode cX8_digest 47 = .ok (.iconst 0, 1) := by decide +kernel
theorem dX8_digest_48 : decode cX8_digest 48 = .ok (.iaload, 1) := by decide +kernel
theorem dX8_digest_49 : decode cX8_digest 49 = .ok (.if_icmp .ge 34, 3) := by decide +kernel
theorem dX8_digest_52 : decode cX8_digest 52 = .ok (.aload_n 0, 1) := by decide +kernel
theorem dX8_digest_53 : decode cX8_digest 53 = .ok (.aload_n 0, 1) := by decide +kernel
theorem dX8_digest_54 : decode cX8_digest 54 = .ok (.getfield 8, 3) := by decide +kernel
theorem dX8_digest_57 : decode cX8_digest 57 = .ok (.iconst 5, 1) := by decide +kernel
theorem dX8_digest_58 : decode cX8_digest 58 = .ok (.iload_n 1, 1) := by decide +kernel
theorem dX8_digest_59 : decode cX8_digest 59 = .ok (.iadd, 1) := by decide +kernel
theorem dX8_digest_60 : decode cX8_digest 60 = .ok (.iaload, 1) := by decide +kernel
theorem dX8_digest_61 : decode cX8_digest 61 = .ok (.invokevirtual 177, 3) := by decide +kernel
theorem dX8_digest_64 : decode cX8_digest 64 = .ok (.aload_n 0, 1) := by decide +kernel
theorem dX8_digest_65 : decode cX8_digest 65 = .ok (.aload_n 0, 1) := by decide +kernel
theorem dX8_digest_66 : decode cX8_digest 66 = .ok (.getfield 8, 3) := by decide +kernel
theorem dX8_digest_69 : decode cX8_digest 69 = .ok (.bipush 11, 2) := by decide +kernel
theorem dX8_digest_71 : decode cX8_digest 71 = .ok (.iload_n 1, 1) := by decide +kernel
theorem dX8_digest_72 : decode cX8_digest 72 = .ok (.iadd, 1) := by decide +kernel
theorem dX8_digest_73 : decode cX8_digest 73 = .ok (.iaload, 1) := by decide +kernel
theorem dX8_digest_74 : decode cX8_digest 74 = .ok (.invokevirtual 177, 3) := by decide +kernel
theorem dX8_digest_77 : decode cX8_digest 77 = .ok (.iinc 1 1, 3) := by decide +kernel
theorem dX8_digest_80 : decode cX8_digest 80 = .ok (.goto (-38), 3) := by decide +kernel
theorem dX8_digest_83 : decode cX8_digest 83 = .ok (.aload_n 0, 1) := by decide +kernel
theorem dX8_digest_84 : decode cX8_digest 84 = .ok (.aload_n 0, 1) := by decide +kernel
theorem dX8_digest_85 : decode cX8_digest 85 = .ok (.getfield 8, 3) := by decide +kernel
theorem dX8_digest_88 : decode cX8_digest 88 = .ok (.iconst 1, 1) := by decide +kernel
theorem dX8_digest_89 : decode cX8_digest 89 = .ok (.iaload, 1) := by decide +kernel
theorem dX8_digest_90 : decode cX8_digest 90 = .ok (.invokevirtual 177, 3) := by decide +kernel
theorem dX8_digest_93 : decode cX8_digest 93 = .ok (.iconst 0, 1) := by decide +kernel
theorem dX8_digest_94 : decode cX8_digest 94 = .ok (.istore_n 1, 1) := by decide +kernel
theorem dX8_digest_95 : decode cX8_digest 95 = .ok (.iload_n 1, 1) := by decide +kernel
theorem dX8_digest_96 : decode cX8_digest 96 = .ok (.aload_n 0, 1) := by decide +kernel
theorem dX8_digest_97 : decode cX8_digest 97 = .ok (.getfield 8, 3) := by decide +kernel
theorem dX8_digest_100 : decode cX8_digest 100 = .ok (.iconst 1, 1) := by decide +kernel
theorem dX8_digest_101 : decode cX8_digest 101 = .ok (.iaload, 1) := by decide +kernel
theorem dX8_digest_102 : decode cX8_digest 102 = .ok (.if_icmp .ge 44, 3) := by decide +kernel
theorem dX8_digest_105 : decode cX8_digest 105 = .ok (.aload_n 0, 1) := by decide +kernel
theorem dX8_digest_106 : decode cX8_digest 106 = .ok (.aload_n 0, 1) := by decide +kernel
theorem dX8_digest_107 : decode cX8_digest 107 = .ok (.getfield 8, 3) := by decide +kernel
theorem dX8_digest_110 : decode cX8_digest 110 = .ok (.bipush 17, 2) := by decide +kernel
theorem dX8_digest_112 : decode cX8_digest 112 = .ok (.iload_n 1, 1) := by decide +kernel
theorem dX8_digest_113 : decode cX8_digest 113 = .ok (.iadd, 1) := by decide +kernel
theorem dX8_digest_114 : decode cX8_digest 114 = .ok (.iaload, 1) := by decide +kernel
theorem dX8_digest_115 : decode cX8_digest 115 = .ok (.invokevirtual 177, 3) := by decide +kernel
theorem dX8_digest_118 : decode cX8_digest 118 = .ok (.aload_n 0, 1) := by decide +kernel
theorem dX8_digest_119 : decode cX8_digest 119 = .ok (.aload_n 0, 1) := by decide +kernel
theorem dX8_digest_120 : decode cX8_digest 120 = .ok (.getfield 8, 3) := by decide +kernel
theorem dX8_digest_123 : decode cX8_digest 123 = .ok (.bipush 27, 2) := by decide +kernel
theorem dX8_digest_125 : decode cX8_digest 125 = .ok (.iload_n 1, 1) := by decide +kernel
theorem dX8_digest_126 : decode cX8_digest 126 = .ok (.iadd, 1) := by decide +kernel
theorem dX8_digest_127 : decode cX8_digest 127 = .ok (.iaload, 1) := by decide +kernel
theorem dX8_digest_128 : decode cX8_digest 128 = .ok (.invokevirtual 177, 3) := by decide +kernel
theorem dX8_digest_131 : decode cX8_digest 131 = .ok (.aload_n 0, 1) := by decide +kernel
theorem dX8_digest_132 : decode cX8_digest 132 = .ok (.aload_n 0, 1) := by decide +kernel
theorem dX8_digest_133 : decode cX8_digest 133 = .ok (.iload_n 1, 1) := by decide +kernel
theorem dX8_digest_134 : decode cX8_digest 134 = .ok (.invokevirtual 80, 3) := by decide +kernel
theorem dX8_digest_137 : decode cX8_digest 137 = .ok (.invokevirtual 177, 3) := by decide +kernel
theorem dX8_digest_140 : decode cX8_digest 140 = .ok (.iinc 1 1, 3) := by decide +kernel
theorem dX8_digest_143 : decode cX8_digest 143 = .ok (.goto (-48), 3) := by decide +kernel
theorem dX8_digest_146 : decode cX8_digest 146 = .ok (.iconst 0, 1) := by decide +kernel
theorem dX8_digest_147 : decode cX8_digest 147 = .ok (.istore_n 1, 1) := by decide +kernel
theorem dX8_digest_148 : decode cX8_digest 148 = .ok (.iload_n 1, 1) := by decide +kernel
theorem dX8_digest_149 : decode cX8_digest 149 = .ok (.iconst 2, 1) := by decide +kernel
theorem dX8_digest_150 : decode cX8_digest 150 = .ok (.if_icmp .ge 14, 3) := by decide +kernel
theorem dX8_digest_153 : decode cX8_digest 153 = .ok (.aload_n 0, 1) := by decide +kernel
theorem dX8_digest_154 : decode cX8_digest 154 = .ok (.iload_n 1, 1) := by decide +kernel
theorem dX8_digest_155 : decode cX8_digest 155 = .ok (.invokevirtual 182, 3) := by decide +kernel
theorem dX8_digest_158 : decode cX8_digest 158 = .ok (.iinc 1 1, 3) := by decide +kernel
theorem dX8_digest_161 : decode cX8_digest 161 = .ok (.goto (-13), 3) := by decide +kernel
theorem dX8_digest_164 : decode cX8_digest 164 = .ok (.aload_n 0, 1) := by decide +kernel
theorem dX8_digest_165 : decode cX8_digest 165 = .ok (.aload_n 0, 1) := by decide +kernel
theorem dX8_digest_166 : decode cX8_digest 166 = .ok (.getfield 8, 3) := by decide +kernel
theorem dX8_digest_169 : decode cX8_digest 169 = .ok (.iconst 3, 1) := by decide +kernel
theorem dX8_digest_170 : decode cX8_digest 170 = .ok (.iaload, 1) := by decide +kernel
theorem dX8_digest_171 : decode cX8_digest 171 = .ok (.invokevirtual 177, 3) := by decide +kernel
theorem dX8_digest_174 : decode cX8_digest 174 = .ok (.aload_n 0, 1) := by decide +kernel
theorem dX8_digest_175 : decode cX8_digest 175 = .ok (.aload_n 0, 1) := by decide +kernel
theorem dX8_digest_176 : decode cX8_digest 176 = .ok (.getfield 8, 3) := by decide +kernel
theorem dX8_digest_179 : decode cX8_digest 179 = .ok (.iconst 4, 1) := by decide +kernel
theorem dX8_digest_180 : decode cX8_digest 180 = .ok (.iaload, 1) := by decide +kernel
theorem dX8_digest_181 : decode cX8_digest 181 = .ok (.invokevirtual 177, 3) := by decide +kernel
theorem dX8_digest_184 : decode cX8_digest 184 = .ok (.aload_n 0, 1) := by decide +kernel
theorem dX8_digest_185 : decode cX8_digest 185 = .ok (.aload_n 0, 1) := by decide +kernel
theorem dX8_digest_186 : decode cX8_digest 186 = .ok (.getfield 47, 3) := by decide +kernel
theorem dX8_digest_189 : decode cX8_digest 189 = .ok (.invokevirtual 177, 3) := by decide +kernel
theorem dX8_digest_192 : decode cX8_digest 192 = .ok (.aload_n 0, 1) := by decide +kernel
theorem dX8_digest_193 : decode cX8_digest 193 = .ok (.getfield 173, 3) := by decide +kernel
theorem dX8_digest_196 : decode cX8_digest 196 = .ok (.lreturn, 1) := by decide +kernel
theorem dJ9_max_7cf53_0 : decode cJ9_max_7cf53 0 = .ok (.iload_n 0, 1) := by decide +kernel
theorem dJ9_max_7cf53_1 : decode cJ9_max_7cf53 1 = .ok (.iload_n 1, 1) := by decide +kernel
theorem dJ9_max_7cf53_2 : decode cJ9_max_7cf53 2 = .ok (.if_icmp .lt 7, 3) := by decide +kernel
theorem dJ9_max_7cf53_5 : decode cJ9_max_7cf53 5 = .ok (.iload_n 0, 1) := by decide +kernel
theorem dJ9_max_7cf53_6 : decode cJ9_max_7cf53 6 = .ok (.goto 4, 3) := by decide +kernel
theorem dJ9_max_7cf53_9 : decode cJ9_max_7cf53 9 = .ok (.iload_n 1, 1) := by decide +kernel
theorem dJ9_max_7cf53_10 : decode cJ9_max_7cf53 10 = .ok (.ireturn, 1) := by decide +kernel
theorem dJ9_min_7cf53_0 : decode cJ9_min_7cf53 0 = .ok (.iload_n 0, 1) := by decide +kernel
theorem dJ9_min_7cf53_1 : decode cJ9_min_7cf53 1 = .ok (.iload_n 1, 1) := by decide +kernel
theorem dJ9_min_7cf53_2 : decode cJ9_min_7cf53 2 = .ok (.if_icmp .gt 7, 3) := by decide +kernel
theorem dJ9_min_7cf53_5 : decode cJ9_min_7cf53 5 = .ok (.iload_n 0, 1) := by decide +kernel
theorem dJ9_min_7cf53_6 : decode cJ9_min_7cf53 6 = .ok (.goto 4, 3) := by decide +kernel
theorem dJ9_min_7cf53_9 : decode cJ9_min_7cf53 9 = .ok (.iload_n 1, 1) := by decide +kernel
theorem dJ9_min_7cf53_10 : decode cJ9_min_7cf53 10 = .ok (.ireturn, 1) := by decide +kernel
theorem dJ7_rangeCheck_23922_0 : decode cJ7_rangeCheck_23922 0 = .ok (.iload_n 1, 1) := by decide +kernel
theorem dJ7_rangeCheck_23922_1 : decode cJ7_rangeCheck_23922 1 = .ok (.iload_n 2, 1) := by decide +kernel
theorem dJ7_rangeCheck_23922_2 : decode cJ7_rangeCheck_23922 2 = .ok (.if_icmp .le 44, 3) := by decide +kernel
theorem dJ7_rangeCheck_23922_5 : decode cJ7_rangeCheck_23922 5 = .ok (.new 43, 3) := by decide +kernel
theorem dJ7_rangeCheck_23922_8 : decode cJ7_rangeCheck_23922 8 = .ok (.dup, 1) := by decide +kernel
theorem dJ7_rangeCheck_23922_9 : decode cJ7_rangeCheck_23922 9 = .ok (.new 45, 3) := by decide +kernel
theorem dJ7_rangeCheck_23922_12 : decode cJ7_rangeCheck_23922 12 = .ok (.dup, 1) := by decide +kernel
theorem dJ7_rangeCheck_23922_13 : decode cJ7_rangeCheck_23922 13 = .ok (.invokespecial 47, 3) := by decide +kernel
theorem dJ7_rangeCheck_23922_16 : decode cJ7_rangeCheck_23922 16 = .ok (.ldc 48, 2) := by decide +kernel
theorem dJ7_rangeCheck_23922_18 : decode cJ7_rangeCheck_23922 18 = .ok (.invokevirtual 50, 3) := by decide +kernel
theorem dJ7_rangeCheck_23922_21 : decode cJ7_rangeCheck_23922 21 = .ok (.iload_n 1, 1) := by decide +kernel
theorem dJ7_rangeCheck_23922_22 : decode cJ7_rangeCheck_23922 22 = .ok (.invokevirtual 54, 3) := by decide +kernel
theorem dJ7_rangeCheck_23922_25 : decode cJ7_rangeCheck_23922 25 = .ok (.ldc 57, 2) := by decide +kernel
theorem dJ7_rangeCheck_23922_27 : decode cJ7_rangeCheck_23922 27 = .ok (.invokevirtual 50, 3) := by decide +kernel
theorem dJ7_rangeCheck_23922_30 : decode cJ7_rangeCheck_23922 30 = .ok (.iload_n 2, 1) := by decide +kernel
theorem dJ7_rangeCheck_23922_31 : decode cJ7_rangeCheck_23922 31 = .ok (.invokevirtual 54, 3) := by decide +kernel
theorem dJ7_rangeCheck_23922_34 : decode cJ7_rangeCheck_23922 34 = .ok (.ldc 59, 2) := by decide +kernel
theorem dJ7_rangeCheck_23922_36 : decode cJ7_rangeCheck_23922 36 = .ok (.invokevirtual 50, 3) := by decide +kernel
theorem dJ7_rangeCheck_23922_39 : decode cJ7_rangeCheck_23922 39 = .ok (.invokevirtual 61, 3) := by decide +kernel
theorem dJ7_rangeCheck_23922_42 : decode cJ7_rangeCheck_23922 42 = .ok (.invokespecial 65, 3) := by decide +kernel
theorem dJ7_rangeCheck_23922_45 : decode cJ7_rangeCheck_23922 45 = .ok (.athrow, 1) := by decide +kernel
theorem dJ7_rangeCheck_23922_46 : decode cJ7_rangeCheck_23922 46 = .ok (.iload_n 1, 1) := by decide +kernel
theorem dJ7_rangeCheck_23922_47 : decode cJ7_rangeCheck_23922 47 = .ok (.ifCond .ge 12, 3) := by decide +kernel
theorem dJ7_rangeCheck_23922_50 : decode cJ7_rangeCheck_23922 50 = .ok (.new 68, 3) := by decide +kernel
theorem dJ7_rangeCheck_23922_53 : decode cJ7_rangeCheck_23922 53 = .ok (.dup, 1) := by decide +kernel
theorem dJ7_rangeCheck_23922_54 : decode cJ7_rangeCheck_23922 54 = .ok (.iload_n 1, 1) := by decide +kernel
theorem dJ7_rangeCheck_23922_55 : decode cJ7_rangeCheck_23922 55 = .ok (.invokespecial 70, 3) := by decide +kernel
theorem dJ7_rangeCheck_23922_58 : decode cJ7_rangeCheck_23922 58 = .ok (.athrow, 1) := by decide +kernel
theorem dJ7_rangeCheck_23922_59 : decode cJ7_rangeCheck_23922 59 = .ok (.iload_n 2, 1) := by decide +kernel
theorem dJ7_rangeCheck_23922_60 : decode cJ7_rangeCheck_23922 60 = .ok (.iload_n 0, 1) := by decide +kernel
theorem dJ7_rangeCheck_23922_61 : decode cJ7_rangeCheck_23922 61 = .ok (.if_icmp .le 12, 3) := by decide +kernel
theorem dJ7_rangeCheck_23922_64 : decode cJ7_rangeCheck_23922 64 = .ok (.new 68, 3) := by decide +kernel
theorem dJ7_rangeCheck_23922_67 : decode cJ7_rangeCheck_23922 67 = .ok (.dup, 1) := by decide +kernel
theorem dJ7_rangeCheck_23922_68 : decode cJ7_rangeCheck_23922 68 = .ok (.iload_n 2, 1) := by decide +kernel
theorem dJ7_rangeCheck_23922_69 : decode cJ7_rangeCheck_23922 69 = .ok (.invokespecial 70, 3) := by decide +kernel
theorem dJ7_rangeCheck_23922_72 : decode cJ7_rangeCheck_23922 72 = .ok (.athrow, 1) := by decide +kernel
theorem dJ7_rangeCheck_23922_73 : decode cJ7_rangeCheck_23922 73 = .ok (.return_, 1) := by decide +kernel
theorem dJ7_fill_53178_0 : decode cJ7_fill_53178 0 = .ok (.iconst 0, 1) := by decide +kernel
theorem dJ7_fill_53178_1 : decode cJ7_fill_53178 1 = .ok (.istore_n 2, 1) := by decide +kernel
theorem dJ7_fill_53178_2 : decode cJ7_fill_53178 2 = .ok (.aload_n 0, 1) := by decide +kernel
theorem dJ7_fill_53178_3 : decode cJ7_fill_53178 3 = .ok (.arraylength, 1) := by decide +kernel
theorem dJ7_fill_53178_4 : decode cJ7_fill_53178 4 = .ok (.istore_n 3, 1) := by decide +kernel
theorem dJ7_fill_53178_5 : decode cJ7_fill_53178 5 = .ok (.iload_n 2, 1) := by decide +kernel
theorem dJ7_fill_53178_6 : decode cJ7_fill_53178 6 = .ok (.iload_n 3, 1) := by decide +kernel
theorem dJ7_fill_53178_7 : decode cJ7_fill_53178 7 = .ok (.if_icmp .ge 13, 3) := by decide +kernel
theorem dJ7_fill_53178_10 : decode cJ7_fill_53178 10 = .ok (.aload_n 0, 1) := by decide +kernel
theorem dJ7_fill_53178_11 : decode cJ7_fill_53178 11 = .ok (.iload_n 2, 1) := by decide +kernel
theorem dJ7_fill_53178_12 : decode cJ7_fill_53178 12 = .ok (.iload_n 1, 1) := by decide +kernel
theorem dJ7_fill_53178_13 : decode cJ7_fill_53178 13 = .ok (.iastore, 1) := by decide +kernel
theorem dJ7_fill_53178_14 : decode cJ7_fill_53178 14 = .ok (.iinc 2 1, 3) := by decide +kernel
theorem dJ7_fill_53178_17 : decode cJ7_fill_53178 17 = .ok (.goto (-12), 3) := by decide +kernel
theorem dJ7_fill_53178_20 : decode cJ7_fill_53178 20 = .ok (.return_, 1) := by decide +kernel
theorem dJ7_fill_fda19_0 : decode cJ7_fill_fda19 0 = .ok (.aload_n 0, 1) := by decide +kernel
theorem dJ7_fill_fda19_1 : decode cJ7_fill_fda19 1 = .ok (.arraylength, 1) := by decide +kernel
theorem dJ7_fill_fda19_2 : decode cJ7_fill_fda19 2 = .ok (.iload_n 1, 1) := by decide +kernel
theorem dJ7_fill_fda19_3 : decode cJ7_fill_fda19 3 = .ok (.iload_n 2, 1) := by decide +kernel
theorem dJ7_fill_fda19_4 : decode cJ7_fill_fda19 4 = .ok (.invokestatic 13, 3) := by decide +kernel
theorem dJ7_fill_fda19_7 : decode cJ7_fill_fda19 7 = .ok (.iload_n 1, 1) := by decide +kernel
theorem dJ7_fill_fda19_8 : decode cJ7_fill_fda19 8 = .ok (.istore 4, 2) := by decide +kernel
theorem dJ7_fill_fda19_10 : decode cJ7_fill_fda19 10 = .ok (.iload 4, 2) := by decide +kernel
theorem dJ7_fill_fda19_12 : decode cJ7_fill_fda19 12 = .ok (.iload_n 2, 1) := by decide +kernel
theorem dJ7_fill_fda19_13 : decode cJ7_fill_fda19 13 = .ok (.if_icmp .ge 14, 3) := by decide +kernel
theorem dJ7_fill_fda19_16 : decode cJ7_fill_fda19 16 = .ok (.aload_n 0, 1) := by decide +kernel
theorem dJ7_fill_fda19_17 : decode cJ7_fill_fda19 17 = .ok (.iload 4, 2) := by decide +kernel
theorem dJ7_fill_fda19_19 : decode cJ7_fill_fda19 19 = .ok (.iload_n 3, 1) := by decide +kernel
theorem dJ7_fill_fda19_20 : decode cJ7_fill_fda19 20 = .ok (.iastore, 1) := by decide +kernel
theorem dJ7_fill_fda19_21 : decode cJ7_fill_fda19 21 = .ok (.iinc 4 1, 3) := by decide +kernel
theorem dJ7_fill_fda19_24 : decode cJ7_fill_fda19 24 = .ok (.goto (-14), 3) := by decide +kernel
theorem dJ7_fill_fda19_27 : decode cJ7_fill_fda19 27 = .ok (.return_, 1) := by decide +kernel
theorem dJ7_copyOf_59c91_0 : decode cJ7_copyOf_59c91 0 = .ok (.iload_n 1, 1) := by decide +kernel
theorem dJ7_copyOf_59c91_1 : decode cJ7_copyOf_59c91 1 = .ok (.aload_n 0, 1) := by decide +kernel
theorem dJ7_copyOf_59c91_2 : decode cJ7_copyOf_59c91 2 = .ok (.arraylength, 1) := by decide +kernel
theorem dJ7_copyOf_59c91_3 : decode cJ7_copyOf_59c91 3 = .ok (.if_icmp .ne 11, 3) := by decide +kernel
theorem dJ7_copyOf_59c91_6 : decode cJ7_copyOf_59c91 6 = .ok (.aload_n 0, 1) := by decide +kernel
theorem dJ7_copyOf_59c91_7 : decode cJ7_copyOf_59c91 7 = .ok (.invokevirtual 316, 3) := by decide +kernel
theorem dJ7_copyOf_59c91_10 : decode cJ7_copyOf_59c91 10 = .ok (.checkcast 317, 3) := by decide +kernel
theorem dJ7_copyOf_59c91_13 : decode cJ7_copyOf_59c91 13 = .ok (.areturn, 1) := by decide +kernel
theorem dJ7_copyOf_59c91_14 : decode cJ7_copyOf_59c91 14 = .ok (.iload_n 1, 1) := by decide +kernel
theorem dJ7_copyOf_59c91_15 : decode cJ7_copyOf_59c91 15 = .ok (.newarray .int, 2) := by decide +kernel
theorem dJ7_copyOf_59c91_17 : decode cJ7_copyOf_59c91 17 = .ok (.astore_n 2, 1) := by decide +kernel
theorem dJ7_copyOf_59c91_18 : decode cJ7_copyOf_59c91 18 = .ok (.aload_n 0, 1) := by decide +kernel
theorem dJ7_copyOf_59c91_19 : decode cJ7_copyOf_59c91 19 = .ok (.iconst 0, 1) := by decide +kernel
theorem dJ7_copyOf_59c91_20 : decode cJ7_copyOf_59c91 20 = .ok (.aload_n 2, 1) := by decide +kernel
theorem dJ7_copyOf_59c91_21 : decode cJ7_copyOf_59c91 21 = .ok (.iconst 0, 1) := by decide +kernel
theorem dJ7_copyOf_59c91_22 : decode cJ7_copyOf_59c91 22 = .ok (.aload_n 0, 1) := by decide +kernel
theorem dJ7_copyOf_59c91_23 : decode cJ7_copyOf_59c91 23 = .ok (.arraylength, 1) := by decide +kernel
theorem dJ7_copyOf_59c91_24 : decode cJ7_copyOf_59c91 24 = .ok (.iload_n 1, 1) := by decide +kernel
theorem dJ7_copyOf_59c91_25 : decode cJ7_copyOf_59c91 25 = .ok (.invokestatic 304, 3) := by decide +kernel
theorem dJ7_copyOf_59c91_28 : decode cJ7_copyOf_59c91 28 = .ok (.invokestatic 150, 3) := by decide +kernel
theorem dJ7_copyOf_59c91_31 : decode cJ7_copyOf_59c91 31 = .ok (.aload_n 2, 1) := by decide +kernel
theorem dJ7_copyOf_59c91_32 : decode cJ7_copyOf_59c91 32 = .ok (.areturn, 1) := by decide +kernel
theorem dL_law_0 : decode cL_law 0 = .ok (.new 7, 3) := by decide +kernel
theorem dL_law_3 : decode cL_law 3 = .ok (.dup, 1) := by decide +kernel
theorem dL_law_4 : decode cL_law 4 = .ok (.invokespecial 9, 3) := by decide +kernel
theorem dL_law_7 : decode cL_law 7 = .ok (.astore_n 1, 1) := by decide +kernel
theorem dL_law_8 : decode cL_law 8 = .ok (.new 10, 3) := by decide +kernel
theorem dL_law_11 : decode cL_law 11 = .ok (.dup, 1) := by decide +kernel
theorem dL_law_12 : decode cL_law 12 = .ok (.invokespecial 12, 3) := by decide +kernel
theorem dL_law_15 : decode cL_law 15 = .ok (.astore_n 2, 1) := by decide +kernel
theorem dL_law_16 : decode cL_law 16 = .ok (.iconst 0, 1) := by decide +kernel
theorem dL_law_17 : decode cL_law 17 = .ok (.istore_n 3, 1) := by decide +kernel
theorem dL_law_18 : decode cL_law 18 = .ok (.iload_n 3, 1) := by decide +kernel
theorem dL_law_19 : decode cL_law 19 = .ok (.aload_n 0, 1) := by decide +kernel
theorem dL_law_20 : decode cL_law 20 = .ok (.arraylength, 1) := by decide +kernel
theorem dL_law_21 : decode cL_law 21 = .ok (.bipush 6, 2) := by decide +kernel
theorem dL_law_23 : decode cL_law 23 = .ok (.isub, 1) := by decide +kernel
theorem dL_law_24 : decode cL_law 24 = .ok (.if_icmp .gt 926, 3) := by decide +kernel
theorem dL_law_27 : decode cL_law 27 = .ok (.aload_n 0, 1) := by decide +kernel
theorem dL_law_28 : decode cL_law 28 = .ok (.iload_n 3, 1) := by decide +kernel
theorem dL_law_29 : decode cL_law 29 = .ok (.iaload, 1) := by decide +kernel
theorem dL_law_30 : decode cL_law 30 = .ok (.bipush 31, 2) := by decide +kernel
theorem dL_law_32 : decode cL_law 32 = .ok (.iand, 1) := by decide +kernel
theorem dL_law_33 : decode cL_law 33 = .ok (.tableswitch 911 0 24 #[115, 148, 191, 214, 247, 300, 343, 376, 399, 422, 485, 538, 571, 604, 647, 680, 713, 756, 779, 812, 835, 848, 861, 874, 897], 115) := by decide +kernel
theorem dL_law_148 : decode cL_law 148 = .ok (.aload_n 1, 1) := by decide +kernel
theorem dL_law_149 : decode cL_law 149 = .ok (.aload_n 0, 1) := by decide +kernel
theorem dL_law_150 : decode cL_law 150 = .ok (.iload_n 3, 1) := by decide +kernel
theorem dL_law_151 : decode cL_law 151 = .ok (.iconst 1, 1) := by decide +kernel
theorem dL_law_152 : decode cL_law 152 = .ok (.iadd, 1) := by decide +kernel
theorem dL_law_153 : decode cL_law 153 = .ok (.iaload, 1) := by decide +kernel
theorem dL_law_154 : decode cL_law 154 = .ok (.aload_n 0, 1) := by decide +kernel
theorem dL_law_155 : decode cL_law 155 = .ok (.iload_n 3, 1) := by decide +kernel
theorem dL_law_156 : decode cL_law 156 = .ok (.iconst 2, 1) := by decide +kernel
theorem dL_law_157 : decode cL_law 157 = .ok (.iadd, 1) := by decide +kernel
theorem dL_law_158 : decode cL_law 158 = .ok (.iaload, 1) := by decide +kernel
theorem dL_law_159 : decode cL_law 159 = .ok (.invokevirtual 13, 3) := by decide +kernel
theorem dL_law_162 : decode cL_law 162 = .ok (.aload_n 2, 1) := by decide +kernel
theorem dL_law_163 : decode cL_law 163 = .ok (.aload_n 0, 1) := by decide +kernel
theorem dL_law_164 : decode cL_law 164 = .ok (.iload_n 3, 1) := by decide +kernel
theorem dL_law_165 : decode cL_law 165 = .ok (.iconst 1, 1) := by decide +kernel
theorem dL_law_166 : decode cL_law 166 = .ok (.iadd, 1) := by decide +kernel
theorem dL_law_167 : decode cL_law 167 = .ok (.iaload, 1) := by decide +kernel
theorem dL_law_168 : decode cL_law 168 = .ok (.aload_n 0, 1) := by decide +kernel
theorem dL_law_169 : decode cL_law 169 = .ok (.iload_n 3, 1) := by decide +kernel
theorem dL_law_170 : decode cL_law 170 = .ok (.iconst 2, 1) := by decide +kernel
theorem dL_law_171 : decode cL_law 171 = .ok (.iadd, 1) := by decide +kernel
theorem dL_law_172 : decode cL_law 172 = .ok (.iaload, 1) := by decide +kernel
theorem dL_law_173 : decode cL_law 173 = .ok (.invokevirtual 17, 3) := by decide +kernel
theorem dL_law_176 : decode cL_law 176 = .ok (.if_icmp .eq 768, 3) := by decide +kernel
theorem dL_law_179 : decode cL_law 179 = .ok (.iconst 0, 1) := by decide +kernel
theorem dL_law_180 : decode cL_law 180 = .ok (.ireturn, 1) := by decide +kernel
theorem dL_law_181 : decode cL_law 181 = .ok (.aload_n 1, 1) := by decide +kernel
theorem dL_law_182 : decode cL_law 182 = .ok (.aload_n 0, 1) := by decide +kernel
theorem dL_law_183 : decode cL_law 183 = .ok (.iload_n 3, 1) := by decide +kernel
theorem dL_law_184 : decode cL_law 184 = .ok (.iconst 1, 1) := by decide +kernel
theorem dL_law_185 : decode cL_law 185 = .ok (.iadd, 1) := by decide +kernel
theorem dL_law_186 : decode cL_law 186 = .ok (.iaload, 1) := by decide +kernel
theorem dL_law_187 : decode cL_law 187 = .ok (.aload_n 0, 1) := by decide +kernel
theorem dL_law_188 : decode cL_law 188 = .ok (.iload_n 3, 1) := by decide +kernel
theorem dL_law_189 : decode cL_law 189 = .ok (.iconst 2, 1) := by decide +kernel
theorem dL_law_190 : decode cL_law 190 = .ok (.iadd, 1) := by decide +kernel
theorem dL_law_191 : decode cL_law 191 = .ok (.iaload, 1) := by decide +kernel
theorem dL_law_192 : decode cL_law 192 = .ok (.aload_n 0, 1) := by decide +kernel
theorem dL_law_193 : decode cL_law 193 = .ok (.iload_n 3, 1) := by decide +kernel
theorem dL_law_194 : decode cL_law 194 = .ok (.iconst 3, 1) := by decide +kernel
theorem dL_law_195 : decode cL_law 195 = .ok (.iadd, 1) := by decide +kernel
theorem dL_law_196 : decode cL_law 196 = .ok (.iaload, 1) := by decide +kernel
theorem dL_law_197 : decode cL_law 197 = .ok (.invokevirtual 18, 3) := by decide +kernel
theorem dL_law_200 : decode cL_law 200 = .ok (.aload_n 2, 1) := by decide +kernel
theorem dL_law_201 : decode cL_law 201 = .ok (.aload_n 0, 1) := by decide +kernel
theorem dL_law_202 : decode cL_law 202 = .ok (.iload_n 3, 1) := by decide +kernel
theorem dL_law_203 : decode cL_law 203 = .ok (.iconst 1, 1) := by decide +kernel
theorem dL_law_204 : decode cL_law 204 = .ok (.iadd, 1) := by decide +kernel
theorem dL_law_205 : decode cL_law 205 = .ok (.iaload, 1) := by decide +kernel
theorem dL_law_206 : decode cL_law 206 = .ok (.aload_n 0, 1) := by decide +kernel
theorem dL_law_207 : decode cL_law 207 = .ok (.iload_n 3, 1) := by decide +kernel
theorem dL_law_208 : decode cL_law 208 = .ok (.iconst 2, 1) := by decide +kernel
theorem dL_law_209 : decode cL_law 209 = .ok (.iadd, 1) := by decide +kernel
theorem dL_law_210 : decode cL_law 210 = .ok (.iaload, 1) := by decide +kernel
theorem dL_law_211 : decode cL_law 211 = .ok (.aload_n 0, 1) := by decide +kernel
theorem dL_law_212 : decode cL_law 212 = .ok (.iload_n 3, 1) := by decide +kernel
theorem dL_law_213 : decode cL_law 213 = .ok (.iconst 3, 1) := by decide +kernel
theorem dL_law_214 : decode cL_law 214 = .ok (.iadd, 1) := by decide +kernel
theorem dL_law_215 : decode cL_law 215 = .ok (.iaload, 1) := by decide +kernel
theorem dL_law_216 : decode cL_law 216 = .ok (.invokevirtual 22, 3) := by decide +kernel
theorem dL_law_219 : decode cL_law 219 = .ok (.if_icmp .eq 725, 3) := by decide +kernel
theorem dL_law_222 : decode cL_law 222 = .ok (.iconst 0, 1) := by decide +kernel
theorem dL_law_223 : decode cL_law 223 = .ok (.ireturn, 1) := by decide +kernel
theorem dL_law_224 : decode cL_law 224 = .ok (.aload_n 1, 1) := by decide +kernel
theorem dL_law_225 : decode cL_law 225 = .ok (.aload_n 0, 1) := by decide +kernel
theorem dL_law_226 : decode cL_law 226 = .ok (.iload_n 3, 1) := by decide +kernel
theorem dL_law_227 : decode cL_law 227 = .ok (.iconst 1, 1) := by decide +kernel
theorem dL_law_228 : decode cL_law 228 = .ok (.iadd, 1) := by decide +kernel
theorem dL_law_229 : decode cL_law 229 = .ok (.iaload, 1) := by decide +kernel
theorem dL_law_230 : decode cL_law 230 = .ok (.invokevirtual 23, 3) := by decide +kernel
theorem dL_law_233 : decode cL_law 233 = .ok (.aload_n 2, 1) := by decide +kernel
theorem dL_law_234 : decode cL_law 234 = .ok (.aload_n 0, 1) := by decide +kernel
theorem dL_law_235 : decode cL_law 235 = .ok (.iload_n 3, 1) := by decide +kernel
theorem dL_law_236 : decode cL_law 236 = .ok (.iconst 1, 1) := by decide +kernel
theorem dL_law_237 : decode cL_law 237 = .ok (.iadd, 1) := by decide +kernel
theorem dL_law_238 : decode cL_law 238 = .ok (.iaload, 1) := by decide +kernel
theorem dL_law_239 : decode cL_law 239 = .ok (.invokevirtual 27, 3) := by decide +kernel
theorem dL_law_242 : decode cL_law 242 = .ok (.if_icmp .eq 702, 3) := by decide +kernel
theorem dL_law_245 : decode cL_law 245 = .ok (.iconst 0, 1) := by decide +kernel
theorem dL_law_246 : decode cL_law 246 = .ok (.ireturn, 1) := by decide +kernel
theorem dL_law_247 : decode cL_law 247 = .ok (.aload_n 1, 1) := by decide +kernel
theorem dL_law_248 : decode cL_law 248 = .ok (.aload_n 0, 1) := by decide +kernel
theorem dL_law_249 : decode cL_law 249 = .ok (.iload_n 3, 1) := by decide +kernel
theorem dL_law_250 : decode cL_law 250 = .ok (.iconst 1, 1) := by decide +kernel
theorem dL_law_251 : decode cL_law 251 = .ok (.iadd, 1) := by decide +kernel
theorem dL_law_252 : decode cL_law 252 = .ok (.iaload, 1) := by decide +kernel
theorem dL_law_253 : decode cL_law 253 = .ok (.aload_n 0, 1) := by decide +kernel
theorem dL_law_254 : decode cL_law 254 = .ok (.iload_n 3, 1) := by decide +kernel
theorem dL_law_255 : decode cL_law 255 = .ok (.iconst 2, 1) := by decide +kernel
theorem dL_law_256 : decode cL_law 256 = .ok (.iadd, 1) := by decide +kernel
theorem dL_law_257 : decode cL_law 257 = .ok (.iaload, 1) := by decide +kernel
theorem dL_law_258 : decode cL_law 258 = .ok (.invokevirtual 28, 3) := by decide +kernel
theorem dL_law_261 : decode cL_law 261 = .ok (.aload_n 2, 1) := by decide +kernel
theorem dL_law_262 : decode cL_law 262 = .ok (.aload_n 0, 1) := by decide +kernel
theorem dL_law_263 : decode cL_law 263 = .ok (.iload_n 3, 1) := by decide +kernel
theorem dL_law_264 : decode cL_law 264 = .ok (.iconst 1, 1) := by decide +kernel
theorem dL_law_265 : decode cL_law 265 = .ok (.iadd, 1) := by decide +kernel
theorem dL_law_266 : decode cL_law 266 = .ok (.iaload, 1) := by decide +kernel
theorem dL_law_267 : decode cL_law 267 = .ok (.aload_n 0, 1) := by decide +kernel
theorem dL_law_268 : decode cL_law 268 = .ok (.iload_n 3, 1) := by decide +kernel
theorem dL_law_269 : decode cL_law 269 = .ok (.iconst 2, 1) := by decide +kernel
theorem dL_law_270 : decode cL_law 270 = .ok (.iadd, 1) := by decide +kernel
theorem dL_law_271 : decode cL_law 271 = .ok (.iaload, 1) := by decide +kernel
theorem dL_law_272 : decode cL_law 272 = .ok (.invokevirtual 31, 3) := by decide +kernel
theorem dL_law_275 : decode cL_law 275 = .ok (.if_icmp .eq 669, 3) := by decide +kernel
theorem dL_law_278 : decode cL_law 278 = .ok (.iconst 0, 1) := by decide +kernel
theorem dL_law_279 : decode cL_law 279 = .ok (.ireturn, 1) := by decide +kernel
theorem dL_law_280 : decode cL_law 280 = .ok (.aload_n 1, 1) := by decide +kernel
theorem dL_law_281 : decode cL_law 281 = .ok (.aload_n 0, 1) := by decide +kernel
theorem dL_law_282 : decode cL_law 282 = .ok (.iload_n 3, 1) := by decide +kernel
theorem dL_law_283 : decode cL_law 283 = .ok (.iconst 1, 1) := by decide +kernel
theorem dL_law_284 : decode cL_law 284 = .ok (.iadd, 1) := by decide +kernel
theorem dL_law_285 : decode cL_law 285 = .ok (.iaload, 1) := by decide +kernel
theorem dL_law_286 : decode cL_law 286 = .ok (.aload_n 0, 1) := by decide +kernel
theorem dL_law_287 : decode cL_law 287 = .ok (.iload_n 3, 1) := by decide +kernel
theorem dL_law_288 : decode cL_law 288 = .ok (.iconst 2, 1) := by decide +kernel
theorem dL_law_289 : decode cL_law 289 = .ok (.iadd, 1) := by decide +kernel
theorem dL_law_290 : decode cL_law 290 = .ok (.iaload, 1) := by decide +kernel
theorem dL_law_291 : decode cL_law 291 = .ok (.aload_n 0, 1) := by decide +kernel
theorem dL_law_292 : decode cL_law 292 = .ok (.iload_n 3, 1) := by decide +kernel
theorem dL_law_293 : decode cL_law 293 = .ok (.iconst 3, 1) := by decide +kernel
theorem dL_law_294 : decode cL_law 294 = .ok (.iadd, 1) := by decide +kernel
theorem dL_law_295 : decode cL_law 295 = .ok (.iaload, 1) := by decide +kernel
theorem dL_law_296 : decode cL_law 296 = .ok (.aload_n 0, 1) := by decide +kernel
theorem dL_law_297 : decode cL_law 297 = .ok (.iload_n 3, 1) := by decide +kernel
theorem dL_law_298 : decode cL_law 298 = .ok (.iconst 4, 1) := by decide +kernel
theorem dL_law_299 : decode cL_law 299 = .ok (.iadd, 1) := by decide +kernel
theorem dL_law_300 : decode cL_law 300 = .ok (.iaload, 1) := by decide +kernel
theorem dL_law_301 : decode cL_law 301 = .ok (.invokevirtual 32, 3) := by decide +kernel
theorem dL_law_304 : decode cL_law 304 = .ok (.aload_n 2, 1) := by decide +kernel
theorem dL_law_305 : decode cL_law 305 = .ok (.aload_n 0, 1) := by decide +kernel
theorem dL_law_306 : decode cL_law 306 = .ok (.iload_n 3, 1) := by decide +kernel
theorem dL_law_307 : decode cL_law 307 = .ok (.iconst 1, 1) := by decide +kernel
theorem dL_law_308 : decode cL_law 308 = .ok (.iadd, 1) := by decide +kernel
theorem dL_law_309 : decode cL_law 309 = .ok (.iaload, 1) := by decide +kernel
theorem dL_law_310 : decode cL_law 310 = .ok (.aload_n 0, 1) := by decide +kernel
theorem dL_law_311 : decode cL_law 311 = .ok (.iload_n 3, 1) := by decide +kernel
theorem dL_law_312 : decode cL_law 312 = .ok (.iconst 2, 1) := by decide +kernel
theorem dL_law_313 : decode cL_law 313 = .ok (.iadd, 1) := by decide +kernel
theorem dL_law_314 : decode cL_law 314 = .ok (.iaload, 1) := by decide +kernel
theorem dL_law_315 : decode cL_law 315 = .ok (.aload_n 0, 1) := by decide +kernel
theorem dL_law_316 : decode cL_law 316 = .ok (.iload_n 3, 1) := by decide +kernel
theorem dL_law_317 : decode cL_law 317 = .ok (.iconst 3, 1) := by decide +kernel
theorem dL_law_318 : decode cL_law 318 = .ok (.iadd, 1) := by decide +kernel
theorem dL_law_319 : decode cL_law 319 = .ok (.iaload, 1) := by decide +kernel
theorem dL_law_320 : decode cL_law 320 = .ok (.aload_n 0, 1) := by decide +kernel
theorem dL_law_321 : decode cL_law 321 = .ok (.iload_n 3, 1) := by decide +kernel
theorem dL_law_322 : decode cL_law 322 = .ok (.iconst 4, 1) := by decide +kernel
theorem dL_law_323 : decode cL_law 323 = .ok (.iadd, 1) := by decide +kernel
theorem dL_law_324 : decode cL_law 324 = .ok (.iaload, 1) := by decide +kernel
theorem dL_law_325 : decode cL_law 325 = .ok (.invokevirtual 36, 3) := by decide +kernel
theorem dL_law_328 : decode cL_law 328 = .ok (.if_icmp .eq 616, 3) := by decide +kernel
theorem dL_law_331 : decode cL_law 331 = .ok (.iconst 0, 1) := by decide +kernel
theorem dL_law_332 : decode cL_law 332 = .ok (.ireturn, 1) := by decide +kernel
theorem dL_law_333 : decode cL_law 333 = .ok (.aload_n 1, 1) := by decide +kernel
theorem dL_law_334 : decode cL_law 334 = .ok (.aload_n 0, 1) := by decide +kernel
theorem dL_law_335 : decode cL_law 335 = .ok (.iload_n 3, 1) := by decide +kernel
theorem dL_law_336 : decode cL_law 336 = .ok (.iconst 1, 1) := by decide +kernel
theorem dL_law_337 : decode cL_law 337 = .ok (.iadd, 1) := by decide +kernel
theorem dL_law_338 : decode cL_law 338 = .ok (.iaload, 1) := by decide +kernel
theorem dL_law_339 : decode cL_law 339 = .ok (.aload_n 0, 1) := by decide +kernel
theorem dL_law_340 : decode cL_law 340 = .ok (.iload_n 3, 1) := by decide +kernel
theorem dL_law_341 : decode cL_law 341 = .ok (.iconst 2, 1) := by decide +kernel
theorem dL_law_342 : decode cL_law 342 = .ok (.iadd, 1) := by decide +kernel
theorem dL_law_343 : decode cL_law 343 = .ok (.iaload, 1) := by decide +kernel
theorem dL_law_344 : decode cL_law 344 = .ok (.aload_n 0, 1) := by decide +kernel
theorem dL_law_345 : decode cL_law 345 = .ok (.iload_n 3, 1) := by decide +kernel
theorem dL_law_346 : decode cL_law 346 = .ok (.iconst 3, 1) := by decide +kernel
theorem dL_law_347 : decode cL_law 347 = .ok (.iadd, 1) := by decide +kernel
theorem dL_law_348 : decode cL_law 348 = .ok (.iaload, 1) := by decide +kernel
theorem dL_law_349 : decode cL_law 349 = .ok (.invokevirtual 37, 3) := by decide +kernel
theorem dL_law_352 : decode cL_law 352 = .ok (.aload_n 2, 1) := by decide +kernel
theorem dL_law_353 : decode cL_law 353 = .ok (.aload_n 0, 1) := by decide +kernel
theorem dL_law_354 : decode cL_law 354 = .ok (.iload_n 3, 1) := by decide +kernel
theorem dL_law_355 : decode cL_law 355 = .ok (.iconst 1, 1) := by decide +kernel
theorem dL_law_356 : decode cL_law 356 = .ok (.iadd, 1) := by decide +kernel
theorem dL_law_357 : decode cL_law 357 = .ok (.iaload, 1) := by decide +kernel
theorem dL_law_358 : decode cL_law 358 = .ok (.aload_n 0, 1) := by decide +kernel
theorem dL_law_359 : decode cL_law 359 = .ok (.iload_n 3, 1) := by decide +kernel
theorem dL_law_360 : decode cL_law 360 = .ok (.iconst 2, 1) := by decide +kernel
theorem dL_law_361 : decode cL_law 361 = .ok (.iadd, 1) := by decide +kernel
theorem dL_law_362 : decode cL_law 362 = .ok (.iaload, 1) := by decide +kernel
theorem dL_law_363 : decode cL_law 363 = .ok (.aload_n 0, 1) := by decide +kernel
theorem dL_law_364 : decode cL_law 364 = .ok (.iload_n 3, 1) := by decide +kernel
theorem dL_law_365 : decode cL_law 365 = .ok (.iconst 3, 1) := by decide +kernel
theorem dL_law_366 : decode cL_law 366 = .ok (.iadd, 1) := by decide +kernel
theorem dL_law_367 : decode cL_law 367 = .ok (.iaload, 1) := by decide +kernel
theorem dL_law_368 : decode cL_law 368 = .ok (.invokevirtual 40, 3) := by decide +kernel
theorem dL_law_371 : decode cL_law 371 = .ok (.if_icmp .eq 573, 3) := by decide +kernel
theorem dL_law_374 : decode cL_law 374 = .ok (.iconst 0, 1) := by decide +kernel
theorem dL_law_375 : decode cL_law 375 = .ok (.ireturn, 1) := by decide +kernel
theorem dL_law_376 : decode cL_law 376 = .ok (.aload_n 1, 1) := by decide +kernel
theorem dL_law_377 : decode cL_law 377 = .ok (.aload_n 0, 1) := by decide +kernel
theorem dL_law_378 : decode cL_law 378 = .ok (.iload_n 3, 1) := by decide +kernel
theorem dL_law_379 : decode cL_law 379 = .ok (.iconst 1, 1) := by decide +kernel
theorem dL_law_380 : decode cL_law 380 = .ok (.iadd, 1) := by decide +kernel
theorem dL_law_381 : decode cL_law 381 = .ok (.iaload, 1) := by decide +kernel
theorem dL_law_382 : decode cL_law 382 = .ok (.aload_n 0, 1) := by decide +kernel
theorem dL_law_383 : decode cL_law 383 = .ok (.iload_n 3, 1) := by decide +kernel
theorem dL_law_384 : decode cL_law 384 = .ok (.iconst 2, 1) := by decide +kernel
theorem dL_law_385 : decode cL_law 385 = .ok (.iadd, 1) := by decide +kernel
theorem dL_law_386 : decode cL_law 386 = .ok (.iaload, 1) := by decide +kernel
theorem dL_law_387 : decode cL_law 387 = .ok (.invokevirtual 41, 3) := by decide +kernel
theorem dL_law_390 : decode cL_law 390 = .ok (.aload_n 2, 1) := by decide +kernel
theorem dL_law_391 : decode cL_law 391 = .ok (.aload_n 0, 1) := by decide +kernel
theorem dL_law_392 : decode cL_law 392 = .ok (.iload_n 3, 1) := by decide +kernel
theorem dL_law_393 : decode cL_law 393 = .ok (.iconst 1, 1) := by decide +kernel
theorem dL_law_394 : decode cL_law 394 = .ok (.iadd, 1) := by decide +kernel
theorem dL_law_395 : decode cL_law 395 = .ok (.iaload, 1) := by decide +kernel
theorem dL_law_396 : decode cL_law 396 = .ok (.aload_n 0, 1) := by decide +kernel
theorem dL_law_397 : decode cL_law 397 = .ok (.iload_n 3, 1) := by decide +kernel
theorem dL_law_398 : decode cL_law 398 = .ok (.iconst 2, 1) := by decide +kernel
theorem dL_law_399 : decode cL_law 399 = .ok (.iadd, 1) := by decide +kernel
theorem dL_law_400 : decode cL_law 400 = .ok (.iaload, 1) := by decide +kernel
theorem dL_law_401 : decode cL_law 401 = .ok (.invokevirtual 44, 3) := by decide +kernel
theorem dL_law_404 : decode cL_law 404 = .ok (.if_icmp .eq 540, 3) := by decide +kernel
theorem dL_law_407 : decode cL_law 407 = .ok (.iconst 0, 1) := by decide +kernel
theorem dL_law_408 : decode cL_law 408 = .ok (.ireturn, 1) := by decide +kernel
theorem dL_law_409 : decode cL_law 409 = .ok (.aload_n 1, 1) := by decide +kernel
theorem dL_law_410 : decode cL_law 410 = .ok (.aload_n 0, 1) := by decide +kernel
theorem dL_law_411 : decode cL_law 411 = .ok (.iload_n 3, 1) := by decide +kernel
theorem dL_law_412 : decode cL_law 412 = .ok (.iconst 1, 1) := by decide +kernel
theorem dL_law_413 : decode cL_law 413 = .ok (.iadd, 1) := by decide +kernel
theorem dL_law_414 : decode cL_law 414 = .ok (.iaload, 1) := by decide +kernel
theorem dL_law_415 : decode cL_law 415 = .ok (.invokevirtual 45, 3) := by decide +kernel
theorem dL_law_418 : decode cL_law 418 = .ok (.aload_n 2, 1) := by decide +kernel
theorem dL_law_419 : decode cL_law 419 = .ok (.aload_n 0, 1) := by decide +kernel
theorem dL_law_420 : decode cL_law 420 = .ok (.iload_n 3, 1) := by decide +kernel
theorem dL_law_421 : decode cL_law 421 = .ok (.iconst 1, 1) := by decide +kernel
theorem dL_law_422 : decode cL_law 422 = .ok (.iadd, 1) := by decide +kernel
theorem dL_law_423 : decode cL_law 423 = .ok (.iaload, 1) := by decide +kernel
theorem dL_law_424 : decode cL_law 424 = .ok (.invokevirtual 48, 3) := by decide +kernel
theorem dL_law_427 : decode cL_law 427 = .ok (.if_icmp .eq 517, 3) := by decide +kernel
theorem dL_law_430 : decode cL_law 430 = .ok (.iconst 0, 1) := by decide +kernel
theorem dL_law_431 : decode cL_law 431 = .ok (.ireturn, 1) := by decide +kernel
theorem dL_law_432 : decode cL_law 432 = .ok (.aload_n 1, 1) := by decide +kernel
theorem dL_law_433 : decode cL_law 433 = .ok (.aload_n 0, 1) := by decide +kernel
theorem dL_law_434 : decode cL_law 434 = .ok (.iload_n 3, 1) := by decide +kernel
theorem dL_law_435 : decode cL_law 435 = .ok (.iconst 1, 1) := by decide +kernel
theorem dL_law_436 : decode cL_law 436 = .ok (.iadd, 1) := by decide +kernel
theorem dL_law_437 : decode cL_law 437 = .ok (.iaload, 1) := by decide +kernel
theorem dL_law_438 : decode cL_law 438 = .ok (.invokevirtual 49, 3) := by decide +kernel
theorem dL_law_441 : decode cL_law 441 = .ok (.aload_n 2, 1) := by decide +kernel
theorem dL_law_442 : decode cL_law 442 = .ok (.aload_n 0, 1) := by decide +kernel
theorem dL_law_443 : decode cL_law 443 = .ok (.iload_n 3, 1) := by decide +kernel
theorem dL_law_444 : decode cL_law 444 = .ok (.iconst 1, 1) := by decide +kernel
theorem dL_law_445 : decode cL_law 445 = .ok (.iadd, 1) := by decide +kernel
theorem dL_law_446 : decode cL_law 446 = .ok (.iaload, 1) := by decide +kernel
theorem dL_law_447 : decode cL_law 447 = .ok (.invokevirtual 52, 3) := by decide +kernel
theorem dL_law_450 : decode cL_law 450 = .ok (.if_icmp .eq 494, 3) := by decide +kernel
theorem dL_law_453 : decode cL_law 453 = .ok (.iconst 0, 1) := by decide +kernel
theorem dL_law_454 : decode cL_law 454 = .ok (.ireturn, 1) := by decide +kernel
theorem dL_law_455 : decode cL_law 455 = .ok (.aload_n 1, 1) := by decide +kernel
theorem dL_law_456 : decode cL_law 456 = .ok (.aload_n 0, 1) := by decide +kernel
theorem dL_law_457 : decode cL_law 457 = .ok (.iload_n 3, 1) := by decide +kernel
theorem dL_law_458 : decode cL_law 458 = .ok (.iconst 1, 1) := by decide +kernel
theorem dL_law_459 : decode cL_law 459 = .ok (.iadd, 1) := by decide +kernel
theorem dL_law_460 : decode cL_law 460 = .ok (.iaload, 1) := by decide +kernel
theorem dL_law_461 : decode cL_law 461 = .ok (.aload_n 0, 1) := by decide +kernel
theorem dL_law_462 : decode cL_law 462 = .ok (.iload_n 3, 1) := by decide +kernel
theorem dL_law_463 : decode cL_law 463 = .ok (.iconst 2, 1) := by decide +kernel
theorem dL_law_464 : decode cL_law 464 = .ok (.iadd, 1) := by decide +kernel
theorem dL_law_465 : decode cL_law 465 = .ok (.iaload, 1) := by decide +kernel
theorem dL_law_466 : decode cL_law 466 = .ok (.aload_n 0, 1) := by decide +kernel
theorem dL_law_467 : decode cL_law 467 = .ok (.iload_n 3, 1) := by decide +kernel
theorem dL_law_468 : decode cL_law 468 = .ok (.iconst 3, 1) := by decide +kernel
theorem dL_law_469 : decode cL_law 469 = .ok (.iadd, 1) := by decide +kernel
theorem dL_law_470 : decode cL_law 470 = .ok (.iaload, 1) := by decide +kernel
theorem dL_law_471 : decode cL_law 471 = .ok (.aload_n 0, 1) := by decide +kernel
theorem dL_law_472 : decode cL_law 472 = .ok (.iload_n 3, 1) := by decide +kernel
theorem dL_law_473 : decode cL_law 473 = .ok (.iconst 4, 1) := by decide +kernel
theorem dL_law_474 : decode cL_law 474 = .ok (.iadd, 1) := by decide +kernel
theorem dL_law_475 : decode cL_law 475 = .ok (.iaload, 1) := by decide +kernel
theorem dL_law_476 : decode cL_law 476 = .ok (.aload_n 0, 1) := by decide +kernel
theorem dL_law_477 : decode cL_law 477 = .ok (.iload_n 3, 1) := by decide +kernel
theorem dL_law_478 : decode cL_law 478 = .ok (.iconst 5, 1) := by decide +kernel
theorem dL_law_479 : decode cL_law 479 = .ok (.iadd, 1) := by decide +kernel
theorem dL_law_480 : decode cL_law 480 = .ok (.iaload, 1) := by decide +kernel
theorem dL_law_481 : decode cL_law 481 = .ok (.invokevirtual 53, 3) := by decide +kernel
theorem dL_law_484 : decode cL_law 484 = .ok (.aload_n 2, 1) := by decide +kernel
theorem dL_law_485 : decode cL_law 485 = .ok (.aload_n 0, 1) := by decide +kernel
theorem dL_law_486 : decode cL_law 486 = .ok (.iload_n 3, 1) := by decide +kernel
theorem dL_law_487 : decode cL_law 487 = .ok (.iconst 1, 1) := by decide +kernel
theorem dL_law_488 : decode cL_law 488 = .ok (.iadd, 1) := by decide +kernel
theorem dL_law_489 : decode cL_law 489 = .ok (.iaload, 1) := by decide +kernel
theorem dL_law_490 : decode cL_law 490 = .ok (.aload_n 0, 1) := by decide +kernel
theorem dL_law_491 : decode cL_law 491 = .ok (.iload_n 3, 1) := by decide +kernel
theorem dL_law_492 : decode cL_law 492 = .ok (.iconst 2, 1) := by decide +kernel
theorem dL_law_493 : decode cL_law 493 = .ok (.iadd, 1) := by decide +kernel
theorem dL_law_494 : decode cL_law 494 = .ok (.iaload, 1) := by decide +kernel
theorem dL_law_495 : decode cL_law 495 = .ok (.aload_n 0, 1) := by decide +kernel
theorem dL_law_496 : decode cL_law 496 = .ok (.iload_n 3, 1) := by decide +kernel
theorem dL_law_497 : decode cL_law 497 = .ok (.iconst 3, 1) := by decide +kernel
theorem dL_law_498 : decode cL_law 498 = .ok (.iadd, 1) := by decide +kernel
theorem dL_law_499 : decode cL_law 499 = .ok (.iaload, 1) := by decide +kernel
theorem dL_law_500 : decode cL_law 500 = .ok (.aload_n 0, 1) := by decide +kernel
theorem dL_law_501 : decode cL_law 501 = .ok (.iload_n 3, 1) := by decide +kernel
theorem dL_law_502 : decode cL_law 502 = .ok (.iconst 4, 1) := by decide +kernel
theorem dL_law_503 : decode cL_law 503 = .ok (.iadd, 1) := by decide +kernel
theorem dL_law_504 : decode cL_law 504 = .ok (.iaload, 1) := by decide +kernel
theorem dL_law_505 : decode cL_law 505 = .ok (.aload_n 0, 1) := by decide +kernel
theorem dL_law_506 : decode cL_law 506 = .ok (.iload_n 3, 1) := by decide +kernel
theorem dL_law_507 : decode cL_law 507 = .ok (.iconst 5, 1) := by decide +kernel
theorem dL_law_508 : decode cL_law 508 = .ok (.iadd, 1) := by decide +kernel
theorem dL_law_509 : decode cL_law 509 = .ok (.iaload, 1) := by decide +kernel
theorem dL_law_510 : decode cL_law 510 = .ok (.invokevirtual 57, 3) := by decide +kernel
theorem dL_law_513 : decode cL_law 513 = .ok (.if_icmp .eq 431, 3) := by decide +kernel
theorem dL_law_516 : decode cL_law 516 = .ok (.iconst 0, 1) := by decide +kernel
theorem dL_law_517 : decode cL_law 517 = .ok (.ireturn, 1) := by decide +kernel
theorem dL_law_518 : decode cL_law 518 = .ok (.aload_n 1, 1) := by decide +kernel
theorem dL_law_519 : decode cL_law 519 = .ok (.aload_n 0, 1) := by decide +kernel
theorem dL_law_520 : decode cL_law 520 = .ok (.iload_n 3, 1) := by decide +kernel
theorem dL_law_521 : decode cL_law 521 = .ok (.iconst 1, 1) := by decide +kernel
theorem dL_law_522 : decode cL_law 522 = .ok (.iadd, 1) := by decide +kernel
theorem dL_law_523 : decode cL_law 523 = .ok (.iaload, 1) := by decide +kernel
theorem dL_law_524 : decode cL_law 524 = .ok (.aload_n 0, 1) := by decide +kernel
theorem dL_law_525 : decode cL_law 525 = .ok (.iload_n 3, 1) := by decide +kernel
theorem dL_law_526 : decode cL_law 526 = .ok (.iconst 2, 1) := by decide +kernel
theorem dL_law_527 : decode cL_law 527 = .ok (.iadd, 1) := by decide +kernel
theorem dL_law_528 : decode cL_law 528 = .ok (.iaload, 1) := by decide +kernel
theorem dL_law_529 : decode cL_law 529 = .ok (.aload_n 0, 1) := by decide +kernel
theorem dL_law_530 : decode cL_law 530 = .ok (.iload_n 3, 1) := by decide +kernel
theorem dL_law_531 : decode cL_law 531 = .ok (.iconst 3, 1) := by decide +kernel
theorem dL_law_532 : decode cL_law 532 = .ok (.iadd, 1) := by decide +kernel
theorem dL_law_533 : decode cL_law 533 = .ok (.iaload, 1) := by decide +kernel
theorem dL_law_534 : decode cL_law 534 = .ok (.aload_n 0, 1) := by decide +kernel
theorem dL_law_535 : decode cL_law 535 = .ok (.iload_n 3, 1) := by decide +kernel
theorem dL_law_536 : decode cL_law 536 = .ok (.iconst 4, 1) := by decide +kernel
theorem dL_law_537 : decode cL_law 537 = .ok (.iadd, 1) := by decide +kernel
theorem dL_law_538 : decode cL_law 538 = .ok (.iaload, 1) := by decide +kernel
theorem dL_law_539 : decode cL_law 539 = .ok (.invokevirtual 58, 3) := by decide +kernel
theorem dL_law_542 : decode cL_law 542 = .ok (.aload_n 2, 1) := by decide +kernel
theorem dL_law_543 : decode cL_law 543 = .ok (.aload_n 0, 1) := by decide +kernel
theorem dL_law_544 : decode cL_law 544 = .ok (.iload_n 3, 1) := by decide +kernel
theorem dL_law_545 : decode cL_law 545 = .ok (.iconst 1, 1) := by decide +kernel
theorem dL_law_546 : decode cL_law 546 = .ok (.iadd, 1) := by decide +kernel
theorem dL_law_547 : decode cL_law 547 = .ok (.iaload, 1) := by decide +kernel
theorem dL_law_548 : decode cL_law 548 = .ok (.aload_n 0, 1) := by decide +kernel
theorem dL_law_549 : decode cL_law 549 = .ok (.iload_n 3, 1) := by decide +kernel
theorem dL_law_550 : decode cL_law 550 = .ok (.iconst 2, 1) := by decide +kernel
theorem dL_law_551 : decode cL_law 551 = .ok (.iadd, 1) := by decide +kernel
theorem dL_law_552 : decode cL_law 552 = .ok (.iaload, 1) := by decide +kernel
theorem dL_law_553 : decode cL_law 553 = .ok (.aload_n 0, 1) := by decide +kernel
theorem dL_law_554 : decode cL_law 554 = .ok (.iload_n 3, 1) := by decide +kernel
theorem dL_law_555 : decode cL_law 555 = .ok (.iconst 3, 1) := by decide +kernel
theorem dL_law_556 : decode cL_law 556 = .ok (.iadd, 1) := by decide +kernel
theorem dL_law_557 : decode cL_law 557 = .ok (.iaload, 1) := by decide +kernel
theorem dL_law_558 : decode cL_law 558 = .ok (.aload_n 0, 1) := by decide +kernel
theorem dL_law_559 : decode cL_law 559 = .ok (.iload_n 3, 1) := by decide +kernel
theorem dL_law_560 : decode cL_law 560 = .ok (.iconst 4, 1) := by decide +kernel
theorem dL_law_561 : decode cL_law 561 = .ok (.iadd, 1) := by decide +kernel
theorem dL_law_562 : decode cL_law 562 = .ok (.iaload, 1) := by decide +kernel
theorem dL_law_563 : decode cL_law 563 = .ok (.invokevirtual 61, 3) := by decide +kernel
theorem dL_law_566 : decode cL_law 566 = .ok (.if_icmp .eq 378, 3) := by decide +kernel
theorem dL_law_569 : decode cL_law 569 = .ok (.iconst 0, 1) := by decide +kernel
theorem dL_law_570 : decode cL_law 570 = .ok (.ireturn, 1) := by decide +kernel
theorem dL_law_571 : decode cL_law 571 = .ok (.aload_n 1, 1) := by decide +kernel
theorem dL_law_572 : decode cL_law 572 = .ok (.aload_n 0, 1) := by decide +kernel
theorem dL_law_573 : decode cL_law 573 = .ok (.iload_n 3, 1) := by decide +kernel
theorem dL_law_574 : decode cL_law 574 = .ok (.iconst 1, 1) := by decide +kernel
theorem dL_law_575 : decode cL_law 575 = .ok (.iadd, 1) := by decide +kernel
theorem dL_law_576 : decode cL_law 576 = .ok (.iaload, 1) := by decide +kernel
theorem dL_law_577 : decode cL_law 577 = .ok (.aload_n 0, 1) := by decide +kernel
theorem dL_law_578 : decode cL_law 578 = .ok (.iload_n 3, 1) := by decide +kernel
theorem dL_law_579 : decode cL_law 579 = .ok (.iconst 2, 1) := by decide +kernel
theorem dL_law_580 : decode cL_law 580 = .ok (.iadd, 1) := by decide +kernel
theorem dL_law_581 : decode cL_law 581 = .ok (.iaload, 1) := by decide +kernel
theorem dL_law_582 : decode cL_law 582 = .ok (.invokevirtual 62, 3) := by decide +kernel
theorem dL_law_585 : decode cL_law 585 = .ok (.aload_n 2, 1) := by decide +kernel
theorem dL_law_586 : decode cL_law 586 = .ok (.aload_n 0, 1) := by decide +kernel
theorem dL_law_587 : decode cL_law 587 = .ok (.iload_n 3, 1) := by decide +kernel
theorem dL_law_588 : decode cL_law 588 = .ok (.iconst 1, 1) := by decide +kernel
theorem dL_law_589 : decode cL_law 589 = .ok (.iadd, 1) := by decide +kernel
theorem dL_law_590 : decode cL_law 590 = .ok (.iaload, 1) := by decide +kernel
theorem dL_law_591 : decode cL_law 591 = .ok (.aload_n 0, 1) := by decide +kernel
theorem dL_law_592 : decode cL_law 592 = .ok (.iload_n 3, 1) := by decide +kernel
theorem dL_law_593 : decode cL_law 593 = .ok (.iconst 2, 1) := by decide +kernel
theorem dL_law_594 : decode cL_law 594 = .ok (.iadd, 1) := by decide +kernel
theorem dL_law_595 : decode cL_law 595 = .ok (.iaload, 1) := by decide +kernel
theorem dL_law_596 : decode cL_law 596 = .ok (.invokevirtual 65, 3) := by decide +kernel
theorem dL_law_599 : decode cL_law 599 = .ok (.if_icmp .eq 345, 3) := by decide +kernel
theorem dL_law_602 : decode cL_law 602 = .ok (.iconst 0, 1) := by decide +kernel
theorem dL_law_603 : decode cL_law 603 = .ok (.ireturn, 1) := by decide +kernel
theorem dL_law_604 : decode cL_law 604 = .ok (.aload_n 1, 1) := by decide +kernel
theorem dL_law_605 : decode cL_law 605 = .ok (.aload_n 0, 1) := by decide +kernel
theorem dL_law_606 : decode cL_law 606 = .ok (.iload_n 3, 1) := by decide +kernel
theorem dL_law_607 : decode cL_law 607 = .ok (.iconst 1, 1) := by decide +kernel
theorem dL_law_608 : decode cL_law 608 = .ok (.iadd, 1) := by decide +kernel
theorem dL_law_609 : decode cL_law 609 = .ok (.iaload, 1) := by decide +kernel
theorem dL_law_610 : decode cL_law 610 = .ok (.aload_n 0, 1) := by decide +kernel
theorem dL_law_611 : decode cL_law 611 = .ok (.iload_n 3, 1) := by decide +kernel
theorem dL_law_612 : decode cL_law 612 = .ok (.iconst 2, 1) := by decide +kernel
theorem dL_law_613 : decode cL_law 613 = .ok (.iadd, 1) := by decide +kernel
theorem dL_law_614 : decode cL_law 614 = .ok (.iaload, 1) := by decide +kernel
theorem dL_law_615 : decode cL_law 615 = .ok (.invokevirtual 66, 3) := by decide +kernel
theorem dL_law_618 : decode cL_law 618 = .ok (.aload_n 2, 1) := by decide +kernel
theorem dL_law_619 : decode cL_law 619 = .ok (.aload_n 0, 1) := by decide +kernel
theorem dL_law_620 : decode cL_law 620 = .ok (.iload_n 3, 1) := by decide +kernel
theorem dL_law_621 : decode cL_law 621 = .ok (.iconst 1, 1) := by decide +kernel
theorem dL_law_622 : decode cL_law 622 = .ok (.iadd, 1) := by decide +kernel
theorem dL_law_623 : decode cL_law 623 = .ok (.iaload, 1) := by decide +kernel
theorem dL_law_624 : decode cL_law 624 = .ok (.aload_n 0, 1) := by decide +kernel
theorem dL_law_625 : decode cL_law 625 = .ok (.iload_n 3, 1) := by decide +kernel
theorem dL_law_626 : decode cL_law 626 = .ok (.iconst 2, 1) := by decide +kernel
theorem dL_law_627 : decode cL_law 627 = .ok (.iadd, 1) := by decide +kernel
theorem dL_law_628 : decode cL_law 628 = .ok (.iaload, 1) := by decide +kernel
theorem dL_law_629 : decode cL_law 629 = .ok (.invokevirtual 69, 3) := by decide +kernel
theorem dL_law_632 : decode cL_law 632 = .ok (.if_icmp .eq 312, 3) := by decide +kernel
theorem dL_law_635 : decode cL_law 635 = .ok (.iconst 0, 1) := by decide +kernel
theorem dL_law_636 : decode cL_law 636 = .ok (.ireturn, 1) := by decide +kernel
theorem dL_law_637 : decode cL_law 637 = .ok (.aload_n 1, 1) := by decide +kernel
theorem dL_law_638 : decode cL_law 638 = .ok (.aload_n 0, 1) := by decide +kernel
theorem dL_law_639 : decode cL_law 639 = .ok (.iload_n 3, 1) := by decide +kernel
theorem dL_law_640 : decode cL_law 640 = .ok (.iconst 1, 1) := by decide +kernel
theorem dL_law_641 : decode cL_law 641 = .ok (.iadd, 1) := by decide +kernel
theorem dL_law_642 : decode cL_law 642 = .ok (.iaload, 1) := by decide +kernel
theorem dL_law_643 : decode cL_law 643 = .ok (.aload_n 0, 1) := by decide +kernel
theorem dL_law_644 : decode cL_law 644 = .ok (.iload_n 3, 1) := by decide +kernel
theorem dL_law_645 : decode cL_law 645 = .ok (.iconst 2, 1) := by decide +kernel
theorem dL_law_646 : decode cL_law 646 = .ok (.iadd, 1) := by decide +kernel
theorem dL_law_647 : decode cL_law 647 = .ok (.iaload, 1) := by decide +kernel
theorem dL_law_648 : decode cL_law 648 = .ok (.aload_n 0, 1) := by decide +kernel
theorem dL_law_649 : decode cL_law 649 = .ok (.iload_n 3, 1) := by decide +kernel
theorem dL_law_650 : decode cL_law 650 = .ok (.iconst 3, 1) := by decide +kernel
theorem dL_law_651 : decode cL_law 651 = .ok (.iadd, 1) := by decide +kernel
theorem dL_law_652 : decode cL_law 652 = .ok (.iaload, 1) := by decide +kernel
theorem dL_law_653 : decode cL_law 653 = .ok (.invokevirtual 70, 3) := by decide +kernel
theorem dL_law_656 : decode cL_law 656 = .ok (.aload_n 2, 1) := by decide +kernel
theorem dL_law_657 : decode cL_law 657 = .ok (.aload_n 0, 1) := by decide +kernel
theorem dL_law_658 : decode cL_law 658 = .ok (.iload_n 3, 1) := by decide +kernel
theorem dL_law_659 : decode cL_law 659 = .ok (.iconst 1, 1) := by decide +kernel
theorem dL_law_660 : decode cL_law 660 = .ok (.iadd, 1) := by decide +kernel
theorem dL_law_661 : decode cL_law 661 = .ok (.iaload, 1) := by decide +kernel
theorem dL_law_662 : decode cL_law 662 = .ok (.aload_n 0, 1) := by decide +kernel
theorem dL_law_663 : decode cL_law 663 = .ok (.iload_n 3, 1) := by decide +kernel
theorem dL_law_664 : decode cL_law 664 = .ok (.iconst 2, 1) := by decide +kernel
theorem dL_law_665 : decode cL_law 665 = .ok (.iadd, 1) := by decide +kernel
theorem dL_law_666 : decode cL_law 666 = .ok (.iaload, 1) := by decide +kernel
theorem dL_law_667 : decode cL_law 667 = .ok (.aload_n 0, 1) := by decide +kernel
theorem dL_law_668 : decode cL_law 668 = .ok (.iload_n 3, 1) := by decide +kernel
theorem dL_law_669 : decode cL_law 669 = .ok (.iconst 3, 1) := by decide +kernel
theorem dL_law_670 : decode cL_law 670 = .ok (.iadd, 1) := by decide +kernel
theorem dL_law_671 : decode cL_law 671 = .ok (.iaload, 1) := by decide +kernel
theorem dL_law_672 : decode cL_law 672 = .ok (.invokevirtual 73, 3) := by decide +kernel
theorem dL_law_675 : decode cL_law 675 = .ok (.if_icmp .eq 269, 3) := by decide +kernel
theorem dL_law_678 : decode cL_law 678 = .ok (.iconst 0, 1) := by decide +kernel
theorem dL_law_679 : decode cL_law 679 = .ok (.ireturn, 1) := by decide +kernel
theorem dL_law_680 : decode cL_law 680 = .ok (.aload_n 1, 1) := by decide +kernel
theorem dL_law_681 : decode cL_law 681 = .ok (.aload_n 0, 1) := by decide +kernel
theorem dL_law_682 : decode cL_law 682 = .ok (.iload_n 3, 1) := by decide +kernel
theorem dL_law_683 : decode cL_law 683 = .ok (.iconst 1, 1) := by decide +kernel
theorem dL_law_684 : decode cL_law 684 = .ok (.iadd, 1) := by decide +kernel
theorem dL_law_685 : decode cL_law 685 = .ok (.iaload, 1) := by decide +kernel
theorem dL_law_686 : decode cL_law 686 = .ok (.aload_n 0, 1) := by decide +kernel
theorem dL_law_687 : decode cL_law 687 = .ok (.iload_n 3, 1) := by decide +kernel
theorem dL_law_688 : decode cL_law 688 = .ok (.iconst 2, 1) := by decide +kernel
theorem dL_law_689 : decode cL_law 689 = .ok (.iadd, 1) := by decide +kernel
theorem dL_law_690 : decode cL_law 690 = .ok (.iaload, 1) := by decide +kernel
theorem dL_law_691 : decode cL_law 691 = .ok (.invokevirtual 74, 3) := by decide +kernel
theorem dL_law_694 : decode cL_law 694 = .ok (.aload_n 2, 1) := by decide +kernel
theorem dL_law_695 : decode cL_law 695 = .ok (.aload_n 0, 1) := by decide +kernel
theorem dL_law_696 : decode cL_law 696 = .ok (.iload_n 3, 1) := by decide +kernel
theorem dL_law_697 : decode cL_law 697 = .ok (.iconst 1, 1) := by decide +kernel
theorem dL_law_698 : decode cL_law 698 = .ok (.iadd, 1) := by decide +kernel
theorem dL_law_699 : decode cL_law 699 = .ok (.iaload, 1) := by decide +kernel
theorem dL_law_700 : decode cL_law 700 = .ok (.aload_n 0, 1) := by decide +kernel
theorem dL_law_701 : decode cL_law 701 = .ok (.iload_n 3, 1) := by decide +kernel
theorem dL_law_702 : decode cL_law 702 = .ok (.iconst 2, 1) := by decide +kernel
theorem dL_law_703 : decode cL_law 703 = .ok (.iadd, 1) := by decide +kernel
theorem dL_law_704 : decode cL_law 704 = .ok (.iaload, 1) := by decide +kernel
theorem dL_law_705 : decode cL_law 705 = .ok (.invokevirtual 77, 3) := by decide +kernel
theorem dL_law_708 : decode cL_law 708 = .ok (.if_icmp .eq 236, 3) := by decide +kernel
theorem dL_law_711 : decode cL_law 711 = .ok (.iconst 0, 1) := by decide +kernel
theorem dL_law_712 : decode cL_law 712 = .ok (.ireturn, 1) := by decide +kernel
theorem dL_law_713 : decode cL_law 713 = .ok (.aload_n 1, 1) := by decide +kernel
theorem dL_law_714 : decode cL_law 714 = .ok (.aload_n 0, 1) := by decide +kernel
theorem dL_law_715 : decode cL_law 715 = .ok (.iload_n 3, 1) := by decide +kernel
theorem dL_law_716 : decode cL_law 716 = .ok (.iconst 1, 1) := by decide +kernel
theorem dL_law_717 : decode cL_law 717 = .ok (.iadd, 1) := by decide +kernel
theorem dL_law_718 : decode cL_law 718 = .ok (.iaload, 1) := by decide +kernel
theorem dL_law_719 : decode cL_law 719 = .ok (.aload_n 0, 1) := by decide +kernel
theorem dL_law_720 : decode cL_law 720 = .ok (.iload_n 3, 1) := by decide +kernel
theorem dL_law_721 : decode cL_law 721 = .ok (.iconst 2, 1) := by decide +kernel
theorem dL_law_722 : decode cL_law 722 = .ok (.iadd, 1) := by decide +kernel
theorem dL_law_723 : decode cL_law 723 = .ok (.iaload, 1) := by decide +kernel
theorem dL_law_724 : decode cL_law 724 = .ok (.invokevirtual 78, 3) := by decide +kernel
theorem dL_law_727 : decode cL_law 727 = .ok (.aload_n 2, 1) := by decide +kernel
theorem dL_law_728 : decode cL_law 728 = .ok (.aload_n 0, 1) := by decide +kernel
theorem dL_law_729 : decode cL_law 729 = .ok (.iload_n 3, 1) := by decide +kernel
theorem dL_law_730 : decode cL_law 730 = .ok (.iconst 1, 1) := by decide +kernel
theorem dL_law_731 : decode cL_law 731 = .ok (.iadd, 1) := by decide +kernel
theorem dL_law_732 : decode cL_law 732 = .ok (.iaload, 1) := by decide +kernel
theorem dL_law_733 : decode cL_law 733 = .ok (.aload_n 0, 1) := by decide +kernel
theorem dL_law_734 : decode cL_law 734 = .ok (.iload_n 3, 1) := by decide +kernel
theorem dL_law_735 : decode cL_law 735 = .ok (.iconst 2, 1) := by decide +kernel
theorem dL_law_736 : decode cL_law 736 = .ok (.iadd, 1) := by decide +kernel
theorem dL_law_737 : decode cL_law 737 = .ok (.iaload, 1) := by decide +kernel
theorem dL_law_738 : decode cL_law 738 = .ok (.invokevirtual 81, 3) := by decide +kernel
theorem dL_law_741 : decode cL_law 741 = .ok (.if_icmp .eq 203, 3) := by decide +kernel
theorem dL_law_744 : decode cL_law 744 = .ok (.iconst 0, 1) := by decide +kernel
theorem dL_law_745 : decode cL_law 745 = .ok (.ireturn, 1) := by decide +kernel
theorem dL_law_746 : decode cL_law 746 = .ok (.aload_n 1, 1) := by decide +kernel
theorem dL_law_747 : decode cL_law 747 = .ok (.aload_n 0, 1) := by decide +kernel
theorem dL_law_748 : decode cL_law 748 = .ok (.iload_n 3, 1) := by decide +kernel
theorem dL_law_749 : decode cL_law 749 = .ok (.iconst 1, 1) := by decide +kernel
theorem dL_law_750 : decode cL_law 750 = .ok (.iadd, 1) := by decide +kernel
theorem dL_law_751 : decode cL_law 751 = .ok (.iaload, 1) := by decide +kernel
theorem dL_law_752 : decode cL_law 752 = .ok (.aload_n 0, 1) := by decide +kernel
theorem dL_law_753 : decode cL_law 753 = .ok (.iload_n 3, 1) := by decide +kernel
theorem dL_law_754 : decode cL_law 754 = .ok (.iconst 2, 1) := by decide +kernel
theorem dL_law_755 : decode cL_law 755 = .ok (.iadd, 1) := by decide +kernel
theorem dL_law_756 : decode cL_law 756 = .ok (.iaload, 1) := by decide +kernel
theorem dL_law_757 : decode cL_law 757 = .ok (.aload_n 0, 1) := by decide +kernel
theorem dL_law_758 : decode cL_law 758 = .ok (.iload_n 3, 1) := by decide +kernel
theorem dL_law_759 : decode cL_law 759 = .ok (.iconst 3, 1) := by decide +kernel
theorem dL_law_760 : decode cL_law 760 = .ok (.iadd, 1) := by decide +kernel
theorem dL_law_761 : decode cL_law 761 = .ok (.iaload, 1) := by decide +kernel
theorem dL_law_762 : decode cL_law 762 = .ok (.invokevirtual 82, 3) := by decide +kernel
theorem dL_law_765 : decode cL_law 765 = .ok (.aload_n 2, 1) := by decide +kernel
theorem dL_law_766 : decode cL_law 766 = .ok (.aload_n 0, 1) := by decide +kernel
theorem dL_law_767 : decode cL_law 767 = .ok (.iload_n 3, 1) := by decide +kernel
theorem dL_law_768 : decode cL_law 768 = .ok (.iconst 1, 1) := by decide +kernel
theorem dL_law_769 : decode cL_law 769 = .ok (.iadd, 1) := by decide +kernel
theorem dL_law_770 : decode cL_law 770 = .ok (.iaload, 1) := by decide +kernel
theorem dL_law_771 : decode cL_law 771 = .ok (.aload_n 0, 1) := by decide +kernel
theorem dL_law_772 : decode cL_law 772 = .ok (.iload_n 3, 1) := by decide +kernel
theorem dL_law_773 : decode cL_law 773 = .ok (.iconst 2, 1) := by decide +kernel
theorem dL_law_774 : decode cL_law 774 = .ok (.iadd, 1) := by decide +kernel
theorem dL_law_775 : decode cL_law 775 = .ok (.iaload, 1) := by decide +kernel
theorem dL_law_776 : decode cL_law 776 = .ok (.aload_n 0, 1) := by decide +kernel
theorem dL_law_777 : decode cL_law 777 = .ok (.iload_n 3, 1) := by decide +kernel
theorem dL_law_778 : decode cL_law 778 = .ok (.iconst 3, 1) := by decide +kernel
theorem dL_law_779 : decode cL_law 779 = .ok (.iadd, 1) := by decide +kernel
theorem dL_law_780 : decode cL_law 780 = .ok (.iaload, 1) := by decide +kernel
theorem dL_law_781 : decode cL_law 781 = .ok (.invokevirtual 85, 3) := by decide +kernel
theorem dL_law_784 : decode cL_law 784 = .ok (.if_icmp .eq 160, 3) := by decide +kernel
theorem dL_law_787 : decode cL_law 787 = .ok (.iconst 0, 1) := by decide +kernel
theorem dL_law_788 : decode cL_law 788 = .ok (.ireturn, 1) := by decide +kernel
theorem dL_law_789 : decode cL_law 789 = .ok (.aload_n 1, 1) := by decide +kernel
theorem dL_law_790 : decode cL_law 790 = .ok (.aload_n 0, 1) := by decide +kernel
theorem dL_law_791 : decode cL_law 791 = .ok (.iload_n 3, 1) := by decide +kernel
theorem dL_law_792 : decode cL_law 792 = .ok (.iconst 1, 1) := by decide +kernel
theorem dL_law_793 : decode cL_law 793 = .ok (.iadd, 1) := by decide +kernel
theorem dL_law_794 : decode cL_law 794 = .ok (.iaload, 1) := by decide +kernel
theorem dL_law_795 : decode cL_law 795 = .ok (.invokevirtual 86, 3) := by decide +kernel
theorem dL_law_798 : decode cL_law 798 = .ok (.aload_n 2, 1) := by decide +kernel
theorem dL_law_799 : decode cL_law 799 = .ok (.aload_n 0, 1) := by decide +kernel
theorem dL_law_800 : decode cL_law 800 = .ok (.iload_n 3, 1) := by decide +kernel
theorem dL_law_801 : decode cL_law 801 = .ok (.iconst 1, 1) := by decide +kernel
theorem dL_law_802 : decode cL_law 802 = .ok (.iadd, 1) := by decide +kernel
theorem dL_law_803 : decode cL_law 803 = .ok (.iaload, 1) := by decide +kernel
theorem dL_law_804 : decode cL_law 804 = .ok (.invokevirtual 89, 3) := by decide +kernel
theorem dL_law_807 : decode cL_law 807 = .ok (.if_icmp .eq 137, 3) := by decide +kernel
theorem dL_law_810 : decode cL_law 810 = .ok (.iconst 0, 1) := by decide +kernel
theorem dL_law_811 : decode cL_law 811 = .ok (.ireturn, 1) := by decide +kernel
theorem dL_law_812 : decode cL_law 812 = .ok (.aload_n 1, 1) := by decide +kernel
theorem dL_law_813 : decode cL_law 813 = .ok (.aload_n 0, 1) := by decide +kernel
theorem dL_law_814 : decode cL_law 814 = .ok (.iload_n 3, 1) := by decide +kernel
theorem dL_law_815 : decode cL_law 815 = .ok (.iconst 1, 1) := by decide +kernel
theorem dL_law_816 : decode cL_law 816 = .ok (.iadd, 1) := by decide +kernel
theorem dL_law_817 : decode cL_law 817 = .ok (.iaload, 1) := by decide +kernel
theorem dL_law_818 : decode cL_law 818 = .ok (.aload_n 0, 1) := by decide +kernel
theorem dL_law_819 : decode cL_law 819 = .ok (.iload_n 3, 1) := by decide +kernel
theorem dL_law_820 : decode cL_law 820 = .ok (.iconst 2, 1) := by decide +kernel
theorem dL_law_821 : decode cL_law 821 = .ok (.iadd, 1) := by decide +kernel
theorem dL_law_822 : decode cL_law 822 = .ok (.iaload, 1) := by decide +kernel
theorem dL_law_823 : decode cL_law 823 = .ok (.invokevirtual 90, 3) := by decide +kernel
theorem dL_law_826 : decode cL_law 826 = .ok (.aload_n 2, 1) := by decide +kernel
theorem dL_law_827 : decode cL_law 827 = .ok (.aload_n 0, 1) := by decide +kernel
theorem dL_law_828 : decode cL_law 828 = .ok (.iload_n 3, 1) := by decide +kernel
theorem dL_law_829 : decode cL_law 829 = .ok (.iconst 1, 1) := by decide +kernel
theorem dL_law_830 : decode cL_law 830 = .ok (.iadd, 1) := by decide +kernel
theorem dL_law_831 : decode cL_law 831 = .ok (.iaload, 1) := by decide +kernel
theorem dL_law_832 : decode cL_law 832 = .ok (.aload_n 0, 1) := by decide +kernel
theorem dL_law_833 : decode cL_law 833 = .ok (.iload_n 3, 1) := by decide +kernel
theorem dL_law_834 : decode cL_law 834 = .ok (.iconst 2, 1) := by decide +kernel
theorem dL_law_835 : decode cL_law 835 = .ok (.iadd, 1) := by decide +kernel
theorem dL_law_836 : decode cL_law 836 = .ok (.iaload, 1) := by decide +kernel
theorem dL_law_837 : decode cL_law 837 = .ok (.invokevirtual 93, 3) := by decide +kernel
theorem dL_law_840 : decode cL_law 840 = .ok (.if_icmp .eq 104, 3) := by decide +kernel
theorem dL_law_843 : decode cL_law 843 = .ok (.iconst 0, 1) := by decide +kernel
theorem dL_law_844 : decode cL_law 844 = .ok (.ireturn, 1) := by decide +kernel
theorem dL_law_845 : decode cL_law 845 = .ok (.aload_n 1, 1) := by decide +kernel
theorem dL_law_846 : decode cL_law 846 = .ok (.aload_n 0, 1) := by decide +kernel
theorem dL_law_847 : decode cL_law 847 = .ok (.iload_n 3, 1) := by decide +kernel
theorem dL_law_848 : decode cL_law 848 = .ok (.iconst 1, 1) := by decide +kernel
theorem dL_law_849 : decode cL_law 849 = .ok (.iadd, 1) := by decide +kernel
theorem dL_law_850 : decode cL_law 850 = .ok (.iaload, 1) := by decide +kernel
theorem dL_law_851 : decode cL_law 851 = .ok (.invokevirtual 94, 3) := by decide +kernel
theorem dL_law_854 : decode cL_law 854 = .ok (.aload_n 2, 1) := by decide +kernel
theorem dL_law_855 : decode cL_law 855 = .ok (.aload_n 0, 1) := by decide +kernel
theorem dL_law_856 : decode cL_law 856 = .ok (.iload_n 3, 1) := by decide +kernel
theorem dL_law_857 : decode cL_law 857 = .ok (.iconst 1, 1) := by decide +kernel
theorem dL_law_858 : decode cL_law 858 = .ok (.iadd, 1) := by decide +kernel
theorem dL_law_859 : decode cL_law 859 = .ok (.iaload, 1) := by decide +kernel
theorem dL_law_860 : decode cL_law 860 = .ok (.invokevirtual 97, 3) := by decide +kernel
theorem dL_law_863 : decode cL_law 863 = .ok (.if_icmp .eq 81, 3) := by decide +kernel
theorem dL_law_866 : decode cL_law 866 = .ok (.iconst 0, 1) := by decide +kernel
theorem dL_law_867 : decode cL_law 867 = .ok (.ireturn, 1) := by decide +kernel
theorem dL_law_868 : decode cL_law 868 = .ok (.aload_n 1, 1) := by decide +kernel
theorem dL_law_869 : decode cL_law 869 = .ok (.invokevirtual 98, 3) := by decide +kernel
theorem dL_law_872 : decode cL_law 872 = .ok (.aload_n 2, 1) := by decide +kernel
theorem dL_law_873 : decode cL_law 873 = .ok (.invokevirtual 102, 3) := by decide +kernel
theorem dL_law_876 : decode cL_law 876 = .ok (.if_icmp .eq 68, 3) := by decide +kernel
theorem dL_law_879 : decode cL_law 879 = .ok (.iconst 0, 1) := by decide +kernel
theorem dL_law_880 : decode cL_law 880 = .ok (.ireturn, 1) := by decide +kernel
theorem dL_law_881 : decode cL_law 881 = .ok (.aload_n 1, 1) := by decide +kernel
theorem dL_law_882 : decode cL_law 882 = .ok (.invokevirtual 103, 3) := by decide +kernel
theorem dL_law_885 : decode cL_law 885 = .ok (.aload_n 2, 1) := by decide +kernel
theorem dL_law_886 : decode cL_law 886 = .ok (.invokevirtual 106, 3) := by decide +kernel
theorem dL_law_889 : decode cL_law 889 = .ok (.if_icmp .eq 55, 3) := by decide +kernel
theorem dL_law_892 : decode cL_law 892 = .ok (.iconst 0, 1) := by decide +kernel
theorem dL_law_893 : decode cL_law 893 = .ok (.ireturn, 1) := by decide +kernel
theorem dL_law_894 : decode cL_law 894 = .ok (.aload_n 1, 1) := by decide +kernel
theorem dL_law_895 : decode cL_law 895 = .ok (.invokevirtual 107, 3) := by decide +kernel
theorem dL_law_898 : decode cL_law 898 = .ok (.aload_n 2, 1) := by decide +kernel
theorem dL_law_899 : decode cL_law 899 = .ok (.invokevirtual 110, 3) := by decide +kernel
theorem dL_law_902 : decode cL_law 902 = .ok (.if_icmp .eq 42, 3) := by decide +kernel
theorem dL_law_905 : decode cL_law 905 = .ok (.iconst 0, 1) := by decide +kernel
theorem dL_law_906 : decode cL_law 906 = .ok (.ireturn, 1) := by decide +kernel
theorem dL_law_907 : decode cL_law 907 = .ok (.aload_n 1, 1) := by decide +kernel
theorem dL_law_908 : decode cL_law 908 = .ok (.aload_n 0, 1) := by decide +kernel
theorem dL_law_909 : decode cL_law 909 = .ok (.iload_n 3, 1) := by decide +kernel
theorem dL_law_910 : decode cL_law 910 = .ok (.iconst 1, 1) := by decide +kernel
theorem dL_law_911 : decode cL_law 911 = .ok (.iadd, 1) := by decide +kernel
theorem dL_law_912 : decode cL_law 912 = .ok (.iaload, 1) := by decide +kernel
theorem dL_law_913 : decode cL_law 913 = .ok (.invokevirtual 111, 3) := by decide +kernel
theorem dL_law_916 : decode cL_law 916 = .ok (.aload_n 2, 1) := by decide +kernel
theorem dL_law_917 : decode cL_law 917 = .ok (.aload_n 0, 1) := by decide +kernel
theorem dL_law_918 : decode cL_law 918 = .ok (.iload_n 3, 1) := by decide +kernel
theorem dL_law_919 : decode cL_law 919 = .ok (.iconst 1, 1) := by decide +kernel
theorem dL_law_920 : decode cL_law 920 = .ok (.iadd, 1) := by decide +kernel
theorem dL_law_921 : decode cL_law 921 = .ok (.iaload, 1) := by decide +kernel
theorem dL_law_922 : decode cL_law 922 = .ok (.invokevirtual 114, 3) := by decide +kernel
theorem dL_law_925 : decode cL_law 925 = .ok (.if_icmp .eq 19, 3) := by decide +kernel
theorem dL_law_928 : decode cL_law 928 = .ok (.iconst 0, 1) := by decide +kernel
theorem dL_law_929 : decode cL_law 929 = .ok (.ireturn, 1) := by decide +kernel
theorem dL_law_930 : decode cL_law 930 = .ok (.aload_n 1, 1) := by decide +kernel
theorem dL_law_931 : decode cL_law 931 = .ok (.invokevirtual 115, 3) := by decide +kernel
theorem dL_law_934 : decode cL_law 934 = .ok (.aload_n 2, 1) := by decide +kernel
theorem dL_law_935 : decode cL_law 935 = .ok (.invokevirtual 119, 3) := by decide +kernel
theorem dL_law_938 : decode cL_law 938 = .ok (.lcmp, 1) := by decide +kernel
theorem dL_law_939 : decode cL_law 939 = .ok (.ifCond .eq 5, 3) := by decide +kernel
theorem dL_law_942 : decode cL_law 942 = .ok (.iconst 0, 1) := by decide +kernel
theorem dL_law_943 : decode cL_law 943 = .ok (.ireturn, 1) := by decide +kernel
theorem dL_law_944 : decode cL_law 944 = .ok (.iinc 3 6, 3) := by decide +kernel
theorem dL_law_947 : decode cL_law 947 = .ok (.goto (-929), 3) := by decide +kernel
theorem dL_law_950 : decode cL_law 950 = .ok (.iconst 1, 1) := by decide +kernel
theorem dL_law_951 : decode cL_law 951 = .ok (.ireturn, 1) := by decide +kernel
end
section
theorem ja_T {z : Int} (h1 : -2147483648 ≤ z) (h2 : z ≤ 2147483647) : (Int32.ofInt z).toInt = z := Int32.toInt_ofInt_of_le (by omega) (by omega)
theorem ja_C {z : Int} (h1 : 0 ≤ z) (h2 : z ≤ 2147483647) : (((Int32.ofInt z).toNatClampNeg : Nat) : Int) = z := by
  show (((Int32.ofInt z).toInt.toNat : Nat) : Int) = z
  rw [ja_T (by omega) h2]
  omega
theorem ja_add (a b : Int) : Int32.ofInt a + Int32.ofInt b = Int32.ofInt (a + b) := (Int32.ofInt_add a b).symm
theorem ja_sub (a b : Int) : Int32.ofInt a - Int32.ofInt b = Int32.ofInt (a - b) := (Int32.ofInt_sub a b).symm
theorem ja_mul (a b : Int) : Int32.ofInt a * Int32.ofInt b = Int32.ofInt (a * b) := (Int32.ofInt_mul a b).symm
theorem ja_self (x : Int32) : Int32.ofInt x.toInt = x := Int32.ofInt_toInt x
theorem ja_rg (x : Int32) : -2147483648 ≤ x.toInt ∧ x.toInt ≤ 2147483647 := by
  have h1 := Int32.le_toInt x
  have h2 := Int32.toInt_lt x
  omega
theorem ja_in {z : Int} {n : Nat} (h1 : 0 ≤ z) (h2 : z < n) (hn : n < 2147483648) : vp_in (Int32.ofInt z) n := by
  rw [vp_in_iff, ja_T (by omega) (by omega)]
  omega
theorem ja_div {a b : Int} (h1 : 0 ≤ a) (h2 : a ≤ 2147483647) (h3 : 0 < b) (h4 : b ≤ 2147483647) : Int32.ofInt a / Int32.ofInt b = Int32.ofInt (a / b) := by
  apply Int32.toInt_inj.mp
  have hb0 : 0 ≤ a / b := Int.ediv_nonneg h1 (by omega)
  have hb1 : a / b ≤ a := Int.ediv_le_self b h1
  rw [Int32.toInt_div, ja_T (by omega) h2, ja_T (by omega) h4, ja_T (by omega) (by omega), Int.tdiv_eq_ediv_of_nonneg h1, Int.bmod_eq_of_le (by omega) (by omega)]
theorem ja_rem {a b : Int} (h1 : 0 ≤ a) (h2 : a ≤ 2147483647) (h3 : 0 < b) (h4 : b ≤ 2147483647) : Int32.ofInt a - Int32.ofInt a / Int32.ofInt b * Int32.ofInt b = Int32.ofInt (a % b) := by
  rw [ja_div h1 h2 h3 h4, ja_mul, ja_sub]
  congr 1
  have := Int.mul_ediv_add_emod a b
  rw [Int.mul_comm] at this
  omega
theorem ja_ne0 {b : Int} (h3 : 0 < b) (h4 : b ≤ 2147483647) : ¬ Int32.ofInt b = 0 := by
  intro h
  have := congrArg Int32.toInt h
  rw [ja_T (by omega) h4] at this
  simp at this
  omega
theorem ja_eq {a b : Int} (h1 : -2147483648 ≤ a) (h2 : a ≤ 2147483647) (h3 : -2147483648 ≤ b) (h4 : b ≤ 2147483647) : Int32.ofInt a = Int32.ofInt b ↔ a = b := by
  constructor
  · intro h
    have := congrArg Int32.toInt h
    rwa [ja_T h1 h2, ja_T h3 h4] at this
  · intro h; rw [h]
theorem ja_lt {a b : Int} (h1 : -2147483648 ≤ a) (h2 : a ≤ 2147483647) (h3 : -2147483648 ≤ b) (h4 : b ≤ 2147483647) : Int32.ofInt a < Int32.ofInt b ↔ a < b := by
  rw [Int32.lt_iff_toInt_lt, ja_T h1 h2, ja_T h3 h4]
theorem ja_le {a b : Int} (h1 : -2147483648 ≤ a) (h2 : a ≤ 2147483647) (h3 : -2147483648 ≤ b) (h4 : b ≤ 2147483647) : Int32.ofInt a ≤ Int32.ofInt b ↔ a ≤ b := by
  rw [Int32.le_iff_toInt_le, ja_T h1 h2, ja_T h3 h4]
theorem ja_nn {z : Int} (h1 : 0 ≤ z) (h2 : z ≤ 2147483647) : ¬ Int32.ofInt z < 0 := by
  rw [Int32.lt_iff_toInt_lt, ja_T (by omega) h2]
  simp
  omega
end
section
/-! the tables' words that stay -/
def kw : Cond → Bool
  | .arrayClass _ => true
  | .arrayOver (.object _) => true
  | .castable .. => true
  | .methodLinkNest .. => true
  | w => w.onTables && w.keeps
theorem kw_moved {w : Cond} (hk : kw w = true) {a a' : Array Value} {s U : State} (hW : s.WarmedH U.vm) (h : w.before a s = true) : w.before a' U = true := by
  cases w with
  | arrayClass ty => exact word_at hW (Or.inr ⟨_, rfl⟩) h
  | arrayOver ty =>
    cases ty with
    | object C => exact va_AO.use (va_AO.moved hW.alike (va_AO.of h))
    | _ => exact word_at hW (Or.inl hk) h
  | castable C T => exact va_Nw.use rfl (va_Nw.warmC hW (va_Nw.of rfl h))
  | methodLinkNest x i y h0 => exact va_Nw.use rfl (va_Nw.warmM hW (va_Nw.of rfl h))
  | _ => exact word_at hW (Or.inl hk) h
def Kw (U : State) : Prop := ∀ w ∈ lw_tbl, kw w = true → w.before #[] U = true
theorem Kw.moved {s U : State} (hW : s.WarmedH U.vm) (h : Kw s) : Kw U := fun w hw hk => kw_moved hk hW (h w hw hk)
theorem Kw.at {s : State} (h : Kw s) {w : Cond} (hw : w ∈ lw_tbl ∧ kw w = true) (a : Array Value) : w.before a s = true := kw_moved hw.2 (State.WarmedH.refl s) (h w hw.1 hw.2)
/-! the abstract heap: by address, a label and a cell -/
abbrev Cel : Type := (Nat × List Value) ⊕ ((Nat × Nat × (Int → Int)) ⊕ (Nat × Nat × (Int → Option Nat)))
abbrev Hp : Type := Nat → Option (Nat × Cel)
abbrev ob (ci : Nat) (fs : List Value) : Cel := .inl (ci, fs)
abbrev ia (t n : Nat) (f : Int → Int) : Cel := .inr (.inl (t, n, f))
abbrev ra (t n : Nat) (f : Int → Option Nat) : Cel := .inr (.inr (t, n, f))
abbrev vi (z : Int) : Value := .int (Int32.ofInt z)
def ja_rl (cy : Nat → ClassId) : Cel → va_E
  | .inl o => .inr o
  | .inr (.inl a) => .inl (cy a.1, a.2.1, .inl (fun j => Int32.ofInt (a.2.2 j)))
  | .inr (.inr a) => .inl (cy a.1, a.2.1, .inr (.inr (.inr (.inr (fun j => a.2.2 j)))))
def ja_xf (cy : Nat → ClassId) (X : Hp) (a : Nat) : va_E := match X a with
  | some q => ja_rl cy q.2
  | none => .inr (0, [])
theorem ja_xf_at {cy : Nat → ClassId} {X : Hp} {a : Nat} {q : Nat × Cel} (h : X a = some q) : ja_xf cy X a = ja_rl cy q.2 := by simp [ja_xf, h]
def ja_ty : Nat → FieldType
  | 0 => .int
  | 1 => .boolean
  | 2 => .object RX2
  | 3 => .object RX3
  | _ => .object RX4
def ja_tys (cy : Nat → ClassId) : List (ClassId × FieldType) := [(cy 0, ja_ty 0), (cy 1, ja_ty 1), (cy 2, ja_ty 2), (cy 3, ja_ty 3), (cy 4, ja_ty 4)]
def ja_ok (X : Hp) : Prop := (∀ (a lb t n : Nat) (f : Int → Int), X a = some (lb, ia t n f) → n < 2147483648 ∧ ∀ j : Int, 0 ≤ j → j < n → -2147483648 ≤ f j ∧ f j ≤ 2147483647) ∧ (∀ (a lb t n : Nat) (f : Int → Option Nat), X a = some (lb, ra t n f) → n < 2147483648)
def PO (D : va_G) (cy : Nat → ClassId) (X : Hp) (A : Nat → Prop) (H : Heap) : Prop := (∃ L : List Nat, (∀ a : Nat, a ∈ L ↔ ∃ q, X a = some q) ∧ va_P D vwCl ([] ++ va_pl L (ja_xf cy X)) H ∧ va_D A ([] ++ va_pl L (ja_xf cy X))) ∧ ja_ok X
theorem PO.get {D : va_G} {cy : Nat → ClassId} {X : Hp} {A : Nat → Prop} {H : Heap} (h : PO D cy X A H) {a : Nat} {q : Nat × Cel} (hx : X a = some q) : ∃ (L : List Nat) (k : Nat), (∀ a : Nat, a ∈ L ↔ ∃ q, X a = some q) ∧ va_P D vwCl ([] ++ va_pl L (ja_xf cy X)) H ∧ va_D A ([] ++ va_pl L (ja_xf cy X)) ∧ ([] ++ va_pl L (ja_xf cy X))[k]? = some (a, ja_rl cy q.2) := by
  obtain ⟨⟨L, h1, h2, h3⟩, -⟩ := h
  obtain ⟨k, hk⟩ := va_pl_get (X := []) (f := ja_xf cy X) ((h1 a).mpr ⟨q, hx⟩)
  exact ⟨L, k, h1, h2, h3, by rw [hk, ja_xf_at hx]⟩
theorem PO.set {D : va_G} {cy : Nat → ClassId} {X : Hp} {A : Nat → Prop} {H1 : Heap} {L : List Nat} {k a : Nat} {lb : Nat} {q c : Cel} (h1 : ∀ a : Nat, a ∈ L ↔ ∃ q, X a = some q) (h3 : va_D A ([] ++ va_pl L (ja_xf cy X))) (hx : X a = some (lb, q)) (hk : ([] ++ va_pl L (ja_xf cy X))[k]? = some (a, ja_rl cy q))
    (g1 : va_P D vwCl (([] ++ va_pl L (ja_xf cy X)).set k (a, ja_rl cy c)) H1) (g2 : va_D A (([] ++ va_pl L (ja_xf cy X)).set k (a, ja_rl cy c))) (ho : ja_ok (va_up X a (some (lb, c)))) : PO D cy (va_up X a (some (lb, c))) A H1 := by
  have e1 : ja_xf cy X a = ja_rl cy q := ja_xf_at hx
  have e : ([] ++ va_pl L (ja_xf cy X)).set k (a, ja_rl cy c) = [] ++ va_pl L (ja_xf cy (va_up X a (some (lb, c)))) := by
    rw [va_pl_set h3 ((h1 a).mpr ⟨_, hx⟩) (by rw [hk, e1])]
    congr 1
    congr 1
    funext b
    by_cases hb : b = a
    · subst hb
      simp [va_up, ja_xf]
    · simp [va_up, ja_xf, hb]
  rw [e] at g1 g2
  refine ⟨⟨L, fun b => ?_, g1, g2⟩, ho⟩
  by_cases hb : b = a
  · subst hb
    simp [va_up, (h1 b).mpr ⟨_, hx⟩]
  · simp [va_up, hb, h1 b]
theorem PO.push {D : va_G} {cy : Nat → ClassId} {X : Hp} {A : Nat → Prop} {H1 : Heap} {L : List Nat} {a : Nat} {lb : Nat} {c : Cel} (h1 : ∀ a : Nat, a ∈ L ↔ ∃ q, X a = some q)
    (g1 : va_P D vwCl ([] ++ va_pl L (ja_xf cy X) ++ [(a, ja_rl cy c)]) H1) (g2 : va_D A ([] ++ va_pl L (ja_xf cy X) ++ [(a, ja_rl cy c)])) (ho : X a = none → ja_ok (va_up X a (some (lb, c)))) : X a = none ∧ PO D cy (va_up X a (some (lb, c))) A H1 := by
  have hn : a ∉ L := by
    intro hm
    obtain ⟨k, hk⟩ := va_pl_get (X := []) (f := ja_xf cy X) hm
    have hl := (List.getElem?_eq_some_iff.mp hk).1
    have q1 : ([] ++ va_pl L (ja_xf cy X) ++ [(a, ja_rl cy c)])[k]? = some (a, ja_xf cy X a) := by rw [List.getElem?_append_left hl]; exact hk
    have q2 : ([] ++ va_pl L (ja_xf cy X) ++ [(a, ja_rl cy c)])[([] ++ va_pl L (ja_xf cy X)).length]? = some (a, ja_rl cy c) := by
      rw [List.getElem?_append_right (Nat.le_refl _), Nat.sub_self]; rfl
    have := g2.1 _ _ _ _ q1 q2 rfl
    omega
  have hx : X a = none := by
    cases h : X a with
    | none => rfl
    | some q => exact absurd ((h1 a).mpr ⟨q, h⟩) hn
  have e : [] ++ va_pl L (ja_xf cy X) ++ [(a, ja_rl cy c)] = [] ++ va_pl (L ++ [a]) (ja_xf cy (va_up X a (some (lb, c)))) := by
    rw [List.nil_append, List.nil_append, va_pl_push hn]
    congr 1
    funext b
    by_cases hb : b = a
    · subst hb
      simp [va_up, ja_xf]
    · simp [va_up, ja_xf, hb]
  rw [e] at g1 g2
  refine ⟨hx, ⟨L ++ [a], fun b => ?_, g1, g2⟩, ho hx⟩
  by_cases hb : b = a
  · subst hb
    simp [va_up]
  · simp [va_up, hb, h1 b]
theorem PO.weaken {D : va_G} {cy : Nat → ClassId} {X : Hp} {A B : Nat → Prop} {H : Heap} (h : PO D cy X A H) (hAB : ∀ a, A a → B a) : PO D cy X B H := by
  obtain ⟨⟨L, h1, h2, h3⟩, h4⟩ := h
  exact ⟨⟨L, h1, h2, h3.weaken (fun _ _ _ h => hAB _ h)⟩, h4⟩
theorem PO.inA {D : va_G} {cy : Nat → ClassId} {X : Hp} {A : Nat → Prop} {H : Heap} (h : PO D cy X A H) {a : Nat} {q : Nat × Cel} (hx : X a = some q) : A a := by
  obtain ⟨L, k, h1, h2, h3, h4⟩ := h.get hx
  exact h3.2 k _ h4
theorem PO.self {D : va_G} {cy : Nat → ClassId} {X : Hp} {A : Nat → Prop} {H : Heap} (h : PO D cy X A H) {B : Nat → Prop} (hB : ∀ a q, X a = some q → B a) : PO D cy X B H := by
  obtain ⟨⟨L, h1, h2, h3⟩, h4⟩ := h
  refine ⟨⟨L, h1, h2, h3.1, fun k q hk => ?_⟩, h4⟩
  have hm : q ∈ va_pl L (ja_xf cy X) := List.mem_of_getElem? hk
  obtain ⟨a, ha, rfl⟩ := List.mem_map.mp hm
  obtain ⟨z, hz⟩ := (h1 a).mp ha
  exact hB a z hz
theorem ja_ok_set {X : Hp} {a lb : Nat} {c : Cel} (h : ja_ok X) (h1 : ∀ t n f, c = ia t n f → n < 2147483648 ∧ ∀ j : Int, 0 ≤ j → j < n → -2147483648 ≤ f j ∧ f j ≤ 2147483647) (h2 : ∀ t n f, c = ra t n f → n < 2147483648) : ja_ok (va_up X a (some (lb, c))) := by
  refine ⟨fun b lb' t n f hb => ?_, fun b lb' t n f hb => ?_⟩
  · by_cases hba : b = a
    · subst hba
      simp [va_up] at hb
      exact h1 t n f hb.2
    · rw [va_up_ne _ _ hba] at hb
      exact h.1 b lb' t n f hb
  · by_cases hba : b = a
    · subst hba
      simp [va_up] at hb
      exact h2 t n f hb.2
    · rw [va_up_ne _ _ hba] at hb
      exact h.2 b lb' t n f hb
/-- labels stay -/
def XE (X X' : Hp) : Prop := ∀ (a lb : Nat) (c : Cel), X a = some (lb, c) → ∃ c', X' a = some (lb, c')
theorem XE.refl (X : Hp) : XE X X := fun _ _ c h => ⟨c, h⟩
theorem XE.trans {X Y Z : Hp} (h : XE X Y) (g : XE Y Z) : XE X Z := fun a lb c hx => by
  obtain ⟨c', h'⟩ := h a lb c hx
  exact g a lb c' h'
theorem XE.set {X : Hp} {a lb : Nat} {c c' : Cel} (h : X a = some (lb, c)) : XE X (va_up X a (some (lb, c'))) := fun b lb' d hb => by
  by_cases hba : b = a
  · subst hba
    rw [h] at hb
    simp at hb
    exact ⟨c', by simp [va_up, hb.1]⟩
  · exact ⟨d, by rw [va_up_ne _ _ hba]; exact hb⟩
theorem XE.push {X : Hp} {a lb : Nat} {c' : Cel} (h : X a = none) : XE X (va_up X a (some (lb, c'))) := fun b lb' d hb => by
  have hba : b ≠ a := fun q => by rw [q, h] at hb; cases hb
  exact ⟨d, by rw [va_up_ne _ _ hba]; exact hb⟩
/-- after a write at a' the cell at a, of another label, is as it was -/
theorem ux {X : Hp} {a a' l l' : Nat} {c c' : Cel} {v : Option (Nat × Cel)} (h : X a = some (l, c)) (h' : X a' = some (l', c')) (hne : l ≠ l') : va_up X a' v a = some (l, c) := by
  have : a ≠ a' := fun q => by
    subst q
    rw [h] at h'
    simp at h'
    exact hne h'.1
  rw [va_up_ne _ _ this]; exact h
theorem us {X : Hp} {a : Nat} {v : Option (Nat × Cel)} : va_up X a v a = v := va_up_self X a v
/-- after a new cell at q the cell at a is as it was -/
theorem un {X : Hp} {a q : Nat} {z : Nat × Cel} {v : Option (Nat × Cel)} (h : X a = some z) (hq : X q = none) : va_up X q v a = some z := by
  have : a ≠ q := fun e => by rw [e, hq] at h; cases h
  rw [va_up_ne _ _ this]; exact h
/-! locals -/
def ja_ll : Nat → List (Option Value) → List (Nat × Value)
  | _, [] => []
  | i, none :: r => ja_ll (i + 1) r
  | i, some v :: r => (i, v) :: ja_ll (i + 1) r
theorem ja_ll_mem : ∀ (lo : List (Option Value)) (i j : Nat) (w : Value), (j, w) ∈ ja_ll i lo ↔ ∃ k, j = i + k ∧ lo[k]? = some (some w)
  | [], i, j, w => by simp [ja_ll]
  | none :: r, i, j, w => by
    rw [ja_ll, ja_ll_mem r (i + 1) j w]
    constructor
    · rintro ⟨k, rfl, h⟩
      exact ⟨k + 1, by omega, by simpa using h⟩
    · rintro ⟨k, rfl, h⟩
      cases k with
      | zero => simp at h
      | succ k => exact ⟨k, by omega, by simpa using h⟩
  | some v :: r, i, j, w => by
    rw [ja_ll, List.mem_cons, ja_ll_mem r (i + 1) j w]
    constructor
    · rintro (h | ⟨k, rfl, h⟩)
      · cases h
        exact ⟨0, rfl, rfl⟩
      · exact ⟨k + 1, by omega, by simpa using h⟩
    · rintro ⟨k, rfl, h⟩
      cases k with
      | zero => simp at h; left; rw [h]; rfl
      | succ k => right; exact ⟨k, by omega, by simpa using h⟩
def lh (ls : Array Slot) (lo : List (Option Value)) : Prop := lv_has ls lo.length (ja_ll 0 lo)
theorem lh.at {ls : Array Slot} {lo : List (Option Value)} (h : lh ls lo) {i : Nat} {v : Value} (hv : lo[i]? = some (some v)) : ls[i]? = some (.val v) := h.2.2 (i, v) ((ja_ll_mem lo 0 i v).mpr ⟨i, by omega, hv⟩)
def ok1 (lo : List (Option Value)) : Nat → Bool
  | 0 => true
  | i + 1 => match lo[i]? with
    | some (some v) => v.category == 1
    | _ => true
theorem lh.set1 {ls' : Array Slot} {lo : List (Option Value)} {i : Nat} {v : Value} (hi : i < lo.length) (hk : ok1 lo i = true) (h : lv_has ls' lo.length ((i, v) :: (ja_ll 0 lo).filter (fun q => !(q.1 == i) && !(q.1 + 1 == i && q.2.category == 2)))) : lh ls' (lo.set i (some v)) := by
  refine ⟨by rw [List.length_set]; exact h.1, h.2.1, fun q hq => ?_⟩
  obtain ⟨j, w⟩ := q
  obtain ⟨k, e, hk2⟩ := (ja_ll_mem _ _ _ _).mp hq
  have e : j = k := by omega
  subst e
  apply h.2.2
  by_cases hij : i = j
  · subst hij
    rw [List.getElem?_set_self hi] at hk2
    simp at hk2
    subst hk2
    exact List.mem_cons_self
  · rw [List.getElem?_set_ne hij] at hk2
    refine List.mem_cons_of_mem _ (List.mem_filter.mpr ⟨(ja_ll_mem _ _ _ _).mpr ⟨j, by omega, hk2⟩, ?_⟩)
    simp only [Bool.and_eq_true, Bool.not_eq_true', beq_eq_false_iff_ne, Bool.and_eq_false_iff]
    refine ⟨fun q => hij q.symm, ?_⟩
    by_cases hji : j + 1 = i
    · right
      subst hji
      simp only [ok1, hk2, beq_iff_eq] at hk
      rw [hk]
      decide
    · left; exact hji
theorem lh.set2 {ls' : Array Slot} {lo : List (Option Value)} {i : Nat} {v : Value} (hi : i + 1 < lo.length) (hk : ok1 lo i = true) (h : lv_has ls' lo.length ((i, v) :: (ja_ll 0 lo).filter (fun q => !(q.1 == i) && (!(q.1 == i + 1) && !(q.1 + 1 == i && q.2.category == 2))))) : lh ls' ((lo.set i (some v)).set (i + 1) none) := by
  refine ⟨by rw [List.length_set, List.length_set]; exact h.1, h.2.1, fun q hq => ?_⟩
  obtain ⟨j, w⟩ := q
  obtain ⟨k, e, hk2⟩ := (ja_ll_mem _ _ _ _).mp hq
  have e : j = k := by omega
  subst e
  apply h.2.2
  by_cases hij1 : i + 1 = j
  · subst hij1
    rw [List.getElem?_set_self (by rw [List.length_set]; exact hi)] at hk2
    simp at hk2
  · rw [List.getElem?_set_ne hij1] at hk2
    by_cases hij : i = j
    · subst hij
      rw [List.getElem?_set_self (by omega)] at hk2
      simp at hk2
      subst hk2
      exact List.mem_cons_self
    · rw [List.getElem?_set_ne hij] at hk2
      refine List.mem_cons_of_mem _ (List.mem_filter.mpr ⟨(ja_ll_mem _ _ _ _).mpr ⟨j, by omega, hk2⟩, ?_⟩)
      simp only [Bool.and_eq_true, Bool.not_eq_true', beq_eq_false_iff_ne, Bool.and_eq_false_iff]
      refine ⟨fun q => hij q.symm, fun q => hij1 q.symm, ?_⟩
      by_cases hji : j + 1 = i
      · right
        subst hji
        simp only [ok1, hk2, beq_iff_eq] at hk
        rw [hk]
        decide
      · left; exact hji
def eo : List Value → List (Option Value)
  | [] => []
  | v :: vs => some v :: ((if v.category = 2 then [none] else []) ++ eo vs)
theorem eo_mem : ∀ (vs : List Value) (i k : Nat) (w : Value) (n : Nat), (eo vs ++ List.replicate n none)[k]? = some (some w) → (i + k, w) ∈ lv_args i vs
  | [], i, k, w, n, h => by
    simp [eo, List.getElem?_replicate] at h
  | v :: vs, i, k, w, n, h => by
    cases k with
    | zero =>
      simp [eo] at h
      rw [lv_args, h]
      exact List.mem_cons_self
    | succ k =>
      rw [lv_args]
      refine List.mem_cons_of_mem _ ?_
      by_cases hc : v.category = 2
      · simp only [eo, hc, if_true] at h ⊢
        cases k with
        | zero => simp at h
        | succ k =>
          have := eo_mem vs (i + 2) k w n (by simpa using h)
          rwa [show i + (k + 1 + 1) = i + 2 + k by omega]
      · simp only [eo, hc, if_false] at h ⊢
        have := eo_mem vs (i + 1) k w n (by simpa using h)
        rwa [show i + (k + 1) = i + 1 + k by omega]
theorem eo_len : ∀ vs : List Value, (eo vs).length = (lg_sl vs).length
  | [] => rfl
  | v :: vs => by
    have := eo_len vs
    by_cases hc : v.category = 2
    · simp [eo, lg_sl, hc] at this ⊢; omega
    · simp [eo, lg_sl, hc] at this ⊢; omega
theorem lh.entry (vs : List Value) {n : Nat} (h : (eo vs).length ≤ n) : lh ((lg_sl vs ++ List.replicate (n - (lg_sl vs).length) Slot.unset).toArray) (eo vs ++ List.replicate (n - (eo vs).length) none) := by
  have h0 := lv_entry vs (n := n) (by rw [← eo_len]; exact h)
  refine ⟨?_, h0.2.1, fun q hq => ?_⟩
  · rw [h0.1]; simp; omega
  · obtain ⟨j, w⟩ := q
    obtain ⟨k, e, hk2⟩ := (ja_ll_mem _ _ _ _).mp hq
    have := eo_mem vs 0 k w _ hk2
    rw [e]
    exact h0.2.2 _ this
end
section
/-! the judgement -/
abbrev Fi : Type := (Program × Launch × Env × Room × State) × (MethodId × Array Value × List Frame × Method × Code) × (va_G × (Nat → ClassId) × (Nat → Prop) × (State → Prop) × Hp)
def Jd (φ : Fi) (X : Hp) (kc ks pc : Nat) (lo : List (Option Value)) (st : List Value) : Prop := match φ with
  | ((p, l, e, R, s), (m, args, below, meth, c), D, cy, A, Q, X0) => ∀ (H : Heap) (locs : List Loc) (ls : Array Slot), PO D cy X A H → XE X0 X → va_S A s.heap H locs → lh ls lo → W p l e R s m args below meth c H locs kc ks Q (F0 m pc ls st)
def Fx (φ : Fi) (cc : ByteArray) (nL : Nat) (ow : String) (rt : Option FieldType) (nm : String) (fr lw KC KS : Nat) : Prop := match φ with
  | ((p, _, _, R, s), (m, _, _, meth, c), D, cy, A, _, _) => p.tables.exec = Jvm.exec ∧ c.code = cc ∧ c.maxLocals = nL ∧ s.vm.findClass ow = some m.cls ∧ Kw s ∧ meth.locks = false ∧ meth.sig.returnType = rt ∧ meth.name = nm ∧ va_K D vwCl (ja_tys cy) s ∧ (∀ q, s.heap.size ≤ q → A q) ∧ R = { frames := fr, cells := KC, slots := KS, locals := lw }
def AX (X : Hp) (sz : Nat) : Nat → Prop := fun q => (∃ v, X q = some v) ∨ sz ≤ q
def Qp (D : va_G) (cy : Nat → ClassId) (X : Hp) (sz : Nat) (post : Option Value → Hp → Prop) : Array Value → State → Outcome → State → Prop := fun _ st oc t => (∃ (v : Option Value) (X' : Hp), oc = .returned v ∧ post v X' ∧ XE X X' ∧ PO D cy X' (AX X sz) t.heap) ∧ va_F (AX X sz) st t
def Pp (D : va_G) (cy : Nat → ClassId) (X : Hp) (sz : Nat) : State → Prop := fun U => U.heap.size = sz ∧ Kw U ∧ va_K D vwCl (ja_tys cy) U ∧ PO D cy X (fun _ => True) U.heap
/-- a method's contract at given arguments and heap -/
def Ct (y : MethodName) (cc : ByteArray) (nL : Nat) (rt : Option FieldType) (fr lw : Nat) (av : List Value) (X : Hp) (kc ks : Nat) (post : Option Value → Hp → Prop) : Prop :=
  ∀ (l : Launch) (D : va_G) (cy : Nat → ClassId) (sz : Nat), Met l y [.code y cc nL rt] { frames := fr, cells := kc, slots := ks, locals := lw } (va_Pc av (Pp D cy X sz)) (Qp D cy X sz post) kc ks (AX X sz)
def Rx (φ : Fi) (X : Hp) (kc ks : Nat) (post : Option Value → Hp → Prop) : Prop := match φ with
  | ((_, _, _, _, s), (_, args, below, _, _), D, cy, A, Q, X0) => Q = MQ below (Qp D cy X s.heap.size post) args s kc ks (AX X s.heap.size) ∧ A = AX X s.heap.size ∧ X0 = X
theorem Pp.moved {D : va_G} {cy : Nat → ClassId} {X : Hp} {sz : Nat} {s U : State} (hW : s.WarmedH U.vm) (h : Pp D cy X sz s) (he : U.heap = s.heap) : Pp D cy X sz U := by
  obtain ⟨h1, h2, h3, h4⟩ := h
  exact ⟨by rw [he]; exact h1, h2.moved hW, va_K.moved hW.alike h3, by rw [he]; exact h4⟩
theorem Pp.blind {D : va_G} {cy : Nat → ClassId} {X : Hp} {sz : Nat} {av : List Value} : FrameBlind (va_Pc av (Pp D cy X sz)) := fun a U g mk q => ⟨q.1, Pp.moved (s := U) (U := U.calling g mk a) (State.WarmedH.refl U) q.2 rfl⟩
theorem Ct.of {y : MethodName} {cc : ByteArray} {nL : Nat} {rt : Option FieldType} {fr lw : Nat} {av : List Value} {X : Hp} {kc ks : Nat} {post : Option Value → Hp → Prop} (hs : plainName y.cls = true) (lo : List (Option Value)) (hlo : eo av ++ List.replicate (nL - (eo av).length) none = lo) (hle : (eo av).length ≤ nL)
    (body : ∀ φ : Fi, Fx φ cc nL y.cls rt y.name fr lw kc ks → Rx φ X kc ks post → Jd φ X 0 0 0 lo []) : Ct y cc nL rt fr lw av X kc ks post := by
  intro l D cy sz
  refine Met.ofW (cc := cc) (maxL := nL) (ret := rt) hs rfl ?_
  intro p e s m args below meth c s₁ B hml hv
  obtain ⟨rfl, rfl, hKw, hK, hP⟩ := hv
  rw [lg_entry_eq]
  exact body ((p, l, e, _, s), (m, av.toArray, below, meth, c), D, cy, AX X s.heap.size, _, X) ⟨B.exec, B.bytes, hml, findClass_of_methodNamed B.named, hKw, B.notSynchronized, B.returns, (name_of_methodNamed B.named B.method).1, hK, fun q h => Or.inr h, rfl⟩ ⟨rfl, rfl, rfl⟩ s.heap [] _ (hP.self (fun a q h => Or.inl ⟨q, h⟩)) (XE.refl X) va_S.rf (hlo ▸ lh.entry av hle)
section RULES
variable {φ : Fi} {X : Hp} {kc ks pc : Nat} {lo : List (Option Value)} {st : List Value} {cc : ByteArray} {nL : Nat} {ow : String} {rt : Option FieldType} {nm : String} {fr lw KC KS : Nat}
theorem j_ext {X' : Hp} (h : Jd φ X' kc ks pc lo st) (e : X' = X) : Jd φ X kc ks pc lo st := e ▸ h
theorem j_widen {k n : Nat} (h1 : kc ≤ k) (h2 : ks ≤ n) (kk : Jd φ X k n pc lo st) : Jd φ X kc ks pc lo st := by
  obtain ⟨⟨p, l, e, R, s⟩, ⟨m, args, below, meth, c⟩, D, cy, A, Q, X0⟩ := φ
  exact fun H locs ls a b d f => W.widen h1 h2 (kk H locs ls a b d f)
/-- what the cells hold -/
theorem j_ok (kk : ja_ok X → Jd φ X kc ks pc lo st) : Jd φ X kc ks pc lo st := by
  obtain ⟨⟨p, l, e, R, s⟩, ⟨m, args, below, meth, c⟩, D, cy, A, Q, X0⟩ := φ
  exact fun H locs ls a b d f => kk a.2 H locs ls a b d f
theorem j_iconst (hF : Fx φ cc nL ow rt nm fr lw KC KS) {n : Int} (hd : decode cc pc = .ok (.iconst n, 1)) (kk : Jd φ X kc ks (pc + 1) lo (vi n :: st)) : Jd φ X kc ks pc lo st := by
  obtain ⟨⟨p, l, e, R, s⟩, ⟨m, args, below, meth, c⟩, D, cy, A, Q, X0⟩ := φ
  exact fun H locs ls a b d f => lv_iconst hF.1 hF.2.1 hd rfl (kk H locs ls a b d f)
theorem j_bipush (hF : Fx φ cc nL ow rt nm fr lw KC KS) {n : Int} (hd : decode cc pc = .ok (.bipush n, 2)) (hv : (Int8.ofInt n).toInt32 = Int32.ofInt n) (kk : Jd φ X kc ks (pc + 2) lo (vi n :: st)) : Jd φ X kc ks pc lo st := by
  obtain ⟨⟨p, l, e, R, s⟩, ⟨m, args, below, meth, c⟩, D, cy, A, Q, X0⟩ := φ
  exact fun H locs ls a b d f => lv_bipush hF.1 hF.2.1 hd hv (kk H locs ls a b d f)
theorem j_sipush (hF : Fx φ cc nL ow rt nm fr lw KC KS) {n : Int} (hd : decode cc pc = .ok (.sipush n, 3)) (hv : (Int16.ofInt n).toInt32 = Int32.ofInt n) (kk : Jd φ X kc ks (pc + 3) lo (vi n :: st)) : Jd φ X kc ks pc lo st := by
  obtain ⟨⟨p, l, e, R, s⟩, ⟨m, args, below, meth, c⟩, D, cy, A, Q, X0⟩ := φ
  exact fun H locs ls a b d f => lv_sipush hF.1 hF.2.1 hd hv (kk H locs ls a b d f)
theorem j_ldc (hF : Fx φ cc nL ow rt nm fr lw KC KS) {idx : Nat} {n : Int} (hw : Cond.constant ow idx (Int32.ofInt n) ∈ lw_tbl ∧ kw (Cond.constant ow idx (Int32.ofInt n)) = true) (hd : decode cc pc = .ok (.ldc idx, 2)) (kk : Jd φ X kc ks (pc + 2) lo (vi n :: st)) : Jd φ X kc ks pc lo st := by
  obtain ⟨⟨p, l, e, R, s⟩, ⟨m, args, below, meth, c⟩, D, cy, A, Q, X0⟩ := φ
  exact fun H locs ls a b d f => lv_ldc hF.1 hF.2.1 hF.2.2.2.1 (hF.2.2.2.2.1.at hw _) hd (kk H locs ls a b d f)
theorem j_ldc2 (hF : Fx φ cc nL ow rt nm fr lw KC KS) {idx : Nat} {v : Int64} (hw : Cond.constantLong ow idx v ∈ lw_tbl ∧ kw (Cond.constantLong ow idx v) = true) (hd : decode cc pc = .ok (.ldc2_w idx, 3)) (kk : Jd φ X kc ks (pc + 3) lo (.long v :: st)) : Jd φ X kc ks pc lo st := by
  obtain ⟨⟨p, l, e, R, s⟩, ⟨m, args, below, meth, c⟩, D, cy, A, Q, X0⟩ := φ
  exact fun H locs ls a b d f => lv_ldc2 hF.1 hF.2.1 hF.2.2.2.1 (hF.2.2.2.2.1.at hw _) hd (kk H locs ls a b d f)
theorem j_iload_n (hF : Fx φ cc nL ow rt nm fr lw KC KS) {k : Fin 4} {x : Int32} (hd : decode cc pc = .ok (.iload_n k, 1)) (hl : lo[(k : Nat)]? = some (some (.int x))) (kk : Jd φ X kc ks (pc + 1) lo (.int x :: st)) : Jd φ X kc ks pc lo st := by
  obtain ⟨⟨p, l, e, R, s⟩, ⟨m, args, below, meth, c⟩, D, cy, A, Q, X0⟩ := φ
  exact fun H locs ls a b d f => lv_iload_n hF.1 hF.2.1 hd rfl (f.at hl) (kk H locs ls a b d f)
theorem j_iload (hF : Fx φ cc nL ow rt nm fr lw KC KS) {k : Nat} {x : Int32} (hd : decode cc pc = .ok (.iload k, 2)) (hl : lo[k]? = some (some (.int x))) (kk : Jd φ X kc ks (pc + 2) lo (.int x :: st)) : Jd φ X kc ks pc lo st := by
  obtain ⟨⟨p, l, e, R, s⟩, ⟨m, args, below, meth, c⟩, D, cy, A, Q, X0⟩ := φ
  exact fun H locs ls a b d f => lv_iload hF.1 hF.2.1 hd (f.at hl) (kk H locs ls a b d f)
theorem j_lload_n (hF : Fx φ cc nL ow rt nm fr lw KC KS) {k : Fin 4} {x : Int64} (hd : decode cc pc = .ok (.lload_n k, 1)) (hl : lo[(k : Nat)]? = some (some (.long x))) (kk : Jd φ X kc ks (pc + 1) lo (.long x :: st)) : Jd φ X kc ks pc lo st := by
  obtain ⟨⟨p, l, e, R, s⟩, ⟨m, args, below, meth, c⟩, D, cy, A, Q, X0⟩ := φ
  exact fun H locs ls a b d f => lv_lload_n hF.1 hF.2.1 hd rfl (f.at hl) (kk H locs ls a b d f)
theorem j_lload (hF : Fx φ cc nL ow rt nm fr lw KC KS) {k : Nat} {x : Int64} (hd : decode cc pc = .ok (.lload k, 2)) (hl : lo[k]? = some (some (.long x))) (kk : Jd φ X kc ks (pc + 2) lo (.long x :: st)) : Jd φ X kc ks pc lo st := by
  obtain ⟨⟨p, l, e, R, s⟩, ⟨m, args, below, meth, c⟩, D, cy, A, Q, X0⟩ := φ
  exact fun H locs ls a b d f => lv_lload hF.1 hF.2.1 hd (f.at hl) (kk H locs ls a b d f)
theorem j_aload_n (hF : Fx φ cc nL ow rt nm fr lw KC KS) {k : Fin 4} {x : Nat} (hd : decode cc pc = .ok (.aload_n k, 1)) (hl : lo[(k : Nat)]? = some (some (.ref x))) (kk : Jd φ X kc ks (pc + 1) lo (.ref x :: st)) : Jd φ X kc ks pc lo st := by
  obtain ⟨⟨p, l, e, R, s⟩, ⟨m, args, below, meth, c⟩, D, cy, A, Q, X0⟩ := φ
  exact fun H locs ls a b d f => lv_aload_n hF.1 hF.2.1 hd rfl (f.at hl) (kk H locs ls a b d f)
theorem j_aload (hF : Fx φ cc nL ow rt nm fr lw KC KS) {k : Nat} {x : Nat} (hd : decode cc pc = .ok (.aload k, 2)) (hl : lo[k]? = some (some (.ref x))) (kk : Jd φ X kc ks (pc + 2) lo (.ref x :: st)) : Jd φ X kc ks pc lo st := by
  obtain ⟨⟨p, l, e, R, s⟩, ⟨m, args, below, meth, c⟩, D, cy, A, Q, X0⟩ := φ
  exact fun H locs ls a b d f => lv_aload hF.1 hF.2.1 hd (f.at hl) (kk H locs ls a b d f)
theorem j_istore_n (hF : Fx φ cc nL ow rt nm fr lw KC KS) {k : Fin 4} {x : Int32} (hd : decode cc pc = .ok (.istore_n k, 1)) (hi : (k : Nat) < lo.length) (hk : ok1 lo k = true) (kk : Jd φ X kc ks (pc + 1) (lo.set k (some (.int x))) st) : Jd φ X kc ks pc lo (.int x :: st) := by
  obtain ⟨⟨p, l, e, R, s⟩, ⟨m, args, below, meth, c⟩, D, cy, A, Q, X0⟩ := φ
  exact fun H locs ls a b d f => lv_istore_n hF.1 hF.2.1 hd rfl f hi rfl (fun ls' h' => kk H locs ls' a b d (lh.set1 hi hk h'))
theorem j_istore (hF : Fx φ cc nL ow rt nm fr lw KC KS) {k : Nat} {x : Int32} (hd : decode cc pc = .ok (.istore k, 2)) (hi : k < lo.length) (hk : ok1 lo k = true) (kk : Jd φ X kc ks (pc + 2) (lo.set k (some (.int x))) st) : Jd φ X kc ks pc lo (.int x :: st) := by
  obtain ⟨⟨p, l, e, R, s⟩, ⟨m, args, below, meth, c⟩, D, cy, A, Q, X0⟩ := φ
  exact fun H locs ls a b d f => lv_istore hF.1 hF.2.1 hd f hi rfl (fun ls' h' => kk H locs ls' a b d (lh.set1 hi hk h'))
theorem j_astore_n (hF : Fx φ cc nL ow rt nm fr lw KC KS) {k : Fin 4} {x : Nat} (hd : decode cc pc = .ok (.astore_n k, 1)) (hi : (k : Nat) < lo.length) (hk : ok1 lo k = true) (kk : Jd φ X kc ks (pc + 1) (lo.set k (some (.ref x))) st) : Jd φ X kc ks pc lo (.ref x :: st) := by
  obtain ⟨⟨p, l, e, R, s⟩, ⟨m, args, below, meth, c⟩, D, cy, A, Q, X0⟩ := φ
  exact fun H locs ls a b d f => lv_astore_n hF.1 hF.2.1 hd rfl f hi rfl (fun ls' h' => kk H locs ls' a b d (lh.set1 hi hk h'))
theorem j_astore (hF : Fx φ cc nL ow rt nm fr lw KC KS) {k : Nat} {x : Nat} (hd : decode cc pc = .ok (.astore k, 2)) (hi : k < lo.length) (hk : ok1 lo k = true) (kk : Jd φ X kc ks (pc + 2) (lo.set k (some (.ref x))) st) : Jd φ X kc ks pc lo (.ref x :: st) := by
  obtain ⟨⟨p, l, e, R, s⟩, ⟨m, args, below, meth, c⟩, D, cy, A, Q, X0⟩ := φ
  exact fun H locs ls a b d f => lv_astore hF.1 hF.2.1 hd f hi rfl (fun ls' h' => kk H locs ls' a b d (lh.set1 hi hk h'))
theorem j_lstore_n (hF : Fx φ cc nL ow rt nm fr lw KC KS) {k : Fin 4} {x : Int64} (hd : decode cc pc = .ok (.lstore_n k, 1)) (hi : (k : Nat) + 1 < lo.length) (hk : ok1 lo k = true) (kk : Jd φ X kc ks (pc + 1) ((lo.set k (some (.long x))).set ((k : Nat) + 1) none) st) : Jd φ X kc ks pc lo (.long x :: st) := by
  obtain ⟨⟨p, l, e, R, s⟩, ⟨m, args, below, meth, c⟩, D, cy, A, Q, X0⟩ := φ
  exact fun H locs ls a b d f => lv_lstore_n hF.1 hF.2.1 hd rfl f hi rfl (fun ls' h' => kk H locs ls' a b d (lh.set2 hi hk h'))
theorem j_lstore (hF : Fx φ cc nL ow rt nm fr lw KC KS) {k : Nat} {x : Int64} (hd : decode cc pc = .ok (.lstore k, 2)) (hi : k + 1 < lo.length) (hk : ok1 lo k = true) (kk : Jd φ X kc ks (pc + 2) ((lo.set k (some (.long x))).set (k + 1) none) st) : Jd φ X kc ks pc lo (.long x :: st) := by
  obtain ⟨⟨p, l, e, R, s⟩, ⟨m, args, below, meth, c⟩, D, cy, A, Q, X0⟩ := φ
  exact fun H locs ls a b d f => lv_lstore hF.1 hF.2.1 hd f hi rfl (fun ls' h' => kk H locs ls' a b d (lh.set2 hi hk h'))
theorem j_iinc (hF : Fx φ cc nL ow rt nm fr lw KC KS) {k : Nat} {n x : Int} (hd : decode cc pc = .ok (.iinc k n, 3)) (hl : lo[k]? = some (some (vi x))) (hi : k < lo.length) (hk : ok1 lo k = true) (kk : Jd φ X kc ks (pc + 3) (lo.set k (some (vi (x + n)))) st) : Jd φ X kc ks pc lo st := by
  obtain ⟨⟨p, l, e, R, s⟩, ⟨m, args, below, meth, c⟩, D, cy, A, Q, X0⟩ := φ
  intro H locs ls a b d f
  obtain ⟨kp, hkp⟩ := List.getElem?_of_mem ((ja_ll_mem lo 0 k (vi x)).mpr ⟨k, by omega, hl⟩)
  exact lv_iinc (k := kp) hF.1 hF.2.1 hd f hkp (ja_add x n) hi rfl (fun ls' h' => kk H locs ls' a b d (lh.set1 hi hk h'))
theorem j_iadd (hF : Fx φ cc nL ow rt nm fr lw KC KS) {x y : Int} (hd : decode cc pc = .ok (.iadd, 1)) (kk : Jd φ X kc ks (pc + 1) lo (vi (x + y) :: st)) : Jd φ X kc ks pc lo (vi y :: vi x :: st) := by
  obtain ⟨⟨p, l, e, R, s⟩, ⟨m, args, below, meth, c⟩, D, cy, A, Q, X0⟩ := φ
  exact fun H locs ls a b d f => lv_iadd hF.1 hF.2.1 hd (by rw [ja_add]; exact kk H locs ls a b d f)
theorem j_isub (hF : Fx φ cc nL ow rt nm fr lw KC KS) {x y : Int} (hd : decode cc pc = .ok (.isub, 1)) (kk : Jd φ X kc ks (pc + 1) lo (vi (x - y) :: st)) : Jd φ X kc ks pc lo (vi y :: vi x :: st) := by
  obtain ⟨⟨p, l, e, R, s⟩, ⟨m, args, below, meth, c⟩, D, cy, A, Q, X0⟩ := φ
  exact fun H locs ls a b d f => lv_isub hF.1 hF.2.1 hd (by rw [ja_sub]; exact kk H locs ls a b d f)
theorem j_imul (hF : Fx φ cc nL ow rt nm fr lw KC KS) {x y : Int} (hd : decode cc pc = .ok (.imul, 1)) (kk : Jd φ X kc ks (pc + 1) lo (vi (x * y) :: st)) : Jd φ X kc ks pc lo (vi y :: vi x :: st) := by
  obtain ⟨⟨p, l, e, R, s⟩, ⟨m, args, below, meth, c⟩, D, cy, A, Q, X0⟩ := φ
  exact fun H locs ls a b d f => lv_imul hF.1 hF.2.1 hd (by rw [ja_mul]; exact kk H locs ls a b d f)
theorem j_idiv (hF : Fx φ cc nL ow rt nm fr lw KC KS) {x y : Int} (hd : decode cc pc = .ok (.idiv, 1)) (hr : (0 ≤ x ∧ x ≤ 2147483647) ∧ 0 < y ∧ y ≤ 2147483647) (kk : Jd φ X kc ks (pc + 1) lo (vi (x / y) :: st)) : Jd φ X kc ks pc lo (vi y :: vi x :: st) := by
  obtain ⟨⟨p, l, e, R, s⟩, ⟨m, args, below, meth, c⟩, D, cy, A, Q, X0⟩ := φ
  exact fun H locs ls a b d f => lv_idiv hF.1 hF.2.1 hd (ja_ne0 hr.2.1 hr.2.2) (by rw [ja_div hr.1.1 hr.1.2 hr.2.1 hr.2.2]; exact kk H locs ls a b d f)
theorem j_irem (hF : Fx φ cc nL ow rt nm fr lw KC KS) {x y : Int} (hd : decode cc pc = .ok (.irem, 1)) (hr : (0 ≤ x ∧ x ≤ 2147483647) ∧ 0 < y ∧ y ≤ 2147483647) (kk : Jd φ X kc ks (pc + 1) lo (vi (x % y) :: st)) : Jd φ X kc ks pc lo (vi y :: vi x :: st) := by
  obtain ⟨⟨p, l, e, R, s⟩, ⟨m, args, below, meth, c⟩, D, cy, A, Q, X0⟩ := φ
  exact fun H locs ls a b d f => lv_irem hF.1 hF.2.1 hd (ja_ne0 hr.2.1 hr.2.2) (by rw [ja_rem hr.1.1 hr.1.2 hr.2.1 hr.2.2]; exact kk H locs ls a b d f)
theorem j_iand (hF : Fx φ cc nL ow rt nm fr lw KC KS) {x y : Int32} (z : Int) (hz : x &&& y = Int32.ofInt z) (hd : decode cc pc = .ok (.iand, 1)) (kk : Jd φ X kc ks (pc + 1) lo (vi z :: st)) : Jd φ X kc ks pc lo (.int y :: .int x :: st) := by
  obtain ⟨⟨p, l, e, R, s⟩, ⟨m, args, below, meth, c⟩, D, cy, A, Q, X0⟩ := φ
  exact fun H locs ls a b d f => lv_iand hF.1 hF.2.1 hd (by rw [hz]; exact kk H locs ls a b d f)
theorem j_ior (hF : Fx φ cc nL ow rt nm fr lw KC KS) {x y : Int32} (z : Int) (hz : x ||| y = Int32.ofInt z) (hd : decode cc pc = .ok (.ior, 1)) (kk : Jd φ X kc ks (pc + 1) lo (vi z :: st)) : Jd φ X kc ks pc lo (.int y :: .int x :: st) := by
  obtain ⟨⟨p, l, e, R, s⟩, ⟨m, args, below, meth, c⟩, D, cy, A, Q, X0⟩ := φ
  exact fun H locs ls a b d f => lv_ior hF.1 hF.2.1 hd (by rw [hz]; exact kk H locs ls a b d f)
theorem j_ixor (hF : Fx φ cc nL ow rt nm fr lw KC KS) {x y : Int32} (z : Int) (hz : x ^^^ y = Int32.ofInt z) (hd : decode cc pc = .ok (.ixor, 1)) (kk : Jd φ X kc ks (pc + 1) lo (vi z :: st)) : Jd φ X kc ks pc lo (.int y :: .int x :: st) := by
  obtain ⟨⟨p, l, e, R, s⟩, ⟨m, args, below, meth, c⟩, D, cy, A, Q, X0⟩ := φ
  exact fun H locs ls a b d f => lv_ixor hF.1 hF.2.1 hd (by rw [hz]; exact kk H locs ls a b d f)
theorem j_ishl (hF : Fx φ cc nL ow rt nm fr lw KC KS) {x y : Int32} (z : Int) (hz : x <<< (y &&& 31) = Int32.ofInt z) (hd : decode cc pc = .ok (.ishl, 1)) (kk : Jd φ X kc ks (pc + 1) lo (vi z :: st)) : Jd φ X kc ks pc lo (.int y :: .int x :: st) := by
  obtain ⟨⟨p, l, e, R, s⟩, ⟨m, args, below, meth, c⟩, D, cy, A, Q, X0⟩ := φ
  exact fun H locs ls a b d f => lv_ishl hF.1 hF.2.1 hd (by rw [hz]; exact kk H locs ls a b d f)
theorem j_ishr (hF : Fx φ cc nL ow rt nm fr lw KC KS) {x y : Int32} (z : Int) (hz : x >>> (y &&& 31) = Int32.ofInt z) (hd : decode cc pc = .ok (.ishr, 1)) (kk : Jd φ X kc ks (pc + 1) lo (vi z :: st)) : Jd φ X kc ks pc lo (.int y :: .int x :: st) := by
  obtain ⟨⟨p, l, e, R, s⟩, ⟨m, args, below, meth, c⟩, D, cy, A, Q, X0⟩ := φ
  exact fun H locs ls a b d f => lv_ishr hF.1 hF.2.1 hd (by rw [hz]; exact kk H locs ls a b d f)
theorem j_iushr (hF : Fx φ cc nL ow rt nm fr lw KC KS) {x y : Int32} (z : Int) (hz : (x.toUInt32 >>> (y.toUInt32 &&& Int32.toUInt32 31)).toInt32 = Int32.ofInt z) (hd : decode cc pc = .ok (.iushr, 1)) (kk : Jd φ X kc ks (pc + 1) lo (vi z :: st)) : Jd φ X kc ks pc lo (.int y :: .int x :: st) := by
  obtain ⟨⟨p, l, e, R, s⟩, ⟨m, args, below, meth, c⟩, D, cy, A, Q, X0⟩ := φ
  exact fun H locs ls a b d f => lv_iushr hF.1 hF.2.1 hd hz (kk H locs ls a b d f)
theorem j_ladd (hF : Fx φ cc nL ow rt nm fr lw KC KS) {x y : Int64} (hd : decode cc pc = .ok (.ladd, 1)) (kk : Jd φ X kc ks (pc + 1) lo (.long (x + y) :: st)) : Jd φ X kc ks pc lo (.long y :: .long x :: st) := by
  obtain ⟨⟨p, l, e, R, s⟩, ⟨m, args, below, meth, c⟩, D, cy, A, Q, X0⟩ := φ
  exact fun H locs ls a b d f => lv_ladd hF.1 hF.2.1 hd (kk H locs ls a b d f)
theorem j_lmul (hF : Fx φ cc nL ow rt nm fr lw KC KS) {x y : Int64} (hd : decode cc pc = .ok (.lmul, 1)) (kk : Jd φ X kc ks (pc + 1) lo (.long (x * y) :: st)) : Jd φ X kc ks pc lo (.long y :: .long x :: st) := by
  obtain ⟨⟨p, l, e, R, s⟩, ⟨m, args, below, meth, c⟩, D, cy, A, Q, X0⟩ := φ
  exact fun H locs ls a b d f => lv_lmul hF.1 hF.2.1 hd (kk H locs ls a b d f)
theorem j_i2l (hF : Fx φ cc nL ow rt nm fr lw KC KS) {x : Int32} (hd : decode cc pc = .ok (.i2l, 1)) (kk : Jd φ X kc ks (pc + 1) lo (.long x.toInt64 :: st)) : Jd φ X kc ks pc lo (.int x :: st) := by
  obtain ⟨⟨p, l, e, R, s⟩, ⟨m, args, below, meth, c⟩, D, cy, A, Q, X0⟩ := φ
  exact fun H locs ls a b d f => lv_i2l hF.1 hF.2.1 hd rfl (kk H locs ls a b d f)
theorem j_dup (hF : Fx φ cc nL ow rt nm fr lw KC KS) {v : Value} (hd : decode cc pc = .ok (.dup, 1)) (hv : v.category = 1) (kk : Jd φ X kc ks (pc + 1) lo (v :: v :: st)) : Jd φ X kc ks pc lo (v :: st) := by
  obtain ⟨⟨p, l, e, R, s⟩, ⟨m, args, below, meth, c⟩, D, cy, A, Q, X0⟩ := φ
  exact fun H locs ls a b d f => lv_dup hF.1 hF.2.1 hd hv (kk H locs ls a b d f)
theorem j_dup2 (hF : Fx φ cc nL ow rt nm fr lw KC KS) {v w : Value} (hd : decode cc pc = .ok (.dup2, 1)) (hv : v.category = 1) (hw : w.category = 1) (kk : Jd φ X kc ks (pc + 1) lo (v :: w :: v :: w :: st)) : Jd φ X kc ks pc lo (v :: w :: st) := by
  obtain ⟨⟨p, l, e, R, s⟩, ⟨m, args, below, meth, c⟩, D, cy, A, Q, X0⟩ := φ
  exact fun H locs ls a b d f => lv_dup2_11 hF.1 hF.2.1 hd hv hw (kk H locs ls a b d f)
theorem j_goto (hF : Fx φ cc nL ow rt nm fr lw KC KS) {off : Int} (tgt : Nat) (hd : decode cc pc = .ok (.goto off, 3)) (ht : (pc : Int) + off = (tgt : Int)) (kk : Jd φ X kc ks tgt lo st) : Jd φ X kc ks pc lo st := by
  obtain ⟨⟨p, l, e, R, s⟩, ⟨m, args, below, meth, c⟩, D, cy, A, Q, X0⟩ := φ
  exact fun H locs ls a b d f => lv_goto hF.1 hF.2.1 hd ht (kk H locs ls a b d f)
abbrev rg (a : Int) : Prop := -2147483648 ≤ a ∧ a ≤ 2147483647
theorem j_icmp_eq (hF : Fx φ cc nL ow rt nm fr lw KC KS) {x y : Int} {off : Int} (tgt : Nat) (hd : decode cc pc = .ok (.if_icmp .eq off, 3)) (ht : (pc : Int) + off = (tgt : Int)) (hr : (-2147483648 ≤ x ∧ x ≤ 2147483647) ∧ -2147483648 ≤ y ∧ y ≤ 2147483647) (kt : x = y → Jd φ X kc ks tgt lo st) (kf : ¬ x = y → Jd φ X kc ks (pc + 3) lo st) : Jd φ X kc ks pc lo (vi y :: vi x :: st) := by
  obtain ⟨⟨p, l, e, R, s⟩, ⟨m, args, below, meth, c⟩, D, cy, A, Q, X0⟩ := φ
  exact fun H locs ls a b d f => lv_icmp_eq hF.1 hF.2.1 hd ht (fun h => kt ((ja_eq hr.1.1 hr.1.2 hr.2.1 hr.2.2).mp h) H locs ls a b d f) (fun h => kf (fun q => h ((ja_eq hr.1.1 hr.1.2 hr.2.1 hr.2.2).mpr q)) H locs ls a b d f)
theorem j_icmp_ne (hF : Fx φ cc nL ow rt nm fr lw KC KS) {x y : Int} {off : Int} (tgt : Nat) (hd : decode cc pc = .ok (.if_icmp .ne off, 3)) (ht : (pc : Int) + off = (tgt : Int)) (hr : (-2147483648 ≤ x ∧ x ≤ 2147483647) ∧ -2147483648 ≤ y ∧ y ≤ 2147483647) (kt : ¬ x = y → Jd φ X kc ks tgt lo st) (kf : x = y → Jd φ X kc ks (pc + 3) lo st) : Jd φ X kc ks pc lo (vi y :: vi x :: st) := by
  obtain ⟨⟨p, l, e, R, s⟩, ⟨m, args, below, meth, c⟩, D, cy, A, Q, X0⟩ := φ
  exact fun H locs ls a b d f => lv_icmp_ne hF.1 hF.2.1 hd ht (fun h => kt (fun q => h ((ja_eq hr.1.1 hr.1.2 hr.2.1 hr.2.2).mpr q)) H locs ls a b d f) (fun h => kf ((ja_eq hr.1.1 hr.1.2 hr.2.1 hr.2.2).mp h) H locs ls a b d f)
theorem j_icmp_lt (hF : Fx φ cc nL ow rt nm fr lw KC KS) {x y : Int} {off : Int} (tgt : Nat) (hd : decode cc pc = .ok (.if_icmp .lt off, 3)) (ht : (pc : Int) + off = (tgt : Int)) (hr : (-2147483648 ≤ x ∧ x ≤ 2147483647) ∧ -2147483648 ≤ y ∧ y ≤ 2147483647) (kt : x < y → Jd φ X kc ks tgt lo st) (kf : y ≤ x → Jd φ X kc ks (pc + 3) lo st) : Jd φ X kc ks pc lo (vi y :: vi x :: st) := by
  obtain ⟨⟨p, l, e, R, s⟩, ⟨m, args, below, meth, c⟩, D, cy, A, Q, X0⟩ := φ
  exact fun H locs ls a b d f => lv_icmp_lt hF.1 hF.2.1 hd ht (fun h => kt ((ja_lt hr.1.1 hr.1.2 hr.2.1 hr.2.2).mp h) H locs ls a b d f) (fun h => kf (Int.not_lt.mp fun q => h ((ja_lt hr.1.1 hr.1.2 hr.2.1 hr.2.2).mpr q)) H locs ls a b d f)
theorem j_icmp_ge (hF : Fx φ cc nL ow rt nm fr lw KC KS) {x y : Int} {off : Int} (tgt : Nat) (hd : decode cc pc = .ok (.if_icmp .ge off, 3)) (ht : (pc : Int) + off = (tgt : Int)) (hr : (-2147483648 ≤ x ∧ x ≤ 2147483647) ∧ -2147483648 ≤ y ∧ y ≤ 2147483647) (kt : y ≤ x → Jd φ X kc ks tgt lo st) (kf : x < y → Jd φ X kc ks (pc + 3) lo st) : Jd φ X kc ks pc lo (vi y :: vi x :: st) := by
  obtain ⟨⟨p, l, e, R, s⟩, ⟨m, args, below, meth, c⟩, D, cy, A, Q, X0⟩ := φ
  exact fun H locs ls a b d f => lv_icmp_ge hF.1 hF.2.1 hd ht (fun h => kt ((ja_le hr.2.1 hr.2.2 hr.1.1 hr.1.2).mp h) H locs ls a b d f) (fun h => kf (Int.not_le.mp fun q => h ((ja_le hr.2.1 hr.2.2 hr.1.1 hr.1.2).mpr q)) H locs ls a b d f)
theorem j_icmp_gt (hF : Fx φ cc nL ow rt nm fr lw KC KS) {x y : Int} {off : Int} (tgt : Nat) (hd : decode cc pc = .ok (.if_icmp .gt off, 3)) (ht : (pc : Int) + off = (tgt : Int)) (hr : (-2147483648 ≤ x ∧ x ≤ 2147483647) ∧ -2147483648 ≤ y ∧ y ≤ 2147483647) (kt : y < x → Jd φ X kc ks tgt lo st) (kf : x ≤ y → Jd φ X kc ks (pc + 3) lo st) : Jd φ X kc ks pc lo (vi y :: vi x :: st) := by
  obtain ⟨⟨p, l, e, R, s⟩, ⟨m, args, below, meth, c⟩, D, cy, A, Q, X0⟩ := φ
  exact fun H locs ls a b d f => lv_icmp_gt hF.1 hF.2.1 hd ht (fun h => kt ((ja_lt hr.2.1 hr.2.2 hr.1.1 hr.1.2).mp h) H locs ls a b d f) (fun h => kf (Int.not_lt.mp fun q => h ((ja_lt hr.2.1 hr.2.2 hr.1.1 hr.1.2).mpr q)) H locs ls a b d f)
theorem j_icmp_le (hF : Fx φ cc nL ow rt nm fr lw KC KS) {x y : Int} {off : Int} (tgt : Nat) (hd : decode cc pc = .ok (.if_icmp .le off, 3)) (ht : (pc : Int) + off = (tgt : Int)) (hr : (-2147483648 ≤ x ∧ x ≤ 2147483647) ∧ -2147483648 ≤ y ∧ y ≤ 2147483647) (kt : x ≤ y → Jd φ X kc ks tgt lo st) (kf : y < x → Jd φ X kc ks (pc + 3) lo st) : Jd φ X kc ks pc lo (vi y :: vi x :: st) := by
  obtain ⟨⟨p, l, e, R, s⟩, ⟨m, args, below, meth, c⟩, D, cy, A, Q, X0⟩ := φ
  exact fun H locs ls a b d f => lv_icmp_le hF.1 hF.2.1 hd ht (fun h => kt ((ja_le hr.1.1 hr.1.2 hr.2.1 hr.2.2).mp h) H locs ls a b d f) (fun h => kf (Int.not_le.mp fun q => h ((ja_le hr.1.1 hr.1.2 hr.2.1 hr.2.2).mpr q)) H locs ls a b d f)
theorem j_if_eq (hF : Fx φ cc nL ow rt nm fr lw KC KS) {x : Int} {off : Int} (tgt : Nat) (hd : decode cc pc = .ok (.ifCond .eq off, 3)) (ht : (pc : Int) + off = (tgt : Int)) (hr : -2147483648 ≤ x ∧ x ≤ 2147483647) (kt : x = 0 → Jd φ X kc ks tgt lo st) (kf : ¬ x = 0 → Jd φ X kc ks (pc + 3) lo st) : Jd φ X kc ks pc lo (vi x :: st) := by
  obtain ⟨⟨p, l, e, R, s⟩, ⟨m, args, below, meth, c⟩, D, cy, A, Q, X0⟩ := φ
  exact fun H locs ls a b d f => lv_if_eq hF.1 hF.2.1 hd ht (fun h => kt ((ja_eq hr.1 hr.2 (by decide) (by decide)).mp h) H locs ls a b d f) (fun h => kf (fun q => h ((ja_eq hr.1 hr.2 (by decide) (by decide)).mpr q)) H locs ls a b d f)
theorem j_if_ne (hF : Fx φ cc nL ow rt nm fr lw KC KS) {x : Int} {off : Int} (tgt : Nat) (hd : decode cc pc = .ok (.ifCond .ne off, 3)) (ht : (pc : Int) + off = (tgt : Int)) (hr : -2147483648 ≤ x ∧ x ≤ 2147483647) (kt : ¬ x = 0 → Jd φ X kc ks tgt lo st) (kf : x = 0 → Jd φ X kc ks (pc + 3) lo st) : Jd φ X kc ks pc lo (vi x :: st) := by
  obtain ⟨⟨p, l, e, R, s⟩, ⟨m, args, below, meth, c⟩, D, cy, A, Q, X0⟩ := φ
  exact fun H locs ls a b d f => lv_if_ne hF.1 hF.2.1 hd ht (fun h => kt (fun q => h ((ja_eq hr.1 hr.2 (by decide) (by decide)).mpr q)) H locs ls a b d f) (fun h => kf ((ja_eq hr.1 hr.2 (by decide) (by decide)).mp h) H locs ls a b d f)
theorem j_if_lt (hF : Fx φ cc nL ow rt nm fr lw KC KS) {x : Int} {off : Int} (tgt : Nat) (hd : decode cc pc = .ok (.ifCond .lt off, 3)) (ht : (pc : Int) + off = (tgt : Int)) (hr : -2147483648 ≤ x ∧ x ≤ 2147483647) (kt : x < 0 → Jd φ X kc ks tgt lo st) (kf : 0 ≤ x → Jd φ X kc ks (pc + 3) lo st) : Jd φ X kc ks pc lo (vi x :: st) := by
  obtain ⟨⟨p, l, e, R, s⟩, ⟨m, args, below, meth, c⟩, D, cy, A, Q, X0⟩ := φ
  exact fun H locs ls a b d f => lv_if_lt hF.1 hF.2.1 hd ht (fun h => kt ((ja_lt hr.1 hr.2 (by decide) (by decide)).mp h) H locs ls a b d f) (fun h => kf (Int.not_lt.mp fun q => h ((ja_lt hr.1 hr.2 (by decide) (by decide)).mpr q)) H locs ls a b d f)
theorem j_if_ge (hF : Fx φ cc nL ow rt nm fr lw KC KS) {x : Int} {off : Int} (tgt : Nat) (hd : decode cc pc = .ok (.ifCond .ge off, 3)) (ht : (pc : Int) + off = (tgt : Int)) (hr : -2147483648 ≤ x ∧ x ≤ 2147483647) (kt : 0 ≤ x → Jd φ X kc ks tgt lo st) (kf : x < 0 → Jd φ X kc ks (pc + 3) lo st) : Jd φ X kc ks pc lo (vi x :: st) := by
  obtain ⟨⟨p, l, e, R, s⟩, ⟨m, args, below, meth, c⟩, D, cy, A, Q, X0⟩ := φ
  exact fun H locs ls a b d f => lv_if_ge hF.1 hF.2.1 hd ht (fun h => kt ((ja_le (by decide) (by decide) hr.1 hr.2).mp h) H locs ls a b d f) (fun h => kf (Int.not_le.mp fun q => h ((ja_le (by decide) (by decide) hr.1 hr.2).mpr q)) H locs ls a b d f)
theorem j_if_gt (hF : Fx φ cc nL ow rt nm fr lw KC KS) {x : Int} {off : Int} (tgt : Nat) (hd : decode cc pc = .ok (.ifCond .gt off, 3)) (ht : (pc : Int) + off = (tgt : Int)) (hr : -2147483648 ≤ x ∧ x ≤ 2147483647) (kt : 0 < x → Jd φ X kc ks tgt lo st) (kf : x ≤ 0 → Jd φ X kc ks (pc + 3) lo st) : Jd φ X kc ks pc lo (vi x :: st) := by
  obtain ⟨⟨p, l, e, R, s⟩, ⟨m, args, below, meth, c⟩, D, cy, A, Q, X0⟩ := φ
  exact fun H locs ls a b d f => lv_if_gt hF.1 hF.2.1 hd ht (fun h => kt ((ja_lt (by decide) (by decide) hr.1 hr.2).mp h) H locs ls a b d f) (fun h => kf (Int.not_lt.mp fun q => h ((ja_lt (by decide) (by decide) hr.1 hr.2).mpr q)) H locs ls a b d f)
theorem j_if_le (hF : Fx φ cc nL ow rt nm fr lw KC KS) {x : Int} {off : Int} (tgt : Nat) (hd : decode cc pc = .ok (.ifCond .le off, 3)) (ht : (pc : Int) + off = (tgt : Int)) (hr : -2147483648 ≤ x ∧ x ≤ 2147483647) (kt : x ≤ 0 → Jd φ X kc ks tgt lo st) (kf : 0 < x → Jd φ X kc ks (pc + 3) lo st) : Jd φ X kc ks pc lo (vi x :: st) := by
  obtain ⟨⟨p, l, e, R, s⟩, ⟨m, args, below, meth, c⟩, D, cy, A, Q, X0⟩ := φ
  exact fun H locs ls a b d f => lv_if_le hF.1 hF.2.1 hd ht (fun h => kt ((ja_le hr.1 hr.2 (by decide) (by decide)).mp h) H locs ls a b d f) (fun h => kf (Int.not_le.mp fun q => h ((ja_le hr.1 hr.2 (by decide) (by decide)).mpr q)) H locs ls a b d f)
end RULES
end
section
/-! fields, arrays, new cells -/
theorem kk_words {s : State} {args : Array Value} (hK : Kw s) {ws : List Cond} (hin : ∀ w ∈ ws, w ∈ lw_tbl ∧ kw w = true) : ∀ w ∈ ws, w.before args s = true := fun w hw => hK.at (hin w hw) args
/-- what the tables say of a field -/
def FL (ow : String) (idx ci k : Nat) (fin : Bool) (fty : FieldType) : Prop := ∃ (C : String) (T : u_T) (N : Nat) (ty : Nat → FieldType), vwCl[ci]? = some (C, T, N) ∧ (∀ w ∈ u_ws C T N, w ∈ lw_tbl ∧ kw w = true) ∧ (∀ k, k < N → parseFieldDescriptor (T k).2.2.1 = some (ty k)) ∧ (∀ a, a < N → ∀ b, b < N → a ≠ b → (T a).2.1 ≠ (T b).2.1) ∧ k < N ∧ (Cond.fieldLink ow idx (T k).1 (T k).2.1 (T k).2.2.1 ∈ lw_tbl ∧ kw (Cond.fieldLink ow idx (T k).1 (T k).2.1 (T k).2.2.1) = true) ∧ (T k).2.2.2 = fin ∧ ty k = fty ∧ (fin = true → ow = C → (T k).1 = ow)
/-- what the tables say of a new object -/
def NW (ow : String) (idx ci : Nat) (fs : List Value) : Prop := ∃ (C : String) (T : u_T) (ty : Nat → FieldType), vwCl[ci]? = some (C, T, fs.length) ∧ (∀ w ∈ u_ws C T fs.length, w ∈ lw_tbl ∧ kw w = true) ∧ (∀ k, k < fs.length → parseFieldDescriptor (T k).2.2.1 = some (ty k)) ∧ (Cond.classLink ow idx C ∈ lw_tbl ∧ kw (Cond.classLink ow idx C) = true) ∧ (Cond.instantiable C fs.length ∈ lw_tbl ∧ kw (Cond.instantiable C fs.length) = true) ∧ (Cond.initialized C ∈ lw_tbl ∧ kw (Cond.initialized C) = true) ∧ (∀ j, j < fs.length → defaultValue (ty j) = vp_V fs j)
theorem ja_RA {U : State} {c1 c2 : ClassId} {ty : FieldType} (h1 : va_RA U c1 ty) (h2 : va_RA U c2 ty) : c1 = c2 := by
  cases ty with
  | object C =>
    obtain ⟨_, _, _, _, _, g1⟩ := h1
    obtain ⟨_, _, _, _, _, g2⟩ := h2
    exact Option.some.inj (g1.symm.trans g2)
  | _ => exact Option.some.inj (Eq.trans (Eq.symm h1) h2)
theorem ja_tys_at (cy : Nat → ClassId) {t : Nat} (h : t < 5) : (ja_tys cy)[t]? = some (cy t, ja_ty t) := by
  rcases (show t = 0 ∨ t = 1 ∨ t = 2 ∨ t = 3 ∨ t = 4 by omega) with rfl | rfl | rfl | rfl | rfl <;> rfl
section HRULES
variable {φ : Fi} {X : Hp} {kc ks pc : Nat} {lo : List (Option Value)} {st : List Value} {cc : ByteArray} {nL : Nat} {ow : String} {rt : Option FieldType} {nm : String} {fr lw KC KS : Nat}
theorem j_get (hF : Fx φ cc nL ow rt nm fr lw KC KS) {a lb ci k idx : Nat} {fs : List Value} {v : Value} {fin : Bool} {fty : FieldType} (hx : X a = some (lb, ob ci fs)) (hfl : FL ow idx ci k fin fty) (hd : decode cc pc = .ok (.getfield idx, 3)) (hv : fs[k]? = some v) (kk : Jd φ X kc ks (pc + 3) lo (v :: st)) : Jd φ X kc ks pc lo (.ref a :: st) := by
  obtain ⟨⟨p, l, e, R, s⟩, ⟨m, args, below, meth, c⟩, D, cy, A, Q, X0⟩ := φ
  obtain ⟨f1, f2, f3, f4, f5, f6, f7, f8, f9, f10, f11⟩ := hF
  obtain ⟨C, T, N, ty, g1, g2, g3, g4, g5, g6, g7, g8, g9⟩ := hfl
  intro H locs ls hP hE hS hl
  obtain ⟨L, q, h1, h2, h3, h4⟩ := hP.get hx
  exact va_get (D := D) (Ts := u_ws C T N) f1 f2 (kk_words f5 g2) (fun _ h => h) f4 f9 h2 q h4 g1 k g5 (f5.at g6 _) (fun _ h => h) hv hd (kk H locs ls hP hE hS hl)
theorem j_put (hF : Fx φ cc nL ow rt nm fr lw KC KS) {a lb ci k idx : Nat} {fs : List Value} {v : Value} {fty : FieldType} (hx : X a = some (lb, ob ci fs)) (hfl : FL ow idx ci k false fty) (hd : decode cc pc = .ok (.putfield idx, 3)) (hn : narrow fty v = v) (hfit : fits fty v = true) (hl0 : k < fs.length) (kk : Jd φ (va_up X a (some (lb, ob ci (fs.set k v)))) kc ks (pc + 3) lo st) : Jd φ X kc ks pc lo (v :: .ref a :: st) := by
  obtain ⟨⟨p, l, e, R, s⟩, ⟨m, args, below, meth, c⟩, D, cy, A, Q, X0⟩ := φ
  obtain ⟨f1, f2, f3, f4, f5, f6, f7, f8, f9, f10, f11⟩ := hF
  obtain ⟨C, T, N, ty, g1, g2, g3, g4, g5, g6, g7, g8, g9⟩ := hfl
  intro H locs ls hP hE hS hl
  obtain ⟨L, q, h1, h2, h3, h4⟩ := hP.get hx
  exact va_put (D := D) (Ts := u_ws C T N) f1 f2 (kk_words f5 g2) (fun _ h => h) ty g3 g4 f4 f9 h2 h3 hS q h4 g1 k g5 (f5.at g6 _) (fun _ h => h) g7 (by rw [g3 k g5, g8]) hn hfit hl0 hd (fun H1 locs1 hP1 hD1 hS1 => kk H1 locs1 ls (PO.set (q := ob ci fs) (c := ob ci (fs.set k v)) h1 h3 hx h4 hP1 hD1 (ja_ok_set hP.2 (fun _ _ _ h => by cases h) (fun _ _ _ h => by cases h))) (hE.trans (XE.set hx)) hS1 hl)
theorem j_putF (hF : Fx φ cc nL ow rt nm fr lw KC KS) {a lb ci k idx : Nat} {fs : List Value} {v : Value} {fty : FieldType} (hx : X a = some (lb, ob ci fs)) (hfl : FL ow idx ci k true fty) (hoc : ∃ (T : u_T) (N : Nat), vwCl[ci]? = some (ow, T, N)) (hin : nm = "<init>") (hd : decode cc pc = .ok (.putfield idx, 3)) (hn : narrow fty v = v) (hfit : fits fty v = true) (hl0 : k < fs.length) (kk : Jd φ (va_up X a (some (lb, ob ci (fs.set k v)))) kc ks (pc + 3) lo st) : Jd φ X kc ks pc lo (v :: .ref a :: st) := by
  obtain ⟨⟨p, l, e, R, s⟩, ⟨m, args, below, meth, c⟩, D, cy, A, Q, X0⟩ := φ
  obtain ⟨f1, f2, f3, f4, f5, f6, f7, f8, f9, f10, f11⟩ := hF
  obtain ⟨C, T, N, ty, g1, g2, g3, g4, g5, g6, g7, g8, g9⟩ := hfl
  intro H locs ls hP hE hS hl
  obtain ⟨L, q, h1, h2, h3, h4⟩ := hP.get hx
  exact va_putF (D := D) (Ts := u_ws C T N) f1 f2 (kk_words f5 g2) (fun _ h => h) ty g3 g4 f4 f9 h2 h3 hS q h4 g1 k g5 (f5.at g6 _) (fun _ h => h) g7 (f8.trans hin) (g9 rfl (by obtain ⟨T', N', ho⟩ := hoc; rw [g1] at ho; simp at ho; exact ho.1.symm)) (by rw [g3 k g5, g8]) hn hfit hl0 hd (fun H1 locs1 hP1 hD1 hS1 => kk H1 locs1 ls (PO.set (q := ob ci fs) (c := ob ci (fs.set k v)) h1 h3 hx h4 hP1 hD1 (ja_ok_set hP.2 (fun _ _ _ h => by cases h) (fun _ _ _ h => by cases h))) (hE.trans (XE.set hx)) hS1 hl)
theorem j_iald (hF : Fx φ cc nL ow rt nm fr lw KC KS) {a lb n : Nat} {f : Int → Int} {i : Int} (hx : X a = some (lb, ia 0 n f)) (hd : decode cc pc = .ok (.iaload, 1)) (hi : 0 ≤ i ∧ i < n) (kk : -2147483648 ≤ f i → f i ≤ 2147483647 → Jd φ X kc ks (pc + 1) lo (vi (f i) :: st)) : Jd φ X kc ks pc lo (vi i :: .ref a :: st) := by
  obtain ⟨⟨p, l, e, R, s⟩, ⟨m, args, below, meth, c⟩, D, cy, A, Q, X0⟩ := φ
  obtain ⟨f1, f2, f3, f4, f5, f6, f7, f8, f9, f10, f11⟩ := hF
  intro H locs ls hP hE hS hl
  obtain ⟨L, q, h1, h2, h3, h4⟩ := hP.get hx
  have hn := (hP.2.1 a lb 0 n f hx).1
  have hr := (hP.2.1 a lb 0 n f hx).2 i hi.1 hi.2
  refine va_iald f1 f2 f9 h2 q 0 h4 (ja_tys_at cy (by omega)) (ja_in hi.1 hi.2 hn) hd ?_
  rw [ja_C hi.1 (by omega)]
  exact kk hr.1 hr.2 H locs ls hP hE hS hl
theorem j_zald (hF : Fx φ cc nL ow rt nm fr lw KC KS) {a lb n : Nat} {f : Int → Int} {i : Int} (hx : X a = some (lb, ia 1 n f)) (hd : decode cc pc = .ok (.baload, 1)) (hi : 0 ≤ i ∧ i < n) (kk : -2147483648 ≤ f i → f i ≤ 2147483647 → Jd φ X kc ks (pc + 1) lo (vi (f i) :: st)) : Jd φ X kc ks pc lo (vi i :: .ref a :: st) := by
  obtain ⟨⟨p, l, e, R, s⟩, ⟨m, args, below, meth, c⟩, D, cy, A, Q, X0⟩ := φ
  obtain ⟨f1, f2, f3, f4, f5, f6, f7, f8, f9, f10, f11⟩ := hF
  intro H locs ls hP hE hS hl
  obtain ⟨L, q, h1, h2, h3, h4⟩ := hP.get hx
  have hn := (hP.2.1 a lb 1 n f hx).1
  have hr := (hP.2.1 a lb 1 n f hx).2 i hi.1 hi.2
  refine va_zald f1 f2 f9 h2 q 1 h4 (ja_tys_at cy (by omega)) (ja_in hi.1 hi.2 hn) hd ?_
  rw [ja_C hi.1 (by omega)]
  exact kk hr.1 hr.2 H locs ls hP hE hS hl
def fu (f : Int → Int) (i v : Int) : Int → Int := fun j => if j = i then v else f j
theorem fu_s {f : Int → Int} {i v : Int} : fu f i v i = v := by simp [fu]
theorem fu_n {f : Int → Int} {i v j : Int} (h : j ≠ i) : fu f i v j = f j := by simp [fu, h]
theorem ja_upd {f : Int → Int} {i v : Int} (h1 : 0 ≤ i) (h2 : i ≤ 2147483647) : upd (fun j : Nat => Int32.ofInt (f j)) (Int32.ofInt i).toNatClampNeg (Int32.ofInt v) = fun j : Nat => Int32.ofInt (fu f i v j) := by
  have e := ja_C h1 h2
  funext j
  by_cases hj : j = (Int32.ofInt i).toNatClampNeg
  · subst hj
    rw [pk_us, e, fu_s]
  · rw [pk_un hj, fu_n (by omega)]
theorem j_iast (hF : Fx φ cc nL ow rt nm fr lw KC KS) {a lb n : Nat} {f : Int → Int} {i v : Int} (hx : X a = some (lb, ia 0 n f)) (hd : decode cc pc = .ok (.iastore, 1)) (hi : 0 ≤ i ∧ i < n) (hr : -2147483648 ≤ v ∧ v ≤ 2147483647) (kk : Jd φ (va_up X a (some (lb, ia 0 n (fu f i v)))) kc ks (pc + 1) lo st) : Jd φ X kc ks pc lo (vi v :: vi i :: .ref a :: st) := by
  obtain ⟨⟨p, l, e, R, s⟩, ⟨m, args, below, meth, c⟩, D, cy, A, Q, X0⟩ := φ
  obtain ⟨f1, f2, f3, f4, f5, f6, f7, f8, f9, f10, f11⟩ := hF
  intro H locs ls hP hE hS hl
  obtain ⟨L, q, h1, h2, h3, h4⟩ := hP.get hx
  obtain ⟨hn, hr0⟩ := hP.2.1 a lb 0 n f hx
  refine va_iast f1 f2 f9 h2 h3 hS q 0 h4 (ja_tys_at cy (by omega)) (ja_in hi.1 hi.2 hn) hd (fun H1 locs1 hP1 hD1 hS1 => ?_)
  rw [ja_upd hi.1 (by omega)] at hP1 hD1
  refine kk H1 locs1 ls (PO.set (q := ia 0 n f) (c := ia 0 n (fu f i v)) h1 h3 hx h4 hP1 hD1 (ja_ok_set hP.2 (fun t n' f' h => ?_) (fun _ _ _ h => by cases h))) (hE.trans (XE.set hx)) hS1 hl
  cases h
  refine ⟨hn, fun j a1 a2 => ?_⟩
  by_cases hj : j = i
  · rw [hj, fu_s]; exact hr
  · rw [fu_n hj]; exact hr0 j a1 a2
theorem j_zast (hF : Fx φ cc nL ow rt nm fr lw KC KS) {a lb n : Nat} {f : Int → Int} {i v : Int} (hx : X a = some (lb, ia 1 n f)) (hd : decode cc pc = .ok (.bastore, 1)) (hi : 0 ≤ i ∧ i < n) (hr : v = 0 ∨ v = 1) (kk : Jd φ (va_up X a (some (lb, ia 1 n (fu f i v)))) kc ks (pc + 1) lo st) : Jd φ X kc ks pc lo (vi v :: vi i :: .ref a :: st) := by
  obtain ⟨⟨p, l, e, R, s⟩, ⟨m, args, below, meth, c⟩, D, cy, A, Q, X0⟩ := φ
  obtain ⟨f1, f2, f3, f4, f5, f6, f7, f8, f9, f10, f11⟩ := hF
  intro H locs ls hP hE hS hl
  obtain ⟨L, q, h1, h2, h3, h4⟩ := hP.get hx
  obtain ⟨hn, hr0⟩ := hP.2.1 a lb 1 n f hx
  refine va_zast f1 f2 f9 h2 h3 hS q 1 h4 (ja_tys_at cy (by omega)) (ja_in hi.1 hi.2 hn) hd (fun H1 locs1 hP1 hD1 hS1 => ?_)
  have en : vp_nar .boolean (Int32.ofInt v) = Int32.ofInt v := by rcases hr with rfl | rfl <;> decide
  rw [en, ja_upd hi.1 (by omega)] at hP1 hD1
  refine kk H1 locs1 ls (PO.set (q := ia 1 n f) (c := ia 1 n (fu f i v)) h1 h3 hx h4 hP1 hD1 (ja_ok_set hP.2 (fun t n' f' h => ?_) (fun _ _ _ h => by cases h))) (hE.trans (XE.set hx)) hS1 hl
  cases h
  refine ⟨hn, fun j a1 a2 => ?_⟩
  by_cases hj : j = i
  · rw [hj, fu_s]; omega
  · rw [fu_n hj]; exact hr0 j a1 a2
theorem j_ilen (hF : Fx φ cc nL ow rt nm fr lw KC KS) {a lb t n : Nat} {f : Int → Int} (ht : t < 5) (hx : X a = some (lb, ia t n f)) (hd : decode cc pc = .ok (.arraylength, 1)) (kk : (n : Int) ≤ 2147483647 → Jd φ X kc ks (pc + 1) lo (vi n :: st)) : Jd φ X kc ks pc lo (.ref a :: st) := by
  obtain ⟨⟨p, l, e, R, s⟩, ⟨m, args, below, meth, c⟩, D, cy, A, Q, X0⟩ := φ
  obtain ⟨f1, f2, f3, f4, f5, f6, f7, f8, f9, f10, f11⟩ := hF
  intro H locs ls hP hE hS hl
  obtain ⟨L, q, h1, h2, h3, h4⟩ := hP.get hx
  have hn := (hP.2.1 a lb t n f hx).1
  exact va_alen f1 f2 f9 h2 q t h4 (ja_tys_at cy ht) (by show Int32.ofNat n = Int32.ofInt n; rfl) hd (kk (by omega) H locs ls hP hE hS hl)
theorem j_aald (hF : Fx φ cc nL ow rt nm fr lw KC KS) {a lb t n : Nat} {f : Int → Option Nat} {i : Int} {b : Nat} (ht : 2 ≤ t ∧ t < 5) (hx : X a = some (lb, ra t n f)) (hd : decode cc pc = .ok (.aaload, 1)) (hi : 0 ≤ i ∧ i < n) (hb : f i = some b) (kk : Jd φ X kc ks (pc + 1) lo (.ref b :: st)) : Jd φ X kc ks pc lo (vi i :: .ref a :: st) := by
  obtain ⟨⟨p, l, e, R, s⟩, ⟨m, args, below, meth, c⟩, D, cy, A, Q, X0⟩ := φ
  obtain ⟨f1, f2, f3, f4, f5, f6, f7, f8, f9, f10, f11⟩ := hF
  intro H locs ls hP hE hS hl
  obtain ⟨L, q, h1, h2, h3, h4⟩ := hP.get hx
  have hn := hP.2.2 a lb t n f hx
  have hty : ∃ C, ja_ty t = .object C := by rcases (show t = 2 ∨ t = 3 ∨ t = 4 by omega) with rfl | rfl | rfl <;> exact ⟨_, rfl⟩
  obtain ⟨C, hC⟩ := hty
  refine va_aldq f1 f2 f9 h2 q t h4 (by rw [ja_tys_at cy ht.2, hC]) (ja_in hi.1 hi.2 hn) hd ?_
  rw [ja_C hi.1 (by omega)]
  show W p l e R s m args below meth c H locs kc ks Q (F0 m (pc + 1) ls (va_rf (f i) :: st))
  rw [hb]
  exact kk H locs ls hP hE hS hl
def fo (f : Int → Option Nat) (i : Int) (v : Option Nat) : Int → Option Nat := fun j => if j = i then v else f j
theorem fo_s {f : Int → Option Nat} {i : Int} {v : Option Nat} : fo f i v i = v := by simp [fo]
theorem fo_n {f : Int → Option Nat} {i j : Int} {v : Option Nat} (h : j ≠ i) : fo f i v j = f j := by simp [fo, h]
def ja_cls : Nat → Nat
  | 2 => 2
  | 3 => 3
  | _ => 4
theorem j_aast (hF : Fx φ cc nL ow rt nm fr lw KC KS) {a lb t n lb' ci : Nat} {fs : List Value} {f : Int → Option Nat} {i : Int} {b : Nat} (ht : 2 ≤ t ∧ t < 5) (hx : X a = some (lb, ra t n f)) (hb : X b = some (lb', ob ci fs)) (hci : ci = ja_cls t) (hd : decode cc pc = .ok (.aastore, 1)) (hi : 0 ≤ i ∧ i < n) (kk : Jd φ (va_up X a (some (lb, ra t n (fo f i (some b))))) kc ks (pc + 1) lo st) : Jd φ X kc ks pc lo (.ref b :: vi i :: .ref a :: st) := by
  obtain ⟨⟨p, l, e, R, s⟩, ⟨m, args, below, meth, c⟩, D, cy, A, Q, X0⟩ := φ
  obtain ⟨f1, f2, f3, f4, f5, f6, f7, f8, f9, f10, f11⟩ := hF
  intro H locs ls hP hE hS hl
  obtain ⟨L, q, h1, h2, h3, h4⟩ := hP.get hx
  have hn := hP.2.2 a lb t n f hx
  obtain ⟨q2, hq2⟩ := va_pl_get (X := []) (f := ja_xf cy X) ((h1 b).mpr ⟨_, hb⟩)
  rw [ja_xf_at hb] at hq2
  have hty : ∃ r : vw_C, vwCl[ci]? = some r ∧ ja_ty t = .object r.1 := by subst hci; rcases (show t = 2 ∨ t = 3 ∨ t = 4 by omega) with rfl | rfl | rfl <;> exact ⟨_, rfl, rfl⟩
  obtain ⟨r, hr1, hr2⟩ := hty
  refine va_astq f1 f2 f9 h2 h3 hS q t q2 ci (r := r) h4 (by rw [ja_tys_at cy ht.2, hr2]) hq2 hr1 (ja_in hi.1 hi.2 hn) hd (fun H1 locs1 hP1 hD1 hS1 => ?_)
  have e : va_up (fun j : Nat => f j) (Int32.ofInt i).toNatClampNeg (some b) = fun j : Nat => fo f i (some b) j := by
    have e := ja_C hi.1 (by omega)
    funext j
    by_cases hj : j = (Int32.ofInt i).toNatClampNeg
    · subst hj
      rw [va_up_self, e, fo_s]
    · rw [va_up_ne _ _ hj, fo_n (by omega)]
  rw [e] at hP1 hD1
  refine kk H1 locs1 ls (PO.set (q := ra t n f) (c := ra t n (fo f i (some b))) h1 h3 hx h4 hP1 hD1 (ja_ok_set hP.2 (fun _ _ _ h => by cases h) (fun t n' f' h => ?_))) (hE.trans (XE.set hx)) hS1 hl
  cases h
  exact hn
theorem j_new (hF : Fx φ cc nL ow rt nm fr lw KC KS) (lb : Nat) {idx ci : Nat} {fs : List Value} (hw : NW ow idx ci fs) (hd : decode cc pc = .ok (.new idx, 3)) (hc : kc + 1 ≤ KC) (hs : ks + fs.length ≤ KS) (kk : ∀ q, X q = none → Jd φ (va_up X q (some (lb, ob ci fs))) (kc + 1) (ks + fs.length) (pc + 3) lo (.ref q :: st)) : Jd φ X kc ks pc lo st := by
  obtain ⟨⟨p, l, e, R, s⟩, ⟨m, args, below, meth, c⟩, D, cy, A, Q, X0⟩ := φ
  obtain ⟨f1, f2, f3, f4, f5, f6, f7, f8, f9, f10, f11⟩ := hF
  obtain ⟨C, T, ty, g1, g2, g3, g4, g5, g6, g7⟩ := hw
  intro H locs ls hP hE hS hl
  obtain ⟨⟨L, h1, h2, h3⟩, hok⟩ := id hP
  refine va_new (D := D) (Ts := u_ws C T fs.length) f1 f2 (kk_words f5 g2) (fun _ h => h) ty g3 f4 (f5.at g4 _) (f5.at g5 _) (f5.at g6 _) f9 h2 h3 hS f10 g1 g7 (by rw [f11]; exact hc) (by rw [f11]; exact hs) hd (fun q H1 hP1 hD1 hS1 => ?_)
  obtain ⟨z1, z2⟩ := PO.push (lb := lb) (c := ob ci fs) h1 hP1 hD1 (fun _ => ja_ok_set hok (fun _ _ _ h => by cases h) (fun _ _ _ h => by cases h))
  exact kk q z1 H1 locs ls z2 (hE.trans (XE.push z1)) hS1 hl
theorem j_newi (hF : Fx φ cc nL ow rt nm fr lw KC KS) (lb N : Nat) (hw : Cond.arrayClass .int ∈ lw_tbl) (hd : decode cc pc = .ok (.newarray .int, 2)) (hN : N ≤ 1000000) (hc : kc + 1 ≤ KC) (hs : ks + N ≤ KS) (kk : ∀ q, X q = none → Jd φ (va_up X q (some (lb, ia 0 N (fun _ => 0)))) (kc + 1) (ks + N) (pc + 2) lo (.ref q :: st)) {z : Int} (hz : z = N) : Jd φ X kc ks pc lo (vi z :: st) := by
  subst hz
  obtain ⟨⟨p, l, e, R, s⟩, ⟨m, args, below, meth, c⟩, D, cy, A, Q, X0⟩ := φ
  obtain ⟨f1, f2, f3, f4, f5, f6, f7, f8, f9, f10, f11⟩ := hF
  intro H locs ls hP hE hS hl
  obtain ⟨⟨L, h1, h2, h3⟩, hok⟩ := id hP
  refine va_newa (atype := .int) (N' := N) (a0 := (N, .inl (fun _ => Int32.ofInt 0))) f1 f2 (f5.at ⟨hw, rfl⟩ _) rfl f9 h2 h3 hS f10 (fun _ => rfl) (ja_nn (by omega) (by omega)) (by have := ja_C (z := (N : Int)) (by omega) (by omega); omega) (by show N * 4 ≤ _; omega) (by rw [f11]; exact hc) (by rw [f11]; exact hs) hd (fun q cA H1 hK1 hP1 hD1 hS1 => ?_)
  have ec : cA = cy 0 := ja_RA (ty := .int) (hK1.2 5 (cA, .int) rfl).2 (f9.2 0 (cy 0, .int) rfl).2
  subst ec
  obtain ⟨z1, z2⟩ := PO.push (lb := lb) (c := ia 0 N (fun _ => 0)) h1 hP1 hD1 (fun _ => ja_ok_set hok (fun t n f h => by cases h; exact ⟨by omega, fun _ _ _ => ⟨by show (-2147483648 : Int) ≤ 0; omega, by show (0 : Int) ≤ 2147483647; omega⟩⟩) (fun _ _ _ h => by cases h))
  exact kk q z1 H1 locs ls z2 (hE.trans (XE.push z1)) hS1 hl
theorem j_newz (hF : Fx φ cc nL ow rt nm fr lw KC KS) (lb N : Nat) (hw : Cond.arrayClass .boolean ∈ lw_tbl) (hd : decode cc pc = .ok (.newarray .boolean, 2)) (hN : N ≤ 1000000) (hc : kc + 1 ≤ KC) (hs : ks + N ≤ KS) (kk : ∀ q, X q = none → Jd φ (va_up X q (some (lb, ia 1 N (fun _ => 0)))) (kc + 1) (ks + N) (pc + 2) lo (.ref q :: st)) {z : Int} (hz : z = N) : Jd φ X kc ks pc lo (vi z :: st) := by
  subst hz
  obtain ⟨⟨p, l, e, R, s⟩, ⟨m, args, below, meth, c⟩, D, cy, A, Q, X0⟩ := φ
  obtain ⟨f1, f2, f3, f4, f5, f6, f7, f8, f9, f10, f11⟩ := hF
  intro H locs ls hP hE hS hl
  obtain ⟨⟨L, h1, h2, h3⟩, hok⟩ := id hP
  refine va_newa (atype := .boolean) (N' := N) (a0 := (N, .inl (fun _ => Int32.ofInt 0))) f1 f2 (f5.at ⟨hw, rfl⟩ _) rfl f9 h2 h3 hS f10 (fun _ => rfl) (ja_nn (by omega) (by omega)) (by have := ja_C (z := (N : Int)) (by omega) (by omega); omega) (by show N * 1 ≤ _; omega) (by rw [f11]; exact hc) (by rw [f11]; exact hs) hd (fun q cA H1 hK1 hP1 hD1 hS1 => ?_)
  have ec : cA = cy 1 := ja_RA (ty := .boolean) (hK1.2 5 (cA, .boolean) rfl).2 (f9.2 1 (cy 1, .boolean) rfl).2
  subst ec
  obtain ⟨z1, z2⟩ := PO.push (lb := lb) (c := ia 1 N (fun _ => 0)) h1 hP1 hD1 (fun _ => ja_ok_set hok (fun t n f h => by cases h; exact ⟨by omega, fun _ _ _ => ⟨by show (-2147483648 : Int) ≤ 0; omega, by show (0 : Int) ≤ 2147483647; omega⟩⟩) (fun _ _ _ h => by cases h))
  exact kk q z1 H1 locs ls z2 (hE.trans (XE.push z1)) hS1 hl
theorem j_newq (hF : Fx φ cc nL ow rt nm fr lw KC KS) (lb t N : Nat) {idx : Nat} {C : String} (ht : t < 5) (hty : ja_ty t = .object C) (hw : Cond.classLink ow idx C ∈ lw_tbl ∧ kw (Cond.classLink ow idx C) = true) (hw2 : Cond.arrayOver (.object C) ∈ lw_tbl) (hd : decode cc pc = .ok (.anewarray idx, 3)) (hN : N ≤ 1000000) (hc : kc + 1 ≤ KC) (hs : ks + N ≤ KS) (kk : ∀ q, X q = none → Jd φ (va_up X q (some (lb, ra t N (fun _ => none)))) (kc + 1) (ks + N) (pc + 3) lo (.ref q :: st)) {z : Int} (hz : z = N) : Jd φ X kc ks pc lo (vi z :: st) := by
  subst hz
  obtain ⟨⟨p, l, e, R, s⟩, ⟨m, args, below, meth, c⟩, D, cy, A, Q, X0⟩ := φ
  obtain ⟨f1, f2, f3, f4, f5, f6, f7, f8, f9, f10, f11⟩ := hF
  intro H locs ls hP hE hS hl
  obtain ⟨⟨L, h1, h2, h3⟩, hok⟩ := id hP
  refine va_newq (C := C) (N' := N) f1 f2 f4 (f5.at hw _) (va_AO.of (f5.at ⟨hw2, rfl⟩ args)) f9 h2 h3 hS f10 (ja_nn (by omega) (by omega)) (by have := ja_C (z := (N : Int)) (by omega) (by omega); omega) (by omega) (by rw [f11]; exact hc) (by rw [f11]; exact hs) hd (fun q cA H1 hK1 hP1 hD1 hS1 => ?_)
  have ec : cA = cy t := ja_RA (ty := .object C) (hK1.2 5 (cA, .object C) rfl).2 (hty ▸ (f9.2 t (cy t, ja_ty t) (ja_tys_at cy ht)).2)
  subst ec
  obtain ⟨z1, z2⟩ := PO.push (lb := lb) (c := ra t N (fun _ => none)) h1 hP1 hD1 (fun _ => ja_ok_set hok (fun _ _ _ h => by cases h) (fun t n f h => by cases h; omega))
  exact kk q z1 H1 locs ls z2 (hE.trans (XE.push z1)) hS1 hl
end HRULES
end
section
/-! calls and returns -/
def MS (y : MethodName) (cc : ByteArray) (nL : Nat) (rt : Option FieldType) (n : Nat) : Prop := (Cond.code y cc nL rt ∈ lw_tbl ∧ kw (Cond.code y cc nL rt) = true) ∧ (Cond.initialized y.cls ∈ lw_tbl ∧ kw (Cond.initialized y.cls) = true) ∧ (y.cls ≠ "java/lang/invoke/MethodHandle" ∧ y.cls ≠ "java/lang/invoke/VarHandle" ∧ (parseMethodDescriptor y.desc).map (fun d => d.parameters.length) = some n)
def MV (y : MethodName) (ci : Nat) : Prop := (Cond.instanceMethod y ∈ lw_tbl ∧ kw (Cond.instanceMethod y) = true) ∧ (Cond.selects y.cls y y ∈ lw_tbl ∧ kw (Cond.selects y.cls y y) = true) ∧ ∃ (T : u_T) (N : Nat), vwCl[ci]? = some (y.cls, T, N)
def MT (y : MethodName) : Prop := Cond.static y ∈ lw_tbl ∧ kw (Cond.static y) = true
def MI (y : MethodName) : Prop := y.name = "<init>" ∧ Cond.instanceMethod y ∈ lw_tbl ∧ kw (Cond.instanceMethod y) = true
def LK (ow : String) (idx : Nat) (y : MethodName) : Prop := Cond.methodLink ow idx y ∈ lw_tbl ∧ kw (Cond.methodLink ow idx y) = true
def LN (ow : String) (idx : Nat) (y : MethodName) : Prop := ∃ host, Cond.methodLinkNest ow idx y host ∈ lw_tbl
/-- the claim's room for what a callee needs -/
def RM (fr lw KC KS fr' nL' lw' kc kc' ks ks' : Nat) : Prop := (fr' + 1 ≤ fr ∧ 8 + (nL' + 11) + lw' ≤ lw) ∧ kc + kc' ≤ KC ∧ ks + ks' ≤ KS
section CRULES
variable {φ : Fi} {X : Hp} {kc ks pc : Nat} {lo : List (Option Value)} {st : List Value} {cc : ByteArray} {nL : Nat} {ow : String} {rt : Option FieldType} {nm : String} {fr lw KC KS : Nat}
variable {y : MethodName} {cc' : ByteArray} {nL' n fr' lw' kc' ks' idx b lb ci : Nat} {rt' : Option FieldType} {As rest : List Value} {fs : List Value} {post' : Option Value → Hp → Prop}
theorem ja_good {s : State} {args : Array Value} (hK : Kw s) (h : Cond.code y cc' nL' rt' ∈ lw_tbl ∧ kw (Cond.code y cc' nL' rt') = true) : ∀ w ∈ [Cond.code y cc' nL' rt'], ∀ (a' : Array Value) (U : State), s.WarmedH U.vm → w.before a' U = true := fun w hw a' U hW => by
  rw [List.mem_singleton.mp hw]
  exact kw_moved h.2 hW (hK.at h args)
theorem ja_par (hm : (parseMethodDescriptor y.desc).map (fun d => d.parameters.length) = some n) : ∀ sig, parseMethodDescriptor y.desc = some sig → n = sig.parameters.length := fun sig h => by
  rw [h] at hm
  exact (Option.some.inj hm).symm
/-- what comes behind a call -/
theorem ja_back {p : Program} {l : Launch} {e : Env} {R : Room} {s : State} {m : MethodId} {args : Array Value} {below : List Frame} {meth : Method} {c : Code} {D : va_G} {cy : Nat → ClassId} {A : Nat → Prop} {Q : State → Prop} {X0 : Hp} {H : Heap} {locs : List Loc} {ls : Array Slot} {a : Array Value}
    (hr : va_Run p l e R s m args below meth c H locs kc ks kc' ks' (F0 m pc ls st) rest (Qp D cy X H.size post' a) (AX X H.size)) (hA : ∀ q, s.heap.size ≤ q → A q) (hP : PO D cy X A H) (hE : XE X0 X) (hS : va_S A s.heap H locs) (hl : lh ls lo)
    (kk : ∀ (v : Option Value) (X' : Hp), post' v X' → XE X X' → Jd ((p, l, e, R, s), (m, args, below, meth, c), D, cy, A, Q, X0) X' (kc + kc') (ks + ks') (pc + 3) lo (v.toList ++ rest)) : W p l e R s m args below meth c H locs kc ks Q (F0 m pc ls st) := by
  intro T hT Xs
  obtain ⟨v, st₀, t, T', L, h0, X', hL, e1, e2, ⟨⟨v', X1, hv, hp, hE1, hP1⟩, hz, hk⟩, stp⟩ := hr T hT Xs
  cases hv
  rw [h0] at hz hk
  have hAA : ∀ q, AX X H.size q → A q := fun q h => by
    rcases h with ⟨z, h⟩ | h
    · exact hP.inA h
    · exact hA q (Nat.le_trans hS.1 h)
  have hS1 : va_S A s.heap T'.heap (locs ++ L) := by
    refine ⟨Nat.le_trans hS.1 (by rw [e1]; exact hz), fun q h1 h2 => ?_, fun q hq => ?_⟩
    · rw [e1, hk q (Nat.lt_of_lt_of_le h1 hS.1) (fun z => h2 (hAA q z))]
      exact hS.2.1 q h1 h2
    · rcases List.mem_append.mp hq with h | h
      · exact hS.2.2 q h
      · exact hAA _ (hL q h)
  obtain ⟨t2, a1, b1⟩ := kk v X1 hp hE1 T'.heap (locs ++ L) ls (by rw [e1]; exact hP1.weaken hAA) (hE.trans hE1) hS1 hl T' rfl X'
  exact ⟨t2, stp t2 a1, b1⟩
theorem ja_pre {D : va_G} {cy : Nat → ClassId} {A : Nat → Prop} {s : State} {H : Heap} (hK : Kw s) (hKK : va_K D vwCl (ja_tys cy) s) (hP : PO D cy X A H) (av : List Value) : ∀ U : State, U.heap = H → s.WarmedH U.vm → va_Pc av (Pp D cy X H.size) av.toArray U := fun U hU hW =>
  ⟨rfl, by rw [hU], hK.moved hW, va_K.moved hW.alike hKK, by rw [hU]; exact hP.weaken (fun _ _ => trivial)⟩
theorem j_callV (hF : Fx φ cc nL ow rt nm fr lw KC KS) (hC : Ct y cc' nL' rt' fr' lw' (.ref b :: As) X kc' ks' post') (hm : MS y cc' nL' rt' n) (hv : MV y ci) (hk : LK ow idx y) (hd : decode cc pc = .ok (.invokevirtual idx, 3)) (hb : X b = some (lb, ob ci fs)) (hst : st = As.reverse ++ .ref b :: rest) (hn : As.length = n) (hnL : lo.length = nL) (hc : (rest.map fun v => v.category).sum ≤ 8) (hR : RM fr lw KC KS fr' nL' lw' kc kc' ks ks')
    (kk : ∀ (v : Option Value) (X' : Hp), post' v X' → XE X X' → Jd φ X' (kc + kc') (ks + ks') (pc + 3) lo (v.toList ++ rest)) : Jd φ X kc ks pc lo st := by
  obtain ⟨⟨p, l, e, R, s⟩, ⟨m, args, below, meth, c⟩, D, cy, A, Q, X0⟩ := φ
  obtain ⟨f1, f2, f3, f4, f5, f6, f7, f8, f9, f10, f11⟩ := hF
  obtain ⟨v1, v2, T, N, v3⟩ := hv
  intro H locs ls hP hE hS hl
  obtain ⟨L, q, h1, h2, h3, h4⟩ := hP.get hb
  subst f11
  refine ja_back (va_runV (C := y.cls) (Ts := []) (n := n) (rest := rest) ⟨f1, f2, f3, f4, fun _ h => by cases h⟩ (hC l D cy H.size) ⟨⟨rfl, rfl, hR.1.1, hR.1.2, ja_good f5 hm.1 (args := args), List.mem_singleton.mpr rfl, f5.at hm.1 _, f5.at hm.2.1 _, ⟨hm.2.2.1, hm.2.2.2.1⟩, ja_par hm.2.2.2.2, f5.at hk _⟩, f5.at v1 _, f5.at v2 _⟩ ⟨Pp.blind, va_recv f9 h2 v3 h4, ja_pre f5 f9 hP _⟩ rfl hn (by show ls.size = nL; rw [hl.1]; exact hnL) hst (lv_room hc) hd ⟨hR.2.1, hR.2.2⟩) f10 hP hE hS hl kk
theorem j_callS (hF : Fx φ cc nL ow rt nm fr lw KC KS) (hC : Ct y cc' nL' rt' fr' lw' As X kc' ks' post') (hm : MS y cc' nL' rt' n) (hv : MT y) (hk : LK ow idx y) (hd : decode cc pc = .ok (.invokestatic idx, 3)) (hst : st = As.reverse ++ rest) (hn : As.length = n) (hnL : lo.length = nL) (hc : (rest.map fun v => v.category).sum ≤ 8) (hR : RM fr lw KC KS fr' nL' lw' kc kc' ks ks')
    (kk : ∀ (v : Option Value) (X' : Hp), post' v X' → XE X X' → Jd φ X' (kc + kc') (ks + ks') (pc + 3) lo (v.toList ++ rest)) : Jd φ X kc ks pc lo st := by
  obtain ⟨⟨p, l, e, R, s⟩, ⟨m, args, below, meth, c⟩, D, cy, A, Q, X0⟩ := φ
  obtain ⟨f1, f2, f3, f4, f5, f6, f7, f8, f9, f10, f11⟩ := hF
  intro H locs ls hP hE hS hl
  subst f11
  refine ja_back (va_runS (Ts := []) (n := n) (rest := rest) ⟨f1, f2, f3, f4, fun _ h => by cases h⟩ (hC l D cy H.size) ⟨⟨rfl, rfl, hR.1.1, hR.1.2, ja_good f5 hm.1 (args := args), List.mem_singleton.mpr rfl, f5.at hm.1 _, f5.at hm.2.1 _, ⟨hm.2.2.1, hm.2.2.2.1⟩, ja_par hm.2.2.2.2, f5.at hk _⟩, f5.at hv _⟩ ⟨Pp.blind, ja_pre f5 f9 hP _⟩ rfl hn (by show ls.size = nL; rw [hl.1]; exact hnL) hst (lv_room hc) hd ⟨hR.2.1, hR.2.2⟩) f10 hP hE hS hl kk
theorem j_callSN (hF : Fx φ cc nL ow rt nm fr lw KC KS) (hC : Ct y cc' nL' rt' fr' lw' As X kc' ks' post') (hm : MS y cc' nL' rt' n) (hv : MT y) (hk : LN ow idx y) (hd : decode cc pc = .ok (.invokestatic idx, 3)) (hst : st = As.reverse ++ rest) (hn : As.length = n) (hnL : lo.length = nL) (hc : (rest.map fun v => v.category).sum ≤ 8) (hR : RM fr lw KC KS fr' nL' lw' kc kc' ks ks')
    (kk : ∀ (v : Option Value) (X' : Hp), post' v X' → XE X X' → Jd φ X' (kc + kc') (ks + ks') (pc + 3) lo (v.toList ++ rest)) : Jd φ X kc ks pc lo st := by
  obtain ⟨⟨p, l, e, R, s⟩, ⟨m, args, below, meth, c⟩, D, cy, A, Q, X0⟩ := φ
  obtain ⟨f1, f2, f3, f4, f5, f6, f7, f8, f9, f10, f11⟩ := hF
  obtain ⟨host, hk⟩ := hk
  intro H locs ls hP hE hS hl
  subst f11
  refine ja_back (va_runSN (Ts := []) (host := host) (n := n) (rest := rest) ⟨f1, f2, f3, f4, fun _ h => by cases h⟩ (hC l D cy H.size) ⟨⟨⟨rfl, rfl, hR.1.1, hR.1.2, ja_good f5 hm.1 (args := args), List.mem_singleton.mpr rfl⟩, f5.at hm.1 _, f5.at hm.2.1 _, ⟨hm.2.2.1, hm.2.2.2.1⟩, ja_par hm.2.2.2.2, f5.at ⟨hk, rfl⟩ _⟩, f5.at hv _, trivial⟩ ⟨Pp.blind, ja_pre f5 f9 hP _⟩ rfl hn (by show ls.size = nL; rw [hl.1]; exact hnL) hst (lv_room hc) hd ⟨hR.2.1, hR.2.2⟩) f10 hP hE hS hl kk
theorem j_callI (hF : Fx φ cc nL ow rt nm fr lw KC KS) (hC : Ct y cc' nL' none fr' lw' (.ref b :: As) X kc' ks' post') (hm : MS y cc' nL' none n) (hv : MI y) (hk : LK ow idx y) (hd : decode cc pc = .ok (.invokespecial idx, 3)) (hst : st = As.reverse ++ .ref b :: rest) (hn : As.length = n) (hnL : lo.length = nL) (hc : (rest.map fun v => v.category).sum ≤ 8) (hR : RM fr lw KC KS fr' nL' lw' kc kc' ks ks')
    (kk : ∀ (v : Option Value) (X' : Hp), post' v X' → XE X X' → Jd φ X' (kc + kc') (ks + ks') (pc + 3) lo (v.toList ++ rest)) : Jd φ X kc ks pc lo st := by
  obtain ⟨⟨p, l, e, R, s⟩, ⟨m, args, below, meth, c⟩, D, cy, A, Q, X0⟩ := φ
  obtain ⟨f1, f2, f3, f4, f5, f6, f7, f8, f9, f10, f11⟩ := hF
  intro H locs ls hP hE hS hl
  subst f11
  refine ja_back (va_runI (Ts := []) (n := n) (rest := rest) ⟨f1, f2, f3, f4, fun _ h => by cases h⟩ (hC l D cy H.size) ⟨⟨rfl, rfl, hR.1.1, hR.1.2, ja_good f5 hm.1 (args := args), List.mem_singleton.mpr rfl, f5.at hm.1 _, f5.at hm.2.1 _, ⟨hm.2.2.1, hm.2.2.2.1⟩, ja_par hm.2.2.2.2, f5.at hk _⟩, hv.1, f5.at hv.2 _⟩ ⟨Pp.blind, ja_pre f5 f9 hP _⟩ rfl hn (by show ls.size = nL; rw [hl.1]; exact hnL) hst (lv_room hc) hd ⟨hR.2.1, hR.2.2⟩) f10 hP hE hS hl kk
theorem j_callIN (hF : Fx φ cc nL ow rt nm fr lw KC KS) (hC : Ct y cc' nL' none fr' lw' (.ref b :: As) X kc' ks' post') (hm : MS y cc' nL' none n) (hv : MI y) (hk : LN ow idx y) (hd : decode cc pc = .ok (.invokespecial idx, 3)) (hst : st = As.reverse ++ .ref b :: rest) (hn : As.length = n) (hnL : lo.length = nL) (hc : (rest.map fun v => v.category).sum ≤ 8) (hR : RM fr lw KC KS fr' nL' lw' kc kc' ks ks')
    (kk : ∀ (v : Option Value) (X' : Hp), post' v X' → XE X X' → Jd φ X' (kc + kc') (ks + ks') (pc + 3) lo (v.toList ++ rest)) : Jd φ X kc ks pc lo st := by
  obtain ⟨⟨p, l, e, R, s⟩, ⟨m, args, below, meth, c⟩, D, cy, A, Q, X0⟩ := φ
  obtain ⟨f1, f2, f3, f4, f5, f6, f7, f8, f9, f10, f11⟩ := hF
  obtain ⟨host, hk⟩ := hk
  intro H locs ls hP hE hS hl
  subst f11
  refine ja_back (va_runIN (Ts := []) (host := host) (n := n) (rest := rest) ⟨f1, f2, f3, f4, fun _ h => by cases h⟩ (hC l D cy H.size) ⟨⟨⟨rfl, rfl, hR.1.1, hR.1.2, ja_good f5 hm.1 (args := args), List.mem_singleton.mpr rfl⟩, f5.at hm.1 _, f5.at hm.2.1 _, ⟨hm.2.2.1, hm.2.2.2.1⟩, ja_par hm.2.2.2.2, f5.at ⟨hk, rfl⟩ _⟩, hv.1, f5.at hv.2 _⟩ ⟨Pp.blind, ja_pre f5 f9 hP _⟩ rfl hn (by show ls.size = nL; rw [hl.1]; exact hnL) hst (lv_room hc) hd ⟨hR.2.1, hR.2.2⟩) f10 hP hE hS hl kk
theorem j_iret (hF : Fx φ cc nL ow (some .int) nm fr lw KC KS) {X0 : Hp} {post : Option Value → Hp → Prop} {KC' KS' : Nat} (hR : Rx φ X0 KC' KS' post) {x : Int32} (hd : decode cc pc = .ok (.ireturn, 1)) (h1 : kc ≤ KC') (h2 : ks ≤ KS') (hp : post (some (.int x)) X) : Jd φ X kc ks pc lo [.int x] := by
  obtain ⟨⟨p, l, e, R, s⟩, ⟨m, args, below, meth, c⟩, D, cy, A, Q, X1⟩ := φ
  obtain ⟨f1, f2, f3, f4, f5, f6, f7, f8, f9, f10, f11⟩ := hF
  obtain ⟨rfl, rfl, rfl⟩ := hR
  intro H locs ls hP hE hS hl
  refine W.widen h1 h2 (W.iret f1 f2 f7 (fun t ht hW => ⟨⟨_, X, rfl, hp, hE, by rw [ht]; exact hP⟩, hS.F ht⟩) hS.2.2 hd f6)
theorem j_zret (hF : Fx φ cc nL ow (some .boolean) nm fr lw KC KS) {X0 : Hp} {post : Option Value → Hp → Prop} {KC' KS' : Nat} (hR : Rx φ X0 KC' KS' post) {x : Int} (hx : x = 0 ∨ x = 1) (hd : decode cc pc = .ok (.ireturn, 1)) (h1 : kc ≤ KC') (h2 : ks ≤ KS') (hp : post (some (vi x)) X) : Jd φ X kc ks pc lo [vi x] := by
  obtain ⟨⟨p, l, e, R, s⟩, ⟨m, args, below, meth, c⟩, D, cy, A, Q, X1⟩ := φ
  obtain ⟨f1, f2, f3, f4, f5, f6, f7, f8, f9, f10, f11⟩ := hF
  obtain ⟨rfl, rfl, rfl⟩ := hR
  intro H locs ls hP hE hS hl
  refine W.widen h1 h2 (W.zret (ty := .boolean) f1 f2 f7 (by rcases hx with rfl | rfl <;> decide) (fun t ht hW => ⟨⟨_, X, rfl, hp, hE, by rw [ht]; exact hP⟩, hS.F ht⟩) hS.2.2 hd f6)
theorem j_vret (hF : Fx φ cc nL ow none nm fr lw KC KS) {X0 : Hp} {post : Option Value → Hp → Prop} {KC' KS' : Nat} (hR : Rx φ X0 KC' KS' post) (hd : decode cc pc = .ok (.return_, 1)) (h1 : kc ≤ KC') (h2 : ks ≤ KS') (hp : post none X) : Jd φ X kc ks pc lo [] := by
  obtain ⟨⟨p, l, e, R, s⟩, ⟨m, args, below, meth, c⟩, D, cy, A, Q, X1⟩ := φ
  obtain ⟨f1, f2, f3, f4, f5, f6, f7, f8, f9, f10, f11⟩ := hF
  obtain ⟨rfl, rfl, rfl⟩ := hR
  intro H locs ls hP hE hS hl
  refine W.widen h1 h2 (W.vret f1 f2 f7 (fun t ht hW => ⟨⟨_, X, rfl, hp, hE, by rw [ht]; exact hP⟩, hS.F ht⟩) hS.2.2 hd f6)
theorem j_lret (hF : Fx φ cc nL ow (some .long) nm fr lw KC KS) {X0 : Hp} {post : Option Value → Hp → Prop} {KC' KS' : Nat} (hR : Rx φ X0 KC' KS' post) {x : Int64} (hd : decode cc pc = .ok (.lreturn, 1)) (h1 : kc ≤ KC') (h2 : ks ≤ KS') (hp : post (some (.long x)) X) : Jd φ X kc ks pc lo [.long x] := by
  obtain ⟨⟨p, l, e, R, s⟩, ⟨m, args, below, meth, c⟩, D, cy, A, Q, X1⟩ := φ
  obtain ⟨f1, f2, f3, f4, f5, f6, f7, f8, f9, f10, f11⟩ := hF
  obtain ⟨rfl, rfl, rfl⟩ := hR
  intro H locs ls hP hE hS hl
  refine W.widen h1 h2 (W.lret f1 f2 f7 (fun t ht hW => ⟨⟨_, X, rfl, hp, hE, by rw [ht]; exact hP⟩, hS.F ht⟩) hS.2.2 hd f6)
theorem j_aret {ty : FieldType} (hF : Fx φ cc nL ow (some (.array ty)) nm fr lw KC KS) {X0 : Hp} {post : Option Value → Hp → Prop} {KC' KS' : Nat} (hR : Rx φ X0 KC' KS' post) {x : Nat} (hd : decode cc pc = .ok (.areturn, 1)) (h1 : kc ≤ KC') (h2 : ks ≤ KS') (hp : post (some (.ref x)) X) : Jd φ X kc ks pc lo [.ref x] := by
  obtain ⟨⟨p, l, e, R, s⟩, ⟨m, args, below, meth, c⟩, D, cy, A, Q, X1⟩ := φ
  obtain ⟨f1, f2, f3, f4, f5, f6, f7, f8, f9, f10, f11⟩ := hF
  obtain ⟨rfl, rfl, rfl⟩ := hR
  intro H locs ls hP hE hS hl
  refine W.widen h1 h2 (W.aret f1 f2 f7 (Or.inr ⟨_, rfl⟩) (Or.inr ⟨_, rfl⟩) (fun t ht hW => ⟨⟨_, X, rfl, hp, hE, by rw [ht]; exact hP⟩, hS.F ht⟩) hS.2.2 hd f6)
theorem j_obj (hF : Fx φ cc nL ow rt nm fr lw KC KS) {a : Nat} (hk : LK ow idx objectInit) (h1 : Cond.instanceMethod objectInit ∈ lw_tbl) (h2 : Cond.code objectInit ⟨#[0xb1]⟩ 1 none ∈ lw_tbl) (hd : decode cc pc = .ok (.invokespecial idx, 3)) (hnL : lo.length = nL) (hc : (st.map fun v => v.category).sum ≤ 8) (hfr : 1 ≤ fr) (hlw : 20 ≤ lw) (kk : Jd φ X kc ks (pc + 3) lo st) : Jd φ X kc ks pc lo (.ref a :: st) := by
  obtain ⟨⟨p, l, e, R, s⟩, ⟨m, args, below, meth, c⟩, D, cy, A, Q, X1⟩ := φ
  obtain ⟨f1, f2, f3, f4, f5, f6, f7, f8, f9, f10, f11⟩ := hF
  intro H locs ls hP hE hS hl
  subst f11
  exact W.objInit f1 f2 f4 (f5.at hk _) (f5.at ⟨h1, rfl⟩ _) (f5.at ⟨h2, rfl⟩ _) rfl (by rw [f3]; show ls.size = nL; rw [hl.1]; exact hnL) rfl hd hfr (by show 2 * 0 + _ + 12 ≤ lw; omega) (kk H locs ls hP hE hS hl)
end CRULES
/-- a stretch copied -/
def fc (f g : Int → Int) (sp dp n : Int) : Int → Int := fun j => if dp ≤ j ∧ j < dp + n then f (sp + (j - dp)) else g j
theorem j_copy {φ : Fi} {X : Hp} {kc ks pc : Nat} {lo : List (Option Value)} {st : List Value} {cc : ByteArray} {nL : Nat} {ow : String} {rt : Option FieldType} {nm : String} {fr lw KC KS : Nat} (hF : Fx φ cc nL ow rt nm fr lw KC KS) {idx a0 a lb0 lb n0 n1 : Nat} {f g : Int → Int} {sp dp n : Int} (hk : LK ow idx arraycopyName) (hn : Cond.native arraycopyName ∈ lw_tbl) (hst : Cond.static arraycopyName ∈ lw_tbl) (hin : Cond.initialized "java/lang/System" ∈ lw_tbl) (hx0 : X a0 = some (lb0, ia 0 n0 f)) (hx : X a = some (lb, ia 0 n1 g)) (hd : decode cc pc = .ok (.invokestatic idx, 3))
    (hr : (0 ≤ sp ∧ 0 ≤ dp ∧ 0 ≤ n) ∧ sp + n ≤ n0 ∧ dp + n ≤ n1) (hnL : lo.length = nL) (hc : (st.map fun v => v.category).sum ≤ 8) (hR : 1 ≤ fr ∧ 30 ≤ lw) (kk : Jd φ (va_up X a (some (lb, ia 0 n1 (fc f g sp dp n)))) kc ks (pc + 3) lo st) : Jd φ X kc ks pc lo (vi n :: vi dp :: .ref a :: vi sp :: .ref a0 :: st) := by
  obtain ⟨⟨p, l, e, R, s⟩, ⟨m, args, below, meth, c⟩, D, cy, A, Q, X0⟩ := φ
  obtain ⟨f1, f2, f3, f4, f5, f6, f7, f8, f9, f10, f11⟩ := hF
  subst f11
  intro H locs ls hP hE hS hl
  obtain ⟨L, q, h1, h2, h3, h4⟩ := hP.get hx
  obtain ⟨q0, hq0⟩ := va_pl_get (X := []) (f := ja_xf cy X) ((h1 a0).mpr ⟨_, hx0⟩)
  rw [ja_xf_at hx0] at hq0
  obtain ⟨hn0, hr0⟩ := hP.2.1 a0 lb0 0 n0 f hx0
  obtain ⟨hn1, hr1⟩ := hP.2.1 a lb 0 n1 g hx
  have e1 := ja_C (z := sp) (by omega) (by omega)
  have e2 := ja_C (z := dp) (by omega) (by omega)
  have e3 := ja_C (z := n) (by omega) (by omega)
  refine va_copyi (ty := .int) f1 f2 (by rw [f3, hl.1, hnL]) f4 (f5.at hk _) (f5.at ⟨hn, rfl⟩ _) (f5.at ⟨hst, rfl⟩ _) (f5.at ⟨hin, rfl⟩ _) f9 h2 h3 hS q0 q 0 0 hq0 h4 (ja_tys_at cy (by omega)) (ja_tys_at cy (by omega)) rfl (ja_nn (by omega) (by omega)) (ja_nn (by omega) (by omega)) (ja_nn (by omega) (by omega)) (by show _ ≤ n0; omega) (by show _ ≤ n1; omega) (fun i _ => rfl) hR.1 (by show _ + (7 + 11) ≤ lw; omega) hd (fun H1 locs1 hP1 hD1 hS1 => ?_)
  have ef : va_cpy (fun j : Nat => Int32.ofInt (f j)) (fun j : Nat => Int32.ofInt (g j)) (Int32.ofInt sp).toNatClampNeg (Int32.ofInt dp).toNatClampNeg (Int32.ofInt n).toNatClampNeg = fun j : Nat => Int32.ofInt (fc f g sp dp n j) := by
    funext j
    by_cases hj : dp ≤ (j : Int) ∧ (j : Int) < dp + n
    · rw [pk_cpy_in (by omega) (by omega)]
      simp only [fc, hj, and_self, if_true]
      congr 2
      omega
    · rw [pk_cpy_out (by omega)]
      simp only [fc, hj, if_false]
  have hP1 : va_P D vwCl (([] ++ va_pl L (ja_xf cy X)).set q (a, ja_rl cy (ia 0 n1 (fc f g sp dp n)))) H1 := by
    show va_P D vwCl (([] ++ va_pl L (ja_xf cy X)).set q (a, .inl (cy 0, n1, .inl (fun j : Nat => Int32.ofInt (fc f g sp dp n j))))) H1
    rw [← ef]; exact hP1
  have hD1 : va_D A (([] ++ va_pl L (ja_xf cy X)).set q (a, ja_rl cy (ia 0 n1 (fc f g sp dp n)))) := by
    show va_D A (([] ++ va_pl L (ja_xf cy X)).set q (a, .inl (cy 0, n1, .inl (fun j : Nat => Int32.ofInt (fc f g sp dp n j)))))
    rw [← ef]; exact hD1
  refine kk H1 locs1 ls (PO.set (q := ia 0 n1 g) h1 h3 hx h4 hP1 hD1 (ja_ok_set hP.2 (fun t n' f' h => ?_) (fun _ _ _ h => by cases h))) (hE.trans (XE.set hx)) hS1 hl
  cases h
  refine ⟨hn1, fun j a1 a2 => ?_⟩
  by_cases hj : dp ≤ j ∧ j < dp + n
  · simp only [fc, hj, and_self, if_true]
    exact hr0 _ (by omega) (by omega)
  · simp only [fc, hj, if_false]
    exact hr1 j a1 a2
noncomputable def bz (p : Prop) : Int := @ite Int p (Classical.propDecidable p) 1 0
theorem bz_t {p : Prop} (h : p) : bz p = 1 := if_pos h
theorem bz_f {p : Prop} (h : ¬ p) : bz p = 0 := if_neg h
theorem bz_01 (p : Prop) : bz p = 0 ∨ bz p = 1 := by
  by_cases h : p
  · exact Or.inr (bz_t h)
  · exact Or.inl (bz_f h)
theorem bz_iff {p q : Prop} (h : p ↔ q) : bz p = bz q := by rw [propext h]
theorem bz_1 {p : Prop} (h : bz p = 1) : p := Classical.byContradiction fun q => by rw [bz_f q] at h; omega
theorem bz_0 {p : Prop} (h : bz p = 0) : ¬ p := fun q => by rw [bz_t q] at h; omega
section BRULES
variable {φ : Fi} {X : Hp} {kc ks pc : Nat} {lo : List (Option Value)} {st : List Value} {cc : ByteArray} {nL : Nat} {ow : String} {rt : Option FieldType} {nm : String} {fr lw KC KS : Nat}
theorem j_b_eq (hF : Fx φ cc nL ow rt nm fr lw KC KS) {x : Prop} {off : Int} (tgt : Nat) (hd : decode cc pc = .ok (.ifCond .eq off, 3)) (ht : (pc : Int) + off = (tgt : Int)) (kt : ¬ x → Jd φ X kc ks tgt lo st) (kf : x → Jd φ X kc ks (pc + 3) lo st) : Jd φ X kc ks pc lo (vi (bz x) :: st) :=
  j_if_eq hF tgt hd ht (by rcases bz_01 x with h | h <;> rw [h] <;> decide) (fun h => kt (bz_0 h)) (fun h => kf (by rcases bz_01 x with g | g; exact absurd g h; exact bz_1 g))
theorem j_b_ne (hF : Fx φ cc nL ow rt nm fr lw KC KS) {x : Prop} {off : Int} (tgt : Nat) (hd : decode cc pc = .ok (.ifCond .ne off, 3)) (ht : (pc : Int) + off = (tgt : Int)) (kt : x → Jd φ X kc ks tgt lo st) (kf : ¬ x → Jd φ X kc ks (pc + 3) lo st) : Jd φ X kc ks pc lo (vi (bz x) :: st) :=
  j_if_ne hF tgt hd ht (by rcases bz_01 x with h | h <;> rw [h] <;> decide) (fun h => kt (by rcases bz_01 x with g | g; exact absurd g h; exact bz_1 g)) (fun h => kf (bz_0 h))
end BRULES
end
section
theorem kl_ac : Cond.arrayClass .int ∈ lw_tbl := List.mem_of_getElem? (i := 106) (by decide +kernel)
theorem kl_az : Cond.arrayClass .boolean ∈ lw_tbl := List.mem_of_getElem? (i := 765) (by decide +kernel)
theorem kl_oi : Cond.instanceMethod objectInit ∈ lw_tbl := List.mem_of_getElem? (i := 74) (by decide +kernel)
theorem kl_oc : Cond.code objectInit ⟨#[0xb1]⟩ 1 none ∈ lw_tbl := List.mem_of_getElem? (i := 75) rfl
set_option maxRecDepth 20000 in
theorem kl_cl0 : ∀ w ∈ u_ws RX0 TX0 6, w ∈ lw_tbl ∧ kw w = true := by decide +kernel
set_option maxRecDepth 20000 in
theorem kl_cl1 : ∀ w ∈ u_ws RX1 TX1 2, w ∈ lw_tbl ∧ kw w = true := by decide +kernel
set_option maxRecDepth 20000 in
theorem kl_cl2 : ∀ w ∈ u_ws RX2 TX2 10, w ∈ lw_tbl ∧ kw w = true := by decide +kernel
set_option maxRecDepth 20000 in
theorem kl_cl3 : ∀ w ∈ u_ws RX3 TX3 3, w ∈ lw_tbl ∧ kw w = true := by decide +kernel
set_option maxRecDepth 20000 in
theorem kl_cl4 : ∀ w ∈ u_ws RX4 TX4 4, w ∈ lw_tbl ∧ kw w = true := by decide +kernel
set_option maxRecDepth 20000 in
theorem kl_cl5 : ∀ w ∈ u_ws RX5 TX5 7, w ∈ lw_tbl ∧ kw w = true := by decide +kernel
set_option maxRecDepth 20000 in
theorem kl_cl6 : ∀ w ∈ u_ws RX6 TX6 2, w ∈ lw_tbl ∧ kw w = true := by decide +kernel
set_option maxRecDepth 20000 in
theorem kl_cl7 : ∀ w ∈ u_ws RX7 TX7 5, w ∈ lw_tbl ∧ kw w = true := by decide +kernel
set_option maxRecDepth 20000 in
theorem kl_cl8 : ∀ w ∈ u_ws RX8 TX8 14, w ∈ lw_tbl ∧ kw w = true := by decide +kernel
set_option maxRecDepth 40000 in
theorem ms_J7_copyOf_59c91 : MS yJ7_copyOf_59c91 cJ7_copyOf_59c91 3 (some (.array .int)) 2 := ⟨⟨List.mem_of_getElem? (i := 324) rfl, rfl⟩, ⟨List.mem_of_getElem? (i := 64) (by decide +kernel), rfl⟩, by decide +kernel⟩
theorem mt_J7_copyOf_59c91 : MT yJ7_copyOf_59c91 := ⟨List.mem_of_getElem? (i := 323) (by decide +kernel), rfl⟩
set_option maxRecDepth 40000 in
theorem ms_J7_fill_53178 : MS yJ7_fill_53178 cJ7_fill_53178 4 none 2 := ⟨⟨List.mem_of_getElem? (i := 217) rfl, rfl⟩, ⟨List.mem_of_getElem? (i := 64) (by decide +kernel), rfl⟩, by decide +kernel⟩
theorem mt_J7_fill_53178 : MT yJ7_fill_53178 := ⟨List.mem_of_getElem? (i := 216) (by decide +kernel), rfl⟩
set_option maxRecDepth 40000 in
theorem ms_J7_fill_fda19 : MS yJ7_fill_fda19 cJ7_fill_fda19 5 none 4 := ⟨⟨List.mem_of_getElem? (i := 464) rfl, rfl⟩, ⟨List.mem_of_getElem? (i := 64) (by decide +kernel), rfl⟩, by decide +kernel⟩
theorem mt_J7_fill_fda19 : MT yJ7_fill_fda19 := ⟨List.mem_of_getElem? (i := 463) (by decide +kernel), rfl⟩
set_option maxRecDepth 40000 in
theorem ms_J7_rangeCheck_23922 : MS yJ7_rangeCheck_23922 cJ7_rangeCheck_23922 3 none 3 := ⟨⟨List.mem_of_getElem? (i := 467) rfl, rfl⟩, ⟨List.mem_of_getElem? (i := 64) (by decide +kernel), rfl⟩, by decide +kernel⟩
theorem mt_J7_rangeCheck_23922 : MT yJ7_rangeCheck_23922 := ⟨List.mem_of_getElem? (i := 466) (by decide +kernel), rfl⟩
set_option maxRecDepth 40000 in
theorem ms_J9_max_7cf53 : MS yJ9_max_7cf53 cJ9_max_7cf53 2 (some .int) 2 := ⟨⟨List.mem_of_getElem? (i := 605) rfl, rfl⟩, ⟨List.mem_of_getElem? (i := 67) (by decide +kernel), rfl⟩, by decide +kernel⟩
theorem mt_J9_max_7cf53 : MT yJ9_max_7cf53 := ⟨List.mem_of_getElem? (i := 604) (by decide +kernel), rfl⟩
set_option maxRecDepth 40000 in
theorem ms_J9_min_7cf53 : MS yJ9_min_7cf53 cJ9_min_7cf53 2 (some .int) 2 := ⟨⟨List.mem_of_getElem? (i := 334) rfl, rfl⟩, ⟨List.mem_of_getElem? (i := 67) (by decide +kernel), rfl⟩, by decide +kernel⟩
theorem mt_J9_min_7cf53 : MT yJ9_min_7cf53 := ⟨List.mem_of_getElem? (i := 333) (by decide +kernel), rfl⟩
set_option maxRecDepth 40000 in
theorem ms_X0_allowsEdge : MS yX0_allowsEdge cX0_allowsEdge 6 (some .boolean) 3 := ⟨⟨List.mem_of_getElem? (i := 389) rfl, rfl⟩, ⟨List.mem_of_getElem? (i := 59) (by decide +kernel), rfl⟩, by decide +kernel⟩
theorem mv_X0_allowsEdge : MV yX0_allowsEdge 0 := ⟨⟨List.mem_of_getElem? (i := 387) (by decide +kernel), rfl⟩, ⟨List.mem_of_getElem? (i := 388) (by decide +kernel), rfl⟩, _, _, rfl⟩
set_option maxRecDepth 40000 in
theorem ms_X0_appendEdge : MS yX0_appendEdge cX0_appendEdge 4 (some .int) 3 := ⟨⟨List.mem_of_getElem? (i := 411) rfl, rfl⟩, ⟨List.mem_of_getElem? (i := 59) (by decide +kernel), rfl⟩, by decide +kernel⟩
theorem mv_X0_appendEdge : MV yX0_appendEdge 0 := ⟨⟨List.mem_of_getElem? (i := 409) (by decide +kernel), rfl⟩, ⟨List.mem_of_getElem? (i := 410) (by decide +kernel), rfl⟩, _, _, rfl⟩
set_option maxRecDepth 40000 in
theorem ms_X0_appendNode : MS yX0_appendNode cX0_appendNode 2 (some .int) 1 := ⟨⟨List.mem_of_getElem? (i := 354) rfl, rfl⟩, ⟨List.mem_of_getElem? (i := 59) (by decide +kernel), rfl⟩, by decide +kernel⟩
theorem mv_X0_appendNode : MV yX0_appendNode 0 := ⟨⟨List.mem_of_getElem? (i := 352) (by decide +kernel), rfl⟩, ⟨List.mem_of_getElem? (i := 353) (by decide +kernel), rfl⟩, _, _, rfl⟩
set_option maxRecDepth 40000 in
theorem ms_X0_contains : MS yX0_contains cX0_contains 2 (some .boolean) 2 := ⟨⟨List.mem_of_getElem? (i := 403) rfl, rfl⟩, ⟨List.mem_of_getElem? (i := 59) (by decide +kernel), rfl⟩, by decide +kernel⟩
theorem mt_X0_contains : MT yX0_contains := ⟨List.mem_of_getElem? (i := 402) (by decide +kernel), rfl⟩
set_option maxRecDepth 40000 in
theorem ms_X0_copyFrom : MS yX0_copyFrom cX0_copyFrom 2 none 1 := ⟨⟨List.mem_of_getElem? (i := 300) rfl, rfl⟩, ⟨List.mem_of_getElem? (i := 59) (by decide +kernel), rfl⟩, by decide +kernel⟩
theorem mv_X0_copyFrom : MV yX0_copyFrom 0 := ⟨⟨List.mem_of_getElem? (i := 298) (by decide +kernel), rfl⟩, ⟨List.mem_of_getElem? (i := 299) (by decide +kernel), rfl⟩, _, _, rfl⟩
set_option maxRecDepth 40000 in
theorem ms_X0_hasEdge : MS yX0_hasEdge cX0_hasEdge 2 (some .boolean) 1 := ⟨⟨List.mem_of_getElem? (i := 419) rfl, rfl⟩, ⟨List.mem_of_getElem? (i := 59) (by decide +kernel), rfl⟩, by decide +kernel⟩
theorem mv_X0_hasEdge : MV yX0_hasEdge 0 := ⟨⟨List.mem_of_getElem? (i := 417) (by decide +kernel), rfl⟩, ⟨List.mem_of_getElem? (i := 418) (by decide +kernel), rfl⟩, _, _, rfl⟩
set_option maxRecDepth 40000 in
theorem ms_X0_hasEdges : MS yX0_hasEdges cX0_hasEdges 2 (some .boolean) 1 := ⟨⟨List.mem_of_getElem? (i := 535) rfl, rfl⟩, ⟨List.mem_of_getElem? (i := 59) (by decide +kernel), rfl⟩, by decide +kernel⟩
theorem mv_X0_hasEdges : MV yX0_hasEdges 0 := ⟨⟨List.mem_of_getElem? (i := 533) (by decide +kernel), rfl⟩, ⟨List.mem_of_getElem? (i := 534) (by decide +kernel), rfl⟩, _, _, rfl⟩
set_option maxRecDepth 40000 in
theorem ms_X0_hasLocation : MS yX0_hasLocation cX0_hasLocation 2 (some .boolean) 1 := ⟨⟨List.mem_of_getElem? (i := 431) rfl, rfl⟩, ⟨List.mem_of_getElem? (i := 59) (by decide +kernel), rfl⟩, by decide +kernel⟩
theorem mv_X0_hasLocation : MV yX0_hasLocation 0 := ⟨⟨List.mem_of_getElem? (i := 429) (by decide +kernel), rfl⟩, ⟨List.mem_of_getElem? (i := 430) (by decide +kernel), rfl⟩, _, _, rfl⟩
set_option maxRecDepth 40000 in
theorem ms_X0_hasNode : MS yX0_hasNode cX0_hasNode 2 (some .boolean) 1 := ⟨⟨List.mem_of_getElem? (i := 381) rfl, rfl⟩, ⟨List.mem_of_getElem? (i := 59) (by decide +kernel), rfl⟩, by decide +kernel⟩
theorem mv_X0_hasNode : MV yX0_hasNode 0 := ⟨⟨List.mem_of_getElem? (i := 379) (by decide +kernel), rfl⟩, ⟨List.mem_of_getElem? (i := 380) (by decide +kernel), rfl⟩, _, _, rfl⟩
set_option maxRecDepth 40000 in
theorem ms_X0_hasTime : MS yX0_hasTime cX0_hasTime 4 (some .boolean) 2 := ⟨⟨List.mem_of_getElem? (i := 427) rfl, rfl⟩, ⟨List.mem_of_getElem? (i := 59) (by decide +kernel), rfl⟩, by decide +kernel⟩
theorem mv_X0_hasTime : MV yX0_hasTime 0 := ⟨⟨List.mem_of_getElem? (i := 425) (by decide +kernel), rfl⟩, ⟨List.mem_of_getElem? (i := 426) (by decide +kernel), rfl⟩, _, _, rfl⟩
set_option maxRecDepth 40000 in
theorem ms_X0_init : MS yX0_init cX0_init 1 none 0 := ⟨⟨List.mem_of_getElem? (i := 116) rfl, rfl⟩, ⟨List.mem_of_getElem? (i := 59) (by decide +kernel), rfl⟩, by decide +kernel⟩
theorem mi_X0_init : MI yX0_init := ⟨rfl, List.mem_of_getElem? (i := 115) (by decide +kernel), rfl⟩
set_option maxRecDepth 40000 in
theorem ms_X0_isAsLargeAs : MS yX0_isAsLargeAs cX0_isAsLargeAs 2 (some .boolean) 1 := ⟨⟨List.mem_of_getElem? (i := 680) rfl, rfl⟩, ⟨List.mem_of_getElem? (i := 59) (by decide +kernel), rfl⟩, by decide +kernel⟩
theorem mv_X0_isAsLargeAs : MV yX0_isAsLargeAs 0 := ⟨⟨List.mem_of_getElem? (i := 678) (by decide +kernel), rfl⟩, ⟨List.mem_of_getElem? (i := 679) (by decide +kernel), rfl⟩, _, _, rfl⟩
set_option maxRecDepth 40000 in
theorem ms_X0_kindBetween : MS yX0_kindBetween cX0_kindBetween 3 (some .int) 3 := ⟨⟨List.mem_of_getElem? (i := 396) rfl, rfl⟩, ⟨List.mem_of_getElem? (i := 59) (by decide +kernel), rfl⟩, by decide +kernel⟩
theorem mt_X0_kindBetween : MT yX0_kindBetween := ⟨List.mem_of_getElem? (i := 395) (by decide +kernel), rfl⟩
set_option maxRecDepth 40000 in
theorem ms_X0_putEdge : MS yX0_putEdge cX0_putEdge 4 none 3 := ⟨⟨List.mem_of_getElem? (i := 393) rfl, rfl⟩, ⟨List.mem_of_getElem? (i := 59) (by decide +kernel), rfl⟩, by decide +kernel⟩
theorem mv_X0_putEdge : MV yX0_putEdge 0 := ⟨⟨List.mem_of_getElem? (i := 392) (by decide +kernel), rfl⟩, ⟨List.mem_of_getElem? (i := 7) (by decide +kernel), rfl⟩, _, _, rfl⟩
set_option maxRecDepth 40000 in
theorem ms_X0_returnsWithoutFeedback : MS yX0_returnsWithoutFeedback cX0_returnsWithoutFeedback 6 (some .boolean) 1 := ⟨⟨List.mem_of_getElem? (i := 400) rfl, rfl⟩, ⟨List.mem_of_getElem? (i := 59) (by decide +kernel), rfl⟩, by decide +kernel⟩
theorem mv_X0_returnsWithoutFeedback : MV yX0_returnsWithoutFeedback 0 := ⟨⟨List.mem_of_getElem? (i := 399) (by decide +kernel), rfl⟩, ⟨List.mem_of_getElem? (i := 8) (by decide +kernel), rfl⟩, _, _, rfl⟩
set_option maxRecDepth 40000 in
theorem ms_X0_startAllAt : MS yX0_startAllAt cX0_startAllAt 4 (some .boolean) 2 := ⟨⟨List.mem_of_getElem? (i := 540) rfl, rfl⟩, ⟨List.mem_of_getElem? (i := 59) (by decide +kernel), rfl⟩, by decide +kernel⟩
theorem mv_X0_startAllAt : MV yX0_startAllAt 0 := ⟨⟨List.mem_of_getElem? (i := 538) (by decide +kernel), rfl⟩, ⟨List.mem_of_getElem? (i := 539) (by decide +kernel), rfl⟩, _, _, rfl⟩
set_option maxRecDepth 40000 in
theorem ms_X0_staysWithoutFeedback : MS yX0_staysWithoutFeedback cX0_staysWithoutFeedback 4 (some .boolean) 2 := ⟨⟨List.mem_of_getElem? (i := 407) rfl, rfl⟩, ⟨List.mem_of_getElem? (i := 59) (by decide +kernel), rfl⟩, by decide +kernel⟩
theorem mv_X0_staysWithoutFeedback : MV yX0_staysWithoutFeedback 0 := ⟨⟨List.mem_of_getElem? (i := 406) (by decide +kernel), rfl⟩, ⟨List.mem_of_getElem? (i := 9) (by decide +kernel), rfl⟩, _, _, rfl⟩
set_option maxRecDepth 40000 in
theorem ms_X0_timeAfter : MS yX0_timeAfter cX0_timeAfter 6 (some .int) 2 := ⟨⟨List.mem_of_getElem? (i := 437) rfl, rfl⟩, ⟨List.mem_of_getElem? (i := 59) (by decide +kernel), rfl⟩, by decide +kernel⟩
theorem mv_X0_timeAfter : MV yX0_timeAfter 0 := ⟨⟨List.mem_of_getElem? (i := 435) (by decide +kernel), rfl⟩, ⟨List.mem_of_getElem? (i := 436) (by decide +kernel), rfl⟩, _, _, rfl⟩
set_option maxRecDepth 40000 in
theorem ms_X1_copyFrom : MS yX1_copyFrom cX1_copyFrom 2 none 1 := ⟨⟨List.mem_of_getElem? (i := 307) rfl, rfl⟩, ⟨List.mem_of_getElem? (i := 60) (by decide +kernel), rfl⟩, by decide +kernel⟩
theorem mv_X1_copyFrom : MV yX1_copyFrom 1 := ⟨⟨List.mem_of_getElem? (i := 305) (by decide +kernel), rfl⟩, ⟨List.mem_of_getElem? (i := 306) (by decide +kernel), rfl⟩, _, _, rfl⟩
set_option maxRecDepth 40000 in
theorem ms_X1_init : MS yX1_init cX1_init 1 none 0 := ⟨⟨List.mem_of_getElem? (i := 151) rfl, rfl⟩, ⟨List.mem_of_getElem? (i := 60) (by decide +kernel), rfl⟩, by decide +kernel⟩
theorem mi_X1_init : MI yX1_init := ⟨rfl, List.mem_of_getElem? (i := 150) (by decide +kernel), rfl⟩
set_option maxRecDepth 40000 in
theorem ms_X1_isAnyFull : MS yX1_isAnyFull cX1_isAnyFull 4 (some .boolean) 2 := ⟨⟨List.mem_of_getElem? (i := 544) rfl, rfl⟩, ⟨List.mem_of_getElem? (i := 60) (by decide +kernel), rfl⟩, by decide +kernel⟩
theorem mv_X1_isAnyFull : MV yX1_isAnyFull 1 := ⟨⟨List.mem_of_getElem? (i := 542) (by decide +kernel), rfl⟩, ⟨List.mem_of_getElem? (i := 543) (by decide +kernel), rfl⟩, _, _, rfl⟩
set_option maxRecDepth 40000 in
theorem ms_X1_isFull : MS yX1_isFull cX1_isFull 3 (some .boolean) 2 := ⟨⟨List.mem_of_getElem? (i := 490) rfl, rfl⟩, ⟨List.mem_of_getElem? (i := 60) (by decide +kernel), rfl⟩, by decide +kernel⟩
theorem mv_X1_isFull : MV yX1_isFull 1 := ⟨⟨List.mem_of_getElem? (i := 488) (by decide +kernel), rfl⟩, ⟨List.mem_of_getElem? (i := 489) (by decide +kernel), rfl⟩, _, _, rfl⟩
set_option maxRecDepth 40000 in
theorem ms_X1_put : MS yX1_put cX1_put 5 none 3 := ⟨⟨List.mem_of_getElem? (i := 506) rfl, rfl⟩, ⟨List.mem_of_getElem? (i := 60) (by decide +kernel), rfl⟩, by decide +kernel⟩
theorem mv_X1_put : MV yX1_put 1 := ⟨⟨List.mem_of_getElem? (i := 504) (by decide +kernel), rfl⟩, ⟨List.mem_of_getElem? (i := 505) (by decide +kernel), rfl⟩, _, _, rfl⟩
set_option maxRecDepth 40000 in
theorem ms_X1_sizeOf : MS yX1_sizeOf cX1_sizeOf 3 (some .int) 2 := ⟨⟨List.mem_of_getElem? (i := 494) rfl, rfl⟩, ⟨List.mem_of_getElem? (i := 60) (by decide +kernel), rfl⟩, by decide +kernel⟩
theorem mv_X1_sizeOf : MV yX1_sizeOf 1 := ⟨⟨List.mem_of_getElem? (i := 492) (by decide +kernel), rfl⟩, ⟨List.mem_of_getElem? (i := 493) (by decide +kernel), rfl⟩, _, _, rfl⟩
set_option maxRecDepth 40000 in
theorem ms_X1_take : MS yX1_take cX1_take 6 (some .int) 2 := ⟨⟨List.mem_of_getElem? (i := 554) rfl, rfl⟩, ⟨List.mem_of_getElem? (i := 60) (by decide +kernel), rfl⟩, by decide +kernel⟩
theorem mv_X1_take : MV yX1_take 1 := ⟨⟨List.mem_of_getElem? (i := 552) (by decide +kernel), rfl⟩, ⟨List.mem_of_getElem? (i := 553) (by decide +kernel), rfl⟩, _, _, rfl⟩
set_option maxRecDepth 40000 in
theorem ms_X1_timeOf : MS yX1_timeOf cX1_timeOf 4 (some .int) 3 := ⟨⟨List.mem_of_getElem? (i := 627) rfl, rfl⟩, ⟨List.mem_of_getElem? (i := 60) (by decide +kernel), rfl⟩, by decide +kernel⟩
theorem mv_X1_timeOf : MV yX1_timeOf 1 := ⟨⟨List.mem_of_getElem? (i := 625) (by decide +kernel), rfl⟩, ⟨List.mem_of_getElem? (i := 626) (by decide +kernel), rfl⟩, _, _, rfl⟩
set_option maxRecDepth 40000 in
theorem ms_X2_appendNode : MS yX2_appendNode cX2_appendNode 5 (some .int) 2 := ⟨⟨List.mem_of_getElem? (i := 350) rfl, rfl⟩, ⟨List.mem_of_getElem? (i := 58) (by decide +kernel), rfl⟩, by decide +kernel⟩
theorem mv_X2_appendNode : MV yX2_appendNode 2 := ⟨⟨List.mem_of_getElem? (i := 348) (by decide +kernel), rfl⟩, ⟨List.mem_of_getElem? (i := 349) (by decide +kernel), rfl⟩, _, _, rfl⟩
set_option maxRecDepth 40000 in
theorem ms_X2_copyFrom : MS yX2_copyFrom cX2_copyFrom 3 none 1 := ⟨⟨List.mem_of_getElem? (i := 296) rfl, rfl⟩, ⟨List.mem_of_getElem? (i := 58) (by decide +kernel), rfl⟩, by decide +kernel⟩
theorem mv_X2_copyFrom : MV yX2_copyFrom 2 := ⟨⟨List.mem_of_getElem? (i := 294) (by decide +kernel), rfl⟩, ⟨List.mem_of_getElem? (i := 295) (by decide +kernel), rfl⟩, _, _, rfl⟩
set_option maxRecDepth 40000 in
theorem ms_X2_init : MS yX2_init cX2_init 2 none 0 := ⟨⟨List.mem_of_getElem? (i := 110) rfl, rfl⟩, ⟨List.mem_of_getElem? (i := 58) (by decide +kernel), rfl⟩, by decide +kernel⟩
theorem mi_X2_init : MI yX2_init := ⟨rfl, List.mem_of_getElem? (i := 109) (by decide +kernel), rfl⟩
set_option maxRecDepth 40000 in
theorem ms_X2_isInput : MS yX2_isInput cX2_isInput 2 (some .boolean) 1 := ⟨⟨List.mem_of_getElem? (i := 385) rfl, rfl⟩, ⟨List.mem_of_getElem? (i := 58) (by decide +kernel), rfl⟩, by decide +kernel⟩
theorem mv_X2_isInput : MV yX2_isInput 2 := ⟨⟨List.mem_of_getElem? (i := 383) (by decide +kernel), rfl⟩, ⟨List.mem_of_getElem? (i := 384) (by decide +kernel), rfl⟩, _, _, rfl⟩
set_option maxRecDepth 40000 in
theorem ms_X2_putMessage : MS yX2_putMessage cX2_putMessage 5 none 4 := ⟨⟨List.mem_of_getElem? (i := 502) rfl, rfl⟩, ⟨List.mem_of_getElem? (i := 58) (by decide +kernel), rfl⟩, by decide +kernel⟩
theorem mv_X2_putMessage : MV yX2_putMessage 2 := ⟨⟨List.mem_of_getElem? (i := 500) (by decide +kernel), rfl⟩, ⟨List.mem_of_getElem? (i := 501) (by decide +kernel), rfl⟩, _, _, rfl⟩
set_option maxRecDepth 40000 in
theorem ms_X2_putMessages : MS yX2_putMessages cX2_putMessages 6 none 4 := ⟨⟨List.mem_of_getElem? (i := 558) rfl, rfl⟩, ⟨List.mem_of_getElem? (i := 58) (by decide +kernel), rfl⟩, by decide +kernel⟩
theorem mv_X2_putMessages : MV yX2_putMessages 2 := ⟨⟨List.mem_of_getElem? (i := 556) (by decide +kernel), rfl⟩, ⟨List.mem_of_getElem? (i := 557) (by decide +kernel), rfl⟩, _, _, rfl⟩
set_option maxRecDepth 40000 in
theorem ms_X2_recordArrival : MS yX2_recordArrival cX2_recordArrival 4 none 2 := ⟨⟨List.mem_of_getElem? (i := 568) rfl, rfl⟩, ⟨List.mem_of_getElem? (i := 58) (by decide +kernel), rfl⟩, by decide +kernel⟩
theorem mv_X2_recordArrival : MV yX2_recordArrival 2 := ⟨⟨List.mem_of_getElem? (i := 566) (by decide +kernel), rfl⟩, ⟨List.mem_of_getElem? (i := 567) (by decide +kernel), rfl⟩, _, _, rfl⟩
set_option maxRecDepth 40000 in
theorem ms_X2_recordDelivery : MS yX2_recordDelivery cX2_recordDelivery 4 none 2 := ⟨⟨List.mem_of_getElem? (i := 602) rfl, rfl⟩, ⟨List.mem_of_getElem? (i := 58) (by decide +kernel), rfl⟩, by decide +kernel⟩
theorem mv_X2_recordDelivery : MV yX2_recordDelivery 2 := ⟨⟨List.mem_of_getElem? (i := 600) (by decide +kernel), rfl⟩, ⟨List.mem_of_getElem? (i := 601) (by decide +kernel), rfl⟩, _, _, rfl⟩
set_option maxRecDepth 40000 in
theorem ms_X2_update : MS yX2_update cX2_update 4 none 3 := ⟨⟨List.mem_of_getElem? (i := 510) rfl, rfl⟩, ⟨List.mem_of_getElem? (i := 58) (by decide +kernel), rfl⟩, by decide +kernel⟩
theorem mv_X2_update : MV yX2_update 2 := ⟨⟨List.mem_of_getElem? (i := 508) (by decide +kernel), rfl⟩, ⟨List.mem_of_getElem? (i := 509) (by decide +kernel), rfl⟩, _, _, rfl⟩
set_option maxRecDepth 40000 in
theorem ms_X3_add : MS yX3_add cX3_add 3 none 2 := ⟨⟨List.mem_of_getElem? (i := 514) rfl, rfl⟩, ⟨List.mem_of_getElem? (i := 63) (by decide +kernel), rfl⟩, by decide +kernel⟩
theorem mv_X3_add : MV yX3_add 3 := ⟨⟨List.mem_of_getElem? (i := 512) (by decide +kernel), rfl⟩, ⟨List.mem_of_getElem? (i := 513) (by decide +kernel), rfl⟩, _, _, rfl⟩
set_option maxRecDepth 40000 in
theorem ms_X3_copyFrom : MS yX3_copyFrom cX3_copyFrom 2 none 1 := ⟨⟨List.mem_of_getElem? (i := 340) rfl, rfl⟩, ⟨List.mem_of_getElem? (i := 63) (by decide +kernel), rfl⟩, by decide +kernel⟩
theorem mv_X3_copyFrom : MV yX3_copyFrom 3 := ⟨⟨List.mem_of_getElem? (i := 338) (by decide +kernel), rfl⟩, ⟨List.mem_of_getElem? (i := 339) (by decide +kernel), rfl⟩, _, _, rfl⟩
set_option maxRecDepth 40000 in
theorem ms_X3_init : MS yX3_init cX3_init 1 none 0 := ⟨⟨List.mem_of_getElem? (i := 202) rfl, rfl⟩, ⟨List.mem_of_getElem? (i := 63) (by decide +kernel), rfl⟩, by decide +kernel⟩
theorem mi_X3_init : MI yX3_init := ⟨rfl, List.mem_of_getElem? (i := 201) (by decide +kernel), rfl⟩
set_option maxRecDepth 40000 in
theorem ms_X3_makeRoomAtEnd : MS yX3_makeRoomAtEnd cX3_makeRoomAtEnd 2 none 0 := ⟨⟨List.mem_of_getElem? (i := 518) rfl, rfl⟩, ⟨List.mem_of_getElem? (i := 63) (by decide +kernel), rfl⟩, by decide +kernel⟩
theorem mv_X3_makeRoomAtEnd : MV yX3_makeRoomAtEnd 3 := ⟨⟨List.mem_of_getElem? (i := 517) (by decide +kernel), rfl⟩, ⟨List.mem_of_getElem? (i := 14) (by decide +kernel), rfl⟩, _, _, rfl⟩
set_option maxRecDepth 40000 in
theorem ms_X3_moveTo : MS yX3_moveTo cX3_moveTo 6 (some .int) 2 := ⟨⟨List.mem_of_getElem? (i := 613) rfl, rfl⟩, ⟨List.mem_of_getElem? (i := 63) (by decide +kernel), rfl⟩, by decide +kernel⟩
theorem mv_X3_moveTo : MV yX3_moveTo 3 := ⟨⟨List.mem_of_getElem? (i := 611) (by decide +kernel), rfl⟩, ⟨List.mem_of_getElem? (i := 612) (by decide +kernel), rfl⟩, _, _, rfl⟩
set_option maxRecDepth 40000 in
theorem ms_X4_change : MS yX4_change cX4_change 4 none 2 := ⟨⟨List.mem_of_getElem? (i := 361) rfl, rfl⟩, ⟨List.mem_of_getElem? (i := 62) (by decide +kernel), rfl⟩, by decide +kernel⟩
theorem mv_X4_change : MV yX4_change 4 := ⟨⟨List.mem_of_getElem? (i := 359) (by decide +kernel), rfl⟩, ⟨List.mem_of_getElem? (i := 360) (by decide +kernel), rfl⟩, _, _, rfl⟩
set_option maxRecDepth 40000 in
theorem ms_X4_copyFrom : MS yX4_copyFrom cX4_copyFrom 2 none 1 := ⟨⟨List.mem_of_getElem? (i := 317) rfl, rfl⟩, ⟨List.mem_of_getElem? (i := 62) (by decide +kernel), rfl⟩, by decide +kernel⟩
theorem mv_X4_copyFrom : MV yX4_copyFrom 4 := ⟨⟨List.mem_of_getElem? (i := 315) (by decide +kernel), rfl⟩, ⟨List.mem_of_getElem? (i := 316) (by decide +kernel), rfl⟩, _, _, rfl⟩
set_option maxRecDepth 40000 in
theorem ms_X4_countActive : MS yX4_countActive cX4_countActive 3 (some .int) 0 := ⟨⟨List.mem_of_getElem? (i := 656) rfl, rfl⟩, ⟨List.mem_of_getElem? (i := 62) (by decide +kernel), rfl⟩, by decide +kernel⟩
theorem mv_X4_countActive : MV yX4_countActive 4 := ⟨⟨List.mem_of_getElem? (i := 654) (by decide +kernel), rfl⟩, ⟨List.mem_of_getElem? (i := 655) (by decide +kernel), rfl⟩, _, _, rfl⟩
set_option maxRecDepth 40000 in
theorem ms_X4_countOf : MS yX4_countOf cX4_countOf 3 (some .int) 1 := ⟨⟨List.mem_of_getElem? (i := 647) rfl, rfl⟩, ⟨List.mem_of_getElem? (i := 62) (by decide +kernel), rfl⟩, by decide +kernel⟩
theorem mv_X4_countOf : MV yX4_countOf 4 := ⟨⟨List.mem_of_getElem? (i := 645) (by decide +kernel), rfl⟩, ⟨List.mem_of_getElem? (i := 646) (by decide +kernel), rfl⟩, _, _, rfl⟩
set_option maxRecDepth 40000 in
theorem ms_X4_firstRowFrom : MS yX4_firstRowFrom cX4_firstRowFrom 3 (some .int) 1 := ⟨⟨List.mem_of_getElem? (i := 365) rfl, rfl⟩, ⟨List.mem_of_getElem? (i := 62) (by decide +kernel), rfl⟩, by decide +kernel⟩
theorem mv_X4_firstRowFrom : MV yX4_firstRowFrom 4 := ⟨⟨List.mem_of_getElem? (i := 364) (by decide +kernel), rfl⟩, ⟨List.mem_of_getElem? (i := 4) (by decide +kernel), rfl⟩, _, _, rfl⟩
set_option maxRecDepth 40000 in
theorem ms_X4_init : MS yX4_init cX4_init 1 none 0 := ⟨⟨List.mem_of_getElem? (i := 180) rfl, rfl⟩, ⟨List.mem_of_getElem? (i := 62) (by decide +kernel), rfl⟩, by decide +kernel⟩
theorem mi_X4_init : MI yX4_init := ⟨rfl, List.mem_of_getElem? (i := 179) (by decide +kernel), rfl⟩
set_option maxRecDepth 40000 in
theorem ms_X4_insert : MS yX4_insert cX4_insert 4 none 3 := ⟨⟨List.mem_of_getElem? (i := 369) rfl, rfl⟩, ⟨List.mem_of_getElem? (i := 62) (by decide +kernel), rfl⟩, by decide +kernel⟩
theorem mv_X4_insert : MV yX4_insert 4 := ⟨⟨List.mem_of_getElem? (i := 368) (by decide +kernel), rfl⟩, ⟨List.mem_of_getElem? (i := 5) (by decide +kernel), rfl⟩, _, _, rfl⟩
set_option maxRecDepth 40000 in
theorem ms_X4_makeRoom : MS yX4_makeRoom cX4_makeRoom 3 none 1 := ⟨⟨List.mem_of_getElem? (i := 321) rfl, rfl⟩, ⟨List.mem_of_getElem? (i := 62) (by decide +kernel), rfl⟩, by decide +kernel⟩
theorem mv_X4_makeRoom : MV yX4_makeRoom 4 := ⟨⟨List.mem_of_getElem? (i := 320) (by decide +kernel), rfl⟩, ⟨List.mem_of_getElem? (i := 3) (by decide +kernel), rfl⟩, _, _, rfl⟩
set_option maxRecDepth 40000 in
theorem ms_X4_remove : MS yX4_remove cX4_remove 2 none 1 := ⟨⟨List.mem_of_getElem? (i := 373) rfl, rfl⟩, ⟨List.mem_of_getElem? (i := 62) (by decide +kernel), rfl⟩, by decide +kernel⟩
theorem mv_X4_remove : MV yX4_remove 4 := ⟨⟨List.mem_of_getElem? (i := 372) (by decide +kernel), rfl⟩, ⟨List.mem_of_getElem? (i := 6) (by decide +kernel), rfl⟩, _, _, rfl⟩
set_option maxRecDepth 40000 in
theorem ms_X4_rowOf : MS yX4_rowOf cX4_rowOf 3 (some .int) 1 := ⟨⟨List.mem_of_getElem? (i := 589) rfl, rfl⟩, ⟨List.mem_of_getElem? (i := 62) (by decide +kernel), rfl⟩, by decide +kernel⟩
theorem mv_X4_rowOf : MV yX4_rowOf 4 := ⟨⟨List.mem_of_getElem? (i := 587) (by decide +kernel), rfl⟩, ⟨List.mem_of_getElem? (i := 588) (by decide +kernel), rfl⟩, _, _, rfl⟩
set_option maxRecDepth 40000 in
theorem ms_X5_addPlace : MS yX5_addPlace cX5_addPlace 4 none 2 := ⟨⟨List.mem_of_getElem? (i := 471) rfl, rfl⟩, ⟨List.mem_of_getElem? (i := 57) (by decide +kernel), rfl⟩, by decide +kernel⟩
theorem mv_X5_addPlace : MV yX5_addPlace 5 := ⟨⟨List.mem_of_getElem? (i := 470) (by decide +kernel), rfl⟩, ⟨List.mem_of_getElem? (i := 12) (by decide +kernel), rfl⟩, _, _, rfl⟩
set_option maxRecDepth 40000 in
theorem ms_X5_forget : MS yX5_forget cX5_forget 1 none 0 := ⟨⟨List.mem_of_getElem? (i := 346) rfl, rfl⟩, ⟨List.mem_of_getElem? (i := 57) (by decide +kernel), rfl⟩, by decide +kernel⟩
theorem mv_X5_forget : MV yX5_forget 5 := ⟨⟨List.mem_of_getElem? (i := 344) (by decide +kernel), rfl⟩, ⟨List.mem_of_getElem? (i := 345) (by decide +kernel), rfl⟩, _, _, rfl⟩
set_option maxRecDepth 40000 in
theorem ms_X5_init : MS yX5_init cX5_init 1 none 0 := ⟨⟨List.mem_of_getElem? (i := 82) rfl, rfl⟩, ⟨List.mem_of_getElem? (i := 57) (by decide +kernel), rfl⟩, by decide +kernel⟩
theorem mi_X5_init : MI yX5_init := ⟨rfl, List.mem_of_getElem? (i := 81) (by decide +kernel), rfl⟩
set_option maxRecDepth 40000 in
theorem ms_X5_lead : MS yX5_lead cX5_lead 6 (some .boolean) 3 := ⟨⟨List.mem_of_getElem? (i := 446) rfl, rfl⟩, ⟨List.mem_of_getElem? (i := 57) (by decide +kernel), rfl⟩, by decide +kernel⟩
theorem mv_X5_lead : MV yX5_lead 5 := ⟨⟨List.mem_of_getElem? (i := 444) (by decide +kernel), rfl⟩, ⟨List.mem_of_getElem? (i := 445) (by decide +kernel), rfl⟩, _, _, rfl⟩
set_option maxRecDepth 40000 in
theorem ms_X5_leastCounters : MS yX5_leastCounters cX5_leastCounters 5 (some .int) 3 := ⟨⟨List.mem_of_getElem? (i := 450) rfl, rfl⟩, ⟨List.mem_of_getElem? (i := 57) (by decide +kernel), rfl⟩, by decide +kernel⟩
theorem mv_X5_leastCounters : MV yX5_leastCounters 5 := ⟨⟨List.mem_of_getElem? (i := 448) (by decide +kernel), rfl⟩, ⟨List.mem_of_getElem? (i := 449) (by decide +kernel), rfl⟩, _, _, rfl⟩
set_option maxRecDepth 40000 in
theorem ms_X5_makeRows : MS yX5_makeRows cX5_makeRows 1 none 0 := ⟨⟨List.mem_of_getElem? (i := 457) rfl, rfl⟩, ⟨List.mem_of_getElem? (i := 57) (by decide +kernel), rfl⟩, by decide +kernel⟩
theorem mv_X5_makeRows : MV yX5_makeRows 5 := ⟨⟨List.mem_of_getElem? (i := 456) (by decide +kernel), rfl⟩, ⟨List.mem_of_getElem? (i := 10) (by decide +kernel), rfl⟩, _, _, rfl⟩
set_option maxRecDepth 40000 in
theorem ms_X5_search : MS yX5_search cX5_search 8 none 2 := ⟨⟨List.mem_of_getElem? (i := 461) rfl, rfl⟩, ⟨List.mem_of_getElem? (i := 57) (by decide +kernel), rfl⟩, by decide +kernel⟩
theorem mv_X5_search : MV yX5_search 5 := ⟨⟨List.mem_of_getElem? (i := 460) (by decide +kernel), rfl⟩, ⟨List.mem_of_getElem? (i := 11) (by decide +kernel), rfl⟩, _, _, rfl⟩
set_option maxRecDepth 40000 in
theorem ms_X6_copyFrom : MS yX6_copyFrom cX6_copyFrom 2 none 1 := ⟨⟨List.mem_of_getElem? (i := 312) rfl, rfl⟩, ⟨List.mem_of_getElem? (i := 61) (by decide +kernel), rfl⟩, by decide +kernel⟩
theorem mv_X6_copyFrom : MV yX6_copyFrom 6 := ⟨⟨List.mem_of_getElem? (i := 310) (by decide +kernel), rfl⟩, ⟨List.mem_of_getElem? (i := 311) (by decide +kernel), rfl⟩, _, _, rfl⟩
set_option maxRecDepth 40000 in
theorem ms_X6_countAt : MS yX6_countAt cX6_countAt 5 (some .int) 2 := ⟨⟨List.mem_of_getElem? (i := 635) rfl, rfl⟩, ⟨List.mem_of_getElem? (i := 61) (by decide +kernel), rfl⟩, by decide +kernel⟩
theorem mv_X6_countAt : MV yX6_countAt 6 := ⟨⟨List.mem_of_getElem? (i := 633) (by decide +kernel), rfl⟩, ⟨List.mem_of_getElem? (i := 634) (by decide +kernel), rfl⟩, _, _, rfl⟩
set_option maxRecDepth 40000 in
theorem ms_X6_init : MS yX6_init cX6_init 1 none 0 := ⟨⟨List.mem_of_getElem? (i := 164) rfl, rfl⟩, ⟨List.mem_of_getElem? (i := 61) (by decide +kernel), rfl⟩, by decide +kernel⟩
theorem mi_X6_init : MI yX6_init := ⟨rfl, List.mem_of_getElem? (i := 163) (by decide +kernel), rfl⟩
set_option maxRecDepth 40000 in
theorem ms_X6_isFull : MS yX6_isFull cX6_isFull 2 (some .boolean) 1 := ⟨⟨List.mem_of_getElem? (i := 550) rfl, rfl⟩, ⟨List.mem_of_getElem? (i := 61) (by decide +kernel), rfl⟩, by decide +kernel⟩
theorem mv_X6_isFull : MV yX6_isFull 6 := ⟨⟨List.mem_of_getElem? (i := 548) (by decide +kernel), rfl⟩, ⟨List.mem_of_getElem? (i := 549) (by decide +kernel), rfl⟩, _, _, rfl⟩
set_option maxRecDepth 40000 in
theorem ms_X6_put : MS yX6_put cX6_put 3 none 2 := ⟨⟨List.mem_of_getElem? (i := 564) rfl, rfl⟩, ⟨List.mem_of_getElem? (i := 61) (by decide +kernel), rfl⟩, by decide +kernel⟩
theorem mv_X6_put : MV yX6_put 6 := ⟨⟨List.mem_of_getElem? (i := 562) (by decide +kernel), rfl⟩, ⟨List.mem_of_getElem? (i := 563) (by decide +kernel), rfl⟩, _, _, rfl⟩
set_option maxRecDepth 40000 in
theorem ms_X6_remove : MS yX6_remove cX6_remove 4 none 2 := ⟨⟨List.mem_of_getElem? (i := 597) rfl, rfl⟩, ⟨List.mem_of_getElem? (i := 61) (by decide +kernel), rfl⟩, by decide +kernel⟩
theorem mv_X6_remove : MV yX6_remove 6 := ⟨⟨List.mem_of_getElem? (i := 595) (by decide +kernel), rfl⟩, ⟨List.mem_of_getElem? (i := 596) (by decide +kernel), rfl⟩, _, _, rfl⟩
set_option maxRecDepth 40000 in
theorem ms_X6_sizeOf : MS yX6_sizeOf cX6_sizeOf 2 (some .int) 1 := ⟨⟨List.mem_of_getElem? (i := 581) rfl, rfl⟩, ⟨List.mem_of_getElem? (i := 61) (by decide +kernel), rfl⟩, by decide +kernel⟩
theorem mv_X6_sizeOf : MV yX6_sizeOf 6 := ⟨⟨List.mem_of_getElem? (i := 579) (by decide +kernel), rfl⟩, ⟨List.mem_of_getElem? (i := 580) (by decide +kernel), rfl⟩, _, _, rfl⟩
set_option maxRecDepth 40000 in
theorem ms_X6_stampAt : MS yX6_stampAt cX6_stampAt 3 (some .int) 2 := ⟨⟨List.mem_of_getElem? (i := 585) rfl, rfl⟩, ⟨List.mem_of_getElem? (i := 61) (by decide +kernel), rfl⟩, by decide +kernel⟩
theorem mv_X6_stampAt : MV yX6_stampAt 6 := ⟨⟨List.mem_of_getElem? (i := 583) (by decide +kernel), rfl⟩, ⟨List.mem_of_getElem? (i := 584) (by decide +kernel), rfl⟩, _, _, rfl⟩
set_option maxRecDepth 40000 in
theorem ms_X7_active : MS yX7_active cX7_active 2 (some .int) 1 := ⟨⟨List.mem_of_getElem? (i := 652) rfl, rfl⟩, ⟨List.mem_of_getElem? (i := 56) (by decide +kernel), rfl⟩, by decide +kernel⟩
theorem mv_X7_active : MV yX7_active 7 := ⟨⟨List.mem_of_getElem? (i := 650) (by decide +kernel), rfl⟩, ⟨List.mem_of_getElem? (i := 651) (by decide +kernel), rfl⟩, _, _, rfl⟩
set_option maxRecDepth 40000 in
theorem ms_X7_addEdge : MS yX7_addEdge cX7_addEdge 5 (some .int) 3 := ⟨⟨List.mem_of_getElem? (i := 377) rfl, rfl⟩, ⟨List.mem_of_getElem? (i := 56) (by decide +kernel), rfl⟩, by decide +kernel⟩
theorem mv_X7_addEdge : MV yX7_addEdge 7 := ⟨⟨List.mem_of_getElem? (i := 375) (by decide +kernel), rfl⟩, ⟨List.mem_of_getElem? (i := 376) (by decide +kernel), rfl⟩, _, _, rfl⟩
set_option maxRecDepth 40000 in
theorem ms_X7_addNode : MS yX7_addNode cX7_addNode 3 (some .int) 2 := ⟨⟨List.mem_of_getElem? (i := 277) rfl, rfl⟩, ⟨List.mem_of_getElem? (i := 56) (by decide +kernel), rfl⟩, by decide +kernel⟩
theorem mv_X7_addNode : MV yX7_addNode 7 := ⟨⟨List.mem_of_getElem? (i := 275) (by decide +kernel), rfl⟩, ⟨List.mem_of_getElem? (i := 276) (by decide +kernel), rfl⟩, _, _, rfl⟩
set_option maxRecDepth 40000 in
theorem ms_X7_advance : MS yX7_advance cX7_advance 3 (some .int) 1 := ⟨⟨List.mem_of_getElem? (i := 522) rfl, rfl⟩, ⟨List.mem_of_getElem? (i := 56) (by decide +kernel), rfl⟩, by decide +kernel⟩
theorem mv_X7_advance : MV yX7_advance 7 := ⟨⟨List.mem_of_getElem? (i := 520) (by decide +kernel), rfl⟩, ⟨List.mem_of_getElem? (i := 521) (by decide +kernel), rfl⟩, _, _, rfl⟩
set_option maxRecDepth 40000 in
theorem ms_X7_beginEvent : MS yX7_beginEvent cX7_beginEvent 1 none 0 := ⟨⟨List.mem_of_getElem? (i := 498) rfl, rfl⟩, ⟨List.mem_of_getElem? (i := 56) (by decide +kernel), rfl⟩, by decide +kernel⟩
theorem mv_X7_beginEvent : MV yX7_beginEvent 7 := ⟨⟨List.mem_of_getElem? (i := 497) (by decide +kernel), rfl⟩, ⟨List.mem_of_getElem? (i := 13) (by decide +kernel), rfl⟩, _, _, rfl⟩
set_option maxRecDepth 40000 in
theorem ms_X7_close : MS yX7_close cX7_close 3 (some .int) 1 := ⟨⟨List.mem_of_getElem? (i := 527) rfl, rfl⟩, ⟨List.mem_of_getElem? (i := 56) (by decide +kernel), rfl⟩, by decide +kernel⟩
theorem mv_X7_close : MV yX7_close 7 := ⟨⟨List.mem_of_getElem? (i := 525) (by decide +kernel), rfl⟩, ⟨List.mem_of_getElem? (i := 526) (by decide +kernel), rfl⟩, _, _, rfl⟩
set_option maxRecDepth 40000 in
theorem ms_X7_couldResultIn : MS yX7_couldResultIn cX7_couldResultIn 5 (some .int) 4 := ⟨⟨List.mem_of_getElem? (i := 441) rfl, rfl⟩, ⟨List.mem_of_getElem? (i := 56) (by decide +kernel), rfl⟩, by decide +kernel⟩
theorem mv_X7_couldResultIn : MV yX7_couldResultIn 7 := ⟨⟨List.mem_of_getElem? (i := 439) (by decide +kernel), rfl⟩, ⟨List.mem_of_getElem? (i := 440) (by decide +kernel), rfl⟩, _, _, rfl⟩
set_option maxRecDepth 40000 in
theorem ms_X7_count : MS yX7_count cX7_count 4 (some .int) 3 := ⟨⟨List.mem_of_getElem? (i := 643) rfl, rfl⟩, ⟨List.mem_of_getElem? (i := 56) (by decide +kernel), rfl⟩, by decide +kernel⟩
theorem mv_X7_count : MV yX7_count 7 := ⟨⟨List.mem_of_getElem? (i := 641) (by decide +kernel), rfl⟩, ⟨List.mem_of_getElem? (i := 642) (by decide +kernel), rfl⟩, _, _, rfl⟩
set_option maxRecDepth 40000 in
theorem ms_X7_countersOf : MS yX7_countersOf cX7_countersOf 1 (some .int) 1 := ⟨⟨List.mem_of_getElem? (i := 453) rfl, rfl⟩, ⟨List.mem_of_getElem? (i := 56) (by decide +kernel), rfl⟩, by decide +kernel⟩
theorem mt_X7_countersOf : MT yX7_countersOf := ⟨List.mem_of_getElem? (i := 452) (by decide +kernel), rfl⟩
set_option maxRecDepth 40000 in
theorem ms_X7_deliver : MS yX7_deliver cX7_deliver 7 (some .int) 4 := ⟨⟨List.mem_of_getElem? (i := 573) rfl, rfl⟩, ⟨List.mem_of_getElem? (i := 56) (by decide +kernel), rfl⟩, by decide +kernel⟩
theorem mv_X7_deliver : MV yX7_deliver 7 := ⟨⟨List.mem_of_getElem? (i := 571) (by decide +kernel), rfl⟩, ⟨List.mem_of_getElem? (i := 572) (by decide +kernel), rfl⟩, _, _, rfl⟩
set_option maxRecDepth 40000 in
theorem ms_X7_deliverable : MS yX7_deliverable cX7_deliverable 3 (some .int) 2 := ⟨⟨List.mem_of_getElem? (i := 639) rfl, rfl⟩, ⟨List.mem_of_getElem? (i := 56) (by decide +kernel), rfl⟩, by decide +kernel⟩
theorem mv_X7_deliverable : MV yX7_deliverable 7 := ⟨⟨List.mem_of_getElem? (i := 637) (by decide +kernel), rfl⟩, ⟨List.mem_of_getElem? (i := 638) (by decide +kernel), rfl⟩, _, _, rfl⟩
set_option maxRecDepth 40000 in
theorem ms_X7_delivered : MS yX7_delivered cX7_delivered 1 (some .int) 0 := ⟨⟨List.mem_of_getElem? (i := 668) rfl, rfl⟩, ⟨List.mem_of_getElem? (i := 56) (by decide +kernel), rfl⟩, by decide +kernel⟩
theorem mv_X7_delivered : MV yX7_delivered 7 := ⟨⟨List.mem_of_getElem? (i := 666) (by decide +kernel), rfl⟩, ⟨List.mem_of_getElem? (i := 667) (by decide +kernel), rfl⟩, _, _, rfl⟩
set_option maxRecDepth 40000 in
theorem ms_X7_digest : MS yX7_digest cX7_digest 4 (some .long) 0 := ⟨⟨List.mem_of_getElem? (i := 688) rfl, rfl⟩, ⟨List.mem_of_getElem? (i := 56) (by decide +kernel), rfl⟩, by decide +kernel⟩
theorem mv_X7_digest : MV yX7_digest 7 := ⟨⟨List.mem_of_getElem? (i := 686) (by decide +kernel), rfl⟩, ⟨List.mem_of_getElem? (i := 687) (by decide +kernel), rfl⟩, _, _, rfl⟩
set_option maxRecDepth 40000 in
theorem ms_X7_dropOldest : MS yX7_dropOldest cX7_dropOldest 3 none 0 := ⟨⟨List.mem_of_getElem? (i := 292) rfl, rfl⟩, ⟨List.mem_of_getElem? (i := 56) (by decide +kernel), rfl⟩, by decide +kernel⟩
theorem mv_X7_dropOldest : MV yX7_dropOldest 7 := ⟨⟨List.mem_of_getElem? (i := 291) (by decide +kernel), rfl⟩, ⟨List.mem_of_getElem? (i := 2) (by decide +kernel), rfl⟩, _, _, rfl⟩
set_option maxRecDepth 40000 in
theorem ms_X7_earliest : MS yX7_earliest cX7_earliest 5 (some .int) 3 := ⟨⟨List.mem_of_getElem? (i := 476) rfl, rfl⟩, ⟨List.mem_of_getElem? (i := 56) (by decide +kernel), rfl⟩, by decide +kernel⟩
theorem mv_X7_earliest : MV yX7_earliest 7 := ⟨⟨List.mem_of_getElem? (i := 474) (by decide +kernel), rfl⟩, ⟨List.mem_of_getElem? (i := 475) (by decide +kernel), rfl⟩, _, _, rfl⟩
set_option maxRecDepth 40000 in
theorem ms_X7_errorCount : MS yX7_errorCount cX7_errorCount 2 (some .int) 1 := ⟨⟨List.mem_of_getElem? (i := 684) rfl, rfl⟩, ⟨List.mem_of_getElem? (i := 56) (by decide +kernel), rfl⟩, by decide +kernel⟩
theorem mv_X7_errorCount : MV yX7_errorCount 7 := ⟨⟨List.mem_of_getElem? (i := 682) (by decide +kernel), rfl⟩, ⟨List.mem_of_getElem? (i := 683) (by decide +kernel), rfl⟩, _, _, rfl⟩
set_option maxRecDepth 40000 in
theorem ms_X7_fail : MS yX7_fail cX7_fail 2 (some .int) 1 := ⟨⟨List.mem_of_getElem? (i := 284) rfl, rfl⟩, ⟨List.mem_of_getElem? (i := 56) (by decide +kernel), rfl⟩, by decide +kernel⟩
theorem mv_X7_fail : MV yX7_fail 7 := ⟨⟨List.mem_of_getElem? (i := 283) (by decide +kernel), rfl⟩, ⟨List.mem_of_getElem? (i := 0) (by decide +kernel), rfl⟩, _, _, rfl⟩
set_option maxRecDepth 40000 in
theorem ms_X7_frontier : MS yX7_frontier cX7_frontier 6 (some .int) 2 := ⟨⟨List.mem_of_getElem? (i := 660) rfl, rfl⟩, ⟨List.mem_of_getElem? (i := 56) (by decide +kernel), rfl⟩, by decide +kernel⟩
theorem mv_X7_frontier : MV yX7_frontier 7 := ⟨⟨List.mem_of_getElem? (i := 658) (by decide +kernel), rfl⟩, ⟨List.mem_of_getElem? (i := 659) (by decide +kernel), rfl⟩, _, _, rfl⟩
set_option maxRecDepth 40000 in
theorem ms_X7_init : MS yX7_init cX7_init 2 none 0 := ⟨⟨List.mem_of_getElem? (i := 72) rfl, rfl⟩, ⟨List.mem_of_getElem? (i := 56) (by decide +kernel), rfl⟩, by decide +kernel⟩
theorem mi_X7_init : MI yX7_init := ⟨rfl, List.mem_of_getElem? (i := 71) (by decide +kernel), rfl⟩
set_option maxRecDepth 40000 in
theorem ms_X7_isFlag : MS yX7_isFlag cX7_isFlag 1 (some .boolean) 1 := ⟨⟨List.mem_of_getElem? (i := 280) rfl, rfl⟩, ⟨List.mem_of_getElem? (i := 56) (by decide +kernel), rfl⟩, by decide +kernel⟩
theorem mt_X7_isFlag : MT yX7_isFlag := ⟨List.mem_of_getElem? (i := 279) (by decide +kernel), rfl⟩
set_option maxRecDepth 40000 in
theorem ms_X7_isOnFrontier : MS yX7_isOnFrontier cX7_isOnFrontier 5 (some .boolean) 2 := ⟨⟨List.mem_of_getElem? (i := 593) rfl, rfl⟩, ⟨List.mem_of_getElem? (i := 56) (by decide +kernel), rfl⟩, by decide +kernel⟩
theorem mv_X7_isOnFrontier : MV yX7_isOnFrontier 7 := ⟨⟨List.mem_of_getElem? (i := 592) (by decide +kernel), rfl⟩, ⟨List.mem_of_getElem? (i := 16) (by decide +kernel), rfl⟩, _, _, rfl⟩
set_option maxRecDepth 40000 in
theorem ms_X7_isWorker : MS yX7_isWorker cX7_isWorker 1 (some .boolean) 1 := ⟨⟨List.mem_of_getElem? (i := 486) rfl, rfl⟩, ⟨List.mem_of_getElem? (i := 56) (by decide +kernel), rfl⟩, by decide +kernel⟩
theorem mt_X7_isWorker : MT yX7_isWorker := ⟨List.mem_of_getElem? (i := 485) (by decide +kernel), rfl⟩
set_option maxRecDepth 40000 in
theorem ms_X7_kind : MS yX7_kind cX7_kind 2 (some .int) 1 := ⟨⟨List.mem_of_getElem? (i := 415) rfl, rfl⟩, ⟨List.mem_of_getElem? (i := 56) (by decide +kernel), rfl⟩, by decide +kernel⟩
theorem mv_X7_kind : MV yX7_kind 7 := ⟨⟨List.mem_of_getElem? (i := 413) (by decide +kernel), rfl⟩, ⟨List.mem_of_getElem? (i := 414) (by decide +kernel), rfl⟩, _, _, rfl⟩
set_option maxRecDepth 40000 in
theorem ms_X7_leastDeliverable : MS yX7_leastDeliverable cX7_leastDeliverable 10 (some .int) 2 := ⟨⟨List.mem_of_getElem? (i := 577) rfl, rfl⟩, ⟨List.mem_of_getElem? (i := 56) (by decide +kernel), rfl⟩, by decide +kernel⟩
theorem mv_X7_leastDeliverable : MV yX7_leastDeliverable 7 := ⟨⟨List.mem_of_getElem? (i := 576) (by decide +kernel), rfl⟩, ⟨List.mem_of_getElem? (i := 15) (by decide +kernel), rfl⟩, _, _, rfl⟩
set_option maxRecDepth 40000 in
theorem ms_X7_markFrontier : MS yX7_markFrontier cX7_markFrontier 4 (some .int) 1 := ⟨⟨List.mem_of_getElem? (i := 713) rfl, rfl⟩, ⟨List.mem_of_getElem? (i := 56) (by decide +kernel), rfl⟩, by decide +kernel⟩
theorem mv_X7_markFrontier : MV yX7_markFrontier 7 := ⟨⟨List.mem_of_getElem? (i := 712) (by decide +kernel), rfl⟩, ⟨List.mem_of_getElem? (i := 21) (by decide +kernel), rfl⟩, _, _, rfl⟩
set_option maxRecDepth 40000 in
theorem ms_X7_messageTime : MS yX7_messageTime cX7_messageTime 4 (some .int) 3 := ⟨⟨List.mem_of_getElem? (i := 623) rfl, rfl⟩, ⟨List.mem_of_getElem? (i := 56) (by decide +kernel), rfl⟩, by decide +kernel⟩
theorem mv_X7_messageTime : MV yX7_messageTime 7 := ⟨⟨List.mem_of_getElem? (i := 621) (by decide +kernel), rfl⟩, ⟨List.mem_of_getElem? (i := 622) (by decide +kernel), rfl⟩, _, _, rfl⟩
set_option maxRecDepth 40000 in
theorem ms_X7_messages : MS yX7_messages cX7_messages 3 (some .int) 2 := ⟨⟨List.mem_of_getElem? (i := 619) rfl, rfl⟩, ⟨List.mem_of_getElem? (i := 56) (by decide +kernel), rfl⟩, by decide +kernel⟩
theorem mv_X7_messages : MV yX7_messages 7 := ⟨⟨List.mem_of_getElem? (i := 617) (by decide +kernel), rfl⟩, ⟨List.mem_of_getElem? (i := 618) (by decide +kernel), rfl⟩, _, _, rfl⟩
set_option maxRecDepth 40000 in
theorem ms_X7_mix : MS yX7_mix cX7_mix 3 (some .long) 2 := ⟨⟨List.mem_of_getElem? (i := 692) rfl, rfl⟩, ⟨List.mem_of_getElem? (i := 56) (by decide +kernel), rfl⟩, by decide +kernel⟩
theorem mt_X7_mix : MT yX7_mix := ⟨List.mem_of_getElem? (i := 691) (by decide +kernel), rfl⟩
set_option maxRecDepth 40000 in
theorem ms_X7_mixGraph : MS yX7_mixGraph cX7_mixGraph 7 (some .long) 1 := ⟨⟨List.mem_of_getElem? (i := 697) rfl, rfl⟩, ⟨List.mem_of_getElem? (i := 56) (by decide +kernel), rfl⟩, by decide +kernel⟩
theorem mv_X7_mixGraph : MV yX7_mixGraph 7 := ⟨⟨List.mem_of_getElem? (i := 696) (by decide +kernel), rfl⟩, ⟨List.mem_of_getElem? (i := 17) (by decide +kernel), rfl⟩, _, _, rfl⟩
set_option maxRecDepth 40000 in
theorem ms_X7_mixMail : MS yX7_mixMail cX7_mixMail 9 (some .long) 2 := ⟨⟨List.mem_of_getElem? (i := 701) rfl, rfl⟩, ⟨List.mem_of_getElem? (i := 56) (by decide +kernel), rfl⟩, by decide +kernel⟩
theorem mv_X7_mixMail : MV yX7_mixMail 7 := ⟨⟨List.mem_of_getElem? (i := 700) (by decide +kernel), rfl⟩, ⟨List.mem_of_getElem? (i := 18) (by decide +kernel), rfl⟩, _, _, rfl⟩
set_option maxRecDepth 40000 in
theorem ms_X7_mixNotifications : MS yX7_mixNotifications cX7_mixNotifications 7 (some .long) 2 := ⟨⟨List.mem_of_getElem? (i := 705) rfl, rfl⟩, ⟨List.mem_of_getElem? (i := 56) (by decide +kernel), rfl⟩, by decide +kernel⟩
theorem mv_X7_mixNotifications : MV yX7_mixNotifications 7 := ⟨⟨List.mem_of_getElem? (i := 704) (by decide +kernel), rfl⟩, ⟨List.mem_of_getElem? (i := 19) (by decide +kernel), rfl⟩, _, _, rfl⟩
set_option maxRecDepth 40000 in
theorem ms_X7_mixView : MS yX7_mixView cX7_mixView 9 (some .long) 2 := ⟨⟨List.mem_of_getElem? (i := 709) rfl, rfl⟩, ⟨List.mem_of_getElem? (i := 56) (by decide +kernel), rfl⟩, by decide +kernel⟩
theorem mv_X7_mixView : MV yX7_mixView 7 := ⟨⟨List.mem_of_getElem? (i := 708) (by decide +kernel), rfl⟩, ⟨List.mem_of_getElem? (i := 20) (by decide +kernel), rfl⟩, _, _, rfl⟩
set_option maxRecDepth 40000 in
theorem ms_X7_move : MS yX7_move cX7_move 3 (some .int) 2 := ⟨⟨List.mem_of_getElem? (i := 423) rfl, rfl⟩, ⟨List.mem_of_getElem? (i := 56) (by decide +kernel), rfl⟩, by decide +kernel⟩
theorem mv_X7_move : MV yX7_move 7 := ⟨⟨List.mem_of_getElem? (i := 421) (by decide +kernel), rfl⟩, ⟨List.mem_of_getElem? (i := 422) (by decide +kernel), rfl⟩, _, _, rfl⟩
set_option maxRecDepth 40000 in
theorem ms_X7_pending : MS yX7_pending cX7_pending 2 (some .int) 1 := ⟨⟨List.mem_of_getElem? (i := 664) rfl, rfl⟩, ⟨List.mem_of_getElem? (i := 56) (by decide +kernel), rfl⟩, by decide +kernel⟩
theorem mv_X7_pending : MV yX7_pending 7 := ⟨⟨List.mem_of_getElem? (i := 662) (by decide +kernel), rfl⟩, ⟨List.mem_of_getElem? (i := 663) (by decide +kernel), rfl⟩, _, _, rfl⟩
set_option maxRecDepth 40000 in
theorem ms_X7_process : MS yX7_process cX7_process 10 (some .int) 5 := ⟨⟨List.mem_of_getElem? (i := 531) rfl, rfl⟩, ⟨List.mem_of_getElem? (i := 56) (by decide +kernel), rfl⟩, by decide +kernel⟩
theorem mv_X7_process : MV yX7_process 7 := ⟨⟨List.mem_of_getElem? (i := 529) (by decide +kernel), rfl⟩, ⟨List.mem_of_getElem? (i := 530) (by decide +kernel), rfl⟩, _, _, rfl⟩
set_option maxRecDepth 40000 in
theorem ms_X7_receive : MS yX7_receive cX7_receive 3 (some .int) 2 := ⟨⟨List.mem_of_getElem? (i := 609) rfl, rfl⟩, ⟨List.mem_of_getElem? (i := 56) (by decide +kernel), rfl⟩, by decide +kernel⟩
theorem mv_X7_receive : MV yX7_receive 7 := ⟨⟨List.mem_of_getElem? (i := 607) (by decide +kernel), rfl⟩, ⟨List.mem_of_getElem? (i := 608) (by decide +kernel), rfl⟩, _, _, rfl⟩
set_option maxRecDepth 40000 in
theorem ms_X7_requests : MS yX7_requests cX7_requests 3 (some .int) 2 := ⟨⟨List.mem_of_getElem? (i := 631) rfl, rfl⟩, ⟨List.mem_of_getElem? (i := 56) (by decide +kernel), rfl⟩, by decide +kernel⟩
theorem mv_X7_requests : MV yX7_requests 7 := ⟨⟨List.mem_of_getElem? (i := 629) (by decide +kernel), rfl⟩, ⟨List.mem_of_getElem? (i := 630) (by decide +kernel), rfl⟩, _, _, rfl⟩
set_option maxRecDepth 40000 in
theorem ms_X7_save : MS yX7_save cX7_save 1 none 0 := ⟨⟨List.mem_of_getElem? (i := 288) rfl, rfl⟩, ⟨List.mem_of_getElem? (i := 56) (by decide +kernel), rfl⟩, by decide +kernel⟩
theorem mv_X7_save : MV yX7_save 7 := ⟨⟨List.mem_of_getElem? (i := 287) (by decide +kernel), rfl⟩, ⟨List.mem_of_getElem? (i := 1) (by decide +kernel), rfl⟩, _, _, rfl⟩
set_option maxRecDepth 40000 in
theorem ms_X7_send : MS yX7_send cX7_send 5 (some .int) 2 := ⟨⟨List.mem_of_getElem? (i := 483) rfl, rfl⟩, ⟨List.mem_of_getElem? (i := 56) (by decide +kernel), rfl⟩, by decide +kernel⟩
theorem mv_X7_send : MV yX7_send 7 := ⟨⟨List.mem_of_getElem? (i := 481) (by decide +kernel), rfl⟩, ⟨List.mem_of_getElem? (i := 482) (by decide +kernel), rfl⟩, _, _, rfl⟩
set_option maxRecDepth 40000 in
theorem ms_X7_stampOf : MS yX7_stampOf cX7_stampOf 2 (some .int) 2 := ⟨⟨List.mem_of_getElem? (i := 357) rfl, rfl⟩, ⟨List.mem_of_getElem? (i := 56) (by decide +kernel), rfl⟩, by decide +kernel⟩
theorem mt_X7_stampOf : MT yX7_stampOf := ⟨List.mem_of_getElem? (i := 356) (by decide +kernel), rfl⟩
set_option maxRecDepth 40000 in
theorem ms_X7_undo : MS yX7_undo cX7_undo 2 (some .int) 0 := ⟨⟨List.mem_of_getElem? (i := 676) rfl, rfl⟩, ⟨List.mem_of_getElem? (i := 56) (by decide +kernel), rfl⟩, by decide +kernel⟩
theorem mv_X7_undo : MV yX7_undo 7 := ⟨⟨List.mem_of_getElem? (i := 674) (by decide +kernel), rfl⟩, ⟨List.mem_of_getElem? (i := 675) (by decide +kernel), rfl⟩, _, _, rfl⟩
set_option maxRecDepth 40000 in
theorem ms_X7_violations : MS yX7_violations cX7_violations 1 (some .int) 0 := ⟨⟨List.mem_of_getElem? (i := 672) rfl, rfl⟩, ⟨List.mem_of_getElem? (i := 56) (by decide +kernel), rfl⟩, by decide +kernel⟩
theorem mv_X7_violations : MV yX7_violations 7 := ⟨⟨List.mem_of_getElem? (i := 670) (by decide +kernel), rfl⟩, ⟨List.mem_of_getElem? (i := 671) (by decide +kernel), rfl⟩, _, _, rfl⟩
set_option maxRecDepth 40000 in
theorem ms_X8_active : MS yX8_active cX8_active 2 (some .int) 1 := ⟨⟨List.mem_of_getElem? (i := 975) rfl, rfl⟩, ⟨List.mem_of_getElem? (i := 65) (by decide +kernel), rfl⟩, by decide +kernel⟩
theorem mv_X8_active : MV yX8_active 8 := ⟨⟨List.mem_of_getElem? (i := 973) (by decide +kernel), rfl⟩, ⟨List.mem_of_getElem? (i := 974) (by decide +kernel), rfl⟩, _, _, rfl⟩
set_option maxRecDepth 40000 in
theorem ms_X8_addEdge : MS yX8_addEdge cX8_addEdge 4 (some .int) 3 := ⟨⟨List.mem_of_getElem? (i := 793) rfl, rfl⟩, ⟨List.mem_of_getElem? (i := 65) (by decide +kernel), rfl⟩, by decide +kernel⟩
theorem mv_X8_addEdge : MV yX8_addEdge 8 := ⟨⟨List.mem_of_getElem? (i := 791) (by decide +kernel), rfl⟩, ⟨List.mem_of_getElem? (i := 792) (by decide +kernel), rfl⟩, _, _, rfl⟩
set_option maxRecDepth 40000 in
theorem ms_X8_addNode : MS yX8_addNode cX8_addNode 4 (some .int) 2 := ⟨⟨List.mem_of_getElem? (i := 777) rfl, rfl⟩, ⟨List.mem_of_getElem? (i := 65) (by decide +kernel), rfl⟩, by decide +kernel⟩
theorem mv_X8_addNode : MV yX8_addNode 8 := ⟨⟨List.mem_of_getElem? (i := 775) (by decide +kernel), rfl⟩, ⟨List.mem_of_getElem? (i := 776) (by decide +kernel), rfl⟩, _, _, rfl⟩
set_option maxRecDepth 40000 in
theorem ms_X8_advance : MS yX8_advance cX8_advance 3 (some .int) 1 := ⟨⟨List.mem_of_getElem? (i := 885) rfl, rfl⟩, ⟨List.mem_of_getElem? (i := 65) (by decide +kernel), rfl⟩, by decide +kernel⟩
theorem mv_X8_advance : MV yX8_advance 8 := ⟨⟨List.mem_of_getElem? (i := 883) (by decide +kernel), rfl⟩, ⟨List.mem_of_getElem? (i := 884) (by decide +kernel), rfl⟩, _, _, rfl⟩
set_option maxRecDepth 40000 in
theorem ms_X8_areEdges : MS yX8_areEdges cX8_areEdges 2 (some .boolean) 1 := ⟨⟨List.mem_of_getElem? (i := 897) rfl, rfl⟩, ⟨List.mem_of_getElem? (i := 65) (by decide +kernel), rfl⟩, by decide +kernel⟩
theorem mv_X8_areEdges : MV yX8_areEdges 8 := ⟨⟨List.mem_of_getElem? (i := 896) (by decide +kernel), rfl⟩, ⟨List.mem_of_getElem? (i := 41) (by decide +kernel), rfl⟩, _, _, rfl⟩
set_option maxRecDepth 40000 in
theorem ms_X8_atMost : MS yX8_atMost cX8_atMost 2 (some .boolean) 2 := ⟨⟨List.mem_of_getElem? (i := 919) rfl, rfl⟩, ⟨List.mem_of_getElem? (i := 65) (by decide +kernel), rfl⟩, by decide +kernel⟩
theorem mt_X8_atMost : MT yX8_atMost := ⟨List.mem_of_getElem? (i := 918) (by decide +kernel), rfl⟩
set_option maxRecDepth 40000 in
theorem ms_X8_close : MS yX8_close cX8_close 3 (some .int) 1 := ⟨⟨List.mem_of_getElem? (i := 889) rfl, rfl⟩, ⟨List.mem_of_getElem? (i := 65) (by decide +kernel), rfl⟩, by decide +kernel⟩
theorem mv_X8_close : MV yX8_close 8 := ⟨⟨List.mem_of_getElem? (i := 887) (by decide +kernel), rfl⟩, ⟨List.mem_of_getElem? (i := 888) (by decide +kernel), rfl⟩, _, _, rfl⟩
set_option maxRecDepth 40000 in
theorem ms_X8_couldResultIn : MS yX8_couldResultIn cX8_couldResultIn 5 (some .int) 4 := ⟨⟨List.mem_of_getElem? (i := 841) rfl, rfl⟩, ⟨List.mem_of_getElem? (i := 65) (by decide +kernel), rfl⟩, by decide +kernel⟩
theorem mv_X8_couldResultIn : MV yX8_couldResultIn 8 := ⟨⟨List.mem_of_getElem? (i := 839) (by decide +kernel), rfl⟩, ⟨List.mem_of_getElem? (i := 840) (by decide +kernel), rfl⟩, _, _, rfl⟩
set_option maxRecDepth 40000 in
theorem ms_X8_count : MS yX8_count cX8_count 4 (some .int) 3 := ⟨⟨List.mem_of_getElem? (i := 971) rfl, rfl⟩, ⟨List.mem_of_getElem? (i := 65) (by decide +kernel), rfl⟩, by decide +kernel⟩
theorem mv_X8_count : MV yX8_count 8 := ⟨⟨List.mem_of_getElem? (i := 969) (by decide +kernel), rfl⟩, ⟨List.mem_of_getElem? (i := 970) (by decide +kernel), rfl⟩, _, _, rfl⟩
set_option maxRecDepth 40000 in
theorem ms_X8_deliver : MS yX8_deliver cX8_deliver 8 (some .int) 4 := ⟨⟨List.mem_of_getElem? (i := 927) rfl, rfl⟩, ⟨List.mem_of_getElem? (i := 65) (by decide +kernel), rfl⟩, by decide +kernel⟩
theorem mv_X8_deliver : MV yX8_deliver 8 := ⟨⟨List.mem_of_getElem? (i := 925) (by decide +kernel), rfl⟩, ⟨List.mem_of_getElem? (i := 926) (by decide +kernel), rfl⟩, _, _, rfl⟩
set_option maxRecDepth 40000 in
theorem ms_X8_deliverable : MS yX8_deliverable cX8_deliverable 3 (some .int) 2 := ⟨⟨List.mem_of_getElem? (i := 967) rfl, rfl⟩, ⟨List.mem_of_getElem? (i := 65) (by decide +kernel), rfl⟩, by decide +kernel⟩
theorem mv_X8_deliverable : MV yX8_deliverable 8 := ⟨⟨List.mem_of_getElem? (i := 965) (by decide +kernel), rfl⟩, ⟨List.mem_of_getElem? (i := 966) (by decide +kernel), rfl⟩, _, _, rfl⟩
set_option maxRecDepth 40000 in
theorem ms_X8_delivered : MS yX8_delivered cX8_delivered 1 (some .int) 0 := ⟨⟨List.mem_of_getElem? (i := 991) rfl, rfl⟩, ⟨List.mem_of_getElem? (i := 65) (by decide +kernel), rfl⟩, by decide +kernel⟩
theorem mv_X8_delivered : MV yX8_delivered 8 := ⟨⟨List.mem_of_getElem? (i := 989) (by decide +kernel), rfl⟩, ⟨List.mem_of_getElem? (i := 990) (by decide +kernel), rfl⟩, _, _, rfl⟩
set_option maxRecDepth 40000 in
theorem ms_X8_depthAt : MS yX8_depthAt cX8_depthAt 2 (some .int) 1 := ⟨⟨List.mem_of_getElem? (i := 833) rfl, rfl⟩, ⟨List.mem_of_getElem? (i := 65) (by decide +kernel), rfl⟩, by decide +kernel⟩
theorem mv_X8_depthAt : MV yX8_depthAt 8 := ⟨⟨List.mem_of_getElem? (i := 832) (by decide +kernel), rfl⟩, ⟨List.mem_of_getElem? (i := 32) (by decide +kernel), rfl⟩, _, _, rfl⟩
set_option maxRecDepth 40000 in
theorem ms_X8_digest : MS yX8_digest cX8_digest 2 (some .long) 0 := ⟨⟨List.mem_of_getElem? (i := 1003) rfl, rfl⟩, ⟨List.mem_of_getElem? (i := 65) (by decide +kernel), rfl⟩, by decide +kernel⟩
theorem mv_X8_digest : MV yX8_digest 8 := ⟨⟨List.mem_of_getElem? (i := 1001) (by decide +kernel), rfl⟩, ⟨List.mem_of_getElem? (i := 1002) (by decide +kernel), rfl⟩, _, _, rfl⟩
set_option maxRecDepth 40000 in
theorem ms_X8_earliest : MS yX8_earliest cX8_earliest 4 (some .int) 3 := ⟨⟨List.mem_of_getElem? (i := 857) rfl, rfl⟩, ⟨List.mem_of_getElem? (i := 65) (by decide +kernel), rfl⟩, by decide +kernel⟩
theorem mv_X8_earliest : MV yX8_earliest 8 := ⟨⟨List.mem_of_getElem? (i := 855) (by decide +kernel), rfl⟩, ⟨List.mem_of_getElem? (i := 856) (by decide +kernel), rfl⟩, _, _, rfl⟩
set_option maxRecDepth 40000 in
theorem ms_X8_errorCount : MS yX8_errorCount cX8_errorCount 2 (some .int) 1 := ⟨⟨List.mem_of_getElem? (i := 999) rfl, rfl⟩, ⟨List.mem_of_getElem? (i := 65) (by decide +kernel), rfl⟩, by decide +kernel⟩
theorem mv_X8_errorCount : MV yX8_errorCount 8 := ⟨⟨List.mem_of_getElem? (i := 997) (by decide +kernel), rfl⟩, ⟨List.mem_of_getElem? (i := 998) (by decide +kernel), rfl⟩, _, _, rfl⟩
set_option maxRecDepth 40000 in
theorem ms_X8_fails : MS yX8_fails cX8_fails 2 (some .int) 1 := ⟨⟨List.mem_of_getElem? (i := 773) rfl, rfl⟩, ⟨List.mem_of_getElem? (i := 65) (by decide +kernel), rfl⟩, by decide +kernel⟩
theorem mv_X8_fails : MV yX8_fails 8 := ⟨⟨List.mem_of_getElem? (i := 772) (by decide +kernel), rfl⟩, ⟨List.mem_of_getElem? (i := 22) (by decide +kernel), rfl⟩, _, _, rfl⟩
set_option maxRecDepth 40000 in
theorem ms_X8_findsActive : MS yX8_findsActive cX8_findsActive 3 none 1 := ⟨⟨List.mem_of_getElem? (i := 935) rfl, rfl⟩, ⟨List.mem_of_getElem? (i := 65) (by decide +kernel), rfl⟩, by decide +kernel⟩
theorem mv_X8_findsActive : MV yX8_findsActive 8 := ⟨⟨List.mem_of_getElem? (i := 934) (by decide +kernel), rfl⟩, ⟨List.mem_of_getElem? (i := 48) (by decide +kernel), rfl⟩, _, _, rfl⟩
set_option maxRecDepth 40000 in
theorem ms_X8_findsFrontier : MS yX8_findsFrontier cX8_findsFrontier 7 none 1 := ⟨⟨List.mem_of_getElem? (i := 931) rfl, rfl⟩, ⟨List.mem_of_getElem? (i := 65) (by decide +kernel), rfl⟩, by decide +kernel⟩
theorem mv_X8_findsFrontier : MV yX8_findsFrontier 8 := ⟨⟨List.mem_of_getElem? (i := 930) (by decide +kernel), rfl⟩, ⟨List.mem_of_getElem? (i := 47) (by decide +kernel), rfl⟩, _, _, rfl⟩
set_option maxRecDepth 40000 in
theorem ms_X8_frontier : MS yX8_frontier cX8_frontier 3 (some .int) 2 := ⟨⟨List.mem_of_getElem? (i := 979) rfl, rfl⟩, ⟨List.mem_of_getElem? (i := 65) (by decide +kernel), rfl⟩, by decide +kernel⟩
theorem mv_X8_frontier : MV yX8_frontier 8 := ⟨⟨List.mem_of_getElem? (i := 977) (by decide +kernel), rfl⟩, ⟨List.mem_of_getElem? (i := 978) (by decide +kernel), rfl⟩, _, _, rfl⟩
set_option maxRecDepth 40000 in
theorem ms_X8_frontierAt : MS yX8_frontierAt cX8_frontierAt 5 (some .int) 1 := ⟨⟨List.mem_of_getElem? (i := 983) rfl, rfl⟩, ⟨List.mem_of_getElem? (i := 65) (by decide +kernel), rfl⟩, by decide +kernel⟩
theorem mv_X8_frontierAt : MV yX8_frontierAt 8 := ⟨⟨List.mem_of_getElem? (i := 982) (by decide +kernel), rfl⟩, ⟨List.mem_of_getElem? (i := 52) (by decide +kernel), rfl⟩, _, _, rfl⟩
set_option maxRecDepth 40000 in
theorem ms_X8_goes : MS yX8_goes cX8_goes 7 none 2 := ⟨⟨List.mem_of_getElem? (i := 849) rfl, rfl⟩, ⟨List.mem_of_getElem? (i := 65) (by decide +kernel), rfl⟩, by decide +kernel⟩
theorem mv_X8_goes : MV yX8_goes 8 := ⟨⟨List.mem_of_getElem? (i := 848) (by decide +kernel), rfl⟩, ⟨List.mem_of_getElem? (i := 35) (by decide +kernel), rfl⟩, _, _, rfl⟩
set_option maxRecDepth 40000 in
theorem ms_X8_has : MS yX8_has cX8_has 2 (some .boolean) 2 := ⟨⟨List.mem_of_getElem? (i := 904) rfl, rfl⟩, ⟨List.mem_of_getElem? (i := 65) (by decide +kernel), rfl⟩, by decide +kernel⟩
theorem mt_X8_has : MT yX8_has := ⟨List.mem_of_getElem? (i := 903) (by decide +kernel), rfl⟩
set_option maxRecDepth 40000 in
theorem ms_X8_init : MS yX8_init cX8_init 1 none 0 := ⟨⟨List.mem_of_getElem? (i := 718) rfl, rfl⟩, ⟨List.mem_of_getElem? (i := 65) (by decide +kernel), rfl⟩, by decide +kernel⟩
theorem mi_X8_init : MI yX8_init := ⟨rfl, List.mem_of_getElem? (i := 717) (by decide +kernel), rfl⟩
set_option maxRecDepth 40000 in
theorem ms_X8_isEdge : MS yX8_isEdge cX8_isEdge 2 (some .boolean) 1 := ⟨⟨List.mem_of_getElem? (i := 817) rfl, rfl⟩, ⟨List.mem_of_getElem? (i := 65) (by decide +kernel), rfl⟩, by decide +kernel⟩
theorem mv_X8_isEdge : MV yX8_isEdge 8 := ⟨⟨List.mem_of_getElem? (i := 816) (by decide +kernel), rfl⟩, ⟨List.mem_of_getElem? (i := 29) (by decide +kernel), rfl⟩, _, _, rfl⟩
set_option maxRecDepth 40000 in
theorem ms_X8_isFullLine : MS yX8_isFullLine cX8_isFullLine 3 (some .boolean) 2 := ⟨⟨List.mem_of_getElem? (i := 868) rfl, rfl⟩, ⟨List.mem_of_getElem? (i := 65) (by decide +kernel), rfl⟩, by decide +kernel⟩
theorem mv_X8_isFullLine : MV yX8_isFullLine 8 := ⟨⟨List.mem_of_getElem? (i := 867) (by decide +kernel), rfl⟩, ⟨List.mem_of_getElem? (i := 37) (by decide +kernel), rfl⟩, _, _, rfl⟩
set_option maxRecDepth 40000 in
theorem ms_X8_isInput : MS yX8_isInput cX8_isInput 2 (some .boolean) 1 := ⟨⟨List.mem_of_getElem? (i := 805) rfl, rfl⟩, ⟨List.mem_of_getElem? (i := 65) (by decide +kernel), rfl⟩, by decide +kernel⟩
theorem mv_X8_isInput : MV yX8_isInput 8 := ⟨⟨List.mem_of_getElem? (i := 804) (by decide +kernel), rfl⟩, ⟨List.mem_of_getElem? (i := 27) (by decide +kernel), rfl⟩, _, _, rfl⟩
set_option maxRecDepth 40000 in
theorem ms_X8_isNode : MS yX8_isNode cX8_isNode 2 (some .boolean) 1 := ⟨⟨List.mem_of_getElem? (i := 797) rfl, rfl⟩, ⟨List.mem_of_getElem? (i := 65) (by decide +kernel), rfl⟩, by decide +kernel⟩
theorem mv_X8_isNode : MV yX8_isNode 8 := ⟨⟨List.mem_of_getElem? (i := 796) (by decide +kernel), rfl⟩, ⟨List.mem_of_getElem? (i := 25) (by decide +kernel), rfl⟩, _, _, rfl⟩
set_option maxRecDepth 40000 in
theorem ms_X8_isOnFrontier : MS yX8_isOnFrontier cX8_isOnFrontier 5 (some .boolean) 2 := ⟨⟨List.mem_of_getElem? (i := 943) rfl, rfl⟩, ⟨List.mem_of_getElem? (i := 65) (by decide +kernel), rfl⟩, by decide +kernel⟩
theorem mv_X8_isOnFrontier : MV yX8_isOnFrontier 8 := ⟨⟨List.mem_of_getElem? (i := 942) (by decide +kernel), rfl⟩, ⟨List.mem_of_getElem? (i := 50) (by decide +kernel), rfl⟩, _, _, rfl⟩
set_option maxRecDepth 40000 in
theorem ms_X8_isOneFull : MS yX8_isOneFull cX8_isOneFull 5 (some .boolean) 2 := ⟨⟨List.mem_of_getElem? (i := 908) rfl, rfl⟩, ⟨List.mem_of_getElem? (i := 65) (by decide +kernel), rfl⟩, by decide +kernel⟩
theorem mv_X8_isOneFull : MV yX8_isOneFull 8 := ⟨⟨List.mem_of_getElem? (i := 907) (by decide +kernel), rfl⟩, ⟨List.mem_of_getElem? (i := 43) (by decide +kernel), rfl⟩, _, _, rfl⟩
set_option maxRecDepth 40000 in
theorem ms_X8_isPlace : MS yX8_isPlace cX8_isPlace 2 (some .boolean) 1 := ⟨⟨List.mem_of_getElem? (i := 845) rfl, rfl⟩, ⟨List.mem_of_getElem? (i := 65) (by decide +kernel), rfl⟩, by decide +kernel⟩
theorem mv_X8_isPlace : MV yX8_isPlace 8 := ⟨⟨List.mem_of_getElem? (i := 844) (by decide +kernel), rfl⟩, ⟨List.mem_of_getElem? (i := 34) (by decide +kernel), rfl⟩, _, _, rfl⟩
set_option maxRecDepth 40000 in
theorem ms_X8_isTime : MS yX8_isTime cX8_isTime 4 (some .boolean) 2 := ⟨⟨List.mem_of_getElem? (i := 829) rfl, rfl⟩, ⟨List.mem_of_getElem? (i := 65) (by decide +kernel), rfl⟩, by decide +kernel⟩
theorem mv_X8_isTime : MV yX8_isTime 8 := ⟨⟨List.mem_of_getElem? (i := 828) (by decide +kernel), rfl⟩, ⟨List.mem_of_getElem? (i := 31) (by decide +kernel), rfl⟩, _, _, rfl⟩
set_option maxRecDepth 40000 in
theorem ms_X8_isWorker : MS yX8_isWorker cX8_isWorker 1 (some .boolean) 1 := ⟨⟨List.mem_of_getElem? (i := 864) rfl, rfl⟩, ⟨List.mem_of_getElem? (i := 65) (by decide +kernel), rfl⟩, by decide +kernel⟩
theorem mt_X8_isWorker : MT yX8_isWorker := ⟨List.mem_of_getElem? (i := 863) (by decide +kernel), rfl⟩
set_option maxRecDepth 40000 in
theorem ms_X8_kind : MS yX8_kind cX8_kind 2 (some .int) 1 := ⟨⟨List.mem_of_getElem? (i := 813) rfl, rfl⟩, ⟨List.mem_of_getElem? (i := 65) (by decide +kernel), rfl⟩, by decide +kernel⟩
theorem mv_X8_kind : MV yX8_kind 8 := ⟨⟨List.mem_of_getElem? (i := 811) (by decide +kernel), rfl⟩, ⟨List.mem_of_getElem? (i := 812) (by decide +kernel), rfl⟩, _, _, rfl⟩
set_option maxRecDepth 40000 in
theorem ms_X8_kindOf : MS yX8_kindOf cX8_kindOf 3 (some .int) 1 := ⟨⟨List.mem_of_getElem? (i := 821) rfl, rfl⟩, ⟨List.mem_of_getElem? (i := 65) (by decide +kernel), rfl⟩, by decide +kernel⟩
theorem mv_X8_kindOf : MV yX8_kindOf 8 := ⟨⟨List.mem_of_getElem? (i := 820) (by decide +kernel), rfl⟩, ⟨List.mem_of_getElem? (i := 30) (by decide +kernel), rfl⟩, _, _, rfl⟩
set_option maxRecDepth 40000 in
theorem ms_X8_lineOf : MS yX8_lineOf cX8_lineOf 3 (some .int) 2 := ⟨⟨List.mem_of_getElem? (i := 872) rfl, rfl⟩, ⟨List.mem_of_getElem? (i := 65) (by decide +kernel), rfl⟩, by decide +kernel⟩
theorem mv_X8_lineOf : MV yX8_lineOf 8 := ⟨⟨List.mem_of_getElem? (i := 871) (by decide +kernel), rfl⟩, ⟨List.mem_of_getElem? (i := 38) (by decide +kernel), rfl⟩, _, _, rfl⟩
set_option maxRecDepth 40000 in
theorem ms_X8_mayLead : MS yX8_mayLead cX8_mayLead 7 (some .boolean) 3 := ⟨⟨List.mem_of_getElem? (i := 801) rfl, rfl⟩, ⟨List.mem_of_getElem? (i := 65) (by decide +kernel), rfl⟩, by decide +kernel⟩
theorem mv_X8_mayLead : MV yX8_mayLead 8 := ⟨⟨List.mem_of_getElem? (i := 800) (by decide +kernel), rfl⟩, ⟨List.mem_of_getElem? (i := 26) (by decide +kernel), rfl⟩, _, _, rfl⟩
set_option maxRecDepth 40000 in
theorem ms_X8_messageTime : MS yX8_messageTime cX8_messageTime 5 (some .int) 3 := ⟨⟨List.mem_of_getElem? (i := 955) rfl, rfl⟩, ⟨List.mem_of_getElem? (i := 65) (by decide +kernel), rfl⟩, by decide +kernel⟩
theorem mv_X8_messageTime : MV yX8_messageTime 8 := ⟨⟨List.mem_of_getElem? (i := 953) (by decide +kernel), rfl⟩, ⟨List.mem_of_getElem? (i := 954) (by decide +kernel), rfl⟩, _, _, rfl⟩
set_option maxRecDepth 40000 in
theorem ms_X8_messages : MS yX8_messages cX8_messages 3 (some .int) 2 := ⟨⟨List.mem_of_getElem? (i := 951) rfl, rfl⟩, ⟨List.mem_of_getElem? (i := 65) (by decide +kernel), rfl⟩, by decide +kernel⟩
theorem mv_X8_messages : MV yX8_messages 8 := ⟨⟨List.mem_of_getElem? (i := 949) (by decide +kernel), rfl⟩, ⟨List.mem_of_getElem? (i := 950) (by decide +kernel), rfl⟩, _, _, rfl⟩
set_option maxRecDepth 40000 in
theorem ms_X8_mix : MS yX8_mix cX8_mix 2 none 1 := ⟨⟨List.mem_of_getElem? (i := 1008) rfl, rfl⟩, ⟨List.mem_of_getElem? (i := 65) (by decide +kernel), rfl⟩, by decide +kernel⟩
theorem mv_X8_mix : MV yX8_mix 8 := ⟨⟨List.mem_of_getElem? (i := 1007) (by decide +kernel), rfl⟩, ⟨List.mem_of_getElem? (i := 53) (by decide +kernel), rfl⟩, _, _, rfl⟩
set_option maxRecDepth 40000 in
theorem ms_X8_mixWorker : MS yX8_mixWorker cX8_mixWorker 5 none 1 := ⟨⟨List.mem_of_getElem? (i := 1013) rfl, rfl⟩, ⟨List.mem_of_getElem? (i := 65) (by decide +kernel), rfl⟩, by decide +kernel⟩
theorem mv_X8_mixWorker : MV yX8_mixWorker 8 := ⟨⟨List.mem_of_getElem? (i := 1012) (by decide +kernel), rfl⟩, ⟨List.mem_of_getElem? (i := 54) (by decide +kernel), rfl⟩, _, _, rfl⟩
set_option maxRecDepth 40000 in
theorem ms_X8_move : MS yX8_move cX8_move 3 (some .int) 2 := ⟨⟨List.mem_of_getElem? (i := 825) rfl, rfl⟩, ⟨List.mem_of_getElem? (i := 65) (by decide +kernel), rfl⟩, by decide +kernel⟩
theorem mv_X8_move : MV yX8_move 8 := ⟨⟨List.mem_of_getElem? (i := 823) (by decide +kernel), rfl⟩, ⟨List.mem_of_getElem? (i := 824) (by decide +kernel), rfl⟩, _, _, rfl⟩
set_option maxRecDepth 40000 in
theorem ms_X8_moved : MS yX8_moved cX8_moved 6 (some .int) 2 := ⟨⟨List.mem_of_getElem? (i := 837) rfl, rfl⟩, ⟨List.mem_of_getElem? (i := 65) (by decide +kernel), rfl⟩, by decide +kernel⟩
theorem mv_X8_moved : MV yX8_moved 8 := ⟨⟨List.mem_of_getElem? (i := 836) (by decide +kernel), rfl⟩, ⟨List.mem_of_getElem? (i := 33) (by decide +kernel), rfl⟩, _, _, rfl⟩
set_option maxRecDepth 40000 in
theorem ms_X8_nextAt : MS yX8_nextAt cX8_nextAt 6 (some .int) 2 := ⟨⟨List.mem_of_getElem? (i := 939) rfl, rfl⟩, ⟨List.mem_of_getElem? (i := 65) (by decide +kernel), rfl⟩, by decide +kernel⟩
theorem mv_X8_nextAt : MV yX8_nextAt 8 := ⟨⟨List.mem_of_getElem? (i := 938) (by decide +kernel), rfl⟩, ⟨List.mem_of_getElem? (i := 49) (by decide +kernel), rfl⟩, _, _, rfl⟩
set_option maxRecDepth 40000 in
theorem ms_X8_pending : MS yX8_pending cX8_pending 2 (some .int) 1 := ⟨⟨List.mem_of_getElem? (i := 987) rfl, rfl⟩, ⟨List.mem_of_getElem? (i := 65) (by decide +kernel), rfl⟩, by decide +kernel⟩
theorem mv_X8_pending : MV yX8_pending 8 := ⟨⟨List.mem_of_getElem? (i := 985) (by decide +kernel), rfl⟩, ⟨List.mem_of_getElem? (i := 986) (by decide +kernel), rfl⟩, _, _, rfl⟩
set_option maxRecDepth 40000 in
theorem ms_X8_process : MS yX8_process cX8_process 10 (some .int) 5 := ⟨⟨List.mem_of_getElem? (i := 893) rfl, rfl⟩, ⟨List.mem_of_getElem? (i := 65) (by decide +kernel), rfl⟩, by decide +kernel⟩
theorem mv_X8_process : MV yX8_process 8 := ⟨⟨List.mem_of_getElem? (i := 891) (by decide +kernel), rfl⟩, ⟨List.mem_of_getElem? (i := 892) (by decide +kernel), rfl⟩, _, _, rfl⟩
set_option maxRecDepth 40000 in
theorem ms_X8_puts : MS yX8_puts cX8_puts 5 none 3 := ⟨⟨List.mem_of_getElem? (i := 876) rfl, rfl⟩, ⟨List.mem_of_getElem? (i := 65) (by decide +kernel), rfl⟩, by decide +kernel⟩
theorem mv_X8_puts : MV yX8_puts 8 := ⟨⟨List.mem_of_getElem? (i := 875) (by decide +kernel), rfl⟩, ⟨List.mem_of_getElem? (i := 39) (by decide +kernel), rfl⟩, _, _, rfl⟩
set_option maxRecDepth 40000 in
theorem ms_X8_putsAll : MS yX8_putsAll cX8_putsAll 6 none 4 := ⟨⟨List.mem_of_getElem? (i := 923) rfl, rfl⟩, ⟨List.mem_of_getElem? (i := 65) (by decide +kernel), rfl⟩, by decide +kernel⟩
theorem mv_X8_putsAll : MV yX8_putsAll 8 := ⟨⟨List.mem_of_getElem? (i := 922) (by decide +kernel), rfl⟩, ⟨List.mem_of_getElem? (i := 46) (by decide +kernel), rfl⟩, _, _, rfl⟩
set_option maxRecDepth 40000 in
theorem ms_X8_reaches : MS yX8_reaches cX8_reaches 3 none 2 := ⟨⟨List.mem_of_getElem? (i := 853) rfl, rfl⟩, ⟨List.mem_of_getElem? (i := 65) (by decide +kernel), rfl⟩, by decide +kernel⟩
theorem mv_X8_reaches : MV yX8_reaches 8 := ⟨⟨List.mem_of_getElem? (i := 852) (by decide +kernel), rfl⟩, ⟨List.mem_of_getElem? (i := 36) (by decide +kernel), rfl⟩, _, _, rfl⟩
set_option maxRecDepth 40000 in
theorem ms_X8_receive : MS yX8_receive cX8_receive 7 (some .int) 2 := ⟨⟨List.mem_of_getElem? (i := 947) rfl, rfl⟩, ⟨List.mem_of_getElem? (i := 65) (by decide +kernel), rfl⟩, by decide +kernel⟩
theorem mv_X8_receive : MV yX8_receive 8 := ⟨⟨List.mem_of_getElem? (i := 945) (by decide +kernel), rfl⟩, ⟨List.mem_of_getElem? (i := 946) (by decide +kernel), rfl⟩, _, _, rfl⟩
set_option maxRecDepth 40000 in
theorem ms_X8_requests : MS yX8_requests cX8_requests 3 (some .int) 2 := ⟨⟨List.mem_of_getElem? (i := 959) rfl, rfl⟩, ⟨List.mem_of_getElem? (i := 65) (by decide +kernel), rfl⟩, by decide +kernel⟩
theorem mv_X8_requests : MV yX8_requests 8 := ⟨⟨List.mem_of_getElem? (i := 957) (by decide +kernel), rfl⟩, ⟨List.mem_of_getElem? (i := 958) (by decide +kernel), rfl⟩, _, _, rfl⟩
set_option maxRecDepth 40000 in
theorem ms_X8_requestsOf : MS yX8_requestsOf cX8_requestsOf 5 (some .int) 2 := ⟨⟨List.mem_of_getElem? (i := 963) rfl, rfl⟩, ⟨List.mem_of_getElem? (i := 65) (by decide +kernel), rfl⟩, by decide +kernel⟩
theorem mv_X8_requestsOf : MV yX8_requestsOf 8 := ⟨⟨List.mem_of_getElem? (i := 962) (by decide +kernel), rfl⟩, ⟨List.mem_of_getElem? (i := 51) (by decide +kernel), rfl⟩, _, _, rfl⟩
set_option maxRecDepth 40000 in
theorem ms_X8_returns : MS yX8_returns cX8_returns 11 (some .boolean) 4 := ⟨⟨List.mem_of_getElem? (i := 809) rfl, rfl⟩, ⟨List.mem_of_getElem? (i := 65) (by decide +kernel), rfl⟩, by decide +kernel⟩
theorem mv_X8_returns : MV yX8_returns 8 := ⟨⟨List.mem_of_getElem? (i := 808) (by decide +kernel), rfl⟩, ⟨List.mem_of_getElem? (i := 28) (by decide +kernel), rfl⟩, _, _, rfl⟩
set_option maxRecDepth 40000 in
theorem ms_X8_saves : MS yX8_saves cX8_saves 2 none 0 := ⟨⟨List.mem_of_getElem? (i := 784) rfl, rfl⟩, ⟨List.mem_of_getElem? (i := 65) (by decide +kernel), rfl⟩, by decide +kernel⟩
theorem mv_X8_saves : MV yX8_saves 8 := ⟨⟨List.mem_of_getElem? (i := 783) (by decide +kernel), rfl⟩, ⟨List.mem_of_getElem? (i := 23) (by decide +kernel), rfl⟩, _, _, rfl⟩
set_option maxRecDepth 40000 in
theorem ms_X8_send : MS yX8_send cX8_send 4 (some .int) 2 := ⟨⟨List.mem_of_getElem? (i := 861) rfl, rfl⟩, ⟨List.mem_of_getElem? (i := 65) (by decide +kernel), rfl⟩, by decide +kernel⟩
theorem mv_X8_send : MV yX8_send 8 := ⟨⟨List.mem_of_getElem? (i := 859) (by decide +kernel), rfl⟩, ⟨List.mem_of_getElem? (i := 860) (by decide +kernel), rfl⟩, _, _, rfl⟩
set_option maxRecDepth 40000 in
theorem ms_X8_startAt : MS yX8_startAt cX8_startAt 5 (some .boolean) 2 := ⟨⟨List.mem_of_getElem? (i := 901) rfl, rfl⟩, ⟨List.mem_of_getElem? (i := 65) (by decide +kernel), rfl⟩, by decide +kernel⟩
theorem mv_X8_startAt : MV yX8_startAt 8 := ⟨⟨List.mem_of_getElem? (i := 900) (by decide +kernel), rfl⟩, ⟨List.mem_of_getElem? (i := 42) (by decide +kernel), rfl⟩, _, _, rfl⟩
set_option maxRecDepth 40000 in
theorem ms_X8_takes : MS yX8_takes cX8_takes 4 (some .int) 1 := ⟨⟨List.mem_of_getElem? (i := 912) rfl, rfl⟩, ⟨List.mem_of_getElem? (i := 65) (by decide +kernel), rfl⟩, by decide +kernel⟩
theorem mv_X8_takes : MV yX8_takes 8 := ⟨⟨List.mem_of_getElem? (i := 911) (by decide +kernel), rfl⟩, ⟨List.mem_of_getElem? (i := 44) (by decide +kernel), rfl⟩, _, _, rfl⟩
set_option maxRecDepth 40000 in
theorem ms_X8_undo : MS yX8_undo cX8_undo 2 (some .int) 0 := ⟨⟨List.mem_of_getElem? (i := 769) rfl, rfl⟩, ⟨List.mem_of_getElem? (i := 65) (by decide +kernel), rfl⟩, by decide +kernel⟩
theorem mv_X8_undo : MV yX8_undo 8 := ⟨⟨List.mem_of_getElem? (i := 767) (by decide +kernel), rfl⟩, ⟨List.mem_of_getElem? (i := 768) (by decide +kernel), rfl⟩, _, _, rfl⟩
set_option maxRecDepth 40000 in
theorem ms_X8_updates : MS yX8_updates cX8_updates 6 none 4 := ⟨⟨List.mem_of_getElem? (i := 880) rfl, rfl⟩, ⟨List.mem_of_getElem? (i := 65) (by decide +kernel), rfl⟩, by decide +kernel⟩
theorem mv_X8_updates : MV yX8_updates 8 := ⟨⟨List.mem_of_getElem? (i := 879) (by decide +kernel), rfl⟩, ⟨List.mem_of_getElem? (i := 40) (by decide +kernel), rfl⟩, _, _, rfl⟩
set_option maxRecDepth 40000 in
theorem ms_X8_viewAt : MS yX8_viewAt cX8_viewAt 4 (some .int) 3 := ⟨⟨List.mem_of_getElem? (i := 789) rfl, rfl⟩, ⟨List.mem_of_getElem? (i := 65) (by decide +kernel), rfl⟩, by decide +kernel⟩
theorem mv_X8_viewAt : MV yX8_viewAt 8 := ⟨⟨List.mem_of_getElem? (i := 788) (by decide +kernel), rfl⟩, ⟨List.mem_of_getElem? (i := 24) (by decide +kernel), rfl⟩, _, _, rfl⟩
set_option maxRecDepth 40000 in
theorem ms_X8_violates : MS yX8_violates cX8_violates 5 (some .boolean) 2 := ⟨⟨List.mem_of_getElem? (i := 916) rfl, rfl⟩, ⟨List.mem_of_getElem? (i := 65) (by decide +kernel), rfl⟩, by decide +kernel⟩
theorem mv_X8_violates : MV yX8_violates 8 := ⟨⟨List.mem_of_getElem? (i := 915) (by decide +kernel), rfl⟩, ⟨List.mem_of_getElem? (i := 45) (by decide +kernel), rfl⟩, _, _, rfl⟩
set_option maxRecDepth 40000 in
theorem ms_X8_violations : MS yX8_violations cX8_violations 1 (some .int) 0 := ⟨⟨List.mem_of_getElem? (i := 995) rfl, rfl⟩, ⟨List.mem_of_getElem? (i := 65) (by decide +kernel), rfl⟩, by decide +kernel⟩
theorem mv_X8_violations : MV yX8_violations 8 := ⟨⟨List.mem_of_getElem? (i := 993) (by decide +kernel), rfl⟩, ⟨List.mem_of_getElem? (i := 994) (by decide +kernel), rfl⟩, _, _, rfl⟩
set_option maxRecDepth 40000 in
theorem ms_X8_within : MS yX8_within cX8_within 3 (some .boolean) 3 := ⟨⟨List.mem_of_getElem? (i := 780) rfl, rfl⟩, ⟨List.mem_of_getElem? (i := 65) (by decide +kernel), rfl⟩, by decide +kernel⟩
theorem mt_X8_within : MT yX8_within := ⟨List.mem_of_getElem? (i := 779) (by decide +kernel), rfl⟩
theorem nw_RL_7 : NW RL 7 7 [.null, .null, .null, .null, vi 0] := ⟨RX7, TX7, tyX7, rfl, kl_cl7, tyX7_ok, ⟨List.mem_of_getElem? (i := 68) (by decide +kernel), rfl⟩, ⟨List.mem_of_getElem? (i := 69) (by decide +kernel), rfl⟩, ⟨List.mem_of_getElem? (i := 56) (by decide +kernel), rfl⟩, fun j hj => by
  have h : j < 5 := hj
  rcases (show j = 0 ∨ j = 1 ∨ j = 2 ∨ j = 3 ∨ j = 4 by omega) with rfl | rfl | rfl | rfl | rfl <;> rfl⟩
theorem lk_RL_9 : LK RL 9 yX7_init := ⟨List.mem_of_getElem? (i := 70) (by decide +kernel), rfl⟩
theorem lk_RX7_3 : LK RX7 3 objectInit := ⟨List.mem_of_getElem? (i := 73) (by decide +kernel), rfl⟩
theorem aw_RX7_13 : (Cond.classLink RX7 13 RX2 ∈ lw_tbl ∧ kw (Cond.classLink RX7 13 RX2) = true) ∧ Cond.arrayOver (.object RX2) ∈ lw_tbl := ⟨⟨List.mem_of_getElem? (i := 76) (by decide +kernel), rfl⟩, List.mem_of_getElem? (i := 77) (by decide +kernel)⟩
theorem nw_RX7_13 : NW RX7 13 2 [vi 0, vi 0, vi 0, .null, .null, .null, .null, .null, .null, .null] := ⟨RX2, TX2, tyX2, rfl, kl_cl2, tyX2_ok, ⟨List.mem_of_getElem? (i := 76) (by decide +kernel), rfl⟩, ⟨List.mem_of_getElem? (i := 107) (by decide +kernel), rfl⟩, ⟨List.mem_of_getElem? (i := 58) (by decide +kernel), rfl⟩, fun j hj => by
  have h : j < 10 := hj
  rcases (show j = 0 ∨ j = 1 ∨ j = 2 ∨ j = 3 ∨ j = 4 ∨ j = 5 ∨ j = 6 ∨ j = 7 ∨ j = 8 ∨ j = 9 by omega) with rfl | rfl | rfl | rfl | rfl | rfl | rfl | rfl | rfl | rfl <;> rfl⟩
theorem nw_RX7_19 : NW RX7 19 5 [.null, .null, .null, .null, vi 0, vi 0, vi 0] := ⟨RX5, TX5, tyX5, rfl, kl_cl5, tyX5_ok, ⟨List.mem_of_getElem? (i := 78) (by decide +kernel), rfl⟩, ⟨List.mem_of_getElem? (i := 79) (by decide +kernel), rfl⟩, ⟨List.mem_of_getElem? (i := 57) (by decide +kernel), rfl⟩, fun j hj => by
  have h : j < 7 := hj
  rcases (show j = 0 ∨ j = 1 ∨ j = 2 ∨ j = 3 ∨ j = 4 ∨ j = 5 ∨ j = 6 by omega) with rfl | rfl | rfl | rfl | rfl | rfl | rfl <;> rfl⟩
theorem ln_RX7_21 : LN RX7 21 yX5_init := ⟨"ProgressTracker", List.mem_of_getElem? (i := 80) (by decide +kernel)⟩
theorem lk_RX5_5 : LK RX5 5 objectInit := ⟨List.mem_of_getElem? (i := 83) (by decide +kernel), rfl⟩
theorem fl_RX5_11 : FL RX5 11 5 0 false (.array .int) := ⟨RX5, TX5, 7, tyX5, rfl, kl_cl5, tyX5_ok, nmX5, by decide, ⟨List.mem_of_getElem? (i := 84) (by decide +kernel), rfl⟩, rfl, rfl, by decide⟩
theorem fl_RX5_15 : FL RX5 15 5 1 false (.array .int) := ⟨RX5, TX5, 7, tyX5, rfl, kl_cl5, tyX5_ok, nmX5, by decide, ⟨List.mem_of_getElem? (i := 85) (by decide +kernel), rfl⟩, rfl, rfl, by decide⟩
theorem fl_RX5_18 : FL RX5 18 5 2 false (.array .int) := ⟨RX5, TX5, 7, tyX5, rfl, kl_cl5, tyX5_ok, nmX5, by decide, ⟨List.mem_of_getElem? (i := 86) (by decide +kernel), rfl⟩, rfl, rfl, by decide⟩
theorem fl_RX5_21 : FL RX5 21 5 3 false (.array .int) := ⟨RX5, TX5, 7, tyX5, rfl, kl_cl5, tyX5_ok, nmX5, by decide, ⟨List.mem_of_getElem? (i := 87) (by decide +kernel), rfl⟩, rfl, rfl, by decide⟩
theorem fl_RX5_52 : FL RX5 52 5 4 false (.int) := ⟨RX5, TX5, 7, tyX5, rfl, kl_cl5, tyX5_ok, nmX5, by decide, ⟨List.mem_of_getElem? (i := 88) (by decide +kernel), rfl⟩, rfl, rfl, by decide⟩
theorem fl_RX5_24 : FL RX5 24 5 5 false (.int) := ⟨RX5, TX5, 7, tyX5, rfl, kl_cl5, tyX5_ok, nmX5, by decide, ⟨List.mem_of_getElem? (i := 89) (by decide +kernel), rfl⟩, rfl, rfl, by decide⟩
theorem fl_RX5_49 : FL RX5 49 5 6 false (.int) := ⟨RX5, TX5, 7, tyX5, rfl, kl_cl5, tyX5_ok, nmX5, by decide, ⟨List.mem_of_getElem? (i := 90) (by decide +kernel), rfl⟩, rfl, rfl, by decide⟩
theorem lk_RX7_26 : LK RX7 26 yX2_init := ⟨List.mem_of_getElem? (i := 108) (by decide +kernel), rfl⟩
theorem lk_RX2_3 : LK RX2 3 objectInit := ⟨List.mem_of_getElem? (i := 111) (by decide +kernel), rfl⟩
theorem nw_RX2_9 : NW RX2 9 0 [vi 0, vi 0, .null, .null, .null, .null] := ⟨RX0, TX0, tyX0, rfl, kl_cl0, tyX0_ok, ⟨List.mem_of_getElem? (i := 112) (by decide +kernel), rfl⟩, ⟨List.mem_of_getElem? (i := 113) (by decide +kernel), rfl⟩, ⟨List.mem_of_getElem? (i := 59) (by decide +kernel), rfl⟩, fun j hj => by
  have h : j < 6 := hj
  rcases (show j = 0 ∨ j = 1 ∨ j = 2 ∨ j = 3 ∨ j = 4 ∨ j = 5 by omega) with rfl | rfl | rfl | rfl | rfl | rfl <;> rfl⟩
theorem ln_RX2_11 : LN RX2 11 yX0_init := ⟨"ProgressTracker", List.mem_of_getElem? (i := 114) (by decide +kernel)⟩
theorem lk_RX0_3 : LK RX0 3 objectInit := ⟨List.mem_of_getElem? (i := 117) (by decide +kernel), rfl⟩
theorem fl_RX0_24 : FL RX0 24 0 0 false (.int) := ⟨RX0, TX0, 6, tyX0, rfl, kl_cl0, tyX0_ok, nmX0, by decide, ⟨List.mem_of_getElem? (i := 118) (by decide +kernel), rfl⟩, rfl, rfl, by decide⟩
theorem fl_RX7_47 : FL RX7 47 0 0 false (.int) := ⟨RX0, TX0, 6, tyX0, rfl, kl_cl0, tyX0_ok, nmX0, by decide, ⟨List.mem_of_getElem? (i := 119) (by decide +kernel), rfl⟩, rfl, rfl, by decide⟩
theorem fl_RX0_28 : FL RX0 28 0 1 false (.int) := ⟨RX0, TX0, 6, tyX0, rfl, kl_cl0, tyX0_ok, nmX0, by decide, ⟨List.mem_of_getElem? (i := 120) (by decide +kernel), rfl⟩, rfl, rfl, by decide⟩
theorem fl_RX7_73 : FL RX7 73 0 1 false (.int) := ⟨RX0, TX0, 6, tyX0, rfl, kl_cl0, tyX0_ok, nmX0, by decide, ⟨List.mem_of_getElem? (i := 121) (by decide +kernel), rfl⟩, rfl, rfl, by decide⟩
theorem fl_RX2_71 : FL RX2 71 0 1 false (.int) := ⟨RX0, TX0, 6, tyX0, rfl, kl_cl0, tyX0_ok, nmX0, by decide, ⟨List.mem_of_getElem? (i := 122) (by decide +kernel), rfl⟩, rfl, rfl, by decide⟩
theorem fl_RX5_59 : FL RX5 59 0 1 false (.int) := ⟨RX0, TX0, 6, tyX0, rfl, kl_cl0, tyX0_ok, nmX0, by decide, ⟨List.mem_of_getElem? (i := 123) (by decide +kernel), rfl⟩, rfl, rfl, by decide⟩
theorem fl_RX0_9 : FL RX0 9 0 2 true (.array .int) := ⟨RX0, TX0, 6, tyX0, rfl, kl_cl0, tyX0_ok, nmX0, by decide, ⟨List.mem_of_getElem? (i := 124) (by decide +kernel), rfl⟩, rfl, rfl, by decide⟩
theorem fl_RX7_258 : FL RX7 258 0 2 true (.array .int) := ⟨RX0, TX0, 6, tyX0, rfl, kl_cl0, tyX0_ok, nmX0, by decide, ⟨List.mem_of_getElem? (i := 125) (by decide +kernel), rfl⟩, rfl, rfl, by decide⟩
theorem fl_RX0_15 : FL RX0 15 0 3 true (.array .int) := ⟨RX0, TX0, 6, tyX0, rfl, kl_cl0, tyX0_ok, nmX0, by decide, ⟨List.mem_of_getElem? (i := 126) (by decide +kernel), rfl⟩, rfl, rfl, by decide⟩
theorem fl_RX5_64 : FL RX5 64 0 3 true (.array .int) := ⟨RX0, TX0, 6, tyX0, rfl, kl_cl0, tyX0_ok, nmX0, by decide, ⟨List.mem_of_getElem? (i := 127) (by decide +kernel), rfl⟩, rfl, rfl, by decide⟩
theorem fl_RX7_117 : FL RX7 117 0 3 true (.array .int) := ⟨RX0, TX0, 6, tyX0, rfl, kl_cl0, tyX0_ok, nmX0, by decide, ⟨List.mem_of_getElem? (i := 128) (by decide +kernel), rfl⟩, rfl, rfl, by decide⟩
theorem fl_RX0_18 : FL RX0 18 0 4 true (.array .int) := ⟨RX0, TX0, 6, tyX0, rfl, kl_cl0, tyX0_ok, nmX0, by decide, ⟨List.mem_of_getElem? (i := 129) (by decide +kernel), rfl⟩, rfl, rfl, by decide⟩
theorem fl_RX5_71 : FL RX5 71 0 4 true (.array .int) := ⟨RX0, TX0, 6, tyX0, rfl, kl_cl0, tyX0_ok, nmX0, by decide, ⟨List.mem_of_getElem? (i := 130) (by decide +kernel), rfl⟩, rfl, rfl, by decide⟩
theorem fl_RX7_143 : FL RX7 143 0 4 true (.array .int) := ⟨RX0, TX0, 6, tyX0, rfl, kl_cl0, tyX0_ok, nmX0, by decide, ⟨List.mem_of_getElem? (i := 131) (by decide +kernel), rfl⟩, rfl, rfl, by decide⟩
theorem fl_RX0_21 : FL RX0 21 0 5 true (.array .int) := ⟨RX0, TX0, 6, tyX0, rfl, kl_cl0, tyX0_ok, nmX0, by decide, ⟨List.mem_of_getElem? (i := 132) (by decide +kernel), rfl⟩, rfl, rfl, by decide⟩
theorem fl_RX7_83 : FL RX7 83 0 5 true (.array .int) := ⟨RX0, TX0, 6, tyX0, rfl, kl_cl0, tyX0_ok, nmX0, by decide, ⟨List.mem_of_getElem? (i := 133) (by decide +kernel), rfl⟩, rfl, rfl, by decide⟩
theorem nw_RX2_18 : NW RX2 18 1 [.null, .null] := ⟨RX1, TX1, tyX1, rfl, kl_cl1, tyX1_ok, ⟨List.mem_of_getElem? (i := 147) (by decide +kernel), rfl⟩, ⟨List.mem_of_getElem? (i := 148) (by decide +kernel), rfl⟩, ⟨List.mem_of_getElem? (i := 60) (by decide +kernel), rfl⟩, fun j hj => by
  have h : j < 2 := hj
  rcases (show j = 0 ∨ j = 1 by omega) with rfl | rfl <;> rfl⟩
theorem ln_RX2_20 : LN RX2 20 yX1_init := ⟨"ProgressTracker", List.mem_of_getElem? (i := 149) (by decide +kernel)⟩
theorem lk_RX1_3 : LK RX1 3 objectInit := ⟨List.mem_of_getElem? (i := 152) (by decide +kernel), rfl⟩
theorem fl_RX1_9 : FL RX1 9 1 0 true (.array .int) := ⟨RX1, TX1, 2, tyX1, rfl, kl_cl1, tyX1_ok, nmX1, by decide, ⟨List.mem_of_getElem? (i := 153) (by decide +kernel), rfl⟩, rfl, rfl, by decide⟩
theorem fl_RX1_15 : FL RX1 15 1 1 true (.array .int) := ⟨RX1, TX1, 2, tyX1, rfl, kl_cl1, tyX1_ok, nmX1, by decide, ⟨List.mem_of_getElem? (i := 154) (by decide +kernel), rfl⟩, rfl, rfl, by decide⟩
theorem nw_RX2_25 : NW RX2 25 6 [.null, .null] := ⟨RX6, TX6, tyX6, rfl, kl_cl6, tyX6_ok, ⟨List.mem_of_getElem? (i := 160) (by decide +kernel), rfl⟩, ⟨List.mem_of_getElem? (i := 161) (by decide +kernel), rfl⟩, ⟨List.mem_of_getElem? (i := 61) (by decide +kernel), rfl⟩, fun j hj => by
  have h : j < 2 := hj
  rcases (show j = 0 ∨ j = 1 by omega) with rfl | rfl <;> rfl⟩
theorem ln_RX2_27 : LN RX2 27 yX6_init := ⟨"ProgressTracker", List.mem_of_getElem? (i := 162) (by decide +kernel)⟩
theorem lk_RX6_3 : LK RX6 3 objectInit := ⟨List.mem_of_getElem? (i := 165) (by decide +kernel), rfl⟩
theorem fl_RX6_9 : FL RX6 9 6 0 true (.array .int) := ⟨RX6, TX6, 2, tyX6, rfl, kl_cl6, tyX6_ok, nmX6, by decide, ⟨List.mem_of_getElem? (i := 166) (by decide +kernel), rfl⟩, rfl, rfl, by decide⟩
theorem fl_RX6_15 : FL RX6 15 6 1 true (.array .int) := ⟨RX6, TX6, 2, tyX6, rfl, kl_cl6, tyX6_ok, nmX6, by decide, ⟨List.mem_of_getElem? (i := 167) (by decide +kernel), rfl⟩, rfl, rfl, by decide⟩
theorem aw_RX2_32 : (Cond.classLink RX2 32 RX4 ∈ lw_tbl ∧ kw (Cond.classLink RX2 32 RX4) = true) ∧ Cond.arrayOver (.object RX4) ∈ lw_tbl := ⟨⟨List.mem_of_getElem? (i := 173) (by decide +kernel), rfl⟩, List.mem_of_getElem? (i := 174) (by decide +kernel)⟩
theorem nw_RX2_32 : NW RX2 32 4 [vi 0, .null, .null, .null] := ⟨RX4, TX4, tyX4, rfl, kl_cl4, tyX4_ok, ⟨List.mem_of_getElem? (i := 173) (by decide +kernel), rfl⟩, ⟨List.mem_of_getElem? (i := 177) (by decide +kernel), rfl⟩, ⟨List.mem_of_getElem? (i := 62) (by decide +kernel), rfl⟩, fun j hj => by
  have h : j < 4 := hj
  rcases (show j = 0 ∨ j = 1 ∨ j = 2 ∨ j = 3 by omega) with rfl | rfl | rfl | rfl <;> rfl⟩
theorem aw_RX2_38 : (Cond.classLink RX2 38 RX3 ∈ lw_tbl ∧ kw (Cond.classLink RX2 38 RX3) = true) ∧ Cond.arrayOver (.object RX3) ∈ lw_tbl := ⟨⟨List.mem_of_getElem? (i := 175) (by decide +kernel), rfl⟩, List.mem_of_getElem? (i := 176) (by decide +kernel)⟩
theorem nw_RX2_38 : NW RX2 38 3 [vi 0, vi 0, .null] := ⟨RX3, TX3, tyX3, rfl, kl_cl3, tyX3_ok, ⟨List.mem_of_getElem? (i := 175) (by decide +kernel), rfl⟩, ⟨List.mem_of_getElem? (i := 199) (by decide +kernel), rfl⟩, ⟨List.mem_of_getElem? (i := 63) (by decide +kernel), rfl⟩, fun j hj => by
  have h : j < 3 := hj
  rcases (show j = 0 ∨ j = 1 ∨ j = 2 by omega) with rfl | rfl | rfl <;> rfl⟩
theorem ln_RX2_51 : LN RX2 51 yX4_init := ⟨"ProgressTracker", List.mem_of_getElem? (i := 178) (by decide +kernel)⟩
theorem lk_RX4_3 : LK RX4 3 objectInit := ⟨List.mem_of_getElem? (i := 181) (by decide +kernel), rfl⟩
theorem fl_RX4_28 : FL RX4 28 4 0 false (.int) := ⟨RX4, TX4, 4, tyX4, rfl, kl_cl4, tyX4_ok, nmX4, by decide, ⟨List.mem_of_getElem? (i := 182) (by decide +kernel), rfl⟩, rfl, rfl, by decide⟩
theorem fl_RX7_215 : FL RX7 215 4 0 false (.int) := ⟨RX4, TX4, 4, tyX4, rfl, kl_cl4, tyX4_ok, nmX4, by decide, ⟨List.mem_of_getElem? (i := 183) (by decide +kernel), rfl⟩, rfl, rfl, by decide⟩
theorem fl_RX4_11 : FL RX4 11 4 1 false (.array .int) := ⟨RX4, TX4, 4, tyX4, rfl, kl_cl4, tyX4_ok, nmX4, by decide, ⟨List.mem_of_getElem? (i := 184) (by decide +kernel), rfl⟩, rfl, rfl, by decide⟩
theorem fl_RX7_222 : FL RX7 222 4 1 false (.array .int) := ⟨RX4, TX4, 4, tyX4, rfl, kl_cl4, tyX4_ok, nmX4, by decide, ⟨List.mem_of_getElem? (i := 185) (by decide +kernel), rfl⟩, rfl, rfl, by decide⟩
theorem fl_RX4_15 : FL RX4 15 4 2 false (.array .int) := ⟨RX4, TX4, 4, tyX4, rfl, kl_cl4, tyX4_ok, nmX4, by decide, ⟨List.mem_of_getElem? (i := 186) (by decide +kernel), rfl⟩, rfl, rfl, by decide⟩
theorem fl_RX7_270 : FL RX7 270 4 2 false (.array .int) := ⟨RX4, TX4, 4, tyX4, rfl, kl_cl4, tyX4_ok, nmX4, by decide, ⟨List.mem_of_getElem? (i := 187) (by decide +kernel), rfl⟩, rfl, rfl, by decide⟩
theorem fl_RX4_18 : FL RX4 18 4 3 false (.array .int) := ⟨RX4, TX4, 4, tyX4, rfl, kl_cl4, tyX4_ok, nmX4, by decide, ⟨List.mem_of_getElem? (i := 188) (by decide +kernel), rfl⟩, rfl, rfl, by decide⟩
theorem fl_RX7_265 : FL RX7 265 4 3 false (.array .int) := ⟨RX4, TX4, 4, tyX4, rfl, kl_cl4, tyX4_ok, nmX4, by decide, ⟨List.mem_of_getElem? (i := 189) (by decide +kernel), rfl⟩, rfl, rfl, by decide⟩
theorem ln_RX2_52 : LN RX2 52 yX3_init := ⟨"ProgressTracker", List.mem_of_getElem? (i := 200) (by decide +kernel)⟩
theorem lk_RX3_1 : LK RX3 1 objectInit := ⟨List.mem_of_getElem? (i := 203) (by decide +kernel), rfl⟩
theorem fl_RX3_17 : FL RX3 17 3 0 false (.int) := ⟨RX3, TX3, 3, tyX3, rfl, kl_cl3, tyX3_ok, nmX3, by decide, ⟨List.mem_of_getElem? (i := 204) (by decide +kernel), rfl⟩, rfl, rfl, by decide⟩
theorem fl_RX3_13 : FL RX3 13 3 1 false (.int) := ⟨RX3, TX3, 3, tyX3, rfl, kl_cl3, tyX3_ok, nmX3, by decide, ⟨List.mem_of_getElem? (i := 205) (by decide +kernel), rfl⟩, rfl, rfl, by decide⟩
theorem fl_RX7_225 : FL RX7 225 3 1 false (.int) := ⟨RX3, TX3, 3, tyX3, rfl, kl_cl3, tyX3_ok, nmX3, by decide, ⟨List.mem_of_getElem? (i := 206) (by decide +kernel), rfl⟩, rfl, rfl, by decide⟩
theorem fl_RX3_9 : FL RX3 9 3 2 false (.array .int) := ⟨RX3, TX3, 3, tyX3, rfl, kl_cl3, tyX3_ok, nmX3, by decide, ⟨List.mem_of_getElem? (i := 207) (by decide +kernel), rfl⟩, rfl, rfl, by decide⟩
theorem lk_RX2_53 : LK RX2 53 yJ7_fill_53178 := ⟨List.mem_of_getElem? (i := 215) (by decide +kernel), rfl⟩
theorem fl_RX7_39 : FL RX7 39 2 0 false (.boolean) := ⟨RX2, TX2, 10, tyX2, rfl, kl_cl2, tyX2_ok, nmX2, by decide, ⟨List.mem_of_getElem? (i := 218) (by decide +kernel), rfl⟩, rfl, rfl, by decide⟩
theorem fl_RX2_107 : FL RX2 107 2 0 false (.boolean) := ⟨RX2, TX2, 10, tyX2, rfl, kl_cl2, tyX2_ok, nmX2, by decide, ⟨List.mem_of_getElem? (i := 219) (by decide +kernel), rfl⟩, rfl, rfl, by decide⟩
theorem fl_RX2_101 : FL RX2 101 2 1 false (.int) := ⟨RX2, TX2, 10, tyX2, rfl, kl_cl2, tyX2_ok, nmX2, by decide, ⟨List.mem_of_getElem? (i := 220) (by decide +kernel), rfl⟩, rfl, rfl, by decide⟩
theorem fl_RX7_226 : FL RX7 226 2 1 false (.int) := ⟨RX2, TX2, 10, tyX2, rfl, kl_cl2, tyX2_ok, nmX2, by decide, ⟨List.mem_of_getElem? (i := 221) (by decide +kernel), rfl⟩, rfl, rfl, by decide⟩
theorem fl_RX2_104 : FL RX2 104 2 2 false (.int) := ⟨RX2, TX2, 10, tyX2, rfl, kl_cl2, tyX2_ok, nmX2, by decide, ⟨List.mem_of_getElem? (i := 222) (by decide +kernel), rfl⟩, rfl, rfl, by decide⟩
theorem fl_RX7_229 : FL RX7 229 2 2 false (.int) := ⟨RX2, TX2, 10, tyX2, rfl, kl_cl2, tyX2_ok, nmX2, by decide, ⟨List.mem_of_getElem? (i := 223) (by decide +kernel), rfl⟩, rfl, rfl, by decide⟩
theorem fl_RX2_12 : FL RX2 12 2 3 true (.object "ProgressTracker$Graph") := ⟨RX2, TX2, 10, tyX2, rfl, kl_cl2, tyX2_ok, nmX2, by decide, ⟨List.mem_of_getElem? (i := 224) (by decide +kernel), rfl⟩, rfl, rfl, by decide⟩
theorem fl_RX7_43 : FL RX7 43 2 3 true (.object "ProgressTracker$Graph") := ⟨RX2, TX2, 10, tyX2, rfl, kl_cl2, tyX2_ok, nmX2, by decide, ⟨List.mem_of_getElem? (i := 225) (by decide +kernel), rfl⟩, rfl, rfl, by decide⟩
theorem fl_RX2_21 : FL RX2 21 2 4 true (.object "ProgressTracker$Mail") := ⟨RX2, TX2, 10, tyX2, rfl, kl_cl2, tyX2_ok, nmX2, by decide, ⟨List.mem_of_getElem? (i := 226) (by decide +kernel), rfl⟩, rfl, rfl, by decide⟩
theorem fl_RX7_120 : FL RX7 120 2 4 true (.object "ProgressTracker$Mail") := ⟨RX2, TX2, 10, tyX2, rfl, kl_cl2, tyX2_ok, nmX2, by decide, ⟨List.mem_of_getElem? (i := 227) (by decide +kernel), rfl⟩, rfl, rfl, by decide⟩
theorem fl_RX2_28 : FL RX2 28 2 5 true (.object "ProgressTracker$Wishes") := ⟨RX2, TX2, 10, tyX2, rfl, kl_cl2, tyX2_ok, nmX2, by decide, ⟨List.mem_of_getElem? (i := 228) (by decide +kernel), rfl⟩, rfl, rfl, by decide⟩
theorem fl_RX7_155 : FL RX7 155 2 5 true (.object "ProgressTracker$Wishes") := ⟨RX2, TX2, 10, tyX2, rfl, kl_cl2, tyX2_ok, nmX2, by decide, ⟨List.mem_of_getElem? (i := 229) (by decide +kernel), rfl⟩, rfl, rfl, by decide⟩
theorem fl_RX2_34 : FL RX2 34 2 6 true (.array (.object "ProgressTracker$View")) := ⟨RX2, TX2, 10, tyX2, rfl, kl_cl2, tyX2_ok, nmX2, by decide, ⟨List.mem_of_getElem? (i := 230) (by decide +kernel), rfl⟩, rfl, rfl, by decide⟩
theorem fl_RX7_189 : FL RX7 189 2 6 true (.array (.object "ProgressTracker$View")) := ⟨RX2, TX2, 10, tyX2, rfl, kl_cl2, tyX2_ok, nmX2, by decide, ⟨List.mem_of_getElem? (i := 231) (by decide +kernel), rfl⟩, rfl, rfl, by decide⟩
theorem fl_RX2_40 : FL RX2 40 2 7 true (.array (.object "ProgressTracker$UpdateQueue")) := ⟨RX2, TX2, 10, tyX2, rfl, kl_cl2, tyX2_ok, nmX2, by decide, ⟨List.mem_of_getElem? (i := 232) (by decide +kernel), rfl⟩, rfl, rfl, by decide⟩
theorem fl_RX7_185 : FL RX7 185 2 7 true (.array (.object "ProgressTracker$UpdateQueue")) := ⟨RX2, TX2, 10, tyX2, rfl, kl_cl2, tyX2_ok, nmX2, by decide, ⟨List.mem_of_getElem? (i := 233) (by decide +kernel), rfl⟩, rfl, rfl, by decide⟩
theorem fl_RX2_44 : FL RX2 44 2 8 true (.array .int) := ⟨RX2, TX2, 10, tyX2, rfl, kl_cl2, tyX2_ok, nmX2, by decide, ⟨List.mem_of_getElem? (i := 234) (by decide +kernel), rfl⟩, rfl, rfl, by decide⟩
theorem fl_RX7_114 : FL RX7 114 2 8 true (.array .int) := ⟨RX2, TX2, 10, tyX2, rfl, kl_cl2, tyX2_ok, nmX2, by decide, ⟨List.mem_of_getElem? (i := 235) (by decide +kernel), rfl⟩, rfl, rfl, by decide⟩
theorem fl_RX2_48 : FL RX2 48 2 9 true (.array .int) := ⟨RX2, TX2, 10, tyX2, rfl, kl_cl2, tyX2_ok, nmX2, by decide, ⟨List.mem_of_getElem? (i := 236) (by decide +kernel), rfl⟩, rfl, rfl, by decide⟩
theorem fl_RX7_9 : FL RX7 9 7 0 true (.array .int) := ⟨RX7, TX7, 5, tyX7, rfl, kl_cl7, tyX7_ok, nmX7, by decide, ⟨List.mem_of_getElem? (i := 258) (by decide +kernel), rfl⟩, rfl, rfl, by decide⟩
theorem fl_RX7_15 : FL RX7 15 7 1 true (.array (.object "ProgressTracker$State")) := ⟨RX7, TX7, 5, tyX7, rfl, kl_cl7, tyX7_ok, nmX7, by decide, ⟨List.mem_of_getElem? (i := 259) (by decide +kernel), rfl⟩, rfl, rfl, by decide⟩
theorem fl_RX7_22 : FL RX7 22 7 2 true (.object "ProgressTracker$Ways") := ⟨RX7, TX7, 5, tyX7, rfl, kl_cl7, tyX7_ok, nmX7, by decide, ⟨List.mem_of_getElem? (i := 260) (by decide +kernel), rfl⟩, rfl, rfl, by decide⟩
theorem fl_RX7_27 : FL RX7 27 7 3 false (.object "ProgressTracker$State") := ⟨RX7, TX7, 5, tyX7, rfl, kl_cl7, tyX7_ok, nmX7, by decide, ⟨List.mem_of_getElem? (i := 261) (by decide +kernel), rfl⟩, rfl, rfl, by decide⟩
theorem fl_RX7_232 : FL RX7 232 7 4 false (.int) := ⟨RX7, TX7, 5, tyX7, rfl, kl_cl7, tyX7_ok, nmX7, by decide, ⟨List.mem_of_getElem? (i := 262) (by decide +kernel), rfl⟩, rfl, rfl, by decide⟩
theorem lk_RL_13 : LK RL 13 yX7_addNode := ⟨List.mem_of_getElem? (i := 274) (by decide +kernel), rfl⟩
theorem lk_RX7_31 : LK RX7 31 yX7_isFlag := ⟨List.mem_of_getElem? (i := 278) (by decide +kernel), rfl⟩
theorem lk_RX7_35 : LK RX7 35 yX7_fail := ⟨List.mem_of_getElem? (i := 281) (by decide +kernel), rfl⟩
theorem lk_RX7_53 : LK RX7 53 yX7_save := ⟨List.mem_of_getElem? (i := 285) (by decide +kernel), rfl⟩
theorem lk_RX7_281 : LK RX7 281 yX7_dropOldest := ⟨List.mem_of_getElem? (i := 289) (by decide +kernel), rfl⟩
theorem lk_RX7_284 : LK RX7 284 yX2_copyFrom := ⟨List.mem_of_getElem? (i := 293) (by decide +kernel), rfl⟩
theorem lk_RX2_111 : LK RX2 111 yX0_copyFrom := ⟨List.mem_of_getElem? (i := 297) (by decide +kernel), rfl⟩
theorem lk_RX0_59 : LK RX0 59 arraycopyName := ⟨List.mem_of_getElem? (i := 301) (by decide +kernel), rfl⟩
theorem lk_RX2_115 : LK RX2 115 yX1_copyFrom := ⟨List.mem_of_getElem? (i := 304) (by decide +kernel), rfl⟩
theorem lk_RX1_31 : LK RX1 31 arraycopyName := ⟨List.mem_of_getElem? (i := 308) (by decide +kernel), rfl⟩
theorem lk_RX2_118 : LK RX2 118 yX6_copyFrom := ⟨List.mem_of_getElem? (i := 309) (by decide +kernel), rfl⟩
theorem lk_RX6_22 : LK RX6 22 arraycopyName := ⟨List.mem_of_getElem? (i := 313) (by decide +kernel), rfl⟩
theorem lk_RX2_121 : LK RX2 121 yX4_copyFrom := ⟨List.mem_of_getElem? (i := 314) (by decide +kernel), rfl⟩
theorem lk_RX4_40 : LK RX4 40 yX4_makeRoom := ⟨List.mem_of_getElem? (i := 318) (by decide +kernel), rfl⟩
theorem lk_RX4_49 : LK RX4 49 yJ7_copyOf_59c91 := ⟨List.mem_of_getElem? (i := 322) (by decide +kernel), rfl⟩
theorem lk_RJ7_304 : LK RJ7 304 yJ9_min_7cf53 := ⟨List.mem_of_getElem? (i := 332) (by decide +kernel), rfl⟩
theorem lk_RJ7_150 : LK RJ7 150 arraycopyName := ⟨List.mem_of_getElem? (i := 335) (by decide +kernel), rfl⟩
theorem lk_RX4_43 : LK RX4 43 arraycopyName := ⟨List.mem_of_getElem? (i := 336) (by decide +kernel), rfl⟩
theorem lk_RX2_124 : LK RX2 124 yX3_copyFrom := ⟨List.mem_of_getElem? (i := 337) (by decide +kernel), rfl⟩
theorem lk_RX3_35 : LK RX3 35 arraycopyName := ⟨List.mem_of_getElem? (i := 341) (by decide +kernel), rfl⟩
theorem lk_RX2_127 : LK RX2 127 arraycopyName := ⟨List.mem_of_getElem? (i := 342) (by decide +kernel), rfl⟩
theorem lk_RX7_56 : LK RX7 56 yX5_forget := ⟨List.mem_of_getElem? (i := 343) (by decide +kernel), rfl⟩
theorem lk_RX7_59 : LK RX7 59 yX2_appendNode := ⟨List.mem_of_getElem? (i := 347) (by decide +kernel), rfl⟩
theorem lk_RX2_59 : LK RX2 59 yX0_appendNode := ⟨List.mem_of_getElem? (i := 351) (by decide +kernel), rfl⟩
theorem ln_RX2_63 : LN RX2 63 yX7_stampOf := ⟨"ProgressTracker", List.mem_of_getElem? (i := 355) (by decide +kernel)⟩
theorem lk_RX2_67 : LK RX2 67 yX4_change := ⟨List.mem_of_getElem? (i := 358) (by decide +kernel), rfl⟩
theorem lk_RX4_25 : LK RX4 25 yX4_firstRowFrom := ⟨List.mem_of_getElem? (i := 362) (by decide +kernel), rfl⟩
theorem lk_RX4_32 : LK RX4 32 yX4_insert := ⟨List.mem_of_getElem? (i := 366) (by decide +kernel), rfl⟩
theorem lk_RX4_36 : LK RX4 36 yX4_remove := ⟨List.mem_of_getElem? (i := 370) (by decide +kernel), rfl⟩
theorem lk_RL_18 : LK RL 18 yX7_addEdge := ⟨List.mem_of_getElem? (i := 374) (by decide +kernel), rfl⟩
theorem lk_RX7_63 : LK RX7 63 yX0_hasNode := ⟨List.mem_of_getElem? (i := 378) (by decide +kernel), rfl⟩
theorem lk_RX7_66 : LK RX7 66 yX2_isInput := ⟨List.mem_of_getElem? (i := 382) (by decide +kernel), rfl⟩
theorem lk_RX7_69 : LK RX7 69 yX0_allowsEdge := ⟨List.mem_of_getElem? (i := 386) (by decide +kernel), rfl⟩
theorem lk_RX0_45 : LK RX0 45 yX0_putEdge := ⟨List.mem_of_getElem? (i := 390) (by decide +kernel), rfl⟩
theorem lk_RX0_52 : LK RX0 52 yX0_kindBetween := ⟨List.mem_of_getElem? (i := 394) (by decide +kernel), rfl⟩
theorem lk_RX0_49 : LK RX0 49 yX0_returnsWithoutFeedback := ⟨List.mem_of_getElem? (i := 397) (by decide +kernel), rfl⟩
theorem lk_RX0_31 : LK RX0 31 yX0_contains := ⟨List.mem_of_getElem? (i := 401) (by decide +kernel), rfl⟩
theorem lk_RX0_56 : LK RX0 56 yX0_staysWithoutFeedback := ⟨List.mem_of_getElem? (i := 404) (by decide +kernel), rfl⟩
theorem lk_RX7_76 : LK RX7 76 yX0_appendEdge := ⟨List.mem_of_getElem? (i := 408) (by decide +kernel), rfl⟩
theorem lk_RL_23 : LK RL 23 yX7_kind := ⟨List.mem_of_getElem? (i := 412) (by decide +kernel), rfl⟩
theorem lk_RX7_80 : LK RX7 80 yX0_hasEdge := ⟨List.mem_of_getElem? (i := 416) (by decide +kernel), rfl⟩
theorem lk_RL_28 : LK RL 28 yX7_move := ⟨List.mem_of_getElem? (i := 420) (by decide +kernel), rfl⟩
theorem lk_RX7_86 : LK RX7 86 yX0_hasTime := ⟨List.mem_of_getElem? (i := 424) (by decide +kernel), rfl⟩
theorem lk_RX0_42 : LK RX0 42 yX0_hasLocation := ⟨List.mem_of_getElem? (i := 428) (by decide +kernel), rfl⟩
theorem lk_RX0_35 : LK RX0 35 yX0_hasNode := ⟨List.mem_of_getElem? (i := 432) (by decide +kernel), rfl⟩
theorem lk_RX0_39 : LK RX0 39 yX0_hasEdge := ⟨List.mem_of_getElem? (i := 433) (by decide +kernel), rfl⟩
theorem lk_RX7_90 : LK RX7 90 yX0_timeAfter := ⟨List.mem_of_getElem? (i := 434) (by decide +kernel), rfl⟩
theorem lk_RL_32 : LK RL 32 yX7_couldResultIn := ⟨List.mem_of_getElem? (i := 438) (by decide +kernel), rfl⟩
theorem lk_RX7_94 : LK RX7 94 yX7_stampOf := ⟨List.mem_of_getElem? (i := 442) (by decide +kernel), rfl⟩
theorem lk_RX7_97 : LK RX7 97 yX5_lead := ⟨List.mem_of_getElem? (i := 443) (by decide +kernel), rfl⟩
theorem lk_RX5_28 : LK RX5 28 yX5_leastCounters := ⟨List.mem_of_getElem? (i := 447) (by decide +kernel), rfl⟩
theorem ln_RX5_32 : LN RX5 32 yX7_countersOf := ⟨"ProgressTracker", List.mem_of_getElem? (i := 451) (by decide +kernel)⟩
theorem lk_RX5_36 : LK RX5 36 yX5_makeRows := ⟨List.mem_of_getElem? (i := 454) (by decide +kernel), rfl⟩
theorem lk_RX5_39 : LK RX5 39 yX5_search := ⟨List.mem_of_getElem? (i := 458) (by decide +kernel), rfl⟩
theorem lk_RX5_43 : LK RX5 43 yJ7_fill_fda19 := ⟨List.mem_of_getElem? (i := 462) (by decide +kernel), rfl⟩
theorem lk_RJ7_13 : LK RJ7 13 yJ7_rangeCheck_23922 := ⟨List.mem_of_getElem? (i := 465) (by decide +kernel), rfl⟩
theorem lk_RX5_55 : LK RX5 55 yX5_addPlace := ⟨List.mem_of_getElem? (i := 468) (by decide +kernel), rfl⟩
theorem lk_RX5_67 : LK RX5 67 yX0_timeAfter := ⟨List.mem_of_getElem? (i := 472) (by decide +kernel), rfl⟩
theorem lk_RL_37 : LK RL 37 yX7_earliest := ⟨List.mem_of_getElem? (i := 473) (by decide +kernel), rfl⟩
theorem lk_RX7_101 : LK RX7 101 yX0_hasLocation := ⟨List.mem_of_getElem? (i := 477) (by decide +kernel), rfl⟩
theorem lk_RX7_104 : LK RX7 104 yX5_leastCounters := ⟨List.mem_of_getElem? (i := 478) (by decide +kernel), rfl⟩
theorem lk_RX7_108 : LK RX7 108 yX7_countersOf := ⟨List.mem_of_getElem? (i := 479) (by decide +kernel), rfl⟩
theorem lk_RL_41 : LK RL 41 yX7_send := ⟨List.mem_of_getElem? (i := 480) (by decide +kernel), rfl⟩
theorem lk_RX7_111 : LK RX7 111 yX7_isWorker := ⟨List.mem_of_getElem? (i := 484) (by decide +kernel), rfl⟩
theorem lk_RX7_124 : LK RX7 124 yX1_isFull := ⟨List.mem_of_getElem? (i := 487) (by decide +kernel), rfl⟩
theorem lk_RX1_18 : LK RX1 18 yX1_sizeOf := ⟨List.mem_of_getElem? (i := 491) (by decide +kernel), rfl⟩
theorem lk_RX7_129 : LK RX7 129 yX7_beginEvent := ⟨List.mem_of_getElem? (i := 495) (by decide +kernel), rfl⟩
theorem lk_RX7_132 : LK RX7 132 yX2_putMessage := ⟨List.mem_of_getElem? (i := 499) (by decide +kernel), rfl⟩
theorem lk_RX2_83 : LK RX2 83 yX1_put := ⟨List.mem_of_getElem? (i := 503) (by decide +kernel), rfl⟩
theorem lk_RX2_87 : LK RX2 87 yX2_update := ⟨List.mem_of_getElem? (i := 507) (by decide +kernel), rfl⟩
theorem lk_RX2_90 : LK RX2 90 yX3_add := ⟨List.mem_of_getElem? (i := 511) (by decide +kernel), rfl⟩
theorem lk_RX3_20 : LK RX3 20 yX3_makeRoomAtEnd := ⟨List.mem_of_getElem? (i := 515) (by decide +kernel), rfl⟩
theorem lk_RL_45 : LK RL 45 yX7_advance := ⟨List.mem_of_getElem? (i := 519) (by decide +kernel), rfl⟩
theorem lk_RX7_136 : LK RX7 136 yX2_update := ⟨List.mem_of_getElem? (i := 523) (by decide +kernel), rfl⟩
theorem lk_RL_49 : LK RL 49 yX7_close := ⟨List.mem_of_getElem? (i := 524) (by decide +kernel), rfl⟩
theorem lk_RL_53 : LK RL 53 yX7_process := ⟨List.mem_of_getElem? (i := 528) (by decide +kernel), rfl⟩
theorem lk_RX7_140 : LK RX7 140 yX0_hasEdges := ⟨List.mem_of_getElem? (i := 532) (by decide +kernel), rfl⟩
theorem lk_RX7_146 : LK RX7 146 yX1_sizeOf := ⟨List.mem_of_getElem? (i := 536) (by decide +kernel), rfl⟩
theorem lk_RX7_149 : LK RX7 149 yX0_startAllAt := ⟨List.mem_of_getElem? (i := 537) (by decide +kernel), rfl⟩
theorem lk_RX7_152 : LK RX7 152 yX1_isAnyFull := ⟨List.mem_of_getElem? (i := 541) (by decide +kernel), rfl⟩
theorem lk_RX1_22 : LK RX1 22 yX0_contains := ⟨List.mem_of_getElem? (i := 545) (by decide +kernel), rfl⟩
theorem lk_RX1_28 : LK RX1 28 yX1_isFull := ⟨List.mem_of_getElem? (i := 546) (by decide +kernel), rfl⟩
theorem lk_RX7_159 : LK RX7 159 yX6_isFull := ⟨List.mem_of_getElem? (i := 547) (by decide +kernel), rfl⟩
theorem lk_RX7_163 : LK RX7 163 yX1_take := ⟨List.mem_of_getElem? (i := 551) (by decide +kernel), rfl⟩
theorem lk_RX7_166 : LK RX7 166 yX2_putMessages := ⟨List.mem_of_getElem? (i := 555) (by decide +kernel), rfl⟩
theorem lk_RX2_75 : LK RX2 75 yX0_contains := ⟨List.mem_of_getElem? (i := 559) (by decide +kernel), rfl⟩
theorem lk_RX2_79 : LK RX2 79 yX2_putMessage := ⟨List.mem_of_getElem? (i := 560) (by decide +kernel), rfl⟩
theorem lk_RX7_169 : LK RX7 169 yX6_put := ⟨List.mem_of_getElem? (i := 561) (by decide +kernel), rfl⟩
theorem lk_RX7_173 : LK RX7 173 yX2_recordArrival := ⟨List.mem_of_getElem? (i := 565) (by decide +kernel), rfl⟩
theorem ln_RX2_93 : LN RX2 93 yX7_countersOf := ⟨"ProgressTracker", List.mem_of_getElem? (i := 569) (by decide +kernel)⟩
theorem lk_RL_58 : LK RL 58 yX7_deliver := ⟨List.mem_of_getElem? (i := 570) (by decide +kernel), rfl⟩
theorem lk_RX7_176 : LK RX7 176 yX7_leastDeliverable := ⟨List.mem_of_getElem? (i := 574) (by decide +kernel), rfl⟩
theorem lk_RX7_273 : LK RX7 273 yX6_sizeOf := ⟨List.mem_of_getElem? (i := 578) (by decide +kernel), rfl⟩
theorem lk_RX7_275 : LK RX7 275 yX6_stampAt := ⟨List.mem_of_getElem? (i := 582) (by decide +kernel), rfl⟩
theorem lk_RX7_278 : LK RX7 278 yX4_rowOf := ⟨List.mem_of_getElem? (i := 586) (by decide +kernel), rfl⟩
theorem lk_RX7_218 : LK RX7 218 yX7_isOnFrontier := ⟨List.mem_of_getElem? (i := 590) (by decide +kernel), rfl⟩
theorem lk_RX7_179 : LK RX7 179 yX6_remove := ⟨List.mem_of_getElem? (i := 594) (by decide +kernel), rfl⟩
theorem lk_RX6_18 : LK RX6 18 yX6_stampAt := ⟨List.mem_of_getElem? (i := 598) (by decide +kernel), rfl⟩
theorem lk_RX7_182 : LK RX7 182 yX2_recordDelivery := ⟨List.mem_of_getElem? (i := 599) (by decide +kernel), rfl⟩
theorem lk_RX2_96 : LK RX2 96 yJ9_max_7cf53 := ⟨List.mem_of_getElem? (i := 603) (by decide +kernel), rfl⟩
theorem lk_RL_62 : LK RL 62 yX7_receive := ⟨List.mem_of_getElem? (i := 606) (by decide +kernel), rfl⟩
theorem lk_RX7_193 : LK RX7 193 yX3_moveTo := ⟨List.mem_of_getElem? (i := 610) (by decide +kernel), rfl⟩
theorem lk_RX3_23 : LK RX3 23 yJ9_min_7cf53 := ⟨List.mem_of_getElem? (i := 614) (by decide +kernel), rfl⟩
theorem lk_RX3_29 : LK RX3 29 yX4_change := ⟨List.mem_of_getElem? (i := 615) (by decide +kernel), rfl⟩
theorem lk_RL_66 : LK RL 66 yX7_messages := ⟨List.mem_of_getElem? (i := 616) (by decide +kernel), rfl⟩
theorem lk_RL_70 : LK RL 70 yX7_messageTime := ⟨List.mem_of_getElem? (i := 620) (by decide +kernel), rfl⟩
theorem lk_RX7_199 : LK RX7 199 yX1_timeOf := ⟨List.mem_of_getElem? (i := 624) (by decide +kernel), rfl⟩
theorem lk_RL_74 : LK RL 74 yX7_requests := ⟨List.mem_of_getElem? (i := 628) (by decide +kernel), rfl⟩
theorem lk_RX7_203 : LK RX7 203 yX6_countAt := ⟨List.mem_of_getElem? (i := 632) (by decide +kernel), rfl⟩
theorem lk_RL_78 : LK RL 78 yX7_deliverable := ⟨List.mem_of_getElem? (i := 636) (by decide +kernel), rfl⟩
theorem lk_RL_82 : LK RL 82 yX7_count := ⟨List.mem_of_getElem? (i := 640) (by decide +kernel), rfl⟩
theorem lk_RX7_206 : LK RX7 206 yX4_countOf := ⟨List.mem_of_getElem? (i := 644) (by decide +kernel), rfl⟩
theorem lk_RX4_21 : LK RX4 21 yX4_rowOf := ⟨List.mem_of_getElem? (i := 648) (by decide +kernel), rfl⟩
theorem lk_RL_86 : LK RL 86 yX7_active := ⟨List.mem_of_getElem? (i := 649) (by decide +kernel), rfl⟩
theorem lk_RX7_211 : LK RX7 211 yX4_countActive := ⟨List.mem_of_getElem? (i := 653) (by decide +kernel), rfl⟩
theorem lk_RL_90 : LK RL 90 yX7_frontier := ⟨List.mem_of_getElem? (i := 657) (by decide +kernel), rfl⟩
theorem lk_RL_94 : LK RL 94 yX7_pending := ⟨List.mem_of_getElem? (i := 661) (by decide +kernel), rfl⟩
theorem lk_RL_98 : LK RL 98 yX7_delivered := ⟨List.mem_of_getElem? (i := 665) (by decide +kernel), rfl⟩
theorem lk_RL_103 : LK RL 103 yX7_violations := ⟨List.mem_of_getElem? (i := 669) (by decide +kernel), rfl⟩
theorem lk_RL_107 : LK RL 107 yX7_undo := ⟨List.mem_of_getElem? (i := 673) (by decide +kernel), rfl⟩
theorem lk_RX7_235 : LK RX7 235 yX0_isAsLargeAs := ⟨List.mem_of_getElem? (i := 677) (by decide +kernel), rfl⟩
theorem lk_RL_111 : LK RL 111 yX7_errorCount := ⟨List.mem_of_getElem? (i := 681) (by decide +kernel), rfl⟩
theorem lk_RL_115 : LK RL 115 yX7_digest := ⟨List.mem_of_getElem? (i := 685) (by decide +kernel), rfl⟩
theorem kc_RX7_239 : Cond.constantLong RX7 239 (2731 : Int64) ∈ lw_tbl ∧ kw (Cond.constantLong RX7 239 (2731 : Int64)) = true := ⟨List.mem_of_getElem? (i := 689) (by decide +kernel), rfl⟩
theorem lk_RX7_241 : LK RX7 241 yX7_mix := ⟨List.mem_of_getElem? (i := 690) (by decide +kernel), rfl⟩
theorem kc_RX7_268 : Cond.constantLong RX7 268 (31 : Int64) ∈ lw_tbl ∧ kw (Cond.constantLong RX7 268 (31 : Int64)) = true := ⟨List.mem_of_getElem? (i := 693) (by decide +kernel), rfl⟩
theorem lk_RX7_245 : LK RX7 245 yX7_mixGraph := ⟨List.mem_of_getElem? (i := 694) (by decide +kernel), rfl⟩
theorem lk_RX7_249 : LK RX7 249 yX7_mixMail := ⟨List.mem_of_getElem? (i := 698) (by decide +kernel), rfl⟩
theorem lk_RX7_252 : LK RX7 252 yX7_mixNotifications := ⟨List.mem_of_getElem? (i := 702) (by decide +kernel), rfl⟩
theorem lk_RX7_255 : LK RX7 255 yX7_mixView := ⟨List.mem_of_getElem? (i := 706) (by decide +kernel), rfl⟩
theorem lk_RX7_261 : LK RX7 261 yX7_markFrontier := ⟨List.mem_of_getElem? (i := 710) (by decide +kernel), rfl⟩
theorem nw_RL_10 : NW RL 10 8 [.null, .null, vi 0, .null, .null, .null, .null, .null, vi 0, .null, .null, .null, vi 0, .long 0] := ⟨RX8, TX8, tyX8, rfl, kl_cl8, tyX8_ok, ⟨List.mem_of_getElem? (i := 714) (by decide +kernel), rfl⟩, ⟨List.mem_of_getElem? (i := 715) (by decide +kernel), rfl⟩, ⟨List.mem_of_getElem? (i := 65) (by decide +kernel), rfl⟩, fun j hj => by
  have h : j < 14 := hj
  rcases (show j = 0 ∨ j = 1 ∨ j = 2 ∨ j = 3 ∨ j = 4 ∨ j = 5 ∨ j = 6 ∨ j = 7 ∨ j = 8 ∨ j = 9 ∨ j = 10 ∨ j = 11 ∨ j = 12 ∨ j = 13 by omega) with rfl | rfl | rfl | rfl | rfl | rfl | rfl | rfl | rfl | rfl | rfl | rfl | rfl | rfl <;> rfl⟩
theorem lk_RL_12 : LK RL 12 yX8_init := ⟨List.mem_of_getElem? (i := 716) (by decide +kernel), rfl⟩
theorem lk_RX8_1 : LK RX8 1 objectInit := ⟨List.mem_of_getElem? (i := 719) (by decide +kernel), rfl⟩
theorem kc_RX8_7 : Cond.constant RX8 7 (Int32.ofInt 54743) ∈ lw_tbl ∧ kw (Cond.constant RX8 7 (Int32.ofInt 54743)) = true := ⟨List.mem_of_getElem? (i := 720) (by decide +kernel), rfl⟩
theorem kc_RX8_14 : Cond.constant RX8 14 (Int32.ofInt 164229) ∈ lw_tbl ∧ kw (Cond.constant RX8 14 (Int32.ofInt 164229)) = true := ⟨List.mem_of_getElem? (i := 721) (by decide +kernel), rfl⟩
theorem fl_RX8_8 : FL RX8 8 8 0 true (.array .int) := ⟨RX8, TX8, 14, tyX8, rfl, kl_cl8, tyX8_ok, nmX8, by decide, ⟨List.mem_of_getElem? (i := 722) (by decide +kernel), rfl⟩, rfl, rfl, by decide⟩
theorem fl_RX8_15 : FL RX8 15 8 1 true (.array .int) := ⟨RX8, TX8, 14, tyX8, rfl, kl_cl8, tyX8_ok, nmX8, by decide, ⟨List.mem_of_getElem? (i := 723) (by decide +kernel), rfl⟩, rfl, rfl, by decide⟩
theorem fl_RX8_47 : FL RX8 47 8 2 false (.int) := ⟨RX8, TX8, 14, tyX8, rfl, kl_cl8, tyX8_ok, nmX8, by decide, ⟨List.mem_of_getElem? (i := 724) (by decide +kernel), rfl⟩, rfl, rfl, by decide⟩
theorem fl_RX8_18 : FL RX8 18 8 3 true (.array .int) := ⟨RX8, TX8, 14, tyX8, rfl, kl_cl8, tyX8_ok, nmX8, by decide, ⟨List.mem_of_getElem? (i := 725) (by decide +kernel), rfl⟩, rfl, rfl, by decide⟩
theorem fl_RX8_21 : FL RX8 21 8 4 true (.array .int) := ⟨RX8, TX8, 14, tyX8, rfl, kl_cl8, tyX8_ok, nmX8, by decide, ⟨List.mem_of_getElem? (i := 726) (by decide +kernel), rfl⟩, rfl, rfl, by decide⟩
theorem fl_RX8_24 : FL RX8 24 8 5 true (.array .int) := ⟨RX8, TX8, 14, tyX8, rfl, kl_cl8, tyX8_ok, nmX8, by decide, ⟨List.mem_of_getElem? (i := 727) (by decide +kernel), rfl⟩, rfl, rfl, by decide⟩
theorem fl_RX8_27 : FL RX8 27 8 6 true (.array .boolean) := ⟨RX8, TX8, 14, tyX8, rfl, kl_cl8, tyX8_ok, nmX8, by decide, ⟨List.mem_of_getElem? (i := 728) (by decide +kernel), rfl⟩, rfl, rfl, by decide⟩
theorem fl_RX8_31 : FL RX8 31 8 7 true (.array .int) := ⟨RX8, TX8, 14, tyX8, rfl, kl_cl8, tyX8_ok, nmX8, by decide, ⟨List.mem_of_getElem? (i := 729) (by decide +kernel), rfl⟩, rfl, rfl, by decide⟩
theorem fl_RX8_94 : FL RX8 94 8 8 false (.int) := ⟨RX8, TX8, 14, tyX8, rfl, kl_cl8, tyX8_ok, nmX8, by decide, ⟨List.mem_of_getElem? (i := 730) (by decide +kernel), rfl⟩, rfl, rfl, by decide⟩
theorem fl_RX8_34 : FL RX8 34 8 9 true (.array .int) := ⟨RX8, TX8, 14, tyX8, rfl, kl_cl8, tyX8_ok, nmX8, by decide, ⟨List.mem_of_getElem? (i := 731) (by decide +kernel), rfl⟩, rfl, rfl, by decide⟩
theorem fl_RX8_37 : FL RX8 37 8 10 true (.array .int) := ⟨RX8, TX8, 14, tyX8, rfl, kl_cl8, tyX8_ok, nmX8, by decide, ⟨List.mem_of_getElem? (i := 732) (by decide +kernel), rfl⟩, rfl, rfl, by decide⟩
theorem fl_RX8_40 : FL RX8 40 8 11 true (.array .boolean) := ⟨RX8, TX8, 14, tyX8, rfl, kl_cl8, tyX8_ok, nmX8, by decide, ⟨List.mem_of_getElem? (i := 733) (by decide +kernel), rfl⟩, rfl, rfl, by decide⟩
theorem fl_RX8_149 : FL RX8 149 8 12 false (.int) := ⟨RX8, TX8, 14, tyX8, rfl, kl_cl8, tyX8_ok, nmX8, by decide, ⟨List.mem_of_getElem? (i := 734) (by decide +kernel), rfl⟩, rfl, rfl, by decide⟩
theorem fl_RX8_173 : FL RX8 173 8 13 false (.long) := ⟨RX8, TX8, 14, tyX8, rfl, kl_cl8, tyX8_ok, nmX8, by decide, ⟨List.mem_of_getElem? (i := 735) (by decide +kernel), rfl⟩, rfl, rfl, by decide⟩
theorem lk_RL_110 : LK RL 110 yX8_undo := ⟨List.mem_of_getElem? (i := 766) (by decide +kernel), rfl⟩
theorem lk_RX8_52 : LK RX8 52 yX8_fails := ⟨List.mem_of_getElem? (i := 770) (by decide +kernel), rfl⟩
theorem lk_RL_17 : LK RL 17 yX8_addNode := ⟨List.mem_of_getElem? (i := 774) (by decide +kernel), rfl⟩
theorem lk_RX8_43 : LK RX8 43 yX8_within := ⟨List.mem_of_getElem? (i := 778) (by decide +kernel), rfl⟩
theorem lk_RX8_56 : LK RX8 56 yX8_saves := ⟨List.mem_of_getElem? (i := 781) (by decide +kernel), rfl⟩
theorem kc_RX8_51 : Cond.constant RX8 51 (Int32.ofInt 109486) ∈ lw_tbl ∧ kw (Cond.constant RX8 51 (Int32.ofInt 109486)) = true := ⟨List.mem_of_getElem? (i := 785) (by decide +kernel), rfl⟩
theorem lk_RX8_59 : LK RX8 59 yX8_viewAt := ⟨List.mem_of_getElem? (i := 786) (by decide +kernel), rfl⟩
theorem lk_RL_22 : LK RL 22 yX8_addEdge := ⟨List.mem_of_getElem? (i := 790) (by decide +kernel), rfl⟩
theorem lk_RX8_71 : LK RX8 71 yX8_isNode := ⟨List.mem_of_getElem? (i := 794) (by decide +kernel), rfl⟩
theorem lk_RX8_74 : LK RX8 74 yX8_mayLead := ⟨List.mem_of_getElem? (i := 798) (by decide +kernel), rfl⟩
theorem lk_RX8_63 : LK RX8 63 yX8_isInput := ⟨List.mem_of_getElem? (i := 802) (by decide +kernel), rfl⟩
theorem lk_RX8_67 : LK RX8 67 yX8_returns := ⟨List.mem_of_getElem? (i := 806) (by decide +kernel), rfl⟩
theorem lk_RL_27 : LK RL 27 yX8_kind := ⟨List.mem_of_getElem? (i := 810) (by decide +kernel), rfl⟩
theorem lk_RX8_77 : LK RX8 77 yX8_isEdge := ⟨List.mem_of_getElem? (i := 814) (by decide +kernel), rfl⟩
theorem lk_RX8_80 : LK RX8 80 yX8_kindOf := ⟨List.mem_of_getElem? (i := 818) (by decide +kernel), rfl⟩
theorem lk_RL_31 : LK RL 31 yX8_move := ⟨List.mem_of_getElem? (i := 822) (by decide +kernel), rfl⟩
theorem lk_RX8_86 : LK RX8 86 yX8_isTime := ⟨List.mem_of_getElem? (i := 826) (by decide +kernel), rfl⟩
theorem lk_RX8_83 : LK RX8 83 yX8_depthAt := ⟨List.mem_of_getElem? (i := 830) (by decide +kernel), rfl⟩
theorem lk_RX8_90 : LK RX8 90 yX8_moved := ⟨List.mem_of_getElem? (i := 834) (by decide +kernel), rfl⟩
theorem lk_RL_36 : LK RL 36 yX8_couldResultIn := ⟨List.mem_of_getElem? (i := 838) (by decide +kernel), rfl⟩
theorem lk_RX8_101 : LK RX8 101 yX8_isPlace := ⟨List.mem_of_getElem? (i := 842) (by decide +kernel), rfl⟩
theorem lk_RX8_104 : LK RX8 104 yX8_goes := ⟨List.mem_of_getElem? (i := 846) (by decide +kernel), rfl⟩
theorem lk_RX8_97 : LK RX8 97 yX8_reaches := ⟨List.mem_of_getElem? (i := 850) (by decide +kernel), rfl⟩
theorem lk_RL_40 : LK RL 40 yX8_earliest := ⟨List.mem_of_getElem? (i := 854) (by decide +kernel), rfl⟩
theorem lk_RL_44 : LK RL 44 yX8_send := ⟨List.mem_of_getElem? (i := 858) (by decide +kernel), rfl⟩
theorem lk_RX8_111 : LK RX8 111 yX8_isWorker := ⟨List.mem_of_getElem? (i := 862) (by decide +kernel), rfl⟩
theorem lk_RX8_114 : LK RX8 114 yX8_isFullLine := ⟨List.mem_of_getElem? (i := 865) (by decide +kernel), rfl⟩
theorem lk_RX8_108 : LK RX8 108 yX8_lineOf := ⟨List.mem_of_getElem? (i := 869) (by decide +kernel), rfl⟩
theorem lk_RX8_117 : LK RX8 117 yX8_puts := ⟨List.mem_of_getElem? (i := 873) (by decide +kernel), rfl⟩
theorem lk_RX8_121 : LK RX8 121 yX8_updates := ⟨List.mem_of_getElem? (i := 877) (by decide +kernel), rfl⟩
theorem kc_RX8_107 : Cond.constant RX8 107 (Int32.ofInt 38359) ∈ lw_tbl ∧ kw (Cond.constant RX8 107 (Int32.ofInt 38359)) = true := ⟨List.mem_of_getElem? (i := 881) (by decide +kernel), rfl⟩
theorem lk_RL_48 : LK RL 48 yX8_advance := ⟨List.mem_of_getElem? (i := 882) (by decide +kernel), rfl⟩
theorem lk_RL_52 : LK RL 52 yX8_close := ⟨List.mem_of_getElem? (i := 886) (by decide +kernel), rfl⟩
theorem lk_RL_57 : LK RL 57 yX8_process := ⟨List.mem_of_getElem? (i := 890) (by decide +kernel), rfl⟩
theorem lk_RX8_131 : LK RX8 131 yX8_areEdges := ⟨List.mem_of_getElem? (i := 894) (by decide +kernel), rfl⟩
theorem lk_RX8_134 : LK RX8 134 yX8_startAt := ⟨List.mem_of_getElem? (i := 898) (by decide +kernel), rfl⟩
theorem lk_RX8_125 : LK RX8 125 yX8_has := ⟨List.mem_of_getElem? (i := 902) (by decide +kernel), rfl⟩
theorem lk_RX8_137 : LK RX8 137 yX8_isOneFull := ⟨List.mem_of_getElem? (i := 905) (by decide +kernel), rfl⟩
theorem lk_RX8_140 : LK RX8 140 yX8_takes := ⟨List.mem_of_getElem? (i := 909) (by decide +kernel), rfl⟩
theorem lk_RX8_143 : LK RX8 143 yX8_violates := ⟨List.mem_of_getElem? (i := 913) (by decide +kernel), rfl⟩
theorem lk_RX8_128 : LK RX8 128 yX8_atMost := ⟨List.mem_of_getElem? (i := 917) (by decide +kernel), rfl⟩
theorem lk_RX8_146 : LK RX8 146 yX8_putsAll := ⟨List.mem_of_getElem? (i := 920) (by decide +kernel), rfl⟩
theorem lk_RL_61 : LK RL 61 yX8_deliver := ⟨List.mem_of_getElem? (i := 924) (by decide +kernel), rfl⟩
theorem lk_RX8_159 : LK RX8 159 yX8_findsFrontier := ⟨List.mem_of_getElem? (i := 928) (by decide +kernel), rfl⟩
theorem lk_RX8_152 : LK RX8 152 yX8_findsActive := ⟨List.mem_of_getElem? (i := 932) (by decide +kernel), rfl⟩
theorem lk_RX8_162 : LK RX8 162 yX8_nextAt := ⟨List.mem_of_getElem? (i := 936) (by decide +kernel), rfl⟩
theorem lk_RX8_156 : LK RX8 156 yX8_isOnFrontier := ⟨List.mem_of_getElem? (i := 940) (by decide +kernel), rfl⟩
theorem lk_RL_65 : LK RL 65 yX8_receive := ⟨List.mem_of_getElem? (i := 944) (by decide +kernel), rfl⟩
theorem lk_RL_69 : LK RL 69 yX8_messages := ⟨List.mem_of_getElem? (i := 948) (by decide +kernel), rfl⟩
theorem lk_RL_73 : LK RL 73 yX8_messageTime := ⟨List.mem_of_getElem? (i := 952) (by decide +kernel), rfl⟩
theorem lk_RL_77 : LK RL 77 yX8_requests := ⟨List.mem_of_getElem? (i := 956) (by decide +kernel), rfl⟩
theorem lk_RX8_165 : LK RX8 165 yX8_requestsOf := ⟨List.mem_of_getElem? (i := 960) (by decide +kernel), rfl⟩
theorem lk_RL_81 : LK RL 81 yX8_deliverable := ⟨List.mem_of_getElem? (i := 964) (by decide +kernel), rfl⟩
theorem lk_RL_85 : LK RL 85 yX8_count := ⟨List.mem_of_getElem? (i := 968) (by decide +kernel), rfl⟩
theorem lk_RL_89 : LK RL 89 yX8_active := ⟨List.mem_of_getElem? (i := 972) (by decide +kernel), rfl⟩
theorem lk_RL_93 : LK RL 93 yX8_frontier := ⟨List.mem_of_getElem? (i := 976) (by decide +kernel), rfl⟩
theorem lk_RX8_168 : LK RX8 168 yX8_frontierAt := ⟨List.mem_of_getElem? (i := 980) (by decide +kernel), rfl⟩
theorem lk_RL_97 : LK RL 97 yX8_pending := ⟨List.mem_of_getElem? (i := 984) (by decide +kernel), rfl⟩
theorem lk_RL_102 : LK RL 102 yX8_delivered := ⟨List.mem_of_getElem? (i := 988) (by decide +kernel), rfl⟩
theorem lk_RL_106 : LK RL 106 yX8_violations := ⟨List.mem_of_getElem? (i := 992) (by decide +kernel), rfl⟩
theorem lk_RL_114 : LK RL 114 yX8_errorCount := ⟨List.mem_of_getElem? (i := 996) (by decide +kernel), rfl⟩
theorem lk_RL_119 : LK RL 119 yX8_digest := ⟨List.mem_of_getElem? (i := 1000) (by decide +kernel), rfl⟩
theorem kc_RX8_180 : Cond.constantLong RX8 180 (2731 : Int64) ∈ lw_tbl ∧ kw (Cond.constantLong RX8 180 (2731 : Int64)) = true := ⟨List.mem_of_getElem? (i := 1004) (by decide +kernel), rfl⟩
theorem lk_RX8_177 : LK RX8 177 yX8_mix := ⟨List.mem_of_getElem? (i := 1005) (by decide +kernel), rfl⟩
theorem kc_RX8_171 : Cond.constantLong RX8 171 (31 : Int64) ∈ lw_tbl ∧ kw (Cond.constantLong RX8 171 (31 : Int64)) = true := ⟨List.mem_of_getElem? (i := 1009) (by decide +kernel), rfl⟩
theorem lk_RX8_182 : LK RX8 182 yX8_mixWorker := ⟨List.mem_of_getElem? (i := 1010) (by decide +kernel), rfl⟩
theorem ac_nat : Cond.native arraycopyName ∈ lw_tbl := List.mem_of_getElem? (i := 303) (by decide +kernel)
theorem ac_sta : Cond.static arraycopyName ∈ lw_tbl := List.mem_of_getElem? (i := 302) (by decide +kernel)
theorem ac_ini : Cond.initialized "java/lang/System" ∈ lw_tbl := List.mem_of_getElem? (i := 66) (by decide +kernel)
end
section
/-! names for what a write leaves -/
theorem j_nm {φ : Fi} {Y : Hp} {kc ks pc : Nat} {lo : List (Option Value)} {st : List Value} (kk : ∀ X1, X1 = Y → Jd φ X1 kc ks pc lo st) : Jd φ Y kc ks pc lo st := kk Y rfl
theorem upx {X X1 : Hp} {a a' l l' : Nat} {c c' : Cel} {v : Option (Nat × Cel)} (e : X1 = va_up X a' v) (h : X a = some (l, c)) (h' : X a' = some (l', c')) (hne : l ≠ l') : X1 a = some (l, c) := e ▸ ux h h' hne
theorem ups {X X1 : Hp} {a : Nat} {v : Option (Nat × Cel)} (e : X1 = va_up X a v) : X1 a = v := e ▸ us
theorem upn {X X1 : Hp} {a q : Nat} {z : Nat × Cel} {v : Option (Nat × Cel)} (e : X1 = va_up X q v) (h : X a = some z) (hq : X q = none) : X1 a = some z := e ▸ un h hq
theorem bz_r1 {p : Prop} (h : p) : some (vi 1) = some (vi (bz p)) := by rw [bz_t h]
theorem bz_r0 {p : Prop} (h : ¬ p) : some (vi 0) = some (vi (bz p)) := by rw [bz_f h]
end
section
/-- cells of other labels stay -/
def FR (X X' : Hp) : Prop := ∀ (a l : Nat) (c : Cel), X a = some (l, c) → l < 5000 → X' a = some (l, c)
theorem FR.refl (X : Hp) : FR X X := fun _ _ _ h _ => h
theorem FR.trans {X Y Z : Hp} (h : FR X Y) (g : FR Y Z) : FR X Z := fun a l c hx hl => g a l c (h a l c hx hl) hl
theorem FR.up {X X1 : Hp} {a l : Nat} {c : Cel} {v : Option (Nat × Cel)} (e : X1 = va_up X a v) (h : X a = some (l, c)) (hl : 5000 ≤ l) : FR X X1 := fun b lb cb hb hlb => upx e hb h (by omega)
def MM (X : Hp) (ad : Nat → Nat) (r pf : Int → Int) (sv : Int) (er sn lw rc wt : Int → Int) (wg : Int) (ls ac fi : Int → Int) (as : Int) (hh : Int64) : Prop :=
  X (ad 0) = some (5000, ob 8 [.ref (ad 1), .ref (ad 2), vi sv, .ref (ad 3), .ref (ad 4), .ref (ad 5), .ref (ad 6), .ref (ad 7), vi wg, .ref (ad 8), .ref (ad 9), .ref (ad 10), vi as, .long hh])
  ∧ X (ad 1) = some (5001, ia 0 54743 r)
  ∧ X (ad 2) = some (5002, ia 0 164229 pf)
  ∧ X (ad 3) = some (5003, ia 0 4 er)
  ∧ X (ad 4) = some (5004, ia 0 6 sn)
  ∧ X (ad 5) = some (5005, ia 0 6 lw)
  ∧ X (ad 6) = some (5006, ia 1 1600 rc)
  ∧ X (ad 7) = some (5007, ia 0 1600 wt)
  ∧ X (ad 8) = some (5008, ia 0 16 ls)
  ∧ X (ad 9) = some (5009, ia 0 16000 ac)
  ∧ X (ad 10) = some (5010, ia 1 16000 fi)
def MG (X0 X : Hp) (ad : Nat → Nat) (r pf : Int → Int) (sv : Int) (er sn lw rc wt : Int → Int) (wg : Int) (ls ac fi : Int → Int) (as : Int) (hh : Int64) : Prop := MM X ad r pf sv er sn lw rc wt wg ls ac fi as hh ∧ FR X0 X
section MGU
variable {X0 X X1 : Hp} {ad : Nat → Nat} {r pf : Int → Int} {sv : Int} {er sn lw rc wt : Int → Int} {wg : Int} {ls ac fi : Int → Int} {as : Int} {hh : Int64}
theorem MM.g (h : MM X ad r pf sv er sn lw rc wt wg ls ac fi as hh) : MG X X ad r pf sv er sn lw rc wt wg ls ac fi as hh := ⟨h, FR.refl X⟩
theorem MG.u_r (hM : MG X0 X ad r pf sv er sn lw rc wt wg ls ac fi as hh) {z : Int → Int} (e : X1 = va_up X (ad 1) (some (5001, ia 0 54743 z))) : MG X0 X1 ad z pf sv er sn lw rc wt wg ls ac fi as hh :=
  ⟨⟨upx e hM.1.1 hM.1.2.1 (by decide), ups e, upx e hM.1.2.2.1 hM.1.2.1 (by decide), upx e hM.1.2.2.2.1 hM.1.2.1 (by decide), upx e hM.1.2.2.2.2.1 hM.1.2.1 (by decide), upx e hM.1.2.2.2.2.2.1 hM.1.2.1 (by decide), upx e hM.1.2.2.2.2.2.2.1 hM.1.2.1 (by decide), upx e hM.1.2.2.2.2.2.2.2.1 hM.1.2.1 (by decide), upx e hM.1.2.2.2.2.2.2.2.2.1 hM.1.2.1 (by decide), upx e hM.1.2.2.2.2.2.2.2.2.2.1 hM.1.2.1 (by decide), upx e hM.1.2.2.2.2.2.2.2.2.2.2 hM.1.2.1 (by decide)⟩, hM.2.trans (FR.up e hM.1.2.1 (by decide))⟩
theorem MG.u_pf (hM : MG X0 X ad r pf sv er sn lw rc wt wg ls ac fi as hh) {z : Int → Int} (e : X1 = va_up X (ad 2) (some (5002, ia 0 164229 z))) : MG X0 X1 ad r z sv er sn lw rc wt wg ls ac fi as hh :=
  ⟨⟨upx e hM.1.1 hM.1.2.2.1 (by decide), upx e hM.1.2.1 hM.1.2.2.1 (by decide), ups e, upx e hM.1.2.2.2.1 hM.1.2.2.1 (by decide), upx e hM.1.2.2.2.2.1 hM.1.2.2.1 (by decide), upx e hM.1.2.2.2.2.2.1 hM.1.2.2.1 (by decide), upx e hM.1.2.2.2.2.2.2.1 hM.1.2.2.1 (by decide), upx e hM.1.2.2.2.2.2.2.2.1 hM.1.2.2.1 (by decide), upx e hM.1.2.2.2.2.2.2.2.2.1 hM.1.2.2.1 (by decide), upx e hM.1.2.2.2.2.2.2.2.2.2.1 hM.1.2.2.1 (by decide), upx e hM.1.2.2.2.2.2.2.2.2.2.2 hM.1.2.2.1 (by decide)⟩, hM.2.trans (FR.up e hM.1.2.2.1 (by decide))⟩
theorem MG.u_er (hM : MG X0 X ad r pf sv er sn lw rc wt wg ls ac fi as hh) {z : Int → Int} (e : X1 = va_up X (ad 3) (some (5003, ia 0 4 z))) : MG X0 X1 ad r pf sv z sn lw rc wt wg ls ac fi as hh :=
  ⟨⟨upx e hM.1.1 hM.1.2.2.2.1 (by decide), upx e hM.1.2.1 hM.1.2.2.2.1 (by decide), upx e hM.1.2.2.1 hM.1.2.2.2.1 (by decide), ups e, upx e hM.1.2.2.2.2.1 hM.1.2.2.2.1 (by decide), upx e hM.1.2.2.2.2.2.1 hM.1.2.2.2.1 (by decide), upx e hM.1.2.2.2.2.2.2.1 hM.1.2.2.2.1 (by decide), upx e hM.1.2.2.2.2.2.2.2.1 hM.1.2.2.2.1 (by decide), upx e hM.1.2.2.2.2.2.2.2.2.1 hM.1.2.2.2.1 (by decide), upx e hM.1.2.2.2.2.2.2.2.2.2.1 hM.1.2.2.2.1 (by decide), upx e hM.1.2.2.2.2.2.2.2.2.2.2 hM.1.2.2.2.1 (by decide)⟩, hM.2.trans (FR.up e hM.1.2.2.2.1 (by decide))⟩
theorem MG.u_sn (hM : MG X0 X ad r pf sv er sn lw rc wt wg ls ac fi as hh) {z : Int → Int} (e : X1 = va_up X (ad 4) (some (5004, ia 0 6 z))) : MG X0 X1 ad r pf sv er z lw rc wt wg ls ac fi as hh :=
  ⟨⟨upx e hM.1.1 hM.1.2.2.2.2.1 (by decide), upx e hM.1.2.1 hM.1.2.2.2.2.1 (by decide), upx e hM.1.2.2.1 hM.1.2.2.2.2.1 (by decide), upx e hM.1.2.2.2.1 hM.1.2.2.2.2.1 (by decide), ups e, upx e hM.1.2.2.2.2.2.1 hM.1.2.2.2.2.1 (by decide), upx e hM.1.2.2.2.2.2.2.1 hM.1.2.2.2.2.1 (by decide), upx e hM.1.2.2.2.2.2.2.2.1 hM.1.2.2.2.2.1 (by decide), upx e hM.1.2.2.2.2.2.2.2.2.1 hM.1.2.2.2.2.1 (by decide), upx e hM.1.2.2.2.2.2.2.2.2.2.1 hM.1.2.2.2.2.1 (by decide), upx e hM.1.2.2.2.2.2.2.2.2.2.2 hM.1.2.2.2.2.1 (by decide)⟩, hM.2.trans (FR.up e hM.1.2.2.2.2.1 (by decide))⟩
theorem MG.u_lw (hM : MG X0 X ad r pf sv er sn lw rc wt wg ls ac fi as hh) {z : Int → Int} (e : X1 = va_up X (ad 5) (some (5005, ia 0 6 z))) : MG X0 X1 ad r pf sv er sn z rc wt wg ls ac fi as hh :=
  ⟨⟨upx e hM.1.1 hM.1.2.2.2.2.2.1 (by decide), upx e hM.1.2.1 hM.1.2.2.2.2.2.1 (by decide), upx e hM.1.2.2.1 hM.1.2.2.2.2.2.1 (by decide), upx e hM.1.2.2.2.1 hM.1.2.2.2.2.2.1 (by decide), upx e hM.1.2.2.2.2.1 hM.1.2.2.2.2.2.1 (by decide), ups e, upx e hM.1.2.2.2.2.2.2.1 hM.1.2.2.2.2.2.1 (by decide), upx e hM.1.2.2.2.2.2.2.2.1 hM.1.2.2.2.2.2.1 (by decide), upx e hM.1.2.2.2.2.2.2.2.2.1 hM.1.2.2.2.2.2.1 (by decide), upx e hM.1.2.2.2.2.2.2.2.2.2.1 hM.1.2.2.2.2.2.1 (by decide), upx e hM.1.2.2.2.2.2.2.2.2.2.2 hM.1.2.2.2.2.2.1 (by decide)⟩, hM.2.trans (FR.up e hM.1.2.2.2.2.2.1 (by decide))⟩
theorem MG.u_rc (hM : MG X0 X ad r pf sv er sn lw rc wt wg ls ac fi as hh) {z : Int → Int} (e : X1 = va_up X (ad 6) (some (5006, ia 1 1600 z))) : MG X0 X1 ad r pf sv er sn lw z wt wg ls ac fi as hh :=
  ⟨⟨upx e hM.1.1 hM.1.2.2.2.2.2.2.1 (by decide), upx e hM.1.2.1 hM.1.2.2.2.2.2.2.1 (by decide), upx e hM.1.2.2.1 hM.1.2.2.2.2.2.2.1 (by decide), upx e hM.1.2.2.2.1 hM.1.2.2.2.2.2.2.1 (by decide), upx e hM.1.2.2.2.2.1 hM.1.2.2.2.2.2.2.1 (by decide), upx e hM.1.2.2.2.2.2.1 hM.1.2.2.2.2.2.2.1 (by decide), ups e, upx e hM.1.2.2.2.2.2.2.2.1 hM.1.2.2.2.2.2.2.1 (by decide), upx e hM.1.2.2.2.2.2.2.2.2.1 hM.1.2.2.2.2.2.2.1 (by decide), upx e hM.1.2.2.2.2.2.2.2.2.2.1 hM.1.2.2.2.2.2.2.1 (by decide), upx e hM.1.2.2.2.2.2.2.2.2.2.2 hM.1.2.2.2.2.2.2.1 (by decide)⟩, hM.2.trans (FR.up e hM.1.2.2.2.2.2.2.1 (by decide))⟩
theorem MG.u_wt (hM : MG X0 X ad r pf sv er sn lw rc wt wg ls ac fi as hh) {z : Int → Int} (e : X1 = va_up X (ad 7) (some (5007, ia 0 1600 z))) : MG X0 X1 ad r pf sv er sn lw rc z wg ls ac fi as hh :=
  ⟨⟨upx e hM.1.1 hM.1.2.2.2.2.2.2.2.1 (by decide), upx e hM.1.2.1 hM.1.2.2.2.2.2.2.2.1 (by decide), upx e hM.1.2.2.1 hM.1.2.2.2.2.2.2.2.1 (by decide), upx e hM.1.2.2.2.1 hM.1.2.2.2.2.2.2.2.1 (by decide), upx e hM.1.2.2.2.2.1 hM.1.2.2.2.2.2.2.2.1 (by decide), upx e hM.1.2.2.2.2.2.1 hM.1.2.2.2.2.2.2.2.1 (by decide), upx e hM.1.2.2.2.2.2.2.1 hM.1.2.2.2.2.2.2.2.1 (by decide), ups e, upx e hM.1.2.2.2.2.2.2.2.2.1 hM.1.2.2.2.2.2.2.2.1 (by decide), upx e hM.1.2.2.2.2.2.2.2.2.2.1 hM.1.2.2.2.2.2.2.2.1 (by decide), upx e hM.1.2.2.2.2.2.2.2.2.2.2 hM.1.2.2.2.2.2.2.2.1 (by decide)⟩, hM.2.trans (FR.up e hM.1.2.2.2.2.2.2.2.1 (by decide))⟩
theorem MG.u_ls (hM : MG X0 X ad r pf sv er sn lw rc wt wg ls ac fi as hh) {z : Int → Int} (e : X1 = va_up X (ad 8) (some (5008, ia 0 16 z))) : MG X0 X1 ad r pf sv er sn lw rc wt wg z ac fi as hh :=
  ⟨⟨upx e hM.1.1 hM.1.2.2.2.2.2.2.2.2.1 (by decide), upx e hM.1.2.1 hM.1.2.2.2.2.2.2.2.2.1 (by decide), upx e hM.1.2.2.1 hM.1.2.2.2.2.2.2.2.2.1 (by decide), upx e hM.1.2.2.2.1 hM.1.2.2.2.2.2.2.2.2.1 (by decide), upx e hM.1.2.2.2.2.1 hM.1.2.2.2.2.2.2.2.2.1 (by decide), upx e hM.1.2.2.2.2.2.1 hM.1.2.2.2.2.2.2.2.2.1 (by decide), upx e hM.1.2.2.2.2.2.2.1 hM.1.2.2.2.2.2.2.2.2.1 (by decide), upx e hM.1.2.2.2.2.2.2.2.1 hM.1.2.2.2.2.2.2.2.2.1 (by decide), ups e, upx e hM.1.2.2.2.2.2.2.2.2.2.1 hM.1.2.2.2.2.2.2.2.2.1 (by decide), upx e hM.1.2.2.2.2.2.2.2.2.2.2 hM.1.2.2.2.2.2.2.2.2.1 (by decide)⟩, hM.2.trans (FR.up e hM.1.2.2.2.2.2.2.2.2.1 (by decide))⟩
theorem MG.u_ac (hM : MG X0 X ad r pf sv er sn lw rc wt wg ls ac fi as hh) {z : Int → Int} (e : X1 = va_up X (ad 9) (some (5009, ia 0 16000 z))) : MG X0 X1 ad r pf sv er sn lw rc wt wg ls z fi as hh :=
  ⟨⟨upx e hM.1.1 hM.1.2.2.2.2.2.2.2.2.2.1 (by decide), upx e hM.1.2.1 hM.1.2.2.2.2.2.2.2.2.2.1 (by decide), upx e hM.1.2.2.1 hM.1.2.2.2.2.2.2.2.2.2.1 (by decide), upx e hM.1.2.2.2.1 hM.1.2.2.2.2.2.2.2.2.2.1 (by decide), upx e hM.1.2.2.2.2.1 hM.1.2.2.2.2.2.2.2.2.2.1 (by decide), upx e hM.1.2.2.2.2.2.1 hM.1.2.2.2.2.2.2.2.2.2.1 (by decide), upx e hM.1.2.2.2.2.2.2.1 hM.1.2.2.2.2.2.2.2.2.2.1 (by decide), upx e hM.1.2.2.2.2.2.2.2.1 hM.1.2.2.2.2.2.2.2.2.2.1 (by decide), upx e hM.1.2.2.2.2.2.2.2.2.1 hM.1.2.2.2.2.2.2.2.2.2.1 (by decide), ups e, upx e hM.1.2.2.2.2.2.2.2.2.2.2 hM.1.2.2.2.2.2.2.2.2.2.1 (by decide)⟩, hM.2.trans (FR.up e hM.1.2.2.2.2.2.2.2.2.2.1 (by decide))⟩
theorem MG.u_fi (hM : MG X0 X ad r pf sv er sn lw rc wt wg ls ac fi as hh) {z : Int → Int} (e : X1 = va_up X (ad 10) (some (5010, ia 1 16000 z))) : MG X0 X1 ad r pf sv er sn lw rc wt wg ls ac z as hh :=
  ⟨⟨upx e hM.1.1 hM.1.2.2.2.2.2.2.2.2.2.2 (by decide), upx e hM.1.2.1 hM.1.2.2.2.2.2.2.2.2.2.2 (by decide), upx e hM.1.2.2.1 hM.1.2.2.2.2.2.2.2.2.2.2 (by decide), upx e hM.1.2.2.2.1 hM.1.2.2.2.2.2.2.2.2.2.2 (by decide), upx e hM.1.2.2.2.2.1 hM.1.2.2.2.2.2.2.2.2.2.2 (by decide), upx e hM.1.2.2.2.2.2.1 hM.1.2.2.2.2.2.2.2.2.2.2 (by decide), upx e hM.1.2.2.2.2.2.2.1 hM.1.2.2.2.2.2.2.2.2.2.2 (by decide), upx e hM.1.2.2.2.2.2.2.2.1 hM.1.2.2.2.2.2.2.2.2.2.2 (by decide), upx e hM.1.2.2.2.2.2.2.2.2.1 hM.1.2.2.2.2.2.2.2.2.2.2 (by decide), upx e hM.1.2.2.2.2.2.2.2.2.2.1 hM.1.2.2.2.2.2.2.2.2.2.2 (by decide), ups e⟩, hM.2.trans (FR.up e hM.1.2.2.2.2.2.2.2.2.2.2 (by decide))⟩
theorem MG.u_sv (hM : MG X0 X ad r pf sv er sn lw rc wt wg ls ac fi as hh) {z : Int} (e : X1 = va_up X (ad 0) (some (5000, ob 8 ([.ref (ad 1), .ref (ad 2), vi sv, .ref (ad 3), .ref (ad 4), .ref (ad 5), .ref (ad 6), .ref (ad 7), vi wg, .ref (ad 8), .ref (ad 9), .ref (ad 10), vi as, .long hh].set 2 (vi z))))) : MG X0 X1 ad r pf z er sn lw rc wt wg ls ac fi as hh :=
  ⟨⟨ups e, upx e hM.1.2.1 hM.1.1 (by decide), upx e hM.1.2.2.1 hM.1.1 (by decide), upx e hM.1.2.2.2.1 hM.1.1 (by decide), upx e hM.1.2.2.2.2.1 hM.1.1 (by decide), upx e hM.1.2.2.2.2.2.1 hM.1.1 (by decide), upx e hM.1.2.2.2.2.2.2.1 hM.1.1 (by decide), upx e hM.1.2.2.2.2.2.2.2.1 hM.1.1 (by decide), upx e hM.1.2.2.2.2.2.2.2.2.1 hM.1.1 (by decide), upx e hM.1.2.2.2.2.2.2.2.2.2.1 hM.1.1 (by decide), upx e hM.1.2.2.2.2.2.2.2.2.2.2 hM.1.1 (by decide)⟩, hM.2.trans (FR.up e hM.1.1 (by decide))⟩
theorem MG.u_wg (hM : MG X0 X ad r pf sv er sn lw rc wt wg ls ac fi as hh) {z : Int} (e : X1 = va_up X (ad 0) (some (5000, ob 8 ([.ref (ad 1), .ref (ad 2), vi sv, .ref (ad 3), .ref (ad 4), .ref (ad 5), .ref (ad 6), .ref (ad 7), vi wg, .ref (ad 8), .ref (ad 9), .ref (ad 10), vi as, .long hh].set 8 (vi z))))) : MG X0 X1 ad r pf sv er sn lw rc wt z ls ac fi as hh :=
  ⟨⟨ups e, upx e hM.1.2.1 hM.1.1 (by decide), upx e hM.1.2.2.1 hM.1.1 (by decide), upx e hM.1.2.2.2.1 hM.1.1 (by decide), upx e hM.1.2.2.2.2.1 hM.1.1 (by decide), upx e hM.1.2.2.2.2.2.1 hM.1.1 (by decide), upx e hM.1.2.2.2.2.2.2.1 hM.1.1 (by decide), upx e hM.1.2.2.2.2.2.2.2.1 hM.1.1 (by decide), upx e hM.1.2.2.2.2.2.2.2.2.1 hM.1.1 (by decide), upx e hM.1.2.2.2.2.2.2.2.2.2.1 hM.1.1 (by decide), upx e hM.1.2.2.2.2.2.2.2.2.2.2 hM.1.1 (by decide)⟩, hM.2.trans (FR.up e hM.1.1 (by decide))⟩
theorem MG.u_as (hM : MG X0 X ad r pf sv er sn lw rc wt wg ls ac fi as hh) {z : Int} (e : X1 = va_up X (ad 0) (some (5000, ob 8 ([.ref (ad 1), .ref (ad 2), vi sv, .ref (ad 3), .ref (ad 4), .ref (ad 5), .ref (ad 6), .ref (ad 7), vi wg, .ref (ad 8), .ref (ad 9), .ref (ad 10), vi as, .long hh].set 12 (vi z))))) : MG X0 X1 ad r pf sv er sn lw rc wt wg ls ac fi z hh :=
  ⟨⟨ups e, upx e hM.1.2.1 hM.1.1 (by decide), upx e hM.1.2.2.1 hM.1.1 (by decide), upx e hM.1.2.2.2.1 hM.1.1 (by decide), upx e hM.1.2.2.2.2.1 hM.1.1 (by decide), upx e hM.1.2.2.2.2.2.1 hM.1.1 (by decide), upx e hM.1.2.2.2.2.2.2.1 hM.1.1 (by decide), upx e hM.1.2.2.2.2.2.2.2.1 hM.1.1 (by decide), upx e hM.1.2.2.2.2.2.2.2.2.1 hM.1.1 (by decide), upx e hM.1.2.2.2.2.2.2.2.2.2.1 hM.1.1 (by decide), upx e hM.1.2.2.2.2.2.2.2.2.2.2 hM.1.1 (by decide)⟩, hM.2.trans (FR.up e hM.1.1 (by decide))⟩
theorem MG.u_hh (hM : MG X0 X ad r pf sv er sn lw rc wt wg ls ac fi as hh) {z : Int64} (e : X1 = va_up X (ad 0) (some (5000, ob 8 ([.ref (ad 1), .ref (ad 2), vi sv, .ref (ad 3), .ref (ad 4), .ref (ad 5), .ref (ad 6), .ref (ad 7), vi wg, .ref (ad 8), .ref (ad 9), .ref (ad 10), vi as, .long hh].set 13 (.long z))))) : MG X0 X1 ad r pf sv er sn lw rc wt wg ls ac fi as z :=
  ⟨⟨ups e, upx e hM.1.2.1 hM.1.1 (by decide), upx e hM.1.2.2.1 hM.1.1 (by decide), upx e hM.1.2.2.2.1 hM.1.1 (by decide), upx e hM.1.2.2.2.2.1 hM.1.1 (by decide), upx e hM.1.2.2.2.2.2.1 hM.1.1 (by decide), upx e hM.1.2.2.2.2.2.2.1 hM.1.1 (by decide), upx e hM.1.2.2.2.2.2.2.2.1 hM.1.1 (by decide), upx e hM.1.2.2.2.2.2.2.2.2.1 hM.1.1 (by decide), upx e hM.1.2.2.2.2.2.2.2.2.2.1 hM.1.1 (by decide), upx e hM.1.2.2.2.2.2.2.2.2.2.2 hM.1.1 (by decide)⟩, hM.2.trans (FR.up e hM.1.1 (by decide))⟩
theorem MG.tr {r' pf' : Int → Int} {sv' : Int} {er' sn' lw' rc' wt' : Int → Int} {wg' : Int} {ls' ac' fi' : Int → Int} {as' : Int} {hh' : Int64} (h : MG X0 X ad r pf sv er sn lw rc wt wg ls ac fi as hh) (g : MG X X1 ad r' pf' sv' er' sn' lw' rc' wt' wg' ls' ac' fi' as' hh') : MG X0 X1 ad r' pf' sv' er' sn' lw' rc' wt' wg' ls' ac' fi' as' hh' := ⟨g.1, h.2.trans g.2⟩
end MGU
theorem sv_eq {a b : Int} (h : a = b) : some (vi a) = some (vi b) := by rw [h]
end
section
/-! the model's row -/
def GI (r : Int → Int) : Prop := (0 ≤ r 0 ∧ r 0 ≤ 6) ∧ (0 ≤ r 1 ∧ r 1 ≤ 10) ∧ (∀ n, 0 ≤ n → n < 6 → 0 ≤ r (5 + n) ∧ r (5 + n) ≤ 2) ∧ (∀ e, 0 ≤ e → e < 10 → (0 ≤ r (17 + e) ∧ r (17 + e) < 6) ∧ (0 ≤ r (27 + e) ∧ r (27 + e) < 6) ∧ (0 ≤ r (37 + e) ∧ r (37 + e) ≤ 1))
theorem GI.dep {r : Int → Int} (h : GI r) (n : Int) (h1 : 0 ≤ n) (h2 : n < 6) : 0 ≤ r (5 + n) ∧ r (5 + n) ≤ 2 := h.2.2.1 n h1 h2
theorem GI.ed {r : Int → Int} (h : GI r) (e : Int) (h1 : 0 ≤ e) (h2 : e < 10) : (0 ≤ r (17 + e) ∧ r (17 + e) < 6) ∧ (0 ≤ r (27 + e) ∧ r (27 + e) < 6) ∧ (0 ≤ r (37 + e) ∧ r (37 + e) ≤ 1) := h.2.2.2 e h1 h2
def m_kind (r : Int → Int) (e : Int) : Int := if r (37 + e) = 1 then 3 else if r (5 + r (27 + e)) - r (5 + r (17 + e)) = 0 then 0 else if 0 < r (5 + r (27 + e)) - r (5 + r (17 + e)) then 1 else 2
def m_place (r : Int → Int) (p : Int) : Prop := (p < 6 ∧ 0 ≤ p ∧ p ≤ r 0 - 1) ∨ (6 ≤ p ∧ p - 6 ≤ r 1 - 1)
theorem m_kind_rg (r : Int → Int) (e : Int) : 0 ≤ m_kind r e ∧ m_kind r e ≤ 3 := by unfold m_kind; (repeat' split) <;> omega
def m_depth (r : Int → Int) (p : Int) : Int := if p < 6 then r (5 + p) else r (5 + r (17 + p - 6))
theorem GI.ed' {r : Int → Int} (h : GI r) (p : Int) (h1 : 6 ≤ p) (h2 : p < 16) : (0 ≤ r (17 + p - 6) ∧ r (17 + p - 6) < 6) := by
  have := (h.ed (p - 6) (by omega) (by omega)).1
  rwa [show (17 : Int) + (p - 6) = 17 + p - 6 by omega] at this
theorem GI.dpl {r : Int → Int} (h : GI r) {p : Int} (h1 : 0 ≤ p) (h2 : p < 16) : 0 ≤ m_depth r p ∧ m_depth r p ≤ 2 := by
  unfold m_depth
  split
  · exact h.dep p h1 (by omega)
  · have := h.ed' p (by omega) h2
    exact h.dep _ this.1 this.2
def m_time (r : Int → Int) (p t : Int) : Prop := (0 ≤ t ∧ t ≤ 999) ∧ (m_depth r p = 2 ∨ (m_depth r p = 1 ∧ t % 10 = 0) ∨ (m_depth r p = 0 ∧ t % 100 = 0))
def m_moved (r : Int → Int) (e t : Int) : Int := if m_kind r e = 2 then (if r (5 + r (17 + e)) = 2 then t - t % 10 else t - t % 100) else if m_kind r e = 3 then (if r (5 + r (17 + e)) = 2 then (if t % 10 = 9 then -1 else t + 1) else (if t / 10 % 10 = 9 then -1 else t + 10)) else t
def pw (e : Int) : Int := 2 ^ e.toNat
def hb (o e : Int) : Prop := o / pw e % 2 = 1
theorem in10 {e : Int} {P : Int → Prop} (h1 : 0 ≤ e) (h2 : e ≤ 10) (h : P 0 ∧ P 1 ∧ P 2 ∧ P 3 ∧ P 4 ∧ P 5 ∧ P 6 ∧ P 7 ∧ P 8 ∧ P 9 ∧ P 10) : P e := by
  obtain ⟨a0, a1, a2, a3, a4, a5, a6, a7, a8, a9, a10⟩ := h
  rcases (show e = 0 ∨ e = 1 ∨ e = 2 ∨ e = 3 ∨ e = 4 ∨ e = 5 ∨ e = 6 ∨ e = 7 ∨ e = 8 ∨ e = 9 ∨ e = 10 by omega) with rfl | rfl | rfl | rfl | rfl | rfl | rfl | rfl | rfl | rfl | rfl <;> assumption
theorem pw_shl {E : Int} (h1 : 0 ≤ E) (h2 : E ≤ 10) : Int32.ofInt 1 <<< (Int32.ofInt E &&& 31) = Int32.ofInt (pw E) ∧ 1 ≤ pw E ∧ pw E ≤ 1024 :=
  in10 (P := fun E => Int32.ofInt 1 <<< (Int32.ofInt E &&& 31) = Int32.ofInt (pw E) ∧ 1 ≤ pw E ∧ pw E ≤ 1024) h1 h2 (by decide +kernel)
theorem ja_shr {a k : Int} (h1 : 0 ≤ a) (h2 : a ≤ 2147483647) (h3 : 0 ≤ k) (h4 : k ≤ 10) : Int32.ofInt a >>> (Int32.ofInt k &&& 31) = Int32.ofInt (a / pw k) := by
  have e0 : Int32.ofInt a = nI a.toNat := by
    show _ = Int32.ofNat a.toNat
    rw [show Int32.ofNat a.toNat = Int32.ofInt (a.toNat : Int) from rfl, Int.toNat_of_nonneg h1]
  have hs : ((Int32.ofInt k &&& 31).toBitVec.smod 32).toNat = k.toNat := in10 (P := fun k => ((Int32.ofInt k &&& 31).toBitVec.smod 32).toNat = k.toNat) h3 h4 (by decide +kernel)
  rw [e0, pk_shrN (by omega) _ _ hs]
  show Int32.ofNat (a.toNat / 2 ^ k.toNat) = _
  rw [show Int32.ofNat (a.toNat / 2 ^ k.toNat) = Int32.ofInt ((a.toNat / 2 ^ k.toNat : Nat) : Int) from rfl]
  congr 1
  rw [Int.natCast_ediv, Int.toNat_of_nonneg h1, pw]
  congr 1
theorem ja_and1 {a : Int} (h1 : 0 ≤ a) (h2 : a ≤ 2147483647) : Int32.ofInt a &&& Int32.ofInt 1 = Int32.ofInt (a % 2) := by
  have e0 : Int32.ofInt a = nI a.toNat := by
    show _ = Int32.ofNat a.toNat
    rw [show Int32.ofNat a.toNat = Int32.ofInt (a.toNat : Int) from rfl, Int.toNat_of_nonneg h1]
  rw [e0, pk_andN (by omega) 1 (by decide)]
  show Int32.ofNat (a.toNat % 2 ^ 1) = _
  rw [show Int32.ofNat (a.toNat % 2 ^ 1) = Int32.ofInt ((a.toNat % 2 ^ 1 : Nat) : Int) from rfl]
  congr 1
  omega
theorem hb_sh {o e : Int} (h1 : 0 ≤ o) (h2 : o < 1024) (h3 : 0 ≤ e) (h4 : e < 10) : Int32.ofInt o >>> (Int32.ofInt e &&& 31) = Int32.ofInt (o / pw e) ∧ Int32.ofInt (o / pw e) &&& Int32.ofInt 1 = Int32.ofInt (o / pw e % 2) ∧ 0 ≤ o / pw e ∧ o / pw e < 1024 := by
  have hp := (pw_shl h3 (by omega)).2
  have a1 : 0 ≤ o / pw e := Int.ediv_nonneg h1 (by omega)
  have a2 : o / pw e ≤ o := Int.ediv_le_self _ h1
  exact ⟨ja_shr h1 (by omega) h3 (by omega), ja_and1 a1 (by omega), a1, by omega⟩
def EI (er : Int → Int) : Prop := ∀ j, 0 ≤ j → j < 4 → 0 ≤ er j ∧ er j ≤ 1000000
def fe (er : Int → Int) (c : Int) : Int → Int := fu er (-2 - c) (er (-2 - c) + 1)
set_option maxRecDepth 100000 in
set_option maxHeartbeats 4000000 in
theorem c_X8_within {X : Hp} {v lo hi : Int} (hv : (-2147483648 ≤ v ∧ v ≤ 2147483647) ∧ (-2147483648 ≤ lo ∧ lo ≤ 2147483647) ∧ -2147483648 ≤ hi ∧ hi ≤ 2147483647) : Ct yX8_within cX8_within 3 (some .boolean) 0 0 [vi v, vi lo, vi hi] X 0 0 (fun rv X' => rv = some (vi (bz (lo ≤ v ∧ v ≤ hi))) ∧ X' = X) := by
  refine Ct.of (by decide +kernel) [some (vi v), some (vi lo), some (vi hi)] rfl (Nat.le_of_ble_eq_true rfl) (fun φ hF hR => ?_)
  refine j_iload_n hF dX8_within_0 rfl (j_iload_n hF dX8_within_1 rfl (j_icmp_lt hF 14 dX8_within_2 (by decide) (by omega) (fun c2 => ?_) (fun c2 => ?_)))
  ·
    refine j_iconst hF dX8_within_14 (j_zret hF hR (Or.inl rfl) dX8_within_15 (by omega) (by omega) ?_)
    exact ⟨bz_r0 (by omega), rfl⟩
  ·
    refine j_iload_n hF dX8_within_5 rfl (j_iload_n hF dX8_within_6 rfl (j_icmp_gt hF 14 dX8_within_7 (by decide) (by omega) (fun c7 => ?_) (fun c7 => ?_)))
    ·
      refine j_iconst hF dX8_within_14 (j_zret hF hR (Or.inl rfl) dX8_within_15 (by omega) (by omega) ?_)
      exact ⟨bz_r0 (by omega), rfl⟩
    ·
      refine j_iconst hF dX8_within_10 (j_goto hF 15 dX8_within_11 (by decide) (j_zret hF hR (Or.inr rfl) dX8_within_15 (by omega) (by omega) ?_))
      exact ⟨bz_r1 (by omega), rfl⟩

set_option maxRecDepth 100000 in
set_option maxHeartbeats 4000000 in
theorem c_X8_isWorker {X : Hp} {w : Int} (hw : -2147483648 ≤ w ∧ w ≤ 2147483647) : Ct yX8_isWorker cX8_isWorker 1 (some .boolean) 1 22 [vi w] X 0 0 (fun rv X' => rv = some (vi (bz (0 ≤ w ∧ w ≤ 1))) ∧ X' = X) := by
  refine Ct.of (by decide +kernel) [some (vi w)] rfl (Nat.le_of_ble_eq_true rfl) (fun φ hF hR => ?_)
  refine j_iload_n hF dX8_isWorker_0 rfl (j_iconst hF dX8_isWorker_1 (j_iconst hF dX8_isWorker_2 (j_callS hF (c_X8_within (by omega)) ms_X8_within mt_X8_within lk_RX8_43 dX8_isWorker_3 rfl rfl rfl (by simp [Value.category]) ⟨⟨(Nat.le_of_ble_eq_true rfl), (Nat.le_of_ble_eq_true rfl)⟩, by omega, by omega⟩ (fun v1 X1 hp1 hE1 => ?_))))
  obtain ⟨rfl, rfl⟩ := hp1
  refine j_zret hF hR (bz_01 _) dX8_isWorker_6 (by omega) (by omega) ?_
  exact ⟨rfl, rfl⟩

set_option maxRecDepth 100000 in
set_option maxHeartbeats 4000000 in
theorem c_X8_isNode {X : Hp} {ad : Nat → Nat} {r pf : Int → Int} {sv : Int} {er sn lw rc wt : Int → Int} {wg : Int} {ls ac fi : Int → Int} {as : Int} {hh : Int64} (hM : MM X ad r pf sv er sn lw rc wt wg ls ac fi as hh) {n : Int} (hG : GI r) (hn : -2147483648 ≤ n ∧ n ≤ 2147483647) : Ct yX8_isNode cX8_isNode 2 (some .boolean) 1 22 [.ref (ad 0), vi n] X 0 0 (fun rv X' => rv = some (vi (bz (0 ≤ n ∧ n ≤ r 0 - 1))) ∧ X' = X) := by
  refine Ct.of (by decide +kernel) [some (.ref (ad 0)), some (vi n)] rfl (Nat.le_of_ble_eq_true rfl) (fun φ hF hR => ?_)
  have hM := hM.g
  have g0 := hG.1
  refine j_iload_n hF dX8_isNode_0 rfl (j_iconst hF dX8_isNode_1 (j_aload_n hF dX8_isNode_2 rfl (j_get hF hM.1.1 fl_RX8_8 dX8_isNode_3 rfl (j_iconst hF dX8_isNode_6 (j_iald hF hM.1.2.1 dX8_isNode_7 (by omega) (fun ra1 rb1 => ?_))))))
  refine j_iconst hF dX8_isNode_8 (j_isub hF dX8_isNode_9 (j_callS hF (c_X8_within (by omega)) ms_X8_within mt_X8_within lk_RX8_43 dX8_isNode_10 rfl rfl rfl (by simp [Value.category]) ⟨⟨(Nat.le_of_ble_eq_true rfl), (Nat.le_of_ble_eq_true rfl)⟩, by omega, by omega⟩ (fun v2 X2 hp2 hE2 => ?_)))
  obtain ⟨rfl, rfl⟩ := hp2
  refine j_zret hF hR (bz_01 _) dX8_isNode_13 (by omega) (by omega) ?_
  exact ⟨rfl, rfl⟩

set_option maxRecDepth 100000 in
set_option maxHeartbeats 4000000 in
theorem c_X8_isEdge {X : Hp} {ad : Nat → Nat} {r pf : Int → Int} {sv : Int} {er sn lw rc wt : Int → Int} {wg : Int} {ls ac fi : Int → Int} {as : Int} {hh : Int64} (hM : MM X ad r pf sv er sn lw rc wt wg ls ac fi as hh) {e : Int} (hG : GI r) (hn : -2147483648 ≤ e ∧ e ≤ 2147483647) : Ct yX8_isEdge cX8_isEdge 2 (some .boolean) 1 22 [.ref (ad 0), vi e] X 0 0 (fun rv X' => rv = some (vi (bz (0 ≤ e ∧ e ≤ r 1 - 1))) ∧ X' = X) := by
  refine Ct.of (by decide +kernel) [some (.ref (ad 0)), some (vi e)] rfl (Nat.le_of_ble_eq_true rfl) (fun φ hF hR => ?_)
  have hM := hM.g
  have g0 := hG.2.1
  refine j_iload_n hF dX8_isEdge_0 rfl (j_iconst hF dX8_isEdge_1 (j_aload_n hF dX8_isEdge_2 rfl (j_get hF hM.1.1 fl_RX8_8 dX8_isEdge_3 rfl (j_iconst hF dX8_isEdge_6 (j_iald hF hM.1.2.1 dX8_isEdge_7 (by omega) (fun ra1 rb1 => ?_))))))
  refine j_iconst hF dX8_isEdge_8 (j_isub hF dX8_isEdge_9 (j_callS hF (c_X8_within (by omega)) ms_X8_within mt_X8_within lk_RX8_43 dX8_isEdge_10 rfl rfl rfl (by simp [Value.category]) ⟨⟨(Nat.le_of_ble_eq_true rfl), (Nat.le_of_ble_eq_true rfl)⟩, by omega, by omega⟩ (fun v2 X2 hp2 hE2 => ?_)))
  obtain ⟨rfl, rfl⟩ := hp2
  refine j_zret hF hR (bz_01 _) dX8_isEdge_13 (by omega) (by omega) ?_
  exact ⟨rfl, rfl⟩

set_option maxRecDepth 100000 in
set_option maxHeartbeats 4000000 in
theorem c_X8_viewAt {X : Hp} {ad : Nat → Nat} {r pf : Int → Int} {sv : Int} {er sn lw rc wt : Int → Int} {wg : Int} {ls ac fi : Int → Int} {as : Int} {hh : Int64} (hM : MM X ad r pf sv er sn lw rc wt wg ls ac fi as hh) {w p t : Int} : Ct yX8_viewAt cX8_viewAt 4 (some .int) 0 0 [.ref (ad 0), vi w, vi p, vi t] X 0 0 (fun rv X' => rv = some (vi (6359 + 1000 * (16 * w + p) + t)) ∧ X' = X) := by
  refine Ct.of (by decide +kernel) [some (.ref (ad 0)), some (vi w), some (vi p), some (vi t)] rfl (Nat.le_of_ble_eq_true rfl) (fun φ hF hR => ?_)
  have hM := hM.g
  refine j_sipush hF dX8_viewAt_0 (by decide) (j_sipush hF dX8_viewAt_3 (by decide) (j_bipush hF dX8_viewAt_6 (by decide) (j_iload_n hF dX8_viewAt_8 rfl (j_imul hF dX8_viewAt_9 (j_iload_n hF dX8_viewAt_10 rfl ?_)))))
  refine j_iadd hF dX8_viewAt_11 (j_imul hF dX8_viewAt_12 (j_iadd hF dX8_viewAt_13 (j_iload_n hF dX8_viewAt_14 rfl (j_iadd hF dX8_viewAt_15 (j_iret hF hR dX8_viewAt_16 (by omega) (by omega) ?_)))))
  exact ⟨rfl, rfl⟩

set_option maxRecDepth 100000 in
set_option maxHeartbeats 4000000 in
theorem c_X8_isInput {X : Hp} {ad : Nat → Nat} {r pf : Int → Int} {sv : Int} {er sn lw rc wt : Int → Int} {wg : Int} {ls ac fi : Int → Int} {as : Int} {hh : Int64} (hM : MM X ad r pf sv er sn lw rc wt wg ls ac fi as hh) {n : Int} (hn : 0 ≤ n ∧ n < 6) : Ct yX8_isInput cX8_isInput 2 (some .boolean) 0 0 [.ref (ad 0), vi n] X 0 0 (fun rv X' => rv = some (vi (bz (¬ r (11 + n) = -1))) ∧ X' = X) := by
  refine Ct.of (by decide +kernel) [some (.ref (ad 0)), some (vi n)] rfl (Nat.le_of_ble_eq_true rfl) (fun φ hF hR => ?_)
  have hM := hM.g
  refine j_aload_n hF dX8_isInput_0 rfl (j_get hF hM.1.1 fl_RX8_8 dX8_isInput_1 rfl (j_bipush hF dX8_isInput_4 (by decide) (j_iload_n hF dX8_isInput_6 rfl (j_iadd hF dX8_isInput_7 (j_iald hF hM.1.2.1 dX8_isInput_8 (by omega) (fun ra1 rb1 => ?_))))))
  refine j_iconst hF dX8_isInput_9 (j_icmp_eq hF 17 dX8_isInput_10 (by decide) (by omega) (fun c10 => ?_) (fun c10 => ?_))
  ·
    refine j_iconst hF dX8_isInput_17 (j_zret hF hR (Or.inl rfl) dX8_isInput_18 (by omega) (by omega) ?_)
    exact ⟨bz_r0 (by omega), rfl⟩
  ·
    refine j_iconst hF dX8_isInput_13 (j_goto hF 18 dX8_isInput_14 (by decide) (j_zret hF hR (Or.inr rfl) dX8_isInput_18 (by omega) (by omega) ?_))
    exact ⟨bz_r1 (by omega), rfl⟩

set_option maxRecDepth 100000 in
set_option maxHeartbeats 4000000 in
theorem c_X8_lineOf {X : Hp} {ad : Nat → Nat} {r pf : Int → Int} {sv : Int} {er sn lw rc wt : Int → Int} {wg : Int} {ls ac fi : Int → Int} {as : Int} {hh : Int64} (hM : MM X ad r pf sv er sn lw rc wt wg ls ac fi as hh) {w e : Int} : Ct yX8_lineOf cX8_lineOf 3 (some .int) 0 0 [.ref (ad 0), vi w, vi e] X 0 0 (fun rv X' => rv = some (vi (10 * w + e)) ∧ X' = X) := by
  refine Ct.of (by decide +kernel) [some (.ref (ad 0)), some (vi w), some (vi e)] rfl (Nat.le_of_ble_eq_true rfl) (fun φ hF hR => ?_)
  have hM := hM.g
  refine j_bipush hF dX8_lineOf_0 (by decide) (j_iload_n hF dX8_lineOf_2 rfl (j_imul hF dX8_lineOf_3 (j_iload_n hF dX8_lineOf_4 rfl (j_iadd hF dX8_lineOf_5 (j_iret hF hR dX8_lineOf_6 (by omega) (by omega) ?_)))))
  exact ⟨rfl, rfl⟩

set_option maxRecDepth 100000 in
set_option maxHeartbeats 4000000 in
theorem c_X8_kindOf {X : Hp} {ad : Nat → Nat} {r pf : Int → Int} {sv : Int} {er sn lw rc wt : Int → Int} {wg : Int} {ls ac fi : Int → Int} {as : Int} {hh : Int64} (hM : MM X ad r pf sv er sn lw rc wt wg ls ac fi as hh) {e : Int} (hG : GI r) (he : 0 ≤ e ∧ e < 10) : Ct yX8_kindOf cX8_kindOf 3 (some .int) 0 0 [.ref (ad 0), vi e] X 0 0 (fun rv X' => rv = some (vi (m_kind r e)) ∧ X' = X) := by
  refine Ct.of (by decide +kernel) [some (.ref (ad 0)), some (vi e), none] rfl (Nat.le_of_ble_eq_true rfl) (fun φ hF hR => ?_)
  have hM := hM.g
  obtain ⟨⟨e1, e2⟩, ⟨e3, e4⟩, e5, e6⟩ := hG.ed e he.1 he.2
  have d1 := hG.dep _ e3 e4
  have d2 := hG.dep _ e1 e2
  refine j_aload_n hF dX8_kindOf_0 rfl (j_get hF hM.1.1 fl_RX8_8 dX8_kindOf_1 rfl (j_iconst hF dX8_kindOf_4 (j_aload_n hF dX8_kindOf_5 rfl (j_get hF hM.1.1 fl_RX8_8 dX8_kindOf_6 rfl (j_bipush hF dX8_kindOf_9 (by decide) ?_)))))
  refine j_iload_n hF dX8_kindOf_11 rfl (j_iadd hF dX8_kindOf_12 (j_iald hF hM.1.2.1 dX8_kindOf_13 (by omega) (fun ra1 rb1 => ?_)))
  refine j_iadd hF dX8_kindOf_14 (j_iald hF hM.1.2.1 dX8_kindOf_15 (by omega) (fun ra2 rb2 => ?_))
  refine j_aload_n hF dX8_kindOf_16 rfl (j_get hF hM.1.1 fl_RX8_8 dX8_kindOf_17 rfl (j_iconst hF dX8_kindOf_20 (j_aload_n hF dX8_kindOf_21 rfl (j_get hF hM.1.1 fl_RX8_8 dX8_kindOf_22 rfl (j_bipush hF dX8_kindOf_25 (by decide) ?_)))))
  refine j_iload_n hF dX8_kindOf_27 rfl (j_iadd hF dX8_kindOf_28 (j_iald hF hM.1.2.1 dX8_kindOf_29 (by omega) (fun ra3 rb3 => ?_)))
  refine j_iadd hF dX8_kindOf_30 (j_iald hF hM.1.2.1 dX8_kindOf_31 (by omega) (fun ra4 rb4 => ?_))
  refine j_isub hF dX8_kindOf_32 (j_istore_n hF dX8_kindOf_33 (Nat.le_of_ble_eq_true rfl) rfl (j_aload_n hF dX8_kindOf_34 rfl (j_get hF hM.1.1 fl_RX8_8 dX8_kindOf_35 rfl (j_bipush hF dX8_kindOf_38 (by decide) (j_iload_n hF dX8_kindOf_40 rfl ?_)))))
  refine j_iadd hF dX8_kindOf_41 (j_iald hF hM.1.2.1 dX8_kindOf_42 (by omega) (fun ra5 rb5 => ?_))
  refine j_iconst hF dX8_kindOf_43 (j_icmp_ne hF 51 dX8_kindOf_44 (by decide) (by omega) (fun c44 => ?_) (fun c44 => ?_))
  ·
    refine j_iload_n hF dX8_kindOf_51 rfl (j_if_ne hF 59 dX8_kindOf_52 (by decide) (by omega) (fun c52 => ?_) (fun c52 => ?_))
    ·
      refine j_iload_n hF dX8_kindOf_59 rfl (j_if_le hF 67 dX8_kindOf_60 (by decide) (by omega) (fun c60 => ?_) (fun c60 => ?_))
      ·
        refine j_iconst hF dX8_kindOf_67 (j_iret hF hR dX8_kindOf_68 (by omega) (by omega) ?_)
        exact ⟨sv_eq (by unfold m_kind; (repeat' split) <;> omega), rfl⟩
      ·
        refine j_iconst hF dX8_kindOf_63 (j_goto hF 68 dX8_kindOf_64 (by decide) (j_iret hF hR dX8_kindOf_68 (by omega) (by omega) ?_))
        exact ⟨sv_eq (by unfold m_kind; (repeat' split) <;> omega), rfl⟩
    ·
      refine j_iconst hF dX8_kindOf_55 (j_goto hF 68 dX8_kindOf_56 (by decide) (j_iret hF hR dX8_kindOf_68 (by omega) (by omega) ?_))
      exact ⟨sv_eq (by unfold m_kind; (repeat' split) <;> omega), rfl⟩
  ·
    refine j_iconst hF dX8_kindOf_47 (j_goto hF 68 dX8_kindOf_48 (by decide) (j_iret hF hR dX8_kindOf_68 (by omega) (by omega) ?_))
    exact ⟨sv_eq (by unfold m_kind; (repeat' split) <;> omega), rfl⟩

set_option maxRecDepth 100000 in
set_option maxHeartbeats 4000000 in
theorem c_X8_isPlace {X : Hp} {ad : Nat → Nat} {r pf : Int → Int} {sv : Int} {er sn lw rc wt : Int → Int} {wg : Int} {ls ac fi : Int → Int} {as : Int} {hh : Int64} (hM : MM X ad r pf sv er sn lw rc wt wg ls ac fi as hh) {p : Int} (hG : GI r) (hn : -2147483648 ≤ p ∧ p ≤ 2147483647) : Ct yX8_isPlace cX8_isPlace 2 (some .boolean) 2 43 [.ref (ad 0), vi p] X 0 0 (fun rv X' => rv = some (vi (bz (m_place r p))) ∧ X' = X) := by
  refine Ct.of (by decide +kernel) [some (.ref (ad 0)), some (vi p)] rfl (Nat.le_of_ble_eq_true rfl) (fun φ hF hR => ?_)
  have hM := hM.g
  have g0 := hG.1
  have g1 := hG.2.1
  refine j_iload_n hF dX8_isPlace_0 rfl (j_bipush hF dX8_isPlace_1 (by decide) (j_icmp_ge hF 14 dX8_isPlace_3 (by decide) (by omega) (fun c3 => ?_) (fun c3 => ?_)))
  ·
    refine j_aload_n hF dX8_isPlace_14 rfl (j_iload_n hF dX8_isPlace_15 rfl (j_bipush hF dX8_isPlace_16 (by decide) (j_isub hF dX8_isPlace_18 (j_callV hF (c_X8_isEdge hM.1 hG (by omega)) ms_X8_isEdge mv_X8_isEdge lk_RX8_77 dX8_isPlace_19 hM.1.1 rfl rfl rfl (by simp [Value.category]) ⟨⟨(Nat.le_of_ble_eq_true rfl), (Nat.le_of_ble_eq_true rfl)⟩, by omega, by omega⟩ (fun v1 X1 hp1 hE1 => ?_)))))
    obtain ⟨rfl, rfl⟩ := hp1
    refine j_zret hF hR (bz_01 _) dX8_isPlace_22 (by omega) (by omega) ?_
    exact ⟨sv_eq (bz_iff (by unfold m_place; omega)), rfl⟩
  ·
    refine j_aload_n hF dX8_isPlace_6 rfl (j_iload_n hF dX8_isPlace_7 rfl (j_callV hF (c_X8_isNode hM.1 hG (by omega)) ms_X8_isNode mv_X8_isNode lk_RX8_71 dX8_isPlace_8 hM.1.1 rfl rfl rfl (by simp [Value.category]) ⟨⟨(Nat.le_of_ble_eq_true rfl), (Nat.le_of_ble_eq_true rfl)⟩, by omega, by omega⟩ (fun v2 X2 hp2 hE2 => ?_)))
    obtain ⟨rfl, rfl⟩ := hp2
    refine j_goto hF 22 dX8_isPlace_11 (by decide) (j_zret hF hR (bz_01 _) dX8_isPlace_22 (by omega) (by omega) ?_)
    exact ⟨sv_eq (bz_iff (by unfold m_place; omega)), rfl⟩

set_option maxRecDepth 100000 in
set_option maxHeartbeats 4000000 in
theorem c_X8_depthAt {X : Hp} {ad : Nat → Nat} {r pf : Int → Int} {sv : Int} {er sn lw rc wt : Int → Int} {wg : Int} {ls ac fi : Int → Int} {as : Int} {hh : Int64} (hM : MM X ad r pf sv er sn lw rc wt wg ls ac fi as hh) {p : Int} (hG : GI r) (hp : 0 ≤ p ∧ p < 16) : Ct yX8_depthAt cX8_depthAt 2 (some .int) 0 0 [.ref (ad 0), vi p] X 0 0 (fun rv X' => rv = some (vi (m_depth r p)) ∧ X' = X) := by
  refine Ct.of (by decide +kernel) [some (.ref (ad 0)), some (vi p)] rfl (Nat.le_of_ble_eq_true rfl) (fun φ hF hR => ?_)
  have hM := hM.g
  refine j_aload_n hF dX8_depthAt_0 rfl (j_get hF hM.1.1 fl_RX8_8 dX8_depthAt_1 rfl (j_iconst hF dX8_depthAt_4 (j_iload_n hF dX8_depthAt_5 rfl (j_bipush hF dX8_depthAt_6 (by decide) (j_icmp_ge hF 15 dX8_depthAt_8 (by decide) (by omega) (fun c8 => ?_) (fun c8 => ?_))))))
  ·
    have g2 := hG.ed' p (by omega) hp.2
    refine j_aload_n hF dX8_depthAt_15 rfl (j_get hF hM.1.1 fl_RX8_8 dX8_depthAt_16 rfl (j_bipush hF dX8_depthAt_19 (by decide) (j_iload_n hF dX8_depthAt_21 rfl (j_iadd hF dX8_depthAt_22 (j_bipush hF dX8_depthAt_23 (by decide) ?_)))))
    refine j_isub hF dX8_depthAt_25 (j_iald hF hM.1.2.1 dX8_depthAt_26 (by omega) (fun ra1 rb1 => ?_))
    refine j_iadd hF dX8_depthAt_27 (j_iald hF hM.1.2.1 dX8_depthAt_28 (by omega) (fun ra2 rb2 => ?_))
    refine j_iret hF hR dX8_depthAt_29 (by omega) (by omega) ?_
    exact ⟨sv_eq (by unfold m_depth; split <;> first | rfl | omega), rfl⟩
  ·
    refine j_iload_n hF dX8_depthAt_11 rfl (j_goto hF 27 dX8_depthAt_12 (by decide) (j_iadd hF dX8_depthAt_27 (j_iald hF hM.1.2.1 dX8_depthAt_28 (by omega) (fun ra3 rb3 => ?_))))
    refine j_iret hF hR dX8_depthAt_29 (by omega) (by omega) ?_
    exact ⟨sv_eq (by unfold m_depth; split <;> first | rfl | omega), rfl⟩

set_option maxRecDepth 100000 in
set_option maxHeartbeats 4000000 in
theorem c_X8_isTime {X : Hp} {ad : Nat → Nat} {r pf : Int → Int} {sv : Int} {er sn lw rc wt : Int → Int} {wg : Int} {ls ac fi : Int → Int} {as : Int} {hh : Int64} (hM : MM X ad r pf sv er sn lw rc wt wg ls ac fi as hh) {p t : Int} (hG : GI r) (hp : 0 ≤ p ∧ p < 16) (ht : -2147483648 ≤ t ∧ t ≤ 2147483647) : Ct yX8_isTime cX8_isTime 4 (some .boolean) 1 22 [.ref (ad 0), vi p, vi t] X 0 0 (fun rv X' => rv = some (vi (bz (m_time r p t))) ∧ X' = X) := by
  refine Ct.of (by decide +kernel) [some (.ref (ad 0)), some (vi p), some (vi t), none] rfl (Nat.le_of_ble_eq_true rfl) (fun φ hF hR => ?_)
  have hM := hM.g
  have g3 := hG.dpl hp.1 hp.2
  refine j_aload_n hF dX8_isTime_0 rfl (j_iload_n hF dX8_isTime_1 rfl (j_callV hF (c_X8_depthAt hM.1 hG (by omega)) ms_X8_depthAt mv_X8_depthAt lk_RX8_83 dX8_isTime_2 hM.1.1 rfl rfl rfl (by simp [Value.category]) ⟨⟨(Nat.le_of_ble_eq_true rfl), (Nat.le_of_ble_eq_true rfl)⟩, by omega, by omega⟩ (fun v1 X1 hp1 hE1 => ?_)))
  obtain ⟨rfl, rfl⟩ := hp1
  refine j_istore_n hF dX8_isTime_5 (Nat.le_of_ble_eq_true rfl) rfl (j_iload_n hF dX8_isTime_6 rfl (j_iconst hF dX8_isTime_7 (j_sipush hF dX8_isTime_8 (by decide) (j_callS hF (c_X8_within (by omega)) ms_X8_within mt_X8_within lk_RX8_43 dX8_isTime_11 rfl rfl rfl (by simp [Value.category]) ⟨⟨(Nat.le_of_ble_eq_true rfl), (Nat.le_of_ble_eq_true rfl)⟩, by omega, by omega⟩ (fun v2 X2 hp2 hE2 => ?_)))))
  obtain ⟨rfl, rfl⟩ := hp2
  refine j_b_eq hF 43 dX8_isTime_14 (by decide) (fun c14 => ?_) (fun c14 => ?_)
  ·
    refine j_iconst hF dX8_isTime_43 (j_zret hF hR (Or.inl rfl) dX8_isTime_44 (by omega) (by omega) ?_)
    exact ⟨bz_r0 (by unfold m_time; omega), rfl⟩
  ·
    refine j_iload_n hF dX8_isTime_17 rfl (j_iconst hF dX8_isTime_18 (j_icmp_eq hF 39 dX8_isTime_19 (by decide) (by omega) (fun c19 => ?_) (fun c19 => ?_)))
    ·
      refine j_iconst hF dX8_isTime_39 (j_goto hF 44 dX8_isTime_40 (by decide) (j_zret hF hR (Or.inr rfl) dX8_isTime_44 (by omega) (by omega) ?_))
      exact ⟨bz_r1 (by unfold m_time; omega), rfl⟩
    ·
      refine j_iload_n hF dX8_isTime_22 rfl (j_iload_n hF dX8_isTime_23 rfl (j_iconst hF dX8_isTime_24 (j_icmp_ne hF 33 dX8_isTime_25 (by decide) (by omega) (fun c25 => ?_) (fun c25 => ?_))))
      ·
        refine j_bipush hF dX8_isTime_33 (by decide) (j_irem hF dX8_isTime_35 (by omega) (j_if_ne hF 43 dX8_isTime_36 (by decide) (by omega) (fun c36 => ?_) (fun c36 => ?_)))
        ·
          refine j_iconst hF dX8_isTime_43 (j_zret hF hR (Or.inl rfl) dX8_isTime_44 (by omega) (by omega) ?_)
          exact ⟨bz_r0 (by unfold m_time; omega), rfl⟩
        ·
          refine j_iconst hF dX8_isTime_39 (j_goto hF 44 dX8_isTime_40 (by decide) (j_zret hF hR (Or.inr rfl) dX8_isTime_44 (by omega) (by omega) ?_))
          exact ⟨bz_r1 (by unfold m_time; omega), rfl⟩
      ·
        refine j_bipush hF dX8_isTime_28 (by decide) (j_goto hF 35 dX8_isTime_30 (by decide) (j_irem hF dX8_isTime_35 (by omega) (j_if_ne hF 43 dX8_isTime_36 (by decide) (by omega) (fun c36 => ?_) (fun c36 => ?_))))
        ·
          refine j_iconst hF dX8_isTime_43 (j_zret hF hR (Or.inl rfl) dX8_isTime_44 (by omega) (by omega) ?_)
          exact ⟨bz_r0 (by unfold m_time; omega), rfl⟩
        ·
          refine j_iconst hF dX8_isTime_39 (j_goto hF 44 dX8_isTime_40 (by decide) (j_zret hF hR (Or.inr rfl) dX8_isTime_44 (by omega) (by omega) ?_))
          exact ⟨bz_r1 (by unfold m_time; omega), rfl⟩

set_option maxRecDepth 100000 in
set_option maxHeartbeats 4000000 in
theorem c_X8_moved {X : Hp} {ad : Nat → Nat} {r pf : Int → Int} {sv : Int} {er sn lw rc wt : Int → Int} {wg : Int} {ls ac fi : Int → Int} {as : Int} {hh : Int64} (hM : MM X ad r pf sv er sn lw rc wt wg ls ac fi as hh) {e t : Int} (hG : GI r) (he : 0 ≤ e ∧ e < 10) (ht : 0 ≤ t ∧ t ≤ 999) : Ct yX8_moved cX8_moved 6 (some .int) 1 22 [.ref (ad 0), vi e, vi t] X 0 0 (fun rv X' => rv = some (vi (m_moved r e t)) ∧ X' = X) := by
  refine Ct.of (by decide +kernel) [some (.ref (ad 0)), some (vi e), some (vi t), none, none, none] rfl (Nat.le_of_ble_eq_true rfl) (fun φ hF hR => ?_)
  have hM := hM.g
  obtain ⟨⟨e1, e2⟩, ⟨e3, e4⟩, e5, e6⟩ := hG.ed e he.1 he.2
  have d1 := hG.dep _ e3 e4
  have d2 := hG.dep _ e1 e2
  have k1 := m_kind_rg r e
  refine j_aload_n hF dX8_moved_0 rfl (j_iload_n hF dX8_moved_1 rfl (j_callV hF (c_X8_kindOf hM.1 hG (by omega)) ms_X8_kindOf mv_X8_kindOf lk_RX8_80 dX8_moved_2 hM.1.1 rfl rfl rfl (by simp [Value.category]) ⟨⟨(Nat.le_of_ble_eq_true rfl), (Nat.le_of_ble_eq_true rfl)⟩, by omega, by omega⟩ (fun v1 X1 hp1 hE1 => ?_)))
  obtain ⟨rfl, rfl⟩ := hp1
  refine j_istore_n hF dX8_moved_5 (Nat.le_of_ble_eq_true rfl) rfl (j_aload_n hF dX8_moved_6 rfl (j_get hF hM.1.1 fl_RX8_8 dX8_moved_7 rfl (j_iconst hF dX8_moved_10 (j_aload_n hF dX8_moved_11 rfl (j_get hF hM.1.1 fl_RX8_8 dX8_moved_12 rfl ?_)))))
  refine j_bipush hF dX8_moved_15 (by decide) (j_iload_n hF dX8_moved_17 rfl (j_iadd hF dX8_moved_18 (j_iald hF hM.1.2.1 dX8_moved_19 (by omega) (fun ra2 rb2 => ?_))))
  refine j_iadd hF dX8_moved_20 (j_iald hF hM.1.2.1 dX8_moved_21 (by omega) (fun ra3 rb3 => ?_))
  refine j_iconst hF dX8_moved_22 (j_icmp_ne hF 30 dX8_moved_23 (by decide) (by omega) (fun c23 => ?_) (fun c23 => ?_))
  ·
    refine j_iconst hF dX8_moved_30 (j_istore hF dX8_moved_31 (Nat.le_of_ble_eq_true rfl) rfl (j_iload_n hF dX8_moved_33 rfl (j_iconst hF dX8_moved_34 (j_icmp_ne hF 59 dX8_moved_35 (by decide) (by omega) (fun c35 => ?_) (fun c35 => ?_)))))
    ·
      refine j_iload_n hF dX8_moved_59 rfl (j_iconst hF dX8_moved_60 (j_icmp_ne hF 110 dX8_moved_61 (by decide) (by omega) (fun c61 => ?_) (fun c61 => ?_)))
      ·
        refine j_iload_n hF dX8_moved_110 rfl (j_iret hF hR dX8_moved_111 (by omega) (by omega) ?_)
        exact ⟨sv_eq (by unfold m_moved; (repeat' split) <;> omega), rfl⟩
      ·
        refine j_iload hF dX8_moved_64 rfl (j_if_eq hF 76 dX8_moved_66 (by decide) (by omega) (fun c66 => ?_) (fun c66 => absurd c66 (by omega)))
        refine j_iload_n hF dX8_moved_76 rfl (j_bipush hF dX8_moved_77 (by decide) (j_idiv hF dX8_moved_79 (by omega) (j_bipush hF dX8_moved_80 (by decide) (j_irem hF dX8_moved_82 (by omega) (j_istore hF dX8_moved_83 (Nat.le_of_ble_eq_true rfl) rfl ?_)))))
        refine j_iload hF dX8_moved_85 rfl (j_bipush hF dX8_moved_87 (by decide) (j_icmp_ne hF 96 dX8_moved_89 (by decide) (by omega) (fun c89 => ?_) (fun c89 => ?_)))
        ·
          refine j_iload_n hF dX8_moved_96 rfl (j_iload hF dX8_moved_97 rfl (j_if_eq hF 106 dX8_moved_99 (by decide) (by omega) (fun c99 => ?_) (fun c99 => absurd c99 (by omega))))
          refine j_bipush hF dX8_moved_106 (by decide) (j_iadd hF dX8_moved_108 (j_iret hF hR dX8_moved_109 (by omega) (by omega) ?_))
          exact ⟨sv_eq (by unfold m_moved; (repeat' split) <;> omega), rfl⟩
        ·
          refine j_iconst hF dX8_moved_92 (j_goto hF 109 dX8_moved_93 (by decide) (j_iret hF hR dX8_moved_109 (by omega) (by omega) ?_))
          exact ⟨sv_eq (by unfold m_moved; (repeat' split) <;> omega), rfl⟩
    ·
      refine j_iload hF dX8_moved_38 rfl (j_if_eq hF 52 dX8_moved_40 (by decide) (by omega) (fun c40 => ?_) (fun c40 => absurd c40 (by omega)))
      refine j_iload_n hF dX8_moved_52 rfl (j_iload_n hF dX8_moved_53 rfl (j_bipush hF dX8_moved_54 (by decide) (j_irem hF dX8_moved_56 (by omega) (j_isub hF dX8_moved_57 (j_iret hF hR dX8_moved_58 (by omega) (by omega) ?_)))))
      exact ⟨sv_eq (by unfold m_moved; (repeat' split) <;> omega), rfl⟩
  ·
    refine j_iconst hF dX8_moved_26 (j_goto hF 31 dX8_moved_27 (by decide) (j_istore hF dX8_moved_31 (Nat.le_of_ble_eq_true rfl) rfl (j_iload_n hF dX8_moved_33 rfl (j_iconst hF dX8_moved_34 (j_icmp_ne hF 59 dX8_moved_35 (by decide) (by omega) (fun c35 => ?_) (fun c35 => ?_))))))
    ·
      refine j_iload_n hF dX8_moved_59 rfl (j_iconst hF dX8_moved_60 (j_icmp_ne hF 110 dX8_moved_61 (by decide) (by omega) (fun c61 => ?_) (fun c61 => ?_)))
      ·
        refine j_iload_n hF dX8_moved_110 rfl (j_iret hF hR dX8_moved_111 (by omega) (by omega) ?_)
        exact ⟨sv_eq (by unfold m_moved; (repeat' split) <;> omega), rfl⟩
      ·
        refine j_iload hF dX8_moved_64 rfl (j_if_eq hF 76 dX8_moved_66 (by decide) (by omega) (fun c66 => absurd c66 (by omega)) (fun c66 => ?_))
        refine j_iload_n hF dX8_moved_69 rfl (j_bipush hF dX8_moved_70 (by decide) (j_irem hF dX8_moved_72 (by omega) (j_goto hF 83 dX8_moved_73 (by decide) (j_istore hF dX8_moved_83 (Nat.le_of_ble_eq_true rfl) rfl (j_iload hF dX8_moved_85 rfl ?_)))))
        refine j_bipush hF dX8_moved_87 (by decide) (j_icmp_ne hF 96 dX8_moved_89 (by decide) (by omega) (fun c89 => ?_) (fun c89 => ?_))
        ·
          refine j_iload_n hF dX8_moved_96 rfl (j_iload hF dX8_moved_97 rfl (j_if_eq hF 106 dX8_moved_99 (by decide) (by omega) (fun c99 => absurd c99 (by omega)) (fun c99 => ?_)))
          refine j_iconst hF dX8_moved_102 (j_goto hF 108 dX8_moved_103 (by decide) (j_iadd hF dX8_moved_108 (j_iret hF hR dX8_moved_109 (by omega) (by omega) ?_)))
          exact ⟨sv_eq (by unfold m_moved; (repeat' split) <;> omega), rfl⟩
        ·
          refine j_iconst hF dX8_moved_92 (j_goto hF 109 dX8_moved_93 (by decide) (j_iret hF hR dX8_moved_109 (by omega) (by omega) ?_))
          exact ⟨sv_eq (by unfold m_moved; (repeat' split) <;> omega), rfl⟩
    ·
      refine j_iload hF dX8_moved_38 rfl (j_if_eq hF 52 dX8_moved_40 (by decide) (by omega) (fun c40 => absurd c40 (by omega)) (fun c40 => ?_))
      refine j_iload_n hF dX8_moved_43 rfl (j_iload_n hF dX8_moved_44 rfl (j_bipush hF dX8_moved_45 (by decide) (j_irem hF dX8_moved_47 (by omega) (j_isub hF dX8_moved_48 (j_goto hF 58 dX8_moved_49 (by decide) ?_)))))
      refine j_iret hF hR dX8_moved_58 (by omega) (by omega) ?_
      exact ⟨sv_eq (by unfold m_moved; (repeat' split) <;> omega), rfl⟩

set_option maxRecDepth 100000 in
set_option maxHeartbeats 4000000 in
theorem c_X8_isFullLine {X : Hp} {ad : Nat → Nat} {r pf : Int → Int} {sv : Int} {er sn lw rc wt : Int → Int} {wg : Int} {ls ac fi : Int → Int} {as : Int} {hh : Int64} (hM : MM X ad r pf sv er sn lw rc wt wg ls ac fi as hh) {w e : Int} (hw : 0 ≤ w ∧ w ≤ 1) (he : 0 ≤ e ∧ e < 10) : Ct yX8_isFullLine cX8_isFullLine 3 (some .boolean) 1 22 [.ref (ad 0), vi w, vi e] X 0 0 (fun rv X' => rv = some (vi (bz (r (47 + (10 * w + e)) = 12))) ∧ X' = X) := by
  refine Ct.of (by decide +kernel) [some (.ref (ad 0)), some (vi w), some (vi e)] rfl (Nat.le_of_ble_eq_true rfl) (fun φ hF hR => ?_)
  have hM := hM.g
  refine j_aload_n hF dX8_isFullLine_0 rfl (j_get hF hM.1.1 fl_RX8_8 dX8_isFullLine_1 rfl (j_bipush hF dX8_isFullLine_4 (by decide) (j_aload_n hF dX8_isFullLine_6 rfl (j_iload_n hF dX8_isFullLine_7 rfl (j_iload_n hF dX8_isFullLine_8 rfl ?_)))))
  refine j_callV hF (c_X8_lineOf hM.1) ms_X8_lineOf mv_X8_lineOf lk_RX8_108 dX8_isFullLine_9 hM.1.1 rfl rfl rfl (by simp [Value.category]) ⟨⟨(Nat.le_of_ble_eq_true rfl), (Nat.le_of_ble_eq_true rfl)⟩, by omega, by omega⟩ (fun v1 X1 hp1 hE1 => ?_)
  obtain ⟨rfl, rfl⟩ := hp1
  refine j_iadd hF dX8_isFullLine_12 (j_iald hF hM.1.2.1 dX8_isFullLine_13 (by omega) (fun ra2 rb2 => ?_))
  refine j_bipush hF dX8_isFullLine_14 (by decide) (j_icmp_ne hF 23 dX8_isFullLine_16 (by decide) (by omega) (fun c16 => ?_) (fun c16 => ?_))
  ·
    refine j_iconst hF dX8_isFullLine_23 (j_zret hF hR (Or.inl rfl) dX8_isFullLine_24 (by omega) (by omega) ?_)
    exact ⟨bz_r0 (by omega), rfl⟩
  ·
    refine j_iconst hF dX8_isFullLine_19 (j_goto hF 24 dX8_isFullLine_20 (by decide) (j_zret hF hR (Or.inr rfl) dX8_isFullLine_24 (by omega) (by omega) ?_))
    exact ⟨bz_r1 (by omega), rfl⟩

set_option maxRecDepth 100000 in
set_option maxHeartbeats 4000000 in
theorem c_X8_areEdges {X : Hp} {ad : Nat → Nat} {r pf : Int → Int} {sv : Int} {er sn lw rc wt : Int → Int} {wg : Int} {ls ac fi : Int → Int} {as : Int} {hh : Int64} (hM : MM X ad r pf sv er sn lw rc wt wg ls ac fi as hh) {o : Int} (hG : GI r) (ho : -2147483648 ≤ o ∧ o ≤ 2147483647) : Ct yX8_areEdges cX8_areEdges 2 (some .boolean) 1 22 [.ref (ad 0), vi o] X 0 0 (fun rv X' => rv = some (vi (bz (0 ≤ o ∧ o ≤ pw (r 1) - 1))) ∧ X' = X) := by
  refine Ct.of (by decide +kernel) [some (.ref (ad 0)), some (vi o)] rfl (Nat.le_of_ble_eq_true rfl) (fun φ hF hR => ?_)
  have hM := hM.g
  have g0 := hG.2.1
  obtain ⟨q1, q2, q3⟩ := pw_shl g0.1 g0.2
  refine j_iload_n hF dX8_areEdges_0 rfl (j_iconst hF dX8_areEdges_1 (j_iconst hF dX8_areEdges_2 (j_aload_n hF dX8_areEdges_3 rfl (j_get hF hM.1.1 fl_RX8_8 dX8_areEdges_4 rfl (j_iconst hF dX8_areEdges_7 ?_)))))
  refine j_iald hF hM.1.2.1 dX8_areEdges_8 (by omega) (fun ra1 rb1 => ?_)
  refine j_ishl hF (pw (r 1)) q1 dX8_areEdges_9 (j_iconst hF dX8_areEdges_10 (j_isub hF dX8_areEdges_11 (j_callS hF (c_X8_within (by omega)) ms_X8_within mt_X8_within lk_RX8_43 dX8_areEdges_12 rfl rfl rfl (by simp [Value.category]) ⟨⟨(Nat.le_of_ble_eq_true rfl), (Nat.le_of_ble_eq_true rfl)⟩, by omega, by omega⟩ (fun v2 X2 hp2 hE2 => ?_))))
  obtain ⟨rfl, rfl⟩ := hp2
  refine j_zret hF hR (bz_01 _) dX8_areEdges_15 (by omega) (by omega) ?_
  exact ⟨rfl, rfl⟩

set_option maxRecDepth 100000 in
set_option maxHeartbeats 4000000 in
theorem c_X8_has {X : Hp} {o e : Int} (ho : 0 ≤ o ∧ o < 1024) (he : 0 ≤ e ∧ e < 10) : Ct yX8_has cX8_has 2 (some .boolean) 0 0 [vi o, vi e] X 0 0 (fun rv X' => rv = some (vi (bz (hb o e))) ∧ X' = X) := by
  refine Ct.of (by decide +kernel) [some (vi o), some (vi e)] rfl (Nat.le_of_ble_eq_true rfl) (fun φ hF hR => ?_)
  obtain ⟨q1, q2, q3, q4⟩ := hb_sh ho.1 ho.2 he.1 he.2
  refine j_iload_n hF dX8_has_0 rfl (j_iload_n hF dX8_has_1 rfl (j_ishr hF (o / pw e) q1 dX8_has_2 (j_iconst hF dX8_has_3 (j_iand hF (o / pw e % 2) q2 dX8_has_4 (j_iconst hF dX8_has_5 ?_)))))
  refine j_icmp_ne hF 13 dX8_has_6 (by decide) (by omega) (fun c6 => ?_) (fun c6 => ?_)
  ·
    refine j_iconst hF dX8_has_13 (j_zret hF hR (Or.inl rfl) dX8_has_14 (by omega) (by omega) ?_)
    exact ⟨bz_r0 (by unfold hb; omega), rfl⟩
  ·
    refine j_iconst hF dX8_has_9 (j_goto hF 14 dX8_has_10 (by decide) (j_zret hF hR (Or.inr rfl) dX8_has_14 (by omega) (by omega) ?_))
    exact ⟨bz_r1 (by unfold hb; omega), rfl⟩

set_option maxRecDepth 100000 in
set_option maxHeartbeats 4000000 in
theorem c_X8_atMost {X : Hp} {s t : Int} (hs : 0 ≤ s ∧ s ≤ 999) (ht : 0 ≤ t ∧ t ≤ 999) : Ct yX8_atMost cX8_atMost 2 (some .boolean) 0 0 [vi s, vi t] X 0 0 (fun rv X' => rv = some (vi (bz (s / 100 ≤ t / 100 ∧ s % 100 ≤ t % 100))) ∧ X' = X) := by
  refine Ct.of (by decide +kernel) [some (vi s), some (vi t)] rfl (Nat.le_of_ble_eq_true rfl) (fun φ hF hR => ?_)
  refine j_iload_n hF dX8_atMost_0 rfl (j_bipush hF dX8_atMost_1 (by decide) (j_idiv hF dX8_atMost_3 (by omega) (j_iload_n hF dX8_atMost_4 rfl (j_bipush hF dX8_atMost_5 (by decide) (j_idiv hF dX8_atMost_7 (by omega) ?_)))))
  refine j_icmp_gt hF 26 dX8_atMost_8 (by decide) (by omega) (fun c8 => ?_) (fun c8 => ?_)
  ·
    refine j_iconst hF dX8_atMost_26 (j_zret hF hR (Or.inl rfl) dX8_atMost_27 (by omega) (by omega) ?_)
    exact ⟨bz_r0 (by omega), rfl⟩
  ·
    refine j_iload_n hF dX8_atMost_11 rfl (j_bipush hF dX8_atMost_12 (by decide) (j_irem hF dX8_atMost_14 (by omega) (j_iload_n hF dX8_atMost_15 rfl (j_bipush hF dX8_atMost_16 (by decide) (j_irem hF dX8_atMost_18 (by omega) ?_)))))
    refine j_icmp_gt hF 26 dX8_atMost_19 (by decide) (by omega) (fun c19 => ?_) (fun c19 => ?_)
    ·
      refine j_iconst hF dX8_atMost_26 (j_zret hF hR (Or.inl rfl) dX8_atMost_27 (by omega) (by omega) ?_)
      exact ⟨bz_r0 (by omega), rfl⟩
    ·
      refine j_iconst hF dX8_atMost_22 (j_goto hF 27 dX8_atMost_23 (by decide) (j_zret hF hR (Or.inr rfl) dX8_atMost_27 (by omega) (by omega) ?_))
      exact ⟨bz_r1 (by omega), rfl⟩

set_option maxRecDepth 100000 in
set_option maxHeartbeats 4000000 in
theorem c_X8_fails {X : Hp} {ad : Nat → Nat} {r pf : Int → Int} {sv : Int} {er sn lw rc wt : Int → Int} {wg : Int} {ls ac fi : Int → Int} {as : Int} {hh : Int64} (hM : MM X ad r pf sv er sn lw rc wt wg ls ac fi as hh) {c : Int} (hc : -5 ≤ c ∧ c ≤ -2) (hE : EI er) : Ct yX8_fails cX8_fails 2 (some .int) 0 0 [.ref (ad 0), vi c] X 0 0 (fun rv X' => rv = some (vi c) ∧ MG X X' ad r pf sv (fe er c) sn lw rc wt wg ls ac fi as hh) := by
  refine Ct.of (by decide +kernel) [some (.ref (ad 0)), some (vi c)] rfl (Nat.le_of_ble_eq_true rfl) (fun φ hF hR => ?_)
  have hM := hM.g
  have hE1 := hE (-2 - c) (by omega) (by omega)
  refine j_aload_n hF dX8_fails_0 rfl (j_get hF hM.1.1 fl_RX8_18 dX8_fails_1 rfl (j_bipush hF dX8_fails_4 (by decide) (j_iload_n hF dX8_fails_6 rfl (j_isub hF dX8_fails_7 (j_dup2 hF dX8_fails_8 rfl rfl ?_)))))
  refine j_iald hF hM.1.2.2.2.1 dX8_fails_9 (by omega) (fun ra1 rb1 => ?_)
  refine j_iconst hF dX8_fails_10 (j_iadd hF dX8_fails_11 (j_iast hF hM.1.2.2.2.1 dX8_fails_12 (by omega) (by omega) (j_nm (fun X2 eX2 => ?_))))
  have hM := hM.u_er eX2
  refine j_iload_n hF dX8_fails_13 rfl (j_iret hF hR dX8_fails_14 (by omega) (by omega) ?_)
  exact ⟨rfl, hM⟩
end
section
/-! saving and undoing -/
def shk (pf : Int → Int) (k : Int) : Int → Int := fun j => if 0 ≤ j ∧ j < k then pf (j + 54743) else pf j
def cpk (pf : Int → Int) (b : Int) (r : Int → Int) (k : Int) : Int → Int := fun j => if b ≤ j ∧ j < b + k then r (j - b) else pf j
theorem shk_0 (pf : Int → Int) : shk pf 0 = pf := by funext j; simp only [shk]; split <;> first | rfl | omega
theorem cpk_0 (pf : Int → Int) (b : Int) (r : Int → Int) : cpk pf b r 0 = pf := by funext j; simp only [cpk]; split <;> first | rfl | omega
theorem shk_s (pf : Int → Int) (k : Int) (h : 0 ≤ k) : fu (shk pf k) k (shk pf k (k + 54743)) = shk pf (k + 1) := by
  funext j
  simp only [fu, shk]
  (repeat' split) <;> first | rfl | omega | (congr 1; omega)
theorem cpk_s (pf : Int → Int) (b : Int) (r : Int → Int) (k : Int) (h : 0 ≤ k) : fu (cpk pf b r k) (b + k) (r k) = cpk pf b r (k + 1) := by
  funext j
  simp only [fu, cpk]
  (repeat' split) <;> first | rfl | omega | (congr 1; omega)
theorem unk_s (pf r : Int → Int) (b k : Int) (h : 0 ≤ k) : fu (cpk r 0 (fun j => pf (b + j)) k) k (pf (b + k)) = cpk r 0 (fun j => pf (b + j)) (k + 1) := by
  have := cpk_s r 0 (fun j => pf (b + j)) k h
  rwa [Int.zero_add] at this
def sv_n (sv : Int) : Int := if sv = 3 then 3 else sv + 1
def sv_p (r pf : Int → Int) (sv : Int) : Int → Int := cpk (if sv = 3 then shk pf 109486 else pf) (54743 * (if sv = 3 then 2 else sv)) r 54743
set_option maxRecDepth 100000 in
set_option maxHeartbeats 4000000 in
theorem c_X8_saves {X : Hp} {ad : Nat → Nat} {r pf : Int → Int} {sv : Int} {er sn lw rc wt : Int → Int} {wg : Int} {ls ac fi : Int → Int} {as : Int} {hh : Int64} (hM : MM X ad r pf sv er sn lw rc wt wg ls ac fi as hh) (hs : 0 ≤ sv ∧ sv ≤ 3) : Ct yX8_saves cX8_saves 2 none 0 0 [.ref (ad 0)] X 0 0 (fun rv X' => rv = none ∧ MG X X' ad r (sv_p r pf sv) (sv_n sv) er sn lw rc wt wg ls ac fi as hh) := by
  refine Ct.of (by decide +kernel) [some (.ref (ad 0)), none] rfl (Nat.le_of_ble_eq_true rfl) (fun φ hF hR => ?_)
  have hM := hM.g
  have L49 : ∀ (n : Nat) (Y : Hp) (k : Int) (pb : Int → Int) (sb : Int), (54743 - k).toNat < n → 0 ≤ k ∧ k ≤ 54743 → 0 ≤ sb ∧ sb ≤ 2 → MG X Y ad r (cpk pb (54743 * sb) r k) sb er sn lw rc wt wg ls ac fi as hh → (sv_n sv = sb + 1 ∧ sv_p r pf sv = cpk pb (54743 * sb) r 54743) → Jd φ Y 0 0 49 [some (.ref (ad 0)), some (vi k)] [] := by
    intro n
    induction n with
    | zero => intro Y k pb sb hn; exact absurd hn (by omega)
    | succ n ih =>
      intro Y k pb sb hn hk hs hM hq
      refine j_iload_n hF dX8_saves_49 rfl (j_ldc hF kc_RX8_7 dX8_saves_50 (j_icmp_ge hF 81 dX8_saves_52 (by decide) (by omega) (fun c52 => ?_) (fun c52 => ?_)))
      ·
        refine j_aload_n hF dX8_saves_81 rfl (j_dup hF dX8_saves_82 rfl (j_get hF hM.1.1 fl_RX8_47 dX8_saves_83 rfl (j_iconst hF dX8_saves_86 (j_iadd hF dX8_saves_87 (j_put hF hM.1.1 fl_RX8_47 dX8_saves_88 rfl rfl (Nat.le_of_ble_eq_true rfl) (j_nm (fun X1 eX1 => ?_)))))))
        have hM := hM.u_sv eX1
        refine j_vret hF hR dX8_saves_91 (by omega) (by omega) ?_
        have ek : k = 54743 := by omega
        subst ek
        exact ⟨rfl, by rw [hq.1, hq.2]; exact hM⟩
      ·
        refine j_aload_n hF dX8_saves_55 rfl (j_get hF hM.1.1 fl_RX8_15 dX8_saves_56 rfl (j_ldc hF kc_RX8_7 dX8_saves_59 (j_aload_n hF dX8_saves_61 rfl (j_get hF hM.1.1 fl_RX8_47 dX8_saves_62 rfl (j_imul hF dX8_saves_65 ?_)))))
        refine j_iload_n hF dX8_saves_66 rfl (j_iadd hF dX8_saves_67 (j_aload_n hF dX8_saves_68 rfl (j_get hF hM.1.1 fl_RX8_8 dX8_saves_69 rfl (j_iload_n hF dX8_saves_72 rfl (j_iald hF hM.1.2.1 dX8_saves_73 (by omega) (fun ra2 rb2 => ?_))))))
        refine j_iast hF hM.1.2.2.1 dX8_saves_74 (by omega) (by omega) (j_nm (fun X3 eX3 => ?_))
        have hM := hM.u_pf eX3
        refine j_iinc hF dX8_saves_75 rfl (Nat.le_of_ble_eq_true rfl) rfl (j_goto hF 49 dX8_saves_78 (by decide) ?_)
        exact ih _ (k + 1) _ _ (by omega) (by omega) hs (by rw [← cpk_s _ _ _ _ hk.1]; exact hM) hq
  refine j_aload_n hF dX8_saves_0 rfl (j_get hF hM.1.1 fl_RX8_47 dX8_saves_1 rfl (j_iconst hF dX8_saves_4 (j_icmp_ne hF 47 dX8_saves_5 (by decide) (by omega) (fun c5 => ?_) (fun c5 => ?_))))
  ·
    refine j_iconst hF dX8_saves_47 (j_istore_n hF dX8_saves_48 (Nat.le_of_ble_eq_true rfl) rfl ?_)
    exact L49 54744 _ 0 pf sv (by decide) (by decide) (by omega) (by rw [cpk_0]; exact hM) ⟨by unfold sv_n; rw [if_neg c5], by unfold sv_p; rw [if_neg c5, if_neg c5]⟩
  ·
    refine j_iconst hF dX8_saves_8 (j_istore_n hF dX8_saves_9 (Nat.le_of_ble_eq_true rfl) rfl ?_)
    have h3 : sv = 3 := by omega
    have L10 : ∀ (n : Nat) (Y : Hp) (k : Int), (109486 - k).toNat < n → 0 ≤ k ∧ k ≤ 109486 → MG X Y ad r (shk pf k) sv er sn lw rc wt wg ls ac fi as hh → Jd φ Y 0 0 10 [some (.ref (ad 0)), some (vi k)] [] := by
      intro n
      induction n with
      | zero => intro Y k hn; exact absurd hn (by omega)
      | succ n ih =>
        intro Y k hn hk hM
        refine j_iload_n hF dX8_saves_10 rfl (j_ldc hF kc_RX8_51 dX8_saves_11 (j_icmp_ge hF 37 dX8_saves_13 (by decide) (by omega) (fun c13 => ?_) (fun c13 => ?_)))
        ·
          refine j_aload_n hF dX8_saves_37 rfl (j_dup hF dX8_saves_38 rfl (j_get hF hM.1.1 fl_RX8_47 dX8_saves_39 rfl (j_iconst hF dX8_saves_42 (j_isub hF dX8_saves_43 (j_put hF hM.1.1 fl_RX8_47 dX8_saves_44 rfl rfl (Nat.le_of_ble_eq_true rfl) (j_nm (fun X1 eX1 => ?_)))))))
          have hM := hM.u_sv eX1
          refine j_iconst hF dX8_saves_47 (j_istore_n hF dX8_saves_48 (Nat.le_of_ble_eq_true rfl) rfl ?_)
          exact L49 54744 _ 0 (shk pf 109486) (sv - 1) (by decide) (by decide) (by omega) (by rw [cpk_0, show shk pf 109486 = shk pf k by rw [show k = 109486 by omega]]; exact hM) ⟨by unfold sv_n; omega, by unfold sv_p; rw [if_pos h3, if_pos h3, h3]; rfl⟩
        ·
          refine j_aload_n hF dX8_saves_16 rfl (j_get hF hM.1.1 fl_RX8_15 dX8_saves_17 rfl (j_iload_n hF dX8_saves_20 rfl (j_aload_n hF dX8_saves_21 rfl (j_get hF hM.1.1 fl_RX8_15 dX8_saves_22 rfl (j_iload_n hF dX8_saves_25 rfl ?_)))))
          refine j_ldc hF kc_RX8_7 dX8_saves_26 (j_iadd hF dX8_saves_28 (j_iald hF hM.1.2.2.1 dX8_saves_29 (by omega) (fun ra2 rb2 => ?_)))
          refine j_iast hF hM.1.2.2.1 dX8_saves_30 (by omega) (by omega) (j_nm (fun X3 eX3 => ?_))
          have hM := hM.u_pf eX3
          refine j_iinc hF dX8_saves_31 rfl (Nat.le_of_ble_eq_true rfl) rfl (j_goto hF 10 dX8_saves_34 (by decide) ?_)
          exact ih _ (k + 1) (by omega) (by omega) (by rw [← shk_s _ _ hk.1]; exact hM)
    exact L10 109487 _ 0 (by decide) (by decide) (by rw [shk_0]; exact hM)

set_option maxRecDepth 100000 in
set_option maxHeartbeats 4000000 in
theorem c_X8_undo {X : Hp} {ad : Nat → Nat} {r pf : Int → Int} {sv : Int} {er sn lw rc wt : Int → Int} {wg : Int} {ls ac fi : Int → Int} {as : Int} {hh : Int64} (hM : MM X ad r pf sv er sn lw rc wt wg ls ac fi as hh) (hs : 0 ≤ sv ∧ sv ≤ 3) (hE : EI er) : Ct yX8_undo cX8_undo 2 (some .int) 1 21 [.ref (ad 0)] X 0 0 (fun rv X' => rv = some (vi (if sv = 0 then -5 else sv - 1)) ∧ MG X X' ad (if sv = 0 then r else cpk r 0 (fun j => pf (54743 * (sv - 1) + j)) 54743) pf (if sv = 0 then sv else sv - 1) (if sv = 0 then fe er (-5) else er) sn lw rc wt wg ls ac fi as hh) := by
  refine Ct.of (by decide +kernel) [some (.ref (ad 0)), none] rfl (Nat.le_of_ble_eq_true rfl) (fun φ hF hR => ?_)
  have hM := hM.g
  refine j_aload_n hF dX8_undo_0 rfl (j_get hF hM.1.1 fl_RX8_47 dX8_undo_1 rfl (j_if_ne hF 14 dX8_undo_4 (by decide) (by omega) (fun c4 => ?_) (fun c4 => ?_)))
  ·
    refine j_aload_n hF dX8_undo_14 rfl (j_dup hF dX8_undo_15 rfl (j_get hF hM.1.1 fl_RX8_47 dX8_undo_16 rfl (j_iconst hF dX8_undo_19 (j_isub hF dX8_undo_20 (j_put hF hM.1.1 fl_RX8_47 dX8_undo_21 rfl rfl (Nat.le_of_ble_eq_true rfl) (j_nm (fun X1 eX1 => ?_)))))))
    have hM := hM.u_sv eX1
    refine j_iconst hF dX8_undo_24 (j_istore_n hF dX8_undo_25 (Nat.le_of_ble_eq_true rfl) rfl ?_)
    have L26 : ∀ (n : Nat) (Y : Hp) (k : Int), (54743 - k).toNat < n → 0 ≤ k ∧ k ≤ 54743 → MG X Y ad (cpk r 0 (fun j => pf (54743 * (sv - 1) + j)) k) pf (sv - 1) er sn lw rc wt wg ls ac fi as hh → Jd φ Y 0 0 26 [some (.ref (ad 0)), some (vi k)] [] := by
      intro n
      induction n with
      | zero => intro Y k hn; exact absurd hn (by omega)
      | succ n ih =>
        intro Y k hn hk hM
        refine j_iload_n hF dX8_undo_26 rfl (j_ldc hF kc_RX8_7 dX8_undo_27 (j_icmp_ge hF 58 dX8_undo_29 (by decide) (by omega) (fun c29 => ?_) (fun c29 => ?_)))
        ·
          refine j_aload_n hF dX8_undo_58 rfl (j_get hF hM.1.1 fl_RX8_47 dX8_undo_59 rfl (j_iret hF hR dX8_undo_62 (by omega) (by omega) ?_))
          have ek : k = 54743 := by omega
          subst ek
          exact ⟨by rw [if_neg c4], by rw [if_neg c4, if_neg c4, if_neg c4]; exact hM⟩
        ·
          refine j_aload_n hF dX8_undo_32 rfl (j_get hF hM.1.1 fl_RX8_8 dX8_undo_33 rfl (j_iload_n hF dX8_undo_36 rfl (j_aload_n hF dX8_undo_37 rfl (j_get hF hM.1.1 fl_RX8_15 dX8_undo_38 rfl (j_ldc hF kc_RX8_7 dX8_undo_41 ?_)))))
          refine j_aload_n hF dX8_undo_43 rfl (j_get hF hM.1.1 fl_RX8_47 dX8_undo_44 rfl (j_imul hF dX8_undo_47 (j_iload_n hF dX8_undo_48 rfl (j_iadd hF dX8_undo_49 (j_iald hF hM.1.2.2.1 dX8_undo_50 (by omega) (fun ra1 rb1 => ?_))))))
          refine j_iast hF hM.1.2.1 dX8_undo_51 (by omega) (by omega) (j_nm (fun X2 eX2 => ?_))
          have hM := hM.u_r eX2
          refine j_iinc hF dX8_undo_52 rfl (Nat.le_of_ble_eq_true rfl) rfl (j_goto hF 26 dX8_undo_55 (by decide) ?_)
          exact ih _ (k + 1) (by omega) (by omega) (by rw [← unk_s _ _ _ _ hk.1]; exact hM)
    exact L26 54744 _ 0 (by decide) (by decide) (by rw [cpk_0]; exact hM)
  ·
    refine j_aload_n hF dX8_undo_7 rfl (j_bipush hF dX8_undo_8 (by decide) (j_callV hF (c_X8_fails hM.1 (by omega) hE) ms_X8_fails mv_X8_fails lk_RX8_52 dX8_undo_10 hM.1.1 rfl rfl rfl (by simp [Value.category]) ⟨⟨(Nat.le_of_ble_eq_true rfl), (Nat.le_of_ble_eq_true rfl)⟩, by omega, by omega⟩ (fun v2 X2 hp2 hE2 => ?_)))
    obtain ⟨rfl, hM1⟩ := hp2
    have hM := hM.tr hM1
    refine j_iret hF hR dX8_undo_13 (by omega) (by omega) ?_
    exact ⟨by rw [if_pos c4], by rw [if_pos c4, if_pos c4, if_pos c4]; exact hM⟩
end
